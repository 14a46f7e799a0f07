section
-- ===== PART A: goes FIRST, ahead of the names: the tables' words, and 'selects' of the private methods out of them =====
/-- a private method of a class that the tables say can be made, by its rows of tables_1 -/
def lw_okq (q : MethodName × Nat) : Prop := (q.1.cls ≠ "java/lang/invoke/MethodHandle" ∧ q.1.cls ≠ "java/lang/invoke/VarHandle") ∧ Cond.instantiable q.1.cls q.2 ∈ tables_1 ∧ Cond.privateMethod q.1 ∈ tables_1 ∧ Cond.instanceMethod q.1 ∈ tables_1
theorem lw_p0 : lw_okq (⟨"java/lang/Throwable", "fillInStackTrace", "(I)Ljava/lang/Throwable;"⟩, 6) := ⟨⟨by decide +kernel, by decide +kernel⟩, List.mem_of_getElem? (i := 201) (by decide +kernel), List.mem_of_getElem? (i := 199) (by decide +kernel), List.mem_of_getElem? (i := 200) (by decide +kernel)⟩
theorem lw_p1 : lw_okq (⟨"java/util/ArrayList", "add", "(Ljava/lang/Object;[Ljava/lang/Object;I)V"⟩, 3) := ⟨⟨by decide +kernel, by decide +kernel⟩, List.mem_of_getElem? (i := 32) (by decide +kernel), List.mem_of_getElem? (i := 275) (by decide +kernel), List.mem_of_getElem? (i := 276) (by decide +kernel)⟩
theorem lw_p2 : lw_okq (⟨"java/util/ArrayList", "grow", "()[Ljava/lang/Object;"⟩, 3) := ⟨⟨by decide +kernel, by decide +kernel⟩, List.mem_of_getElem? (i := 32) (by decide +kernel), List.mem_of_getElem? (i := 279) (by decide +kernel), List.mem_of_getElem? (i := 280) (by decide +kernel)⟩
theorem lw_p3 : lw_okq (⟨"java/util/ArrayList", "grow", "(I)[Ljava/lang/Object;"⟩, 3) := ⟨⟨by decide +kernel, by decide +kernel⟩, List.mem_of_getElem? (i := 32) (by decide +kernel), List.mem_of_getElem? (i := 283) (by decide +kernel), List.mem_of_getElem? (i := 284) (by decide +kernel)⟩
theorem lw_p4 : lw_okq (⟨"Kerfworks", "drawingAt", "(I)LKerfworks$Drawing;"⟩, 6) := ⟨⟨by decide +kernel, by decide +kernel⟩, List.mem_of_getElem? (i := 24) (by decide +kernel), List.mem_of_getElem? (i := 338) (by decide +kernel), List.mem_of_getElem? (i := 339) (by decide +kernel)⟩
theorem lw_p5 : lw_okq (⟨"Kerfworks$Outline", "has", "(II)Z"⟩, 2) := ⟨⟨by decide +kernel, by decide +kernel⟩, List.mem_of_getElem? (i := 237) (by decide +kernel), List.mem_of_getElem? (i := 395) (by decide +kernel), List.mem_of_getElem? (i := 396) (by decide +kernel)⟩
theorem lw_p6 : lw_okq (⟨"Kerfworks$Outline", "wrongOrNoPoint", "(I)I"⟩, 2) := ⟨⟨by decide +kernel, by decide +kernel⟩, List.mem_of_getElem? (i := 237) (by decide +kernel), List.mem_of_getElem? (i := 404) (by decide +kernel), List.mem_of_getElem? (i := 405) (by decide +kernel)⟩
theorem lw_p7 : lw_okq (⟨"Kerfworks$Outline", "strokesAt", "(I)I"⟩, 2) := ⟨⟨by decide +kernel, by decide +kernel⟩, List.mem_of_getElem? (i := 237) (by decide +kernel), List.mem_of_getElem? (i := 408) (by decide +kernel), List.mem_of_getElem? (i := 409) (by decide +kernel)⟩
theorem lw_p8 : lw_okq (⟨"Kerfworks", "tryWaiting", "()V"⟩, 6) := ⟨⟨by decide +kernel, by decide +kernel⟩, List.mem_of_getElem? (i := 24) (by decide +kernel), List.mem_of_getElem? (i := 413) (by decide +kernel), List.mem_of_getElem? (i := 414) (by decide +kernel)⟩
theorem lw_p9 : lw_okq (⟨"Kerfworks$Stock", "bestFor", "(II)LKerfworks$Piece;"⟩, 3) := ⟨⟨by decide +kernel, by decide +kernel⟩, List.mem_of_getElem? (i := 58) (by decide +kernel), List.mem_of_getElem? (i := 434) (by decide +kernel), List.mem_of_getElem? (i := 435) (by decide +kernel)⟩
theorem lw_p10 : lw_okq (⟨"Kerfworks$Stock", "pieceOf", "(LKerfworks$Piece;IIII)LKerfworks$Piece;"⟩, 3) := ⟨⟨by decide +kernel, by decide +kernel⟩, List.mem_of_getElem? (i := 58) (by decide +kernel), List.mem_of_getElem? (i := 452) (by decide +kernel), List.mem_of_getElem? (i := 453) (by decide +kernel)⟩
theorem lw_p11 : lw_okq (⟨"Kerfworks$Stock", "next", "()LKerfworks$Piece;"⟩, 3) := ⟨⟨by decide +kernel, by decide +kernel⟩, List.mem_of_getElem? (i := 58) (by decide +kernel), List.mem_of_getElem? (i := 456) (by decide +kernel), List.mem_of_getElem? (i := 457) (by decide +kernel)⟩
theorem lw_p12 : lw_okq (⟨"Kerfworks", "sheetsUnder", "(LKerfworks$Drawing;)I"⟩, 6) := ⟨⟨by decide +kernel, by decide +kernel⟩, List.mem_of_getElem? (i := 24) (by decide +kernel), List.mem_of_getElem? (i := 543) (by decide +kernel), List.mem_of_getElem? (i := 544) (by decide +kernel)⟩
theorem lw_p13 : lw_okq (⟨"Kerfworks", "clearSheets", "(I)I"⟩, 6) := ⟨⟨by decide +kernel, by decide +kernel⟩, List.mem_of_getElem? (i := 24) (by decide +kernel), List.mem_of_getElem? (i := 562) (by decide +kernel), List.mem_of_getElem? (i := 563) (by decide +kernel)⟩
theorem lw_p14 : lw_okq (⟨"Kerfworks$Piece", "hasAllFree", "()Z"⟩, 11) := ⟨⟨by decide +kernel, by decide +kernel⟩, List.mem_of_getElem? (i := 459) (by decide +kernel), List.mem_of_getElem? (i := 574) (by decide +kernel), List.mem_of_getElem? (i := 575) (by decide +kernel)⟩
theorem lw_p15 : lw_okq (⟨"Kerfworks$Piece", "endPieces", "()V"⟩, 11) := ⟨⟨by decide +kernel, by decide +kernel⟩, List.mem_of_getElem? (i := 459) (by decide +kernel), List.mem_of_getElem? (i := 581) (by decide +kernel), List.mem_of_getElem? (i := 582) (by decide +kernel)⟩
def lw_privs_1 : List (MethodName × Nat) := [(⟨"java/lang/Throwable", "fillInStackTrace", "(I)Ljava/lang/Throwable;"⟩, 6), (⟨"java/util/ArrayList", "add", "(Ljava/lang/Object;[Ljava/lang/Object;I)V"⟩, 3), (⟨"java/util/ArrayList", "grow", "()[Ljava/lang/Object;"⟩, 3), (⟨"java/util/ArrayList", "grow", "(I)[Ljava/lang/Object;"⟩, 3), (⟨"Kerfworks", "drawingAt", "(I)LKerfworks$Drawing;"⟩, 6), (⟨"Kerfworks$Outline", "has", "(II)Z"⟩, 2), (⟨"Kerfworks$Outline", "wrongOrNoPoint", "(I)I"⟩, 2), (⟨"Kerfworks$Outline", "strokesAt", "(I)I"⟩, 2), (⟨"Kerfworks", "tryWaiting", "()V"⟩, 6), (⟨"Kerfworks$Stock", "bestFor", "(II)LKerfworks$Piece;"⟩, 3), (⟨"Kerfworks$Stock", "pieceOf", "(LKerfworks$Piece;IIII)LKerfworks$Piece;"⟩, 3), (⟨"Kerfworks$Stock", "next", "()LKerfworks$Piece;"⟩, 3), (⟨"Kerfworks", "sheetsUnder", "(LKerfworks$Drawing;)I"⟩, 6), (⟨"Kerfworks", "clearSheets", "(I)I"⟩, 6), (⟨"Kerfworks$Piece", "hasAllFree", "()Z"⟩, 11), (⟨"Kerfworks$Piece", "endPieces", "()V"⟩, 11)]
theorem lw_r1 : ∀ q ∈ lw_privs_1, lw_okq q := List.forall_mem_cons.mpr ⟨lw_p0, List.forall_mem_cons.mpr ⟨lw_p1, List.forall_mem_cons.mpr ⟨lw_p2, List.forall_mem_cons.mpr ⟨lw_p3, List.forall_mem_cons.mpr ⟨lw_p4, List.forall_mem_cons.mpr ⟨lw_p5, List.forall_mem_cons.mpr ⟨lw_p6, List.forall_mem_cons.mpr ⟨lw_p7, List.forall_mem_cons.mpr ⟨lw_p8, List.forall_mem_cons.mpr ⟨lw_p9, List.forall_mem_cons.mpr ⟨lw_p10, List.forall_mem_cons.mpr ⟨lw_p11, List.forall_mem_cons.mpr ⟨lw_p12, List.forall_mem_cons.mpr ⟨lw_p13, List.forall_mem_cons.mpr ⟨lw_p14, List.forall_mem_cons.mpr ⟨lw_p15, fun _ h => absurd h List.not_mem_nil⟩⟩⟩⟩⟩⟩⟩⟩⟩⟩⟩⟩⟩⟩⟩⟩
theorem lw_p16 : lw_okq (⟨"Kerfworks", "jobAt", "(I)LKerfworks$Job;"⟩, 6) := ⟨⟨by decide +kernel, by decide +kernel⟩, List.mem_of_getElem? (i := 24) (by decide +kernel), List.mem_of_getElem? (i := 671) (by decide +kernel), List.mem_of_getElem? (i := 672) (by decide +kernel)⟩
theorem lw_p17 : lw_okq (⟨"Kerfworks$Job", "touchesEarlier", "(I)Z"⟩, 6) := ⟨⟨by decide +kernel, by decide +kernel⟩, List.mem_of_getElem? (i := 629) (by decide +kernel), List.mem_of_getElem? (i := 690) (by decide +kernel), List.mem_of_getElem? (i := 691) (by decide +kernel)⟩
theorem lw_p18 : lw_okq (⟨"KerfworksModel", "holds", "(I)Z"⟩, 26) := ⟨⟨by decide +kernel, by decide +kernel⟩, List.mem_of_getElem? (i := 735) (by decide +kernel), List.mem_of_getElem? (i := 828) (by decide +kernel), List.mem_of_getElem? (i := 829) (by decide +kernel)⟩
theorem lw_p19 : lw_okq (⟨"KerfworksModel", "isDrawing", "(I)Z"⟩, 26) := ⟨⟨by decide +kernel, by decide +kernel⟩, List.mem_of_getElem? (i := 735) (by decide +kernel), List.mem_of_getElem? (i := 836) (by decide +kernel), List.mem_of_getElem? (i := 837) (by decide +kernel)⟩
theorem lw_p20 : lw_okq (⟨"KerfworksModel", "in", "(III)Z"⟩, 26) := ⟨⟨by decide +kernel, by decide +kernel⟩, List.mem_of_getElem? (i := 735) (by decide +kernel), List.mem_of_getElem? (i := 840) (by decide +kernel), List.mem_of_getElem? (i := 841) (by decide +kernel)⟩
theorem lw_p21 : lw_okq (⟨"KerfworksModel", "mends", "(I)V"⟩, 26) := ⟨⟨by decide +kernel, by decide +kernel⟩, List.mem_of_getElem? (i := 735) (by decide +kernel), List.mem_of_getElem? (i := 848) (by decide +kernel), List.mem_of_getElem? (i := 849) (by decide +kernel)⟩
theorem lw_p22 : lw_okq (⟨"KerfworksModel", "isDoubled", "(II)Z"⟩, 26) := ⟨⟨by decide +kernel, by decide +kernel⟩, List.mem_of_getElem? (i := 735) (by decide +kernel), List.mem_of_getElem? (i := 852) (by decide +kernel), List.mem_of_getElem? (i := 853) (by decide +kernel)⟩
theorem lw_p23 : lw_okq (⟨"KerfworksModel", "fault", "(I)I"⟩, 26) := ⟨⟨by decide +kernel, by decide +kernel⟩, List.mem_of_getElem? (i := 735) (by decide +kernel), List.mem_of_getElem? (i := 856) (by decide +kernel), List.mem_of_getElem? (i := 857) (by decide +kernel)⟩
theorem lw_p24 : lw_okq (⟨"KerfworksModel", "tries", "()V"⟩, 26) := ⟨⟨by decide +kernel, by decide +kernel⟩, List.mem_of_getElem? (i := 735) (by decide +kernel), List.mem_of_getElem? (i := 860) (by decide +kernel), List.mem_of_getElem? (i := 861) (by decide +kernel)⟩
theorem lw_p25 : lw_okq (⟨"KerfworksModel", "nests", "(I)V"⟩, 26) := ⟨⟨by decide +kernel, by decide +kernel⟩, List.mem_of_getElem? (i := 735) (by decide +kernel), List.mem_of_getElem? (i := 864) (by decide +kernel), List.mem_of_getElem? (i := 865) (by decide +kernel)⟩
theorem lw_p26 : lw_okq (⟨"KerfworksModel", "size", "(IZ)I"⟩, 26) := ⟨⟨by decide +kernel, by decide +kernel⟩, List.mem_of_getElem? (i := 735) (by decide +kernel), List.mem_of_getElem? (i := 868) (by decide +kernel), List.mem_of_getElem? (i := 869) (by decide +kernel)⟩
theorem lw_p27 : lw_okq (⟨"KerfworksModel", "lays", "(II)I"⟩, 26) := ⟨⟨by decide +kernel, by decide +kernel⟩, List.mem_of_getElem? (i := 735) (by decide +kernel), List.mem_of_getElem? (i := 872) (by decide +kernel), List.mem_of_getElem? (i := 873) (by decide +kernel)⟩
theorem lw_p28 : lw_okq (⟨"KerfworksModel", "bestFor", "(II)I"⟩, 26) := ⟨⟨by decide +kernel, by decide +kernel⟩, List.mem_of_getElem? (i := 735) (by decide +kernel), List.mem_of_getElem? (i := 876) (by decide +kernel), List.mem_of_getElem? (i := 877) (by decide +kernel)⟩
theorem lw_p29 : lw_okq (⟨"KerfworksModel", "adds", "(IIIIIII)I"⟩, 26) := ⟨⟨by decide +kernel, by decide +kernel⟩, List.mem_of_getElem? (i := 735) (by decide +kernel), List.mem_of_getElem? (i := 880) (by decide +kernel), List.mem_of_getElem? (i := 881) (by decide +kernel)⟩
theorem lw_p30 : lw_okq (⟨"KerfworksModel", "takesOff", "(II)V"⟩, 26) := ⟨⟨by decide +kernel, by decide +kernel⟩, List.mem_of_getElem? (i := 735) (by decide +kernel), List.mem_of_getElem? (i := 884) (by decide +kernel), List.mem_of_getElem? (i := 885) (by decide +kernel)⟩
theorem lw_p31 : lw_okq (⟨"KerfworksModel", "frees", "(I)V"⟩, 26) := ⟨⟨by decide +kernel, by decide +kernel⟩, List.mem_of_getElem? (i := 735) (by decide +kernel), List.mem_of_getElem? (i := 888) (by decide +kernel), List.mem_of_getElem? (i := 889) (by decide +kernel)⟩
def lw_privs_2 : List (MethodName × Nat) := [(⟨"Kerfworks", "jobAt", "(I)LKerfworks$Job;"⟩, 6), (⟨"Kerfworks$Job", "touchesEarlier", "(I)Z"⟩, 6), (⟨"KerfworksModel", "holds", "(I)Z"⟩, 26), (⟨"KerfworksModel", "isDrawing", "(I)Z"⟩, 26), (⟨"KerfworksModel", "in", "(III)Z"⟩, 26), (⟨"KerfworksModel", "mends", "(I)V"⟩, 26), (⟨"KerfworksModel", "isDoubled", "(II)Z"⟩, 26), (⟨"KerfworksModel", "fault", "(I)I"⟩, 26), (⟨"KerfworksModel", "tries", "()V"⟩, 26), (⟨"KerfworksModel", "nests", "(I)V"⟩, 26), (⟨"KerfworksModel", "size", "(IZ)I"⟩, 26), (⟨"KerfworksModel", "lays", "(II)I"⟩, 26), (⟨"KerfworksModel", "bestFor", "(II)I"⟩, 26), (⟨"KerfworksModel", "adds", "(IIIIIII)I"⟩, 26), (⟨"KerfworksModel", "takesOff", "(II)V"⟩, 26), (⟨"KerfworksModel", "frees", "(I)V"⟩, 26)]
theorem lw_r2 : ∀ q ∈ lw_privs_2, lw_okq q := List.forall_mem_cons.mpr ⟨lw_p16, List.forall_mem_cons.mpr ⟨lw_p17, List.forall_mem_cons.mpr ⟨lw_p18, List.forall_mem_cons.mpr ⟨lw_p19, List.forall_mem_cons.mpr ⟨lw_p20, List.forall_mem_cons.mpr ⟨lw_p21, List.forall_mem_cons.mpr ⟨lw_p22, List.forall_mem_cons.mpr ⟨lw_p23, List.forall_mem_cons.mpr ⟨lw_p24, List.forall_mem_cons.mpr ⟨lw_p25, List.forall_mem_cons.mpr ⟨lw_p26, List.forall_mem_cons.mpr ⟨lw_p27, List.forall_mem_cons.mpr ⟨lw_p28, List.forall_mem_cons.mpr ⟨lw_p29, List.forall_mem_cons.mpr ⟨lw_p30, List.forall_mem_cons.mpr ⟨lw_p31, fun _ h => absurd h List.not_mem_nil⟩⟩⟩⟩⟩⟩⟩⟩⟩⟩⟩⟩⟩⟩⟩⟩
theorem lw_p32 : lw_okq (⟨"KerfworksModel", "allFree", "(I)Z"⟩, 26) := ⟨⟨by decide +kernel, by decide +kernel⟩, List.mem_of_getElem? (i := 735) (by decide +kernel), List.mem_of_getElem? (i := 892) (by decide +kernel), List.mem_of_getElem? (i := 893) (by decide +kernel)⟩
theorem lw_p33 : lw_okq (⟨"KerfworksModel", "lengthOf", "(I)F"⟩, 26) := ⟨⟨by decide +kernel, by decide +kernel⟩, List.mem_of_getElem? (i := 735) (by decide +kernel), List.mem_of_getElem? (i := 905) (by decide +kernel), List.mem_of_getElem? (i := 906) (by decide +kernel)⟩
theorem lw_p34 : lw_okq (⟨"KerfworksModel", "root", "(I)D"⟩, 26) := ⟨⟨by decide +kernel, by decide +kernel⟩, List.mem_of_getElem? (i := 735) (by decide +kernel), List.mem_of_getElem? (i := 909) (by decide +kernel), List.mem_of_getElem? (i := 910) (by decide +kernel)⟩
theorem lw_p35 : lw_okq (⟨"KerfworksModel", "isJob", "(I)Z"⟩, 26) := ⟨⟨by decide +kernel, by decide +kernel⟩, List.mem_of_getElem? (i := 735) (by decide +kernel), List.mem_of_getElem? (i := 926) (by decide +kernel), List.mem_of_getElem? (i := 927) (by decide +kernel)⟩
theorem lw_p36 : lw_okq (⟨"KerfworksModel", "shares", "(II)Z"⟩, 26) := ⟨⟨by decide +kernel, by decide +kernel⟩, List.mem_of_getElem? (i := 735) (by decide +kernel), List.mem_of_getElem? (i := 934) (by decide +kernel), List.mem_of_getElem? (i := 935) (by decide +kernel)⟩
theorem lw_p37 : lw_okq (⟨"KerfworksModel", "touches", "(II)Z"⟩, 26) := ⟨⟨by decide +kernel, by decide +kernel⟩, List.mem_of_getElem? (i := 735) (by decide +kernel), List.mem_of_getElem? (i := 942) (by decide +kernel), List.mem_of_getElem? (i := 943) (by decide +kernel)⟩
def lw_privs_3 : List (MethodName × Nat) := [(⟨"KerfworksModel", "allFree", "(I)Z"⟩, 26), (⟨"KerfworksModel", "lengthOf", "(I)F"⟩, 26), (⟨"KerfworksModel", "root", "(I)D"⟩, 26), (⟨"KerfworksModel", "isJob", "(I)Z"⟩, 26), (⟨"KerfworksModel", "shares", "(II)Z"⟩, 26), (⟨"KerfworksModel", "touches", "(II)Z"⟩, 26)]
theorem lw_r3 : ∀ q ∈ lw_privs_3, lw_okq q := List.forall_mem_cons.mpr ⟨lw_p32, List.forall_mem_cons.mpr ⟨lw_p33, List.forall_mem_cons.mpr ⟨lw_p34, List.forall_mem_cons.mpr ⟨lw_p35, List.forall_mem_cons.mpr ⟨lw_p36, List.forall_mem_cons.mpr ⟨lw_p37, fun _ h => absurd h List.not_mem_nil⟩⟩⟩⟩⟩⟩
def lw_privs : List (MethodName × Nat) := lw_privs_1 ++ (lw_privs_2 ++ (lw_privs_3))
def lw_tbl : List Cond := k2_sels lw_privs ++ tables_1
theorem lw_privs_ok : ∀ q ∈ lw_privs, lw_okq q := by
  show ∀ q ∈ lw_privs_1 ++ (lw_privs_2 ++ (lw_privs_3)), lw_okq q
  exact List.forall_mem_append.mpr ⟨lw_r1, List.forall_mem_append.mpr ⟨lw_r2, lw_r3⟩⟩
/-- the streams that the claim lets the run draw from -/
abbrev lw_cs : List Choice := [Jvm.Choice.named "NaN.bits"]
theorem lw_bits : nanBits ∈ lw_cs := by first | decide | exact List.mem_cons_self | simp [lw_cs, nanBits]
-- ===== end of PART A; then your names; then what follows =====
/-! ===== BEGIN words of one list among another's, by their places ===== -/
theorem goodIn_r {big : List Cond} (ws : List Cond) (ps : List Nat) (hp : ws = ps.filterMap (fun i => big[i]?)) (h : ws.all goodWord = true) : GoodIn big ws := by
  intro w hw
  have h1 := List.all_eq_true.mp h w hw
  rw [hp] at hw
  obtain ⟨i, -, hi⟩ := List.mem_filterMap.mp hw
  have hm : w ∈ big := by first | exact List.mem_of_getElem? hi | exact List.getElem?_mem hi
  exact ⟨hm, good_of_word h1⟩
theorem goodIn_app {big a b : List Cond} (ha : GoodIn big a) (hb : GoodIn big b) : GoodIn big (a ++ b) := fun w h => (List.mem_append.mp h).elim (ha w) (hb w)
theorem goodIn_ca {big a b : List Cond} {c : Cond} (ha : GoodIn big (c :: a)) (hb : GoodIn big b) : GoodIn big (c :: (a ++ b)) := fun w h => (List.mem_cons.mp h).elim (fun e => ha w (List.mem_cons.mpr (Or.inl e))) (fun h => (List.mem_append.mp h).elim (fun h => ha w (List.mem_cons.mpr (Or.inr h))) (hb w))
theorem goodIn_sub {big ws : List Cond} (hm : ∀ w ∈ ws, w ∈ big) (h : ws.all goodWord = true) : GoodIn big ws := fun w hw => ⟨hm w hw, good_of_word (List.all_eq_true.mp h w hw)⟩
/-! ===== END ===== -/

/-! ===== BEGIN exceptions that leave a method, and their catching by the caller (launches without stack traces) ===== -/
section VXA
/-! The laws vx_back, vx_callV, vx_callS, vx_callSW, vx_throw0, vx_throwS follow proofs of the library, with one case more: JvmDerived/Free/Laws.lean (Back.of_free), Shelf42/LK1.lean (callV, callS), Shelf/KitTraced.lean (throwNew0V, throwNewS). -/
/-- where a method has thrown q: the class by its name, the cell, what was written, the world -/
def vx_T (XC : String → State → State → Prop) (st : State) (q : Addr) (t : State) (mc ms : Nat) (free : Addr → Prop) : Prop :=
  ∃ (E : String) (ce : Cell) (L : List Loc), XC E st t ∧ t.heap[q]? = some ce ∧ ce.vm = .none ∧ st.vm.findClass E = some ce.cls ∧ st.WarmedH t.vm ∧ st.sameButNew ({ t with vm := st.vm } : State) L mc ms ∧ ∀ z ∈ L, free z.base
def vx_Q (Qc : Array Value → State → Outcome → State → Prop) (XC : String → State → State → Prop) (mc ms : Nat) (free : Addr → Prop) : Array Value → State → Outcome → State → Prop := fun a st o t =>
  (Qc a st o t ∧ ∃ L, FrameEnd st o t L mc ms ∧ ∀ q ∈ L, free q.base) ∨ ∃ q, o = .threw q ∧ vx_T XC st q t mc ms free
/-- a callee that returns or throws -/
def vx_Met (l : Launch) (y : MethodName) (ws : List Cond) (rm : Room) (Pc : Array Value → State → Prop) (Qc : Array Value → State → Outcome → State → Prop) (XC : String → State → State → Prop) (mc ms : Nat) (free : Addr → Prop) : Prop :=
  MetFree l y (headSpec ws rm) Pc (fun _ _ _ _ _ => True) (vx_Q Qc XC mc ms free)
def vx_Post (XC : String → State → State → Prop) (mc ms : Nat) (free : Addr → Prop) : Pt → Array Value → Addr → Pt → Prop := fun A a q B =>
  ∃ (g : JFrame) (mk : MethodId) (t : State) (L : List Loc) (E : String) (ce : Cell), B.U.heap = t.heap ∧ B.U.vm = t.vm ∧ XC E (A.U.calling g mk a) t ∧ t.heap[q]? = some ce ∧ ce.vm = .none ∧ A.U.vm.findClass E = some ce.cls ∧ B.locs = A.locs ++ L ∧ (∀ z ∈ L, free z.base) ∧ B.cells = A.cells + mc ∧ B.slots = A.slots + ms
def vx_Back (l : Launch) (R : Room) (p : Program) (e : Env) (below : List Frame) (s : State) (sargs : Array Value) (y : MethodName) (len W9 : Nat)
    (Pre : Pt → Array Value → Prop) (Post : Pt → Array Value → Option Value → Pt → Prop) (PostX : Pt → Array Value → Addr → Pt → Prop) : Prop :=
  ∀ (m : MethodId) (meth : Method) (c : Code) (A : Pt) (g : JFrame) (ig : Instr) (mk : MethodId) (a : Array Value),
    Stand p l e R s m sargs below meth c A.U A.locs A.cells A.slots → g.method = m → g.locals.size = c.maxLocals → decode c.code g.pc = .ok (ig, len) →
    2 * g.monitorRoom + (g.stack.map fun v => v.category).sum ≤ W9 → A.U.methodNamed? y = some mk → Pre A a →
    (∃ (v : Option Value) (B : Pt), Stand p l e R s m sargs below meth c B.U B.locs B.cells B.slots ∧ Post A a v B ∧
      Steps p.tables e below (doInvoke e (A.U.setTop g) [] mk a).1 (B.U.setTop { g with pc := g.pc + len, stack := v.toList ++ g.stack })) ∨
    (∃ (q : Addr) (B : Pt), Stand p l e R s m sargs below meth c B.U B.locs B.cells B.slots ∧ PostX A a q B ∧
      Steps p.tables e below (doInvoke e (A.U.setTop g) [] mk a).1 ((B.U.setTop g).pushFrame (.throwing q)))
section Payer
variable {l : Launch} {R : Room} {p : Program} {e : Env} {below : List Frame} {s : State} {sargs : Array Value} {y : MethodName} {len W9 : Nat}
theorem vx_back {ws : List Cond} {rm : Room} {Pc : Array Value → State → Prop} {Qc : Array Value → State → Outcome → State → Prop} {XC : String → State → State → Prop} {mc ms : Nat} {free : Addr → Prop} {bytes : ByteArray} {maxL : Nat} {ret : Option FieldType}
    (hM : vx_Met l y ws rm Pc Qc XC mc ms free) (hblind : FrameBlind Pc) (hrc : rm.cells = mc) (hrs : rm.slots = ms)
    (hframes : rm.frames + 1 ≤ R.frames) (hlocals : W9 + (maxL + 11) + rm.locals ≤ R.locals)
    (hws : ∀ w ∈ ws, ∀ a' U, s.WarmedH U.vm → w.before a' U = true) (hcode : Cond.code y bytes maxL ret ∈ ws) (hinit : ∀ a' U, s.WarmedH U.vm → (Cond.initialized y.cls).before a' U = true) :
    vx_Back l R p e below s sargs y len W9 (PreOf R mc ms Pc) (PostOf Qc mc ms free) (vx_Post XC mc ms free) := by
  intro m meth c A g ig mk a X hg hsize hdg hW hn hp
  have h1 : (headSpec ws rm).pre.before a A.U = true := atoms_intro fun w hw => hws w hw _ _ X.warmed
  have h2 : (Cond.code y bytes maxL ret).before a A.U = true := hws _ hcode _ _ X.warmed
  have h3 : (Cond.initialized y.cls).before a A.U = true := hinit _ _ X.warmed
  have h4 : A.cells + (headSpec ws rm).room.cells ≤ R.cells := by rw [show (headSpec ws rm).room.cells = mc from hrc]; exact hp.1
  have h5 : A.slots + (headSpec ws rm).room.slots ≤ R.slots := by rw [show (headSpec ws rm).room.slots = ms from hrs]; exact hp.2.1
  have hPc : Pc a (A.U.calling g mk a) := hblind _ _ _ _ hp.2.2
  obtain ⟨U, Ls, c0, s0⟩ := A
  dsimp only [Pt.U, Pt.locs, Pt.cells, Pt.slots] at h1 h2 h3 h4 h5 X hn hPc ⊢
  obtain ⟨methY, cY, hmY, hcY, -, hlY, -, -, -, -⟩ := Cond.code_spec hn h2
  obtain ⟨kY, hkY, -⟩ := className_of_methodNamed hn
  have hinitY : kY.init = .initialized := Cond.initialized_spec (findClass_of_methodNamed hn) hkY h3
  have h : At U g.method c below := by rw [hg]; exact X.here
  have hlocals9 : W9 + (maxL + 11) + (headSpec ws rm).room.locals ≤ R.locals := hlocals
  have happ : (headSpec ws rm).appliesLoose y e.platform (U.calling g mk a) = true :=
    Spec.appliesLoose_calling (g := g) h hdg hn hkY hinitY
      (X.room_calling (g := g) (R' := (headSpec ws rm).room) hsize hmY hcY hframes (by rw [hlY]; omega) h4 h5) h1
  obtain ⟨mid, hmid⟩ := h.above
  have hfr : (U.setTop g).frames = (.java g :: mid) ++ below := by rw [State.frames_setTop' g h.top, hmid]; rfl
  obtain ⟨o, s₂, hsteps, -, hend, hq⟩ := Steps.callFree hM p X.admits X.cas X.clock (acts := []) hfr happ hPc trivial
  have hq' : vx_Q Qc XC mc ms free a (U.calling g mk a) o s₂ := hq
  rw [State.frames_setTop' g h.top] at hend
  obtain ⟨g₀, hg0⟩ := Option.isSome_iff_exists.mp h.top
  obtain ⟨r, hr⟩ := State.topJava?_eq_some.mp hg0
  have hr' : (({ U with heap := s₂.heap, slotsUsed := s₂.slotsUsed } : State).setVm s₂.vm).frames = .java g₀ :: r := hr
  rcases hq' with ⟨hqc, L, hfe, hL⟩ | ⟨q, rfl, E, ce, L, hx, hce, hcv, hcl, hW₂, hsm, hL⟩
  · obtain ⟨⟨v, rfl⟩, hW₂, e2, q2, q3, q4, q5, q6⟩ := id hfe
    have e3 : s₂ = ({ (U.calling g mk a).setFrames s₂.frames with heap := s₂.heap, slotsUsed := s₂.slotsUsed } : State).setVm s₂.vm := by
      have : s₂ = ({ s₂ with vm := (U.calling g mk a).vm } : State).setVm s₂.vm := rfl
      rw [e2] at this
      exact this
    obtain ⟨c₂, i₂, len₂, hc₂, hd₂, hf₂⟩ := hend
    have hW' : U.WarmedH s₂.vm := hW₂
    have hcc : c₂ = c := by
      have h1 : s₂.code? g.method = U.code? g.method := by
        rw [State.code?_eq, State.code?_eq, hW'.alike.method?]
      exact Option.some.inj (hc₂.symm.trans (h1.trans h.code))
    subst hcc
    have hlen : len₂ = len := by rw [hdg] at hd₂; cases hd₂; rfl
    subst hlen
    have hs₂ : s₂ = (({ U with heap := s₂.heap, slotsUsed := s₂.slotsUsed } : State).setVm s₂.vm).setTop { g with pc := g.pc + len₂, stack := v.toList ++ g.stack } := by
      refine e3.trans ?_
      rw [hf₂, State.calling_eq h.top, State.setFrames_setFrames, State.setTop_of_frames _ hr', hr]
      rfl
    have hsame : U.sameButNew ({ U with heap := s₂.heap, slotsUsed := s₂.slotsUsed } : State) L mc ms := by
      refine ⟨?_, q2, q3, q4, q5, q6⟩
      obtain ⟨t, ht, -⟩ := State.frames_cons hr
      show ({ U with heap := s₂.heap, slotsUsed := s₂.slotsUsed } : State) = { U.setFrames U.frames with heap := s₂.heap, slotsUsed := s₂.slotsUsed }
      rw [State.setFrames_self ht]
    subst hg
    refine Or.inl ⟨v, ⟨(({ U with heap := s₂.heap, slotsUsed := s₂.slotsUsed } : State).setVm s₂.vm), Ls ++ L, c0 + mc, s0 + ms⟩,
      ⟨X.admits, X.cas, X.clock, X.frames, X.room, X.hears, X.method, X.code, (X.here.setHeapUsed s₂.heap s₂.slotsUsed).setVm hW'.alike, X.tail, State.WarmedH.trans X.warmed hW', X.limits, X.bytes, X.same.trans (hsame.setVm s.vm)⟩,
      ⟨g, mk, s₂, L, rfl, rfl, hqc, rfl, hL, rfl, rfl⟩, ?_⟩
    show Steps p.tables e below _ ((({ U with heap := s₂.heap, slotsUsed := s₂.slotsUsed } : State).setVm s₂.vm).setTop { g with pc := g.pc + len₂, stack := v.toList ++ g.stack })
    rw [← hs₂]
    exact hsteps
  · obtain ⟨e2, q2, q3, q4, q5, q6⟩ := id hsm
    have e3 : s₂ = ({ (U.calling g mk a).setFrames s₂.frames with heap := s₂.heap, slotsUsed := s₂.slotsUsed } : State).setVm s₂.vm := by
      have : s₂ = ({ s₂ with vm := (U.calling g mk a).vm } : State).setVm s₂.vm := rfl
      rw [e2] at this
      exact this
    have hf₂ : s₂.frames = .throwing q :: .java g :: U.frames.tail := hend
    have hW' : U.WarmedH s₂.vm := hW₂
    have hs₂ : s₂ = ((({ U with heap := s₂.heap, slotsUsed := s₂.slotsUsed } : State).setVm s₂.vm).setTop g).pushFrame (.throwing q) := by
      refine e3.trans ?_
      rw [hf₂, State.calling_eq h.top, State.setFrames_setFrames, State.pushFrame, State.frames_setTop _ hr', State.setTop_of_frames _ hr', State.setFrames_setFrames, hr]
      rfl
    have hsame : U.sameButNew ({ U with heap := s₂.heap, slotsUsed := s₂.slotsUsed } : State) L mc ms := by
      refine ⟨?_, q2, q3, q4, q5, q6⟩
      obtain ⟨t, ht, -⟩ := State.frames_cons hr
      show ({ U with heap := s₂.heap, slotsUsed := s₂.slotsUsed } : State) = { U.setFrames U.frames with heap := s₂.heap, slotsUsed := s₂.slotsUsed }
      rw [State.setFrames_self ht]
    subst hg
    refine Or.inr ⟨q, ⟨(({ U with heap := s₂.heap, slotsUsed := s₂.slotsUsed } : State).setVm s₂.vm), Ls ++ L, c0 + mc, s0 + ms⟩,
      ⟨X.admits, X.cas, X.clock, X.frames, X.room, X.hears, X.method, X.code, (X.here.setHeapUsed s₂.heap s₂.slotsUsed).setVm hW'.alike, X.tail, State.WarmedH.trans X.warmed hW', X.limits, X.bytes, X.same.trans (hsame.setVm s.vm)⟩,
      ⟨g, mk, s₂, L, E, ce, rfl, rfl, hx, hce, hcv, hcl, rfl, hL, rfl, rfl⟩, ?_⟩
    show Steps p.tables e below _ (((({ U with heap := s₂.heap, slotsUsed := s₂.slotsUsed } : State).setVm s₂.vm).setTop g).pushFrame (.throwing q))
    rw [← hs₂]
    exact hsteps
end Payer
section Calls
variable {p : Program} {l : Launch} {e : Env} {R : Room} {s : State} {m : MethodId} {args : Array Value} {below : List Frame} {meth : Method} {c : Code} {T : State} {locs : List Loc} {cells slots : Nat}
theorem vx_callV (X : Stand p l e R s m args below meth c T locs cells slots) (hexec : p.tables.exec = Jvm.exec) {own C : String} {index : Nat} {y : MethodName} {bytes : ByteArray} {maxL : Nat} {ret : Option FieldType}
    (hown : s.vm.findClass own = some m.cls) (hlink : (Cond.methodLink own index y).before args s = true) (hinst : (Cond.instanceMethod y).before args s = true) (hsel : (Cond.selects C y y).before args s = true)
    (hcode : (Cond.code y bytes maxL ret).before args s = true) (hy : y.cls ≠ "java/lang/invoke/MethodHandle" ∧ y.cls ≠ "java/lang/invoke/VarHandle")
    {W9 : Nat} {Pre : Pt → Array Value → Prop} {Post : Pt → Array Value → Option Value → Pt → Prop} {PostX : Pt → Array Value → Addr → Pt → Prop} (hK : vx_Back l R p e below s args y 3 W9 Pre Post PostX)
    {b : Addr} {cellB : Cell} (hcell : T.heap[b]? = some cellB) (hobj : cellB.vm.isStatics = false) (hcls : s.vm.findClass C = some cellB.cls)
    {g : JFrame} (hg : g.method = m) (hsize : g.locals.size = c.maxLocals) {argsL rest : List Value} (hlen : ∀ sig, parseMethodDescriptor y.desc = some sig → argsL.length = sig.parameters.length)
    (hstack : g.stack = argsL.reverse ++ .ref b :: rest) (hW : 2 * g.monitorRoom + (rest.map fun v => v.category).sum ≤ W9) (hdg : decode c.code g.pc = .ok (.invokevirtual index, 3))
    (hpre : ∀ vm₁, s.WarmedH vm₁ → Pre ⟨T.setVm vm₁, locs, cells, slots⟩ (Value.ref b :: argsL).toArray) :
    (∃ (v : Option Value) (vm₁ : Vm) (B : Pt), s.WarmedH vm₁ ∧ Stand p l e R s m args below meth c B.U B.locs B.cells B.slots ∧ Post ⟨T.setVm vm₁, locs, cells, slots⟩ (Value.ref b :: argsL).toArray v B ∧
      ∀ target, Steps p.tables e below (B.U.setTop { g with pc := g.pc + 3, stack := v.toList ++ rest }) target → Steps p.tables e below (T.setTop g) target) ∨
    (∃ (q : Addr) (vm₁ : Vm) (B : Pt), s.WarmedH vm₁ ∧ Stand p l e R s m args below meth c B.U B.locs B.cells B.slots ∧ PostX ⟨T.setVm vm₁, locs, cells, slots⟩ (Value.ref b :: argsL).toArray q B ∧
      Steps p.tables e below (T.setTop g) ((B.U.setTop { g with stack := rest }).pushFrame (.throwing q))) := by
  obtain ⟨mk, methM, hnamed, hmethM, hstM, habM⟩ := Cond.instanceMethod_spec hinst
  obtain ⟨methM', cM, hmethM', -, -, -, -, -, -, hsigM⟩ := Cond.code_spec hnamed hcode
  cases hmethM.symm.trans hmethM'
  obtain ⟨c2, r2, m2, q1, q2, q3, q4, kP, hkP, hkPi⟩ := Cond.selects_spec hsel
  cases hcls.symm.trans q1
  cases (State.methodFound?_of_named hnamed hy).symm.trans q2
  cases hnamed.symm.trans q3
  have hselP : selectMethod e.platform s.vm cellB.cls mk = .method mk := by rw [Launch.admits_selectMethod X.admits]; exact q4
  obtain ⟨vm₁, X₁, hstep₁⟩ := X.invokevirtual hexec hown hlink hnamed hmethM hstM hkP hkPi hy (a := b) (cell := cellB) hcell
    (fun z h => by rw [h] at hobj; cases hobj) hselP hmethM habM hkP hkPi (g := g) hg (argsL := argsL) (rest := rest) (hlen _ hsigM) hstack hdg
  rcases hK m meth c ⟨T.setVm vm₁, locs, cells, slots⟩ { g with stack := rest } (.invokevirtual index) mk (Value.ref b :: argsL).toArray X₁ hg hsize hdg hW (X₁.named hnamed) (hpre vm₁ X₁.warmed) with ⟨v, B, X', hpost, hsteps⟩ | ⟨q, B, X', hpost, hsteps⟩
  · exact Or.inl ⟨v, vm₁, B, X₁.warmed, X', hpost, fun target h => hstep₁ _ fun acts => by rw [doInvoke_state]; exact hsteps.trans h⟩
  · exact Or.inr ⟨q, vm₁, B, X₁.warmed, X', hpost, hstep₁ _ fun acts => by rw [doInvoke_state]; exact hsteps⟩
theorem vx_callS (X : Stand p l e R s m args below meth c T locs cells slots) (hexec : p.tables.exec = Jvm.exec) {own : String} {index : Nat} {y : MethodName} {bytes : ByteArray} {maxL : Nat} {ret : Option FieldType}
    (hown : s.vm.findClass own = some m.cls) (hlink : (Cond.methodLink own index y).before args s = true) (hstat : (Cond.static y).before args s = true) (hinit : (Cond.initialized y.cls).before args s = true)
    (hcode : (Cond.code y bytes maxL ret).before args s = true) (hy : y.cls ≠ "java/lang/invoke/MethodHandle" ∧ y.cls ≠ "java/lang/invoke/VarHandle")
    {W9 : Nat} {Pre : Pt → Array Value → Prop} {Post : Pt → Array Value → Option Value → Pt → Prop} {PostX : Pt → Array Value → Addr → Pt → Prop} (hK : vx_Back l R p e below s args y 3 W9 Pre Post PostX)
    {g : JFrame} (hg : g.method = m) (hsize : g.locals.size = c.maxLocals) {argsL rest : List Value} (hlen : ∀ sig, parseMethodDescriptor y.desc = some sig → argsL.length = sig.parameters.length)
    (hstack : g.stack = argsL.reverse ++ rest) (hW : 2 * g.monitorRoom + (rest.map fun v => v.category).sum ≤ W9) (hdg : decode c.code g.pc = .ok (.invokestatic index, 3))
    (hpre : ∀ vm₁, s.WarmedH vm₁ → Pre ⟨T.setVm vm₁, locs, cells, slots⟩ argsL.toArray) :
    (∃ (v : Option Value) (vm₁ : Vm) (B : Pt), s.WarmedH vm₁ ∧ Stand p l e R s m args below meth c B.U B.locs B.cells B.slots ∧ Post ⟨T.setVm vm₁, locs, cells, slots⟩ argsL.toArray v B ∧
      ∀ target, Steps p.tables e below (B.U.setTop { g with pc := g.pc + 3, stack := v.toList ++ rest }) target → Steps p.tables e below (T.setTop g) target) ∨
    (∃ (q : Addr) (vm₁ : Vm) (B : Pt), s.WarmedH vm₁ ∧ Stand p l e R s m args below meth c B.U B.locs B.cells B.slots ∧ PostX ⟨T.setVm vm₁, locs, cells, slots⟩ argsL.toArray q B ∧
      Steps p.tables e below (T.setTop g) ((B.U.setTop { g with stack := rest }).pushFrame (.throwing q))) := by
  obtain ⟨mk, hnamed⟩ := Cond.code_named hcode
  obtain ⟨methM, cM, hmethM, -, -, -, -, -, -, hsigM⟩ := Cond.code_spec hnamed hcode
  have hstatic : methM.isStatic = true := Cond.static_spec hnamed hmethM hstat
  obtain ⟨kP, hkP, -⟩ := className_of_methodNamed hnamed
  have hinitP : kP.init = .initialized := Cond.initialized_spec (findClass_of_methodNamed hnamed) hkP hinit
  obtain ⟨vm₁, X₁, hstep₁⟩ := X.invokestatic hexec hown hlink hnamed hmethM hstatic hkP hinitP hy (g := g) hg (argsL := argsL) (rest := rest) (hlen _ hsigM) hstack hdg
  rcases hK m meth c ⟨T.setVm vm₁, locs, cells, slots⟩ { g with stack := rest } (.invokestatic index) mk argsL.toArray X₁ hg hsize hdg hW (X₁.named hnamed) (hpre vm₁ X₁.warmed) with ⟨v, B, X', hpost, hsteps⟩ | ⟨q, B, X', hpost, hsteps⟩
  · exact Or.inl ⟨v, vm₁, B, X₁.warmed, X', hpost, fun target h => hstep₁ _ fun acts => by rw [doInvoke_state]; exact hsteps.trans h⟩
  · exact Or.inr ⟨q, vm₁, B, X₁.warmed, X', hpost, hstep₁ _ fun acts => by rw [doInvoke_state]; exact hsteps⟩
end Calls
theorem vx_cls {s : State} {T : State} {vm₁ : Vm} {E : String} {k : ClassId} (hW : s.WarmedH vm₁) (h : (T.setVm vm₁).vm.findClass E = some k) : s.vm.findClass E = some k := by
  have h1 : vm₁.findClass E = some k := h
  rw [hW.alike.findClass] at h1
  exact h1
/-- the method's frame g, with q thrown over it -/
def vx_W (p : Program) (l : Launch) (e : Env) (R : Room) (s : State) (m : MethodId) (args : Array Value) (below : List Frame) (meth : Method) (c : Code) (H : Heap) (locs : List Loc) (cells slots : Nat) (Q : State → Prop) (g : JFrame) (q : Addr) : Prop :=
  ∀ T : State, T.heap = H → Stand p l e R s m args below meth c T locs cells slots → ∃ t, Steps p.tables e below ((T.setTop g).pushFrame (.throwing q)) t ∧ Q t
def vx_Run (p : Program) (l : Launch) (e : Env) (R : Room) (s : State) (m : MethodId) (args : Array Value) (below : List Frame) (meth : Method) (c : Code) (H : Heap) (locs : List Loc) (cells slots mc ms : Nat) (g : JFrame) (rest : List Value) (Qa : State → Outcome → State → Prop) (XC : String → State → State → Prop) (free : Addr → Prop) : Prop :=
  ∀ T : State, T.heap = H → Stand p l e R s m args below meth c T locs cells slots →
    (∃ (v : Option Value) (st₀ t T' : State) (L : List Loc), st₀.heap = H ∧ Stand p l e R s m args below meth c T' (locs ++ L) (cells + mc) (slots + ms) ∧ (∀ q ∈ L, free q.base) ∧ T'.heap = t.heap ∧ T'.vm = t.vm ∧ Qa st₀ (.returned v) t ∧
      Goes p e below T g T' { g with pc := g.pc + 3, stack := v.toList ++ rest }) ∨
    (∃ (q : Addr) (st₀ t T' : State) (L : List Loc) (E : String) (ce : Cell), st₀.heap = H ∧ Stand p l e R s m args below meth c T' (locs ++ L) (cells + mc) (slots + ms) ∧ (∀ z ∈ L, free z.base) ∧ T'.heap = t.heap ∧ T'.vm = t.vm ∧ XC E st₀ t ∧ t.heap[q]? = some ce ∧ ce.vm = .none ∧ s.vm.findClass E = some ce.cls ∧
      Steps p.tables e below (T.setTop g) ((T'.setTop { g with stack := rest }).pushFrame (.throwing q)))
def vx_X {S : Type} (px : S → Prop) (B : String → S → State → Prop) (A : Nat → Prop) : String → State → State → Prop := fun E st t => ∃ u : S, px u ∧ B E u t ∧ va_F A st t
section Runs
variable {p : Program} {l : Launch} {e : Env} {R : Room} {s : State} {m : MethodId} {args : Array Value} {below : List Frame} {meth : Method} {c : Code} {H : Heap} {locs : List Loc} {cells slots : Nat}
variable {y : MethodName} {bytes cc : ByteArray} {maxL nL mc ms n index : Nat} {ret : Option FieldType} {ws : List Cond} {rm : Room} {Pc : Array Value → State → Prop} {Qc : Array Value → State → Outcome → State → Prop} {XC : String → State → State → Prop} {free : Addr → Prop} {Ts : List Cond} {own C : String} {b : Addr} {As rest : List Value} {g : JFrame}
theorem vx_callBack (cb : CallB R s args own index y bytes maxL ret ws rm mc ms n) (hM : vx_Met l y ws rm Pc Qc XC mc ms free) (hbl : FrameBlind Pc) : vx_Back l R p e below s args y 3 8 (PreOf R mc ms Pc) (PostOf Qc mc ms free) (vx_Post XC mc ms free) := by
  obtain ⟨hrc, hrs, hfr, hlo, hws, hcw, -, hini, -⟩ := cb
  exact vx_back (bytes := bytes) (maxL := maxL) (ret := ret) hM hbl hrc hrs hfr hlo hws hcw (fun a' U hW => word_at hW (Or.inl (by first | rfl | simp [Cond.onTables, Cond.keeps, Cond.steady])) hini)
theorem vx_runV (S : CallFix p m c cc nL s args Ts own) (hM : vx_Met l y ws rm Pc Qc XC mc ms free) (cw : CallW R s args own C index y bytes maxL ret ws rm mc ms n) (hp : PreV s H C b Pc As)
    (hg : g.method = m) (hn : As.length = n) (hsize : g.locals.size = nL) (hstack : g.stack = As.reverse ++ .ref b :: rest) (hW : 2 * g.monitorRoom + (rest.map fun v => v.category).sum ≤ 8) (hdg : decode cc g.pc = .ok (.invokevirtual index, 3)) (hf : cells + mc ≤ R.cells ∧ slots + ms ≤ R.slots) :
    vx_Run p l e R s m args below meth c H locs cells slots mc ms g rest (Qc (Value.ref b :: As).toArray) XC free := by
  have hK : vx_Back l R p e below s args y 3 8 (PreOf R mc ms Pc) (PostOf Qc mc ms free) (vx_Post XC mc ms free) := vx_callBack cw.1 hM hp.1
  obtain ⟨⟨-, -, -, -, -, -, hcode, -, hy, hlen, hl⟩, hin, hse⟩ := cw
  obtain ⟨hx, hb, hml, ho, -⟩ := S
  obtain ⟨-, ⟨cellB, hcB, hoB, hclB⟩, hPc⟩ := hp
  intro T hT X
  rcases vx_callV X hx (C := C) (bytes := bytes) (maxL := maxL) (ret := ret) ho hl hin hse hcode hy hK (by rw [hT]; exact hcB) hoB hclB hg (hsize.trans hml.symm) (argsL := As) (rest := rest) (fun sig h => hn.trans (hlen sig h)) hstack hW (by rw [hb]; exact hdg)
    (fun vm₁ hW₁ => ⟨hf.1, hf.2, hPc (T.setVm vm₁) hT hW₁⟩) with ⟨v, vm₁, ⟨U', l2, c2, s2⟩, hW₁, X', ⟨g', mk, t, L, e1, e2, hq, h1, hL, h2, h3⟩, st⟩ | ⟨q, vm₁, ⟨U', l2, c2, s2⟩, hW₁, X', ⟨g', mk, t, L, E, ce, e1, e2, hq, hce, hcv, hcl, h1, hL, h2, h3⟩, st⟩
  · dsimp only [Pt.U, Pt.locs, Pt.cells, Pt.slots] at X' e1 e2 h1 h2 h3 st
    subst h1; subst h2; subst h3
    exact Or.inl ⟨v, (T.setVm vm₁).calling g' mk (Value.ref b :: As).toArray, t, U', L, hT, X', hL, e1, e2, hq, st⟩
  · dsimp only [Pt.U, Pt.locs, Pt.cells, Pt.slots] at X' e1 e2 h1 h2 h3 st hcl
    subst h1; subst h2; subst h3
    exact Or.inr ⟨q, (T.setVm vm₁).calling g' mk (Value.ref b :: As).toArray, t, U', L, E, ce, hT, X', hL, e1, e2, hq, hce, hcv, vx_cls hW₁ hcl, st⟩
theorem vx_runS (S : CallFix p m c cc nL s args Ts own) (hM : vx_Met l y ws rm Pc Qc XC mc ms free) (cw : CallB R s args own index y bytes maxL ret ws rm mc ms n ∧ (Cond.static y).before args s = true) (hp : PreS s H Pc As)
    (hg : g.method = m) (hn : As.length = n) (hsize : g.locals.size = nL) (hstack : g.stack = As.reverse ++ rest) (hW : 2 * g.monitorRoom + (rest.map fun v => v.category).sum ≤ 8) (hdg : decode cc g.pc = .ok (.invokestatic index, 3)) (hf : cells + mc ≤ R.cells ∧ slots + ms ≤ R.slots) :
    vx_Run p l e R s m args below meth c H locs cells slots mc ms g rest (Qc As.toArray) XC free := by
  have hK : vx_Back l R p e below s args y 3 8 (PreOf R mc ms Pc) (PostOf Qc mc ms free) (vx_Post XC mc ms free) := vx_callBack cw.1 hM hp.1
  obtain ⟨⟨-, -, -, -, -, -, hcode, hini, hy, hlen, hl⟩, hstt⟩ := cw
  obtain ⟨hx, hb, hml, ho, -⟩ := S
  intro T hT X
  rcases vx_callS X hx (bytes := bytes) (maxL := maxL) (ret := ret) ho hl hstt hini hcode hy hK hg (hsize.trans hml.symm) (argsL := As) (rest := rest) (fun sig h => hn.trans (hlen sig h)) hstack hW (by rw [hb]; exact hdg)
    (fun vm₁ hW₁ => ⟨hf.1, hf.2, hp.2 (T.setVm vm₁) hT hW₁⟩) with ⟨v, vm₁, ⟨U', l2, c2, s2⟩, hW₁, X', ⟨g', mk, t, L, e1, e2, hq, h1, hL, h2, h3⟩, st⟩ | ⟨q, vm₁, ⟨U', l2, c2, s2⟩, hW₁, X', ⟨g', mk, t, L, E, ce, e1, e2, hq, hce, hcv, hcl, h1, hL, h2, h3⟩, st⟩
  · dsimp only [Pt.U, Pt.locs, Pt.cells, Pt.slots] at X' e1 e2 h1 h2 h3 st
    subst h1; subst h2; subst h3
    exact Or.inl ⟨v, (T.setVm vm₁).calling g' mk As.toArray, t, U', L, hT, X', hL, e1, e2, hq, st⟩
  · dsimp only [Pt.U, Pt.locs, Pt.cells, Pt.slots] at X' e1 e2 h1 h2 h3 st hcl
    subst h1; subst h2; subst h3
    exact Or.inr ⟨q, (T.setVm vm₁).calling g' mk As.toArray, t, U', L, E, ce, hT, X', hL, e1, e2, hq, hce, hcv, vx_cls hW₁ hcl, st⟩
end Runs
section Rows
variable {p : Program} {l : Launch} {e : Env} {R : Room} {s : State} {m : MethodId} {args : Array Value} {below : List Frame} {meth : Method} {c : Code} {H : Heap} {locs : List Loc} {cells slots : Nat} {Q : State → Prop}
variable {mc ms : Nat} {free : Addr → Prop} {A0 A1 : Nat → Prop} {H0 : Heap} {a : Array Value} {pc : Nat} {ls : Array Slot} {st0 rest : List Value}
theorem vx_keep {st₀ t T' : State} {L : List Loc} (h0 : st₀.heap = H) (e1 : T'.heap = t.heap) (hS : va_S A0 H0 H locs) (hA : ∀ q, q < H.size → A1 q → A0 q) (hf : ∀ q, free q → A0 q) (hL : ∀ q ∈ L, free q.base) (hF : va_F A1 st₀ t) :
    H.size ≤ T'.heap.size ∧ (∀ q : Nat, q < H.size → ¬ A1 q → T'.heap[q]? = H[q]?) ∧ va_S A0 H0 T'.heap (locs ++ L) := by
  obtain ⟨hz, hk⟩ := hF
  rw [h0] at hz hk
  exact ⟨by rw [e1]; exact hz, fun q h1 h2 => by rw [e1]; exact hk q h1 h2,
    ⟨Nat.le_trans hS.1 (by rw [e1]; exact hz), fun q h1 h2 => by rw [e1, hk q (Nat.lt_of_lt_of_le h1 hS.1) (fun z => h2 (hA q (Nat.lt_of_lt_of_le h1 hS.1) z))]; exact hS.2.1 q h1 h2, fun q hq => by
      rcases List.mem_append.mp hq with h | h
      · exact hS.2.2 q h
      · exact hf _ (hL q h)⟩⟩
theorem vx_calli {S SX : Type} {post : Int32 → S → Prop} {px : SX → Prop} {B : S → State → Prop} {BX : String → SX → State → Prop} {AX : Nat → Prop} (hr : vx_Run p l e R s m args below meth c H locs cells slots mc ms (F0 m pc ls st0) rest (va_Qi post B A1 a) (vx_X px BX AX) free) (hS : va_S A0 H0 H locs) (hA : ∀ q, q < H.size → A1 q → A0 q) (hf : ∀ q, free q → A0 q) (hAX : ∀ q, q < H.size → AX q → A0 q)
    (kx : ∀ (E : String) (ce : Cell) (q9 : Addr) (u : SX) (t : State) (H1 : Heap) (locs1 : List Loc), t.heap = H1 → s.vm.Alike t.vm → px u → BX E u t → H.size ≤ H1.size → (∀ q : Nat, q < H.size → ¬ AX q → H1[q]? = H[q]?) → va_S A0 H0 H1 locs1 → H1[q9]? = some ce → ce.vm = .none → s.vm.findClass E = some ce.cls → vx_W p l e R s m args below meth c H1 locs1 (cells + mc) (slots + ms) Q (F0 m pc ls rest) q9)
    (kk : ∀ (r : Int32) (u : S) (t : State) (H1 : Heap) (locs1 : List Loc), t.heap = H1 → s.vm.Alike t.vm → post r u → B u t → H.size ≤ H1.size → (∀ q : Nat, q < H.size → ¬ A1 q → H1[q]? = H[q]?) → va_S A0 H0 H1 locs1 → W p l e R s m args below meth c H1 locs1 (cells + mc) (slots + ms) Q (F0 m (pc + 3) ls (.int r :: rest))) : W p l e R s m args below meth c H locs cells slots Q (F0 m pc ls st0) := by
  intro T hT X
  rcases hr T hT X with ⟨v, st₀, t, T', L, h0, X', hL, e1, e2, ⟨⟨r, u, hv, hp, hb⟩, hF⟩, st⟩ | ⟨q, st₀, t, T', L, E, ce, h0, X', hL, e1, e2, ⟨u, hp, hb, hF⟩, hce, hcv, hcl, st⟩
  · cases hv
    obtain ⟨k1, k2, k3⟩ := vx_keep h0 e1 hS hA hf hL hF
    obtain ⟨t2, a1, b1⟩ := kk r u t T'.heap (locs ++ L) e1.symm (by rw [← e2]; exact X'.warmed.alike) hp hb k1 k2 k3 T' rfl X'
    exact ⟨t2, st t2 a1, b1⟩
  · obtain ⟨k1, k2, k3⟩ := vx_keep h0 e1 hS hAX hf hL hF
    obtain ⟨t2, a1, b1⟩ := kx E ce q u t T'.heap (locs ++ L) e1.symm (by rw [← e2]; exact X'.warmed.alike) hp hb k1 k2 k3 (by rw [e1]; exact hce) hcv hcl T' rfl X'
    exact ⟨t2, st.trans a1, b1⟩
theorem vx_calll {S SX : Type} {post : Int64 → S → Prop} {px : SX → Prop} {B : S → State → Prop} {BX : String → SX → State → Prop} {AX : Nat → Prop} (hr : vx_Run p l e R s m args below meth c H locs cells slots mc ms (F0 m pc ls st0) rest (va_Ql post B A1 a) (vx_X px BX AX) free) (hS : va_S A0 H0 H locs) (hA : ∀ q, q < H.size → A1 q → A0 q) (hf : ∀ q, free q → A0 q) (hAX : ∀ q, q < H.size → AX q → A0 q)
    (kx : ∀ (E : String) (ce : Cell) (q9 : Addr) (u : SX) (t : State) (H1 : Heap) (locs1 : List Loc), t.heap = H1 → s.vm.Alike t.vm → px u → BX E u t → H.size ≤ H1.size → (∀ q : Nat, q < H.size → ¬ AX q → H1[q]? = H[q]?) → va_S A0 H0 H1 locs1 → H1[q9]? = some ce → ce.vm = .none → s.vm.findClass E = some ce.cls → vx_W p l e R s m args below meth c H1 locs1 (cells + mc) (slots + ms) Q (F0 m pc ls rest) q9)
    (kk : ∀ (r : Int64) (u : S) (t : State) (H1 : Heap) (locs1 : List Loc), t.heap = H1 → s.vm.Alike t.vm → post r u → B u t → H.size ≤ H1.size → (∀ q : Nat, q < H.size → ¬ A1 q → H1[q]? = H[q]?) → va_S A0 H0 H1 locs1 → W p l e R s m args below meth c H1 locs1 (cells + mc) (slots + ms) Q (F0 m (pc + 3) ls (.long r :: rest))) : W p l e R s m args below meth c H locs cells slots Q (F0 m pc ls st0) := by
  intro T hT X
  rcases hr T hT X with ⟨v, st₀, t, T', L, h0, X', hL, e1, e2, ⟨⟨r, u, hv, hp, hb⟩, hF⟩, st⟩ | ⟨q, st₀, t, T', L, E, ce, h0, X', hL, e1, e2, ⟨u, hp, hb, hF⟩, hce, hcv, hcl, st⟩
  · cases hv
    obtain ⟨k1, k2, k3⟩ := vx_keep h0 e1 hS hA hf hL hF
    obtain ⟨t2, a1, b1⟩ := kk r u t T'.heap (locs ++ L) e1.symm (by rw [← e2]; exact X'.warmed.alike) hp hb k1 k2 k3 T' rfl X'
    exact ⟨t2, st t2 a1, b1⟩
  · obtain ⟨k1, k2, k3⟩ := vx_keep h0 e1 hS hAX hf hL hF
    obtain ⟨t2, a1, b1⟩ := kx E ce q u t T'.heap (locs ++ L) e1.symm (by rw [← e2]; exact X'.warmed.alike) hp hb k1 k2 k3 (by rw [e1]; exact hce) hcv hcl T' rfl X'
    exact ⟨t2, st.trans a1, b1⟩
theorem vx_callf {S SX : Type} {post : UInt32 → S → Prop} {px : SX → Prop} {B : S → State → Prop} {BX : String → SX → State → Prop} {AX : Nat → Prop} (hr : vx_Run p l e R s m args below meth c H locs cells slots mc ms (F0 m pc ls st0) rest (va_Qf post B A1 a) (vx_X px BX AX) free) (hS : va_S A0 H0 H locs) (hA : ∀ q, q < H.size → A1 q → A0 q) (hf : ∀ q, free q → A0 q) (hAX : ∀ q, q < H.size → AX q → A0 q)
    (kx : ∀ (E : String) (ce : Cell) (q9 : Addr) (u : SX) (t : State) (H1 : Heap) (locs1 : List Loc), t.heap = H1 → s.vm.Alike t.vm → px u → BX E u t → H.size ≤ H1.size → (∀ q : Nat, q < H.size → ¬ AX q → H1[q]? = H[q]?) → va_S A0 H0 H1 locs1 → H1[q9]? = some ce → ce.vm = .none → s.vm.findClass E = some ce.cls → vx_W p l e R s m args below meth c H1 locs1 (cells + mc) (slots + ms) Q (F0 m pc ls rest) q9)
    (kk : ∀ (r : UInt32) (u : S) (t : State) (H1 : Heap) (locs1 : List Loc), t.heap = H1 → s.vm.Alike t.vm → post r u → B u t → H.size ≤ H1.size → (∀ q : Nat, q < H.size → ¬ A1 q → H1[q]? = H[q]?) → va_S A0 H0 H1 locs1 → W p l e R s m args below meth c H1 locs1 (cells + mc) (slots + ms) Q (F0 m (pc + 3) ls (.float r :: rest))) : W p l e R s m args below meth c H locs cells slots Q (F0 m pc ls st0) := by
  intro T hT X
  rcases hr T hT X with ⟨v, st₀, t, T', L, h0, X', hL, e1, e2, ⟨⟨r, u, hv, hp, hb⟩, hF⟩, st⟩ | ⟨q, st₀, t, T', L, E, ce, h0, X', hL, e1, e2, ⟨u, hp, hb, hF⟩, hce, hcv, hcl, st⟩
  · cases hv
    obtain ⟨k1, k2, k3⟩ := vx_keep h0 e1 hS hA hf hL hF
    obtain ⟨t2, a1, b1⟩ := kk r u t T'.heap (locs ++ L) e1.symm (by rw [← e2]; exact X'.warmed.alike) hp hb k1 k2 k3 T' rfl X'
    exact ⟨t2, st t2 a1, b1⟩
  · obtain ⟨k1, k2, k3⟩ := vx_keep h0 e1 hS hAX hf hL hF
    obtain ⟨t2, a1, b1⟩ := kx E ce q u t T'.heap (locs ++ L) e1.symm (by rw [← e2]; exact X'.warmed.alike) hp hb k1 k2 k3 (by rw [e1]; exact hce) hcv hcl T' rfl X'
    exact ⟨t2, st.trans a1, b1⟩
theorem vx_calld {S SX : Type} {post : UInt64 → S → Prop} {px : SX → Prop} {B : S → State → Prop} {BX : String → SX → State → Prop} {AX : Nat → Prop} (hr : vx_Run p l e R s m args below meth c H locs cells slots mc ms (F0 m pc ls st0) rest (va_Qd post B A1 a) (vx_X px BX AX) free) (hS : va_S A0 H0 H locs) (hA : ∀ q, q < H.size → A1 q → A0 q) (hf : ∀ q, free q → A0 q) (hAX : ∀ q, q < H.size → AX q → A0 q)
    (kx : ∀ (E : String) (ce : Cell) (q9 : Addr) (u : SX) (t : State) (H1 : Heap) (locs1 : List Loc), t.heap = H1 → s.vm.Alike t.vm → px u → BX E u t → H.size ≤ H1.size → (∀ q : Nat, q < H.size → ¬ AX q → H1[q]? = H[q]?) → va_S A0 H0 H1 locs1 → H1[q9]? = some ce → ce.vm = .none → s.vm.findClass E = some ce.cls → vx_W p l e R s m args below meth c H1 locs1 (cells + mc) (slots + ms) Q (F0 m pc ls rest) q9)
    (kk : ∀ (r : UInt64) (u : S) (t : State) (H1 : Heap) (locs1 : List Loc), t.heap = H1 → s.vm.Alike t.vm → post r u → B u t → H.size ≤ H1.size → (∀ q : Nat, q < H.size → ¬ A1 q → H1[q]? = H[q]?) → va_S A0 H0 H1 locs1 → W p l e R s m args below meth c H1 locs1 (cells + mc) (slots + ms) Q (F0 m (pc + 3) ls (.double r :: rest))) : W p l e R s m args below meth c H locs cells slots Q (F0 m pc ls st0) := by
  intro T hT X
  rcases hr T hT X with ⟨v, st₀, t, T', L, h0, X', hL, e1, e2, ⟨⟨r, u, hv, hp, hb⟩, hF⟩, st⟩ | ⟨q, st₀, t, T', L, E, ce, h0, X', hL, e1, e2, ⟨u, hp, hb, hF⟩, hce, hcv, hcl, st⟩
  · cases hv
    obtain ⟨k1, k2, k3⟩ := vx_keep h0 e1 hS hA hf hL hF
    obtain ⟨t2, a1, b1⟩ := kk r u t T'.heap (locs ++ L) e1.symm (by rw [← e2]; exact X'.warmed.alike) hp hb k1 k2 k3 T' rfl X'
    exact ⟨t2, st t2 a1, b1⟩
  · obtain ⟨k1, k2, k3⟩ := vx_keep h0 e1 hS hAX hf hL hF
    obtain ⟨t2, a1, b1⟩ := kx E ce q u t T'.heap (locs ++ L) e1.symm (by rw [← e2]; exact X'.warmed.alike) hp hb k1 k2 k3 (by rw [e1]; exact hce) hcv hcl T' rfl X'
    exact ⟨t2, st.trans a1, b1⟩
theorem vx_callv {S SX : Type} {post : S → Prop} {px : SX → Prop} {B : S → State → Prop} {BX : String → SX → State → Prop} {AX : Nat → Prop} (hr : vx_Run p l e R s m args below meth c H locs cells slots mc ms (F0 m pc ls st0) rest (va_Qv post B A1 a) (vx_X px BX AX) free) (hS : va_S A0 H0 H locs) (hA : ∀ q, q < H.size → A1 q → A0 q) (hf : ∀ q, free q → A0 q) (hAX : ∀ q, q < H.size → AX q → A0 q)
    (kx : ∀ (E : String) (ce : Cell) (q9 : Addr) (u : SX) (t : State) (H1 : Heap) (locs1 : List Loc), t.heap = H1 → s.vm.Alike t.vm → px u → BX E u t → H.size ≤ H1.size → (∀ q : Nat, q < H.size → ¬ AX q → H1[q]? = H[q]?) → va_S A0 H0 H1 locs1 → H1[q9]? = some ce → ce.vm = .none → s.vm.findClass E = some ce.cls → vx_W p l e R s m args below meth c H1 locs1 (cells + mc) (slots + ms) Q (F0 m pc ls rest) q9)
    (kk : ∀ (u : S) (t : State) (H1 : Heap) (locs1 : List Loc), t.heap = H1 → s.vm.Alike t.vm → post u → B u t → H.size ≤ H1.size → (∀ q : Nat, q < H.size → ¬ A1 q → H1[q]? = H[q]?) → va_S A0 H0 H1 locs1 → W p l e R s m args below meth c H1 locs1 (cells + mc) (slots + ms) Q (F0 m (pc + 3) ls (rest))) : W p l e R s m args below meth c H locs cells slots Q (F0 m pc ls st0) := by
  intro T hT X
  rcases hr T hT X with ⟨v, st₀, t, T', L, h0, X', hL, e1, e2, ⟨⟨u, hv, hp, hb⟩, hF⟩, st⟩ | ⟨q, st₀, t, T', L, E, ce, h0, X', hL, e1, e2, ⟨u, hp, hb, hF⟩, hce, hcv, hcl, st⟩
  · cases hv
    obtain ⟨k1, k2, k3⟩ := vx_keep h0 e1 hS hA hf hL hF
    obtain ⟨t2, a1, b1⟩ := kk u t T'.heap (locs ++ L) e1.symm (by rw [← e2]; exact X'.warmed.alike) hp hb k1 k2 k3 T' rfl X'
    exact ⟨t2, st t2 a1, b1⟩
  · obtain ⟨k1, k2, k3⟩ := vx_keep h0 e1 hS hAX hf hL hF
    obtain ⟨t2, a1, b1⟩ := kx E ce q u t T'.heap (locs ++ L) e1.symm (by rw [← e2]; exact X'.warmed.alike) hp hb k1 k2 k3 (by rw [e1]; exact hce) hcv hcl T' rfl X'
    exact ⟨t2, st.trans a1, b1⟩
/-- caught by the row x of this method's table; the rows ahead don't take it -/
theorem vx_catch {own name : String} {E : String} {ce : Cell} {q : Addr} (hown : s.vm.findClass own = some m.cls) (pre : List ExceptionTableEntry) (x : ExceptionTableEntry) (suf : List ExceptionTableEntry) (hsplit : c.exceptionTable.toList = pre ++ x :: suf)
    (hpass : ∀ z ∈ pre, covers z pc = false ∨ (z.catchType ≠ 0 ∧ ∃ nm : String, (Cond.classLink own z.catchType nm).before args s = true ∧ va_Nc E nm s)) (hx : covers x pc = true) (h0 : x.catchType ≠ 0)
    (hlink : (Cond.classLink own x.catchType name).before args s = true) (hcast : (Cond.castable E name).before args s = true) (hcell : H[q]? = some ce) (hv : ce.vm = .none) (hcl : s.vm.findClass E = some ce.cls)
    (kk : W p l e R s m args below meth c H locs cells slots Q (F0 m x.handlerPc ls [.ref q])) : vx_W p l e R s m args below meth c H locs cells slots Q (F0 m pc ls rest) q := by
  intro T hT X
  have hpl : e.platform.magicAccessors = ({} : Platform).magicAccessors := by rw [X.admits.platform]
  obtain ⟨c3, c4, hc3, hc4, hasg⟩ := Cond.castable_spec hcast
  cases Option.some.inj (hc3.symm.trans hcl)
  obtain ⟨c5, hc5, hcl5⟩ := Cond.classLink_spec hown hlink e.platform hpl
  cases Option.some.inj (hc4.symm.trans hc5)
  obtain ⟨vm', X', st⟩ := X.thenCaughtThrough q (g := F0 m pc ls rest) rfl (Steps.refl _) (by rw [hT]; exact hcell) (by rw [hv]; rfl) (by obtain ⟨k9, h9, -⟩ := Vm.findClass_spec hcl; exact ⟨k9, h9⟩) pre x suf hsplit
    (fun z hz => by
      rcases hpass z hz with h | ⟨hz0, nm, hl1, hn1⟩
      · exact Or.inl h
      · obtain ⟨c6, hc6, hcl6⟩ := Cond.classLink_spec hown hl1 e.platform hpl
        obtain ⟨a8, b8, h1, h2, h3⟩ := hn1
        cases Option.some.inj (h1.symm.trans hcl)
        cases Option.some.inj (h2.symm.trans hc6)
        exact Or.inr ⟨hz0, _, hcl6, h3⟩) hx (Or.inr ⟨h0, c4, hcl5, hasg⟩)
  obtain ⟨t, a1, b1⟩ := kk (T.setVm vm') hT X'
  exact ⟨t, st.trans a1, b1⟩
end Rows
section Ends
variable {p : Program} {l : Launch} {e : Env} {R : Room} {s : State} {m : MethodId} {args : Array Value} {below : List Frame} {meth : Method} {c : Code} {H : Heap} {locs : List Loc} {cells slots : Nat} {Q : State → Prop}
variable {mc ms : Nat} {free : Addr → Prop} {A0 A1 : Nat → Prop} {H0 : Heap} {a : Array Value} {ls : Array Slot} {st0 rest : List Value}
variable {Qc : Array Value → State → Outcome → State → Prop} {XC : String → State → State → Prop}
/-- what a body that may throw owes at its end -/
def vx_MQ (below : List Frame) (Qc : Array Value → State → Outcome → State → Prop) (XC : String → State → State → Prop) (a : Array Value) (s : State) (mc ms : Nat) (free : Addr → Prop) : State → Prop := fun t =>
  ∃ o, t.status = .running ∧ Ended t below o ∧ vx_Q Qc XC mc ms free a s o t
theorem vx_ret {g : JFrame} {mc ms : Nat} (k : W p l e R s m args below meth c H locs cells slots (MQ below Qc args s mc ms free) g) : W p l e R s m args below meth c H locs cells slots (vx_MQ below Qc XC args s mc ms free) g := by
  intro T hT X
  obtain ⟨t, a1, o, b1, b2, b3, b4⟩ := k T hT X
  exact ⟨t, a1, o, b1, b2, Or.inl ⟨b3, b4⟩⟩
/-- not caught here: it goes on to the caller -/
theorem vx_widen {g : JFrame} {q : Addr} {k n : Nat} (h1 : cells ≤ k) (h2 : slots ≤ n) (kk : vx_W p l e R s m args below meth c H locs k n Q g q) : vx_W p l e R s m args below meth c H locs cells slots Q g q := fun T hT X => kk T hT (stand_widen X h1 h2)
theorem vx_out {pc : Nat} {E : String} {ce : Cell} {q : Addr} {mc ms : Nat} (hout : ∀ x ∈ c.exceptionTable.toList, covers x pc = false) (hlocks : meth.locks = false) (hcell : H[q]? = some ce) (hv : ce.vm = .none) (hcl : s.vm.findClass E = some ce.cls)
    (hx : ∀ t : State, t.heap = H → s.vm.Alike t.vm → XC E s t) (hf : ∀ z ∈ locs, free z.base) (hc : cells ≤ mc) (hs : slots ≤ ms) :
    vx_W p l e R s m args below meth c H locs cells slots (vx_MQ below Qc XC args s mc ms free) (F0 m pc ls rest) q := by
  intro T hT X
  obtain ⟨st1, hrun, hend, hW, hsm⟩ := X.leaveThrown q (g := F0 m pc ls rest) rfl rfl rfl hout hlocks
  have hcell9 : (T.setFrames (.throwing q :: below)).heap[q]? = some ce := by
    show T.heap[q]? = some ce
    rw [hT]; exact hcell
  exact ⟨_, st1, .threw q, hrun, hend, Or.inr ⟨q, rfl, E, ce, locs, hx _ hT hW.alike, hcell9, hv, hcl, hW, hsm.mono hc hs, hf⟩⟩
theorem vx_frame {U : State} {k n : Nat} (h : s.sameButNew ({ U with vm := s.vm } : State) locs k n) : s.heap.size ≤ U.heap.size ∧ ∀ q : Nat, q < s.heap.size → (∀ z ∈ locs, z.base ≠ q) → U.heap[q]? = s.heap[q]? := by
  obtain ⟨-, h2, -, -, -, h6⟩ := h
  refine ⟨h2, fun q hq hz => ?_⟩
  obtain ⟨c9, e1, e2, e3, e4⟩ := h6 q _ (Array.getElem?_eq_getElem hq)
  have hs : c9.slots = (s.heap[q]).slots := Array.ext_getElem? fun i => e4 i fun hm => hz _ hm rfl
  have h9 : c9 = s.heap[q] := by
    rw [hs] at e2
    exact e2
  have e5 : U.heap[q]? = some c9 := e1
  rw [e5, h9, Array.getElem?_eq_getElem hq]
/-- the words of a throw but the four that speak of the heap -/
def vx_no (w : Cond) : Bool := decide (w ≠ .isRef (.static Bundle.tN "UNASSIGNED_STACK" Bundle.steD)) && decide (w ≠ .isRef (.static Bundle.tN "SUPPRESSED_SENTINEL" Bundle.listD)) && decide (w ≠ .laysStatic Bundle.tN "UNASSIGNED_STACK" Bundle.steD) && decide (w ≠ .laysStatic Bundle.tN "SUPPRESSED_SENTINEL" Bundle.listD)
def vx_at0 (own : String) (ic : Nat) (X : String) (names : List String) : List Cond := (Bundle.ownAtoms0 own ic X names).filter vx_no
def vx_atS (own : String) (ic : Nat) (X : String) (names : List String) : List Cond := (Bundle.ownAtoms own ic X names).filter vx_no
/-- a word that the tables alone decide, or a good one -/
def vx_ot (w : Cond) : Bool := w.onTables || goodWord w
theorem vx_ot_at {args a' : Array Value} {s U : State} {w : Cond} (hW : s.WarmedH U.vm) (hvm : s.vm = U.vm) (hg : vx_ot w = true) (h : w.before args s = true) : w.before a' U = true := by
  simp only [vx_ot, Bool.or_eq_true] at hg
  rcases hg with hg | hg
  · exact va_tabs hg hvm h
  · exact word_at hW (good_of_word hg) h
/-- a list's words: the good ones out of the method's own list, the others by premises of their own -/
theorem vx_hat {args : Array Value} {s : State} {L B : List Cond} (h1 : ∀ w ∈ L.filter goodWord, w.before args s = true) (h2 : ∀ w ∈ L.filter (fun w => !goodWord w), w ∈ B) (h3 : ∀ w ∈ B, w.before args s = true) : ∀ w ∈ L, w.before args s = true := by
  intro w hw
  by_cases g : goodWord w = true
  · exact h1 w (List.mem_filter.mpr ⟨hw, g⟩)
  · refine h3 w (h2 w (List.mem_filter.mpr ⟨hw, ?_⟩))
    show (!goodWord w) = true
    cases hgw : goodWord w
    · rfl
    · exact absurd hgw g
theorem vx_c {args : Array Value} {s : State} {w : Cond} {B : List Cond} (h : w.before args s = true) (t : ∀ w ∈ B, w.before args s = true) : ∀ w' ∈ w :: B, w'.before args s = true := fun w' h' => (List.mem_cons.mp h').elim (fun e => by rw [e]; exact h) (t w')
theorem vx_n {args : Array Value} {s : State} : ∀ w ∈ ([] : List Cond), w.before args s = true := fun _ h => nomatch h
theorem vx_own {args : Array Value} {s : State} {L : List Cond} (h1 : ∀ w ∈ L.filter vx_no, w.before args s = true)
    (hU : (Cond.isRef (.static Bundle.tN "UNASSIGNED_STACK" Bundle.steD)).before args s = true) (hN : (Cond.isRef (.static Bundle.tN "SUPPRESSED_SENTINEL" Bundle.listD)).before args s = true)
    (lU : (Cond.laysStatic Bundle.tN "UNASSIGNED_STACK" Bundle.steD).before args s = true) (lN : (Cond.laysStatic Bundle.tN "SUPPRESSED_SENTINEL" Bundle.listD).before args s = true) : ∀ w ∈ L, w.before args s = true := by
  intro w hw
  by_cases e1 : w = .isRef (.static Bundle.tN "UNASSIGNED_STACK" Bundle.steD)
  · rw [e1]; exact hU
  · by_cases e2 : w = .isRef (.static Bundle.tN "SUPPRESSED_SENTINEL" Bundle.listD)
    · rw [e2]; exact hN
    · by_cases e3 : w = .laysStatic Bundle.tN "UNASSIGNED_STACK" Bundle.steD
      · rw [e3]; exact lU
      · by_cases e4 : w = .laysStatic Bundle.tN "SUPPRESSED_SENTINEL" Bundle.listD
        · rw [e4]; exact lN
        · exact h1 w (List.mem_filter.mpr ⟨hw, by unfold vx_no; rw [decide_eq_true e1, decide_eq_true e2, decide_eq_true e3, decide_eq_true e4]; rfl⟩)
/-- where a static field lies, its class's statics cell in H -/
def vx_L (C n d : String) (A : Nat → Prop) (U : State) (H : Heap) : Prop := ∃ (c : ClassId) (k : Class) (i : Nat) (f : Field) (a : Nat) (cell : Cell), U.vm.findClass C = some c ∧ U.fieldFound? C n d = some (c, k, i, f) ∧ f.isStatic = true ∧ k.statics = some a ∧ H[a]? = some cell ∧ cell.vm.isStatics = true ∧ cell.cls = c ∧ f.slot < cell.slots.size ∧ k.staticTypes[f.slot]? = some f.type ∧ ¬ A a
theorem vx_L.moved {C n d : String} {A : Nat → Prop} {u U : State} {H : Heap} (hvm : u.vm.Alike U.vm) (h : vx_L C n d A u H) : vx_L C n d A U H := by
  obtain ⟨c, k, i, f, a, cell, h1, h2, h3, h4, h5, h6, h7, h8, h9, h10⟩ := h
  obtain ⟨k', hi', he⟩ := State.fieldFound?_setVm hvm h2
  exact ⟨c, k', i, f, a, cell, by rw [hvm.findClass]; exact h1, hi', h3, by rw [he]; exact h4, h5, h6, h7, h8, by rw [he]; exact h9, h10⟩
theorem vx_L.kept {C n d : String} {A : Nat → Prop} {U : State} {H H1 : Heap} (h : vx_L C n d A U H) (hq : ∀ a : Nat, a < H.size → ¬ A a → H1[a]? = H[a]?) : vx_L C n d A U H1 := by
  obtain ⟨c, k, i, f, a, cell, h1, h2, h3, h4, h5, h6, h7, h8, h9, h10⟩ := h
  exact ⟨c, k, i, f, a, cell, h1, h2, h3, h4, by rw [hq a (Array.getElem?_eq_some_iff.mp h5).1 h10]; exact h5, h6, h7, h8, h9, h10⟩
theorem vx_L.narrow {C n d : String} {A B : Nat → Prop} {U : State} {H : Heap} (h : vx_L C n d A U H) (hAB : ∀ q, B q → A q) : vx_L C n d B U H := by
  obtain ⟨c, k, i, f, a, cell, h1, h2, h3, h4, h5, h6, h7, h8, h9, h10⟩ := h
  exact ⟨c, k, i, f, a, cell, h1, h2, h3, h4, h5, h6, h7, h8, h9, fun z => h10 (hAB _ z)⟩
theorem vx_L.word {C n d : String} {A : Nat → Prop} {s : State} {args : Array Value} (h : vx_L C n d A s s.heap) : (Cond.laysStatic C n d).before args s = true := by
  obtain ⟨c, k, i, f, a, cell, h1, h2, h3, h4, h5, h6, h7, h8, h9, -⟩ := h
  show (Cond.laysStatic C n d).holds args s none s [] = true
  exact Cond.laysStatic_of h1 h2 h3 h4 h5 h6 h7 h8 h9
/-- .. and what it holds: null or some reference -/
def vx_Zq (C n d : String) (A : Nat → Prop) (U : State) (H : Heap) : Prop := va_Zq C n d A U H ∧ vx_L C n d A U H
theorem vx_Zq.moved {C n d : String} {A : Nat → Prop} {u U : State} {H : Heap} (hvm : u.vm.Alike U.vm) (h : vx_Zq C n d A u H) : vx_Zq C n d A U H := ⟨va_Zq.moved hvm h.1, vx_L.moved hvm h.2⟩
theorem vx_Zq.kept {C n d : String} {A : Nat → Prop} {U : State} {H H1 : Heap} (h : vx_Zq C n d A U H) (hq : ∀ a : Nat, a < H.size → ¬ A a → H1[a]? = H[a]?) : vx_Zq C n d A U H1 := ⟨va_Zq.kept h.1 hq, vx_L.kept h.2 hq⟩
theorem vx_Zq.narrow {C n d : String} {A B : Nat → Prop} {U : State} {H : Heap} (h : vx_Zq C n d A U H) (hAB : ∀ q, B q → A q) : vx_Zq C n d B U H := ⟨va_Zq.narrow h.1 hAB, vx_L.narrow h.2 hAB⟩
theorem vx_Zqof {args : Array Value} {s : State} {C n d : String} {A : Nat → Prop} (hl : (Cond.laysStatic C n d).before args s = true) (hini : (Cond.initialized C).before args s = true) (h : (Cond.isRef (.static C n d)).before args s = true) (hA : ∀ a : Nat, a < s.heap.size → ¬ A a) : vx_Zq C n d A s s.heap := by
  refine ⟨va_Zqof hl hini h hA, ?_⟩
  obtain ⟨c, k, i, f, a, cell, h1, h2, h3, h4, h5, h6, h7, h8, h9⟩ := Cond.laysStatic_spec hl
  exact ⟨c, k, i, f, a, cell, h1, h2, h3, h4, h5, h6, h7, h8, h9, hA a (Array.getElem?_eq_some_iff.mp h5).1⟩
theorem vx_isRef {C n d : String} {v : Value} {A : Nat → Prop} {s : State} {args : Array Value} (h : va_Z C n d v A s s.heap) (hv : v.isRef = true) : (Cond.isRef (.static C n d)).before args s = true := by
  obtain ⟨cf, kf, fi, f, a, cell, h1, h2, h3, h4, h5, h6, h7, -⟩ := h
  have he : (Term.static C n d).eval args s none [] s = some v := by
    simp [Term.eval, State.fieldNamed?, h1, h2, h4, h5, h6, h7]
  simp only [Cond.before, Cond.holds, Cond.value, he]
  cases v <;> simp_all [Value.isRef]
theorem vx_isRefq {C n d : String} {A : Nat → Prop} {s : State} {args : Array Value} (h : va_Zq C n d A s s.heap) : (Cond.isRef (.static C n d)).before args s = true := by
  rcases h with h | ⟨t, h⟩
  · exact vx_isRef h rfl
  · exact vx_isRef h rfl
/-- the same frame, seen from here: as if the method were called anew in this heap -/
theorem vx_rebase {T : State} (X : Stand p l e R s m args below meth c T locs cells slots) {R' : Room} (hf : R'.frames ≤ R.frames) (hl : R'.locals ≤ R.locals) (hc : cells + R'.cells ≤ R.cells) (hs : slots + R'.slots ≤ R.slots) :
    Stand p l e R' ((T.setVm s.vm).setFrames (.invoking m args :: below)) m args below meth c T [] 0 0 := by
  have htop : (T.setVm s.vm).topJava?.isSome := X.here.top
  have hF : ((T.setVm s.vm).setFrames (.invoking m args :: below)).frames = .invoking m args :: below := State.frames_setFrames _ (State.cur_lt_of_top htop)
  obtain ⟨g₀, hg0⟩ := Option.isSome_iff_exists.mp htop
  obtain ⟨r, hr⟩ := State.topJava?_eq_some.mp hg0
  have hl9 : e.platform.stackLimits (T.setVm s.vm).me = e.platform.stackLimits s.me := X.limits
  have hb9 : (T.setVm s.vm).me.stackBytes = s.me.stackBytes := X.bytes
  refine ⟨X.admits, X.cas, X.clock, hF, ?_, X.hears, X.method, X.code, X.here, X.tail, X.warmed, ?_, ?_, ?_⟩
  · have h := X.room
    have hU : ((T.setVm s.vm).setFrames (.invoking m args :: below)).localsInUse = s.localsInUse := by
      rw [State.localsInUse_invoking hF (meth := meth) (c := c) X.method X.code, State.localsInUse_invoking X.frames X.method X.code]
    simp only [State.hasRoom, Bool.and_eq_true, decide_eq_true_eq] at h ⊢
    obtain ⟨⟨⟨⟨h1, h2, h3, h4, h5, h6⟩, h7⟩, h8⟩, h9⟩ := h
    rw [X.frames, List.length_cons] at h2 h3
    have q1 := X.heapSize
    have q2 := X.used
    simp only [hF, hU, List.length_cons, State.stackLimits_setFrames, State.stackBytes_setFrames, hl9, hb9]
    refine ⟨⟨⟨⟨by omega, by omega, by omega, by omega, by omega, h6⟩, ?_⟩, ?_⟩, X.book⟩
    · show T.heap.size + R'.cells ≤ e.platform.maxCells
      omega
    · show T.slotsUsed + R'.slots ≤ e.platform.maxSlots
      omega
  · rw [State.stackLimits_setFrames]; rfl
  · rw [State.stackBytes_setFrames]; rfl
  · refine ⟨?_, Nat.le_refl _, Nat.le_refl _, ?_, ?_, fun a c9 h9 => ⟨c9, h9, rfl, rfl, fun _ _ => rfl⟩⟩
    · obtain ⟨t, ht, -⟩ := State.frames_cons hr
      show T.setVm s.vm = { ((T.setVm s.vm).setFrames (.invoking m args :: below)).setFrames (T.setVm s.vm).frames with heap := T.heap, slotsUsed := T.slotsUsed }
      rw [State.setFrames_setFrames, State.setFrames_self ht]
      rfl
    · show T.slotsUsed = T.slotsUsed + ((T.heap.toList.drop T.heap.size).map (·.slots.size)).sum
      rw [List.drop_eq_nil_of_le (Nat.le_of_eq Array.length_toList)]
      rfl
    · show ((T.heap.toList.drop T.heap.size).map (·.slots.size)).sum ≤ 0
      rw [List.drop_eq_nil_of_le (Nat.le_of_eq Array.length_toList)]
      exact Nat.le_refl _
/-- 'throw new E()': new; dup; invokespecial; athrow -/
theorem vx_throw0 {cc : ByteArray} {pc : Nat} (hexec : p.tables.exec = Jvm.exec) (hb : c.code = cc) (hl : l.stackTraces = false) {own cls : String} {names : List String} {ik ic mc ms : Nat} {A : Nat → Prop}
    (hown : s.vm.findClass own = some m.cls) (hcls : Bundle.fit cls = true) (hnames : ∀ n ∈ names, Bundle.fit n = true)
    (hk : (Cond.classLink own ik cls).before args s = true) (hini : (Cond.initialized cls).before args s = true) (hat : ∀ w ∈ vx_at0 own ic cls names, w.before args s = true)
    (hgood : ∀ w ∈ Cond.classLink own ik cls :: Cond.initialized cls :: vx_at0 own ic cls names, vx_ot w = true)
    (hU : vx_Zq Bundle.tN "UNASSIGNED_STACK" Bundle.steD A s s.heap) (hN : vx_Zq Bundle.tN "SUPPRESSED_SENTINEL" Bundle.listD A s s.heap) (hS : va_S A s.heap H locs) (hsize : ls.size = c.maxLocals)
    (d0 : decode cc pc = .ok (.new ik, 3)) (d3 : decode cc (pc + 3) = .ok (.dup, 1)) (d4 : decode cc (pc + 4) = .ok (.invokespecial ic, 3)) (d7 : decode cc (pc + 7) = .ok (.athrow, 1))
    (hout : ∀ x ∈ c.exceptionTable.toList, covers x (pc + 7) = false)
    (hRframes : names.length + 3 < R.frames) (hRlocals : (rest.map fun v => v.category).sum + (13 * (names.length + 1) + 42) ≤ R.locals) (hRcells : cells + 1 ≤ R.cells) (hRslots : slots + 6 ≤ R.slots) (hlocks : meth.locks = false)
    (hx : ∀ t : State, s.vm.Alike t.vm → H.size ≤ t.heap.size → (∀ q : Nat, q < H.size → t.heap[q]? = H[q]?) → XC cls s t)
    (hf : ∀ z ∈ locs, free z.base) (hc : cells + 1 ≤ mc) (hs : slots + 6 ≤ ms) :
    W p l e R s m args below meth c H locs cells slots (vx_MQ below Qc XC args s mc ms free) (F0 m pc ls rest) := by
  intro T hT X
  have htr : e.platform.stackTraces = false := (show e.platform.stackTraces = l.stackTraces by rw [X.admits.platform]).trans hl
  have Y := vx_rebase X (R' := { frames := R.frames, locals := R.locals, cells := 1, slots := 6 }) (Nat.le_refl _) (Nat.le_refl _) hRcells hRslots
  obtain ⟨s', hA⟩ : ∃ z, z = (T.setVm s.vm).setFrames (.invoking m args :: below) := ⟨_, rfl⟩
  rw [← hA] at Y
  have hvm : s'.vm = s.vm := by rw [hA]; rfl
  have hhp : s'.heap = H := by rw [hA]; exact hT
  have hW0 : s.WarmedH s'.vm := by rw [hvm]; exact State.WarmedH.refl s
  have hat' : ∀ w ∈ vx_at0 own ic cls names, w.before args s' = true := fun w hw => vx_ot_at hW0 hvm.symm (hgood w (List.mem_cons_of_mem _ (List.mem_cons_of_mem _ hw))) (hat w hw)
  have hk' : (Cond.classLink own ik cls).before args s' = true := vx_ot_at hW0 hvm.symm (hgood _ List.mem_cons_self) hk
  have hini' : (Cond.initialized cls).before args s' = true := vx_ot_at hW0 hvm.symm (hgood _ (List.mem_cons_of_mem _ List.mem_cons_self)) hini
  have hU' : vx_Zq Bundle.tN "UNASSIGNED_STACK" Bundle.steD A s' s'.heap := by rw [hhp]; exact vx_Zq.moved hW0.alike (hU.kept hS.2.1)
  have hN' : vx_Zq Bundle.tN "SUPPRESSED_SENTINEL" Bundle.listD A s' s'.heap := by rw [hhp]; exact vx_Zq.moved hW0.alike (hN.kept hS.2.1)
  have h : ∀ w ∈ Bundle.ownAtoms0 own ic cls names, w.before args s' = true := vx_own hat' (vx_isRefq hU'.1) (vx_isRefq hN'.1) hU'.2.word hN'.2.word
  have hown' : s'.vm.findClass own = some m.cls := by rw [hvm]; exact hown
  have hins : (Cond.instantiable cls 6).before args s' = true := h _ (by simp [Bundle.ownAtoms0])
  obtain ⟨vm₁, cX, kX, hfX, hkX, -, -, X₁, st1⟩ := Y.newCold hexec (own := own) (C := cls) (index := ik) (n := 6) hown' hk' hins hini'
    (g := F0 m pc ls rest) rfl (by rw [hb]; exact d0) (Nat.le_refl _) (Nat.le_refl _)
  generalize hT1 : (T.setVm vm₁).pushCell { cls := cX, slots := kX.instanceTypes.map defaultValue, vm := .none } = T1 at X₁ st1
  have hcat : (Value.ref T.heap.size).category = 1 := rfl
  have hcellA : T1.heap[T.heap.size]? = some (freshCell cX kX) := by rw [← hT1]; exact State.heap_pushCell_size _ _
  have d3' : decode c.code (pc + 3) = .ok (.dup, 1) := by rw [hb]; exact d3
  obtain ⟨U, hsteps, hrun, hend, hW, hsame, ce, hce, hO⟩ := X₁.ctorThrow0 hexec htr (own := own) (cls := cls) (names := names) (ic := ic) hown' hcls hnames h (fun x hx => nomatch hx) hfX hkX hcellA (by rw [hhp, hT]; exact Nat.le_refl _)
    (g := { method := m, pc := pc + 4, locals := ls, stack := .ref T.heap.size :: .ref T.heap.size :: rest, locked := none }) rfl hsize rfl rfl (rest := rest) rfl
    (by rw [hb]; exact d4) (by rw [hb]; exact d7) hout hRframes (by simp only [List.map_cons, List.sum_cons, hcat]; omega) hlocks
  obtain ⟨f1, f2⟩ := vx_frame hsame
  rw [hhp] at f1 f2
  have hWs : s.WarmedH U.vm := State.WarmedH.trans hW0 hW
  have hcl : s.vm.findClass cls = some ce.cls := by
    have h9 := hO.cls
    rw [hvm] at h9
    exact h9
  have hall : s.sameButNew ({ U with vm := s.vm } : State) locs mc ms := by
    subst hA
    obtain ⟨e1, e2⟩ := hsame
    rw [State.setFrames_setFrames] at e1
    have h2 : (T.setVm s.vm).sameButNew ({ U with vm := s.vm } : State) [] (0 + 1) (0 + 6) := ⟨e1, e2⟩
    have h3 := X.same.trans h2
    rw [List.append_nil] at h3
    exact h3.mono hc hs
  refine ⟨U, ?_, .threw T.heap.size, hrun, hend, Or.inr ⟨T.heap.size, rfl, cls, ce, locs, hx U hWs.alike f1 (fun q hq => f2 q hq (fun z hz => nomatch hz)), hce, hO.vm, hcl, hWs, hall, hf⟩⟩
  refine st1 _ ?_
  show Steps p.tables e below (T1.setTop { method := m, pc := pc + 3, locals := ls, stack := .ref T.heap.size :: rest, locked := none }) _
  jvm_step X₁.here [X₁.here.top, hexec, d3', Value.category]
  exact hsteps
/-- 'throw new E("text")': new; dup; ldc; invokespecial; athrow -/
theorem vx_throwS {cc : ByteArray} {pc : Nat} (hexec : p.tables.exec = Jvm.exec) (hb : c.code = cc) (hl : l.stackTraces = false) {own cls text : String} {names : List String} {ik is ic mc ms sa : Nat} {A : Nat → Prop}
    (hown : s.vm.findClass own = some m.cls) (hcls : Bundle.fit cls = true) (hnames : ∀ n ∈ names, Bundle.fit n = true)
    (hk : (Cond.classLink own ik cls).before args s = true) (hini : (Cond.initialized cls).before args s = true) (hstr : vk_R own is text sa s) (hat : ∀ w ∈ vx_atS own ic cls names, w.before args s = true)
    (hgood : ∀ w ∈ Cond.classLink own ik cls :: Cond.initialized cls :: vx_atS own ic cls names, vx_ot w = true)
    (hU : vx_Zq Bundle.tN "UNASSIGNED_STACK" Bundle.steD A s s.heap) (hN : vx_Zq Bundle.tN "SUPPRESSED_SENTINEL" Bundle.listD A s s.heap) (hS : va_S A s.heap H locs) (hsize : ls.size = c.maxLocals)
    (d0 : decode cc pc = .ok (.new ik, 3)) (d3 : decode cc (pc + 3) = .ok (.dup, 1)) (d4 : decode cc (pc + 4) = .ok (.ldc is, 2)) (d6 : decode cc (pc + 6) = .ok (.invokespecial ic, 3)) (d9 : decode cc (pc + 9) = .ok (.athrow, 1))
    (hout : ∀ x ∈ c.exceptionTable.toList, covers x (pc + 9) = false)
    (hRframes : names.length + 3 < R.frames) (hRlocals : (rest.map fun v => v.category).sum + (13 * (names.length + 1) + 43) ≤ R.locals) (hRcells : cells + 1 ≤ R.cells) (hRslots : slots + 6 ≤ R.slots) (hlocks : meth.locks = false)
    (hx : ∀ t : State, s.vm.Alike t.vm → H.size ≤ t.heap.size → (∀ q : Nat, q < H.size → t.heap[q]? = H[q]?) → XC cls s t)
    (hf : ∀ z ∈ locs, free z.base) (hc : cells + 1 ≤ mc) (hs : slots + 6 ≤ ms) :
    W p l e R s m args below meth c H locs cells slots (vx_MQ below Qc XC args s mc ms free) (F0 m pc ls rest) := by
  intro T hT X
  have htr : e.platform.stackTraces = false := (show e.platform.stackTraces = l.stackTraces by rw [X.admits.platform]).trans hl
  have Y := vx_rebase X (R' := { frames := R.frames, locals := R.locals, cells := 1, slots := 6 }) (Nat.le_refl _) (Nat.le_refl _) hRcells hRslots
  obtain ⟨s', hA⟩ : ∃ z, z = (T.setVm s.vm).setFrames (.invoking m args :: below) := ⟨_, rfl⟩
  rw [← hA] at Y
  have hvm : s'.vm = s.vm := by rw [hA]; rfl
  have hhp : s'.heap = H := by rw [hA]; exact hT
  have hW0 : s.WarmedH s'.vm := by rw [hvm]; exact State.WarmedH.refl s
  have hat' : ∀ w ∈ vx_atS own ic cls names, w.before args s' = true := fun w hw => vx_ot_at hW0 hvm.symm (hgood w (List.mem_cons_of_mem _ (List.mem_cons_of_mem _ hw))) (hat w hw)
  have hk' : (Cond.classLink own ik cls).before args s' = true := vx_ot_at hW0 hvm.symm (hgood _ List.mem_cons_self) hk
  have hini' : (Cond.initialized cls).before args s' = true := vx_ot_at hW0 hvm.symm (hgood _ (List.mem_cons_of_mem _ List.mem_cons_self)) hini
  have hU' : vx_Zq Bundle.tN "UNASSIGNED_STACK" Bundle.steD A s' s'.heap := by rw [hhp]; exact vx_Zq.moved hW0.alike (hU.kept hS.2.1)
  have hN' : vx_Zq Bundle.tN "SUPPRESSED_SENTINEL" Bundle.listD A s' s'.heap := by rw [hhp]; exact vx_Zq.moved hW0.alike (hN.kept hS.2.1)
  have h : ∀ w ∈ Bundle.ownAtoms own ic cls names, w.before args s' = true := vx_own hat' (vx_isRefq hU'.1) (vx_isRefq hN'.1) hU'.2.word hN'.2.word
  have hown' : s'.vm.findClass own = some m.cls := by rw [hvm]; exact hown
  have hins : (Cond.instantiable cls 6).before args s' = true := h _ (by simp [Bundle.ownAtoms])
  obtain ⟨vm₁, cX, kX, hfX, hkX, -, -, X₁, st1⟩ := Y.newCold hexec (own := own) (C := cls) (index := ik) (n := 6) hown' hk' hins hini'
    (g := F0 m pc ls rest) rfl (by rw [hb]; exact d0) (Nat.le_refl _) (Nat.le_refl _)
  generalize hT1 : (T.setVm vm₁).pushCell { cls := cX, slots := kX.instanceTypes.map defaultValue, vm := .none } = T1 at X₁ st1
  have hcat : (Value.ref T.heap.size).category = 1 := rfl
  have hcellA : T1.heap[T.heap.size]? = some (freshCell cX kX) := by rw [← hT1]; exact State.heap_pushCell_size _ _
  have d3' : decode c.code (pc + 3) = .ok (.dup, 1) := by rw [hb]; exact d3
  have d4' : decode c.code (pc + 4) = .ok (.ldc is, 2) := by rw [hb]; exact d4
  have hstr' : vk_R own is text sa s' := vk_R.warm hW0 hstr
  obtain ⟨U, hsteps, hrun, hend, hW, hsame, ce, hce, hO⟩ := X₁.ctorThrowS hexec htr (own := own) (cls := cls) (names := names) (ic := ic) hown' hcls hnames h (fun x hx => nomatch hx) hfX hkX hcellA (by rw [hhp, hT]; exact Nat.le_refl _) (msg := .ref sa) rfl
    (g := { method := m, pc := pc + 6, locals := ls, stack := .ref sa :: .ref T.heap.size :: .ref T.heap.size :: rest, locked := none }) rfl hsize rfl rfl (rest := rest) rfl
    (by rw [hb]; exact d6) (by rw [hb]; exact d9) hout hRframes (by simp only [List.map_cons, List.sum_cons, hcat]; omega) hlocks
  obtain ⟨f1, f2⟩ := vx_frame hsame
  rw [hhp] at f1 f2
  have hWs : s.WarmedH U.vm := State.WarmedH.trans hW0 hW
  have hcl : s.vm.findClass cls = some ce.cls := by
    have h9 := hO.cls
    rw [hvm] at h9
    exact h9
  have hall : s.sameButNew ({ U with vm := s.vm } : State) locs mc ms := by
    subst hA
    obtain ⟨e1, e2⟩ := hsame
    rw [State.setFrames_setFrames] at e1
    have h2 : (T.setVm s.vm).sameButNew ({ U with vm := s.vm } : State) [] (0 + 1) (0 + 6) := ⟨e1, e2⟩
    have h3 := X.same.trans h2
    rw [List.append_nil] at h3
    exact h3.mono hc hs
  refine ⟨U, ?_, .threw T.heap.size, hrun, hend, Or.inr ⟨T.heap.size, rfl, cls, ce, locs, hx U hWs.alike f1 (fun q hq => f2 q hq (fun z hz => nomatch hz)), hce, hO.vm, hcl, hWs, hall, hf⟩⟩
  refine st1 _ ?_
  show Steps p.tables e below (T1.setTop { method := m, pc := pc + 3, locals := ls, stack := .ref T.heap.size :: rest, locked := none }) _
  jvm_step X₁.here [X₁.here.top, hexec, d3', Value.category]
  exact X₁.ldcString hexec (own := own) (text := text) (index := is) (a := sa) hown' hstr'.1 hstr'.2
    (g := { method := m, pc := pc + 4, locals := ls, stack := .ref T.heap.size :: .ref T.heap.size :: rest, locked := none }) rfl d4' _ hsteps
/-- 'throw new E("text")', the text by a wide index -/
theorem vx_throwSW {cc : ByteArray} {pc : Nat} (hexec : p.tables.exec = Jvm.exec) (hb : c.code = cc) (hl : l.stackTraces = false) {own cls text : String} {names : List String} {ik is ic mc ms sa : Nat} {A : Nat → Prop}
    (hown : s.vm.findClass own = some m.cls) (hcls : Bundle.fit cls = true) (hnames : ∀ n ∈ names, Bundle.fit n = true)
    (hk : (Cond.classLink own ik cls).before args s = true) (hini : (Cond.initialized cls).before args s = true) (hstr : vk_R own is text sa s) (hat : ∀ w ∈ vx_atS own ic cls names, w.before args s = true)
    (hgood : ∀ w ∈ Cond.classLink own ik cls :: Cond.initialized cls :: vx_atS own ic cls names, vx_ot w = true)
    (hU : vx_Zq Bundle.tN "UNASSIGNED_STACK" Bundle.steD A s s.heap) (hN : vx_Zq Bundle.tN "SUPPRESSED_SENTINEL" Bundle.listD A s s.heap) (hS : va_S A s.heap H locs) (hsize : ls.size = c.maxLocals)
    (d0 : decode cc pc = .ok (.new ik, 3)) (d3 : decode cc (pc + 3) = .ok (.dup, 1)) (d4 : decode cc (pc + 4) = .ok (.ldc_w is, 3)) (d7 : decode cc (pc + 7) = .ok (.invokespecial ic, 3)) (d10 : decode cc (pc + 10) = .ok (.athrow, 1))
    (hout : ∀ x ∈ c.exceptionTable.toList, covers x (pc + 10) = false)
    (hRframes : names.length + 3 < R.frames) (hRlocals : (rest.map fun v => v.category).sum + (13 * (names.length + 1) + 43) ≤ R.locals) (hRcells : cells + 1 ≤ R.cells) (hRslots : slots + 6 ≤ R.slots) (hlocks : meth.locks = false)
    (hx : ∀ t : State, s.vm.Alike t.vm → H.size ≤ t.heap.size → (∀ q : Nat, q < H.size → t.heap[q]? = H[q]?) → XC cls s t)
    (hf : ∀ z ∈ locs, free z.base) (hc : cells + 1 ≤ mc) (hs : slots + 6 ≤ ms) :
    W p l e R s m args below meth c H locs cells slots (vx_MQ below Qc XC args s mc ms free) (F0 m pc ls rest) := by
  intro T hT X
  have htr : e.platform.stackTraces = false := (show e.platform.stackTraces = l.stackTraces by rw [X.admits.platform]).trans hl
  have Y := vx_rebase X (R' := { frames := R.frames, locals := R.locals, cells := 1, slots := 6 }) (Nat.le_refl _) (Nat.le_refl _) hRcells hRslots
  obtain ⟨s', hA⟩ : ∃ z, z = (T.setVm s.vm).setFrames (.invoking m args :: below) := ⟨_, rfl⟩
  rw [← hA] at Y
  have hvm : s'.vm = s.vm := by rw [hA]; rfl
  have hhp : s'.heap = H := by rw [hA]; exact hT
  have hW0 : s.WarmedH s'.vm := by rw [hvm]; exact State.WarmedH.refl s
  have hat' : ∀ w ∈ vx_atS own ic cls names, w.before args s' = true := fun w hw => vx_ot_at hW0 hvm.symm (hgood w (List.mem_cons_of_mem _ (List.mem_cons_of_mem _ hw))) (hat w hw)
  have hk' : (Cond.classLink own ik cls).before args s' = true := vx_ot_at hW0 hvm.symm (hgood _ List.mem_cons_self) hk
  have hini' : (Cond.initialized cls).before args s' = true := vx_ot_at hW0 hvm.symm (hgood _ (List.mem_cons_of_mem _ List.mem_cons_self)) hini
  have hU' : vx_Zq Bundle.tN "UNASSIGNED_STACK" Bundle.steD A s' s'.heap := by rw [hhp]; exact vx_Zq.moved hW0.alike (hU.kept hS.2.1)
  have hN' : vx_Zq Bundle.tN "SUPPRESSED_SENTINEL" Bundle.listD A s' s'.heap := by rw [hhp]; exact vx_Zq.moved hW0.alike (hN.kept hS.2.1)
  have h : ∀ w ∈ Bundle.ownAtoms own ic cls names, w.before args s' = true := vx_own hat' (vx_isRefq hU'.1) (vx_isRefq hN'.1) hU'.2.word hN'.2.word
  have hown' : s'.vm.findClass own = some m.cls := by rw [hvm]; exact hown
  have hins : (Cond.instantiable cls 6).before args s' = true := h _ (by simp [Bundle.ownAtoms])
  obtain ⟨vm₁, cX, kX, hfX, hkX, -, -, X₁, st1⟩ := Y.newCold hexec (own := own) (C := cls) (index := ik) (n := 6) hown' hk' hins hini'
    (g := F0 m pc ls rest) rfl (by rw [hb]; exact d0) (Nat.le_refl _) (Nat.le_refl _)
  generalize hT1 : (T.setVm vm₁).pushCell { cls := cX, slots := kX.instanceTypes.map defaultValue, vm := .none } = T1 at X₁ st1
  have hcat : (Value.ref T.heap.size).category = 1 := rfl
  have hcellA : T1.heap[T.heap.size]? = some (freshCell cX kX) := by rw [← hT1]; exact State.heap_pushCell_size _ _
  have d3' : decode c.code (pc + 3) = .ok (.dup, 1) := by rw [hb]; exact d3
  have d4' : decode c.code (pc + 4) = .ok (.ldc_w is, 3) := by rw [hb]; exact d4
  have hstr' : vk_R own is text sa s' := vk_R.warm hW0 hstr
  obtain ⟨U, hsteps, hrun, hend, hW, hsame, ce, hce, hO⟩ := X₁.ctorThrowS hexec htr (own := own) (cls := cls) (names := names) (ic := ic) hown' hcls hnames h (fun x hx => nomatch hx) hfX hkX hcellA (by rw [hhp, hT]; exact Nat.le_refl _) (msg := .ref sa) rfl
    (g := { method := m, pc := pc + 7, locals := ls, stack := .ref sa :: .ref T.heap.size :: .ref T.heap.size :: rest, locked := none }) rfl hsize rfl rfl (rest := rest) rfl
    (by rw [hb]; exact d7) (by rw [hb]; exact d10) hout hRframes (by simp only [List.map_cons, List.sum_cons, hcat]; omega) hlocks
  obtain ⟨f1, f2⟩ := vx_frame hsame
  rw [hhp] at f1 f2
  have hWs : s.WarmedH U.vm := State.WarmedH.trans hW0 hW
  have hcl : s.vm.findClass cls = some ce.cls := by
    have h9 := hO.cls
    rw [hvm] at h9
    exact h9
  have hall : s.sameButNew ({ U with vm := s.vm } : State) locs mc ms := by
    subst hA
    obtain ⟨e1, e2⟩ := hsame
    rw [State.setFrames_setFrames] at e1
    have h2 : (T.setVm s.vm).sameButNew ({ U with vm := s.vm } : State) [] (0 + 1) (0 + 6) := ⟨e1, e2⟩
    have h3 := X.same.trans h2
    rw [List.append_nil] at h3
    exact h3.mono hc hs
  refine ⟨U, ?_, .threw T.heap.size, hrun, hend, Or.inr ⟨T.heap.size, rfl, cls, ce, locs, hx U hWs.alike f1 (fun q hq => f2 q hq (fun z hz => nomatch hz)), hce, hO.vm, hcl, hWs, hall, hf⟩⟩
  refine st1 _ ?_
  show Steps p.tables e below (T1.setTop { method := m, pc := pc + 3, locals := ls, stack := .ref T.heap.size :: rest, locked := none }) _
  jvm_step X₁.here [X₁.here.top, hexec, d3', Value.category]
  exact X₁.ldcStringW hexec (own := own) (text := text) (index := is) (a := sa) hown' hstr'.1 hstr'.2
    (g := { method := m, pc := pc + 4, locals := ls, stack := .ref T.heap.size :: .ref T.heap.size :: rest, locked := none }) rfl d4' _ hsteps
end Ends
section Bodies
variable {l : Launch}
theorem vx_ofW {y : MethodName} {ws ws' : List Cond} {rm : Room} {Pc : Array Value → State → Prop} {Qc : Array Value → State → Outcome → State → Prop} {XC : String → State → State → Prop} {mc ms : Nat} {free : Addr → Prop} {cc : ByteArray} {maxL : Nat} {ret : Option FieldType}
    (hy : plainName y.cls = true) (hw : ws = Cond.code y cc maxL ret :: ws')
    (body : ∀ p e s m args below meth c s₁, BodyLoose p l y (headSpec ws rm) cc maxL ret e s m args below meth c s₁ → c.maxLocals = maxL → (∀ x ∈ c.exceptionTable.toList, False) → Pc args s →
      W p l e (headSpec ws rm).room s m args below meth c s.heap [] 0 0 (vx_MQ below Qc XC args s mc ms free) (entryFrame m args maxL)) : vx_Met l y ws rm Pc Qc XC mc ms free := by
  refine MetFree.of_bodyS (code := cc) (maxLocals := maxL) (ret := ret) hy ?_ ?_
  · intro args s m h hn
    obtain ⟨meth, c, h1, h2, h3, h4, h5, h6, -, -⟩ := Cond.code_spec hn (atoms_spec (ws := ws) h _ (by rw [hw]; exact List.mem_cons_self))
    exact ⟨meth, c, h1, h2, h3, h4, h5, h6⟩
  · intro p e s m args below meth c s₁ B hml hP _
    have hh0 : s₁.heap = s.heap := by rw [B.state]; rfl
    have ht : ∀ x ∈ c.exceptionTable.toList, False := by
      obtain ⟨meth9, c9, h1, h2, -, -, -, -, h7, -⟩ := Cond.code_spec B.named (atoms_spec (ws := ws) B.pre _ (by rw [hw]; exact List.mem_cons_self))
      cases Option.some.inj (h1.symm.trans B.method)
      cases Option.some.inj (h2.symm.trans (Stand.of_body B).code)
      intro x hx
      rw [Array.isEmpty_iff.mp h7] at hx
      cases hx
    obtain ⟨t, a1, o, b1, b2, b3⟩ := body p e s m args below meth c s₁ B hml ht hP s₁ hh0 (Stand.of_body B)
    exact ⟨t, o, a1, b1, b2, b3⟩
/-- the table of a body with handlers -/
theorem vx_table {p : Program} {x y : MethodName} {S : Spec} {cc bytes : ByteArray} {maxL maxL' : Nat} {ret ret' : Option FieldType} {e : Env} {s s₁ : State} {m : MethodId} {args : Array Value} {below : List Frame} {meth : Method} {c : Code} {hh : List (Nat × Nat × Nat × Nat)}
    (B : BodyLoose p l y S cc maxL ret e s m args below meth c s₁) (h : (Cond.codeWith y bytes maxL' ret' hh).before args s = true) : c.exceptionTable.toList = tableOf hh := by
  obtain ⟨m9, meth9, c9, hn9, h1, h2, -, -, h6, -⟩ := Cond.codeWith_spec h
  cases Option.some.inj (hn9.symm.trans B.named)
  cases Option.some.inj (h1.symm.trans B.method)
  cases Option.some.inj (h2.symm.trans (Stand.of_body B).code)
  rw [← h6, table_eq]
end Bodies
end VXA
/-! ===== END ===== -/
/-! ===== BEGIN a static call of a method with an exception table ===== -/
section VXS
variable {p : Program} {l : Launch} {e : Env} {R : Room} {s : State} {m : MethodId} {args : Array Value} {below : List Frame} {meth : Method} {c : Code} {T : State} {H : Heap} {locs : List Loc} {cells slots : Nat}
abbrev vx_CSW (R : Room) (s : State) (args : Array Value) (own : String) (index : Nat) (y : MethodName) (bytes : ByteArray) (maxL : Nat) (ret : Option FieldType) (hh : List (Nat × Nat × Nat × Nat)) (ws : List Cond) (rm : Room) (mc ms n : Nat) : Prop :=
  (rm.cells = mc ∧ rm.slots = ms ∧ rm.frames + 1 ≤ R.frames ∧ 8 + (maxL + 11) + rm.locals ≤ R.locals ∧ (∀ w ∈ ws, ∀ (a' : Array Value) (U : State), s.WarmedH U.vm → w.before a' U = true) ∧ Cond.codeWith y bytes maxL ret hh ∈ ws) ∧
  (Cond.codeWith y bytes maxL ret hh).before args s = true ∧ (Cond.initialized y.cls).before args s = true ∧ (y.cls ≠ "java/lang/invoke/MethodHandle" ∧ y.cls ≠ "java/lang/invoke/VarHandle") ∧
  (∀ sig, parseMethodDescriptor y.desc = some sig → n = sig.parameters.length) ∧ (Cond.methodLink own index y).before args s = true ∧ (Cond.static y).before args s = true
theorem vx_cwSW {own : String} {index maxL mc ms : Nat} {y : MethodName} {bytes : ByteArray} {ret : Option FieldType} {hh : List (Nat × Nat × Nat × Nat)} {Ts ws ws' : List Cond} {rm : Room} (n : Nat) (ht : ∀ w ∈ Ts, w.before args s = true) (hT : GoodIn Ts (va_wsS own index y ws)) (hw : ws = Cond.codeWith y bytes maxL ret hh :: ws') (hrc : rm.cells = mc) (hrs : rm.slots = ms)
    (hd : y.cls ≠ "java/lang/invoke/MethodHandle" ∧ y.cls ≠ "java/lang/invoke/VarHandle" ∧ (parseMethodDescriptor y.desc).map (fun d => d.parameters.length) = some n) (hR : rm.frames + 1 ≤ R.frames ∧ 8 + (maxL + 11) + rm.locals ≤ R.locals) :
    vx_CSW R s args own index y bytes maxL ret hh ws rm mc ms n := by
  have ok : ∀ w ∈ va_wsS own index y ws, w.before args s = true := fun w h => ht w (hT w h).1
  have hG : GoodIn Ts ws := fun w h => hT w (by unfold va_wsS; exact List.mem_append_right _ h)
  have hc : Cond.codeWith y bytes maxL ret hh ∈ ws := by rw [hw]; exact List.mem_cons_self
  refine ⟨⟨hrc, hrs, hR.1, hR.2, pay_in ht hG, hc⟩, ht _ (hG _ hc).1, ok _ (by simp [va_wsS]), ⟨hd.1, hd.2.1⟩, fun sig h => ?_, ok _ (by simp [va_wsS]), ok _ (by simp [va_wsS])⟩
  have h2 := hd.2.2
  rw [h] at h2
  exact (Option.some.inj h2).symm
theorem vx_callSW (X : Stand p l e R s m args below meth c T locs cells slots) (hexec : p.tables.exec = Jvm.exec) {own : String} {index : Nat} {y : MethodName} {bytes : ByteArray} {maxL : Nat} {ret : Option FieldType} {hh : List (Nat × Nat × Nat × Nat)}
    (hown : s.vm.findClass own = some m.cls) (hlink : (Cond.methodLink own index y).before args s = true) (hstat : (Cond.static y).before args s = true) (hinit : (Cond.initialized y.cls).before args s = true)
    (hcode : (Cond.codeWith y bytes maxL ret hh).before args s = true) (hy : y.cls ≠ "java/lang/invoke/MethodHandle" ∧ y.cls ≠ "java/lang/invoke/VarHandle")
    {W9 : Nat} {Pre : Pt → Array Value → Prop} {Post : Pt → Array Value → Option Value → Pt → Prop} (hK : Back l R p e below s args y 3 W9 Pre Post)
    {g : JFrame} (hg : g.method = m) (hsize : g.locals.size = c.maxLocals) {argsL rest : List Value} (hlen : ∀ sig, parseMethodDescriptor y.desc = some sig → argsL.length = sig.parameters.length)
    (hstack : g.stack = argsL.reverse ++ rest) (hW : 2 * g.monitorRoom + (rest.map fun v => v.category).sum ≤ W9) (hdg : decode c.code g.pc = .ok (.invokestatic index, 3))
    (hpre : ∀ vm₁, s.WarmedH vm₁ → Pre ⟨T.setVm vm₁, locs, cells, slots⟩ argsL.toArray) :
    ∃ (v : Option Value) (vm₁ : Vm) (B : Pt), s.WarmedH vm₁ ∧ Stand p l e R s m args below meth c B.U B.locs B.cells B.slots ∧ Post ⟨T.setVm vm₁, locs, cells, slots⟩ argsL.toArray v B ∧
      ∀ target, Steps p.tables e below (B.U.setTop { g with pc := g.pc + 3, stack := v.toList ++ rest }) target → Steps p.tables e below (T.setTop g) target := by
  obtain ⟨mk, methM, cM, hnamed, hmethM, -, -, -, -, -, -, hsigM⟩ := Cond.codeWith_spec hcode
  have hstatic : methM.isStatic = true := Cond.static_spec hnamed hmethM hstat
  obtain ⟨kP, hkP, -⟩ := className_of_methodNamed hnamed
  have hinitP : kP.init = .initialized := Cond.initialized_spec (findClass_of_methodNamed hnamed) hkP hinit
  obtain ⟨vm₁, X₁, hstep₁⟩ := X.invokestatic hexec hown hlink hnamed hmethM hstatic hkP hinitP hy (g := g) hg (argsL := argsL) (rest := rest) (hlen _ hsigM) hstack hdg
  obtain ⟨v, B, X', hpost, hsteps⟩ := hK m meth c ⟨T.setVm vm₁, locs, cells, slots⟩ { g with stack := rest } (.invokestatic index) mk argsL.toArray X₁ hg hsize hdg hW (X₁.named hnamed) (hpre vm₁ X₁.warmed)
  exact ⟨v, vm₁, B, X₁.warmed, X', hpost, fun target h => hstep₁ _ fun acts => by rw [doInvoke_state]; exact hsteps.trans h⟩
theorem vx_runSW {y : MethodName} {bytes cc : ByteArray} {maxL nL mc ms n index : Nat} {ret : Option FieldType} {hh : List (Nat × Nat × Nat × Nat)} {ws : List Cond} {rm : Room} {Pc : Array Value → State → Prop} {Qc : Array Value → State → Outcome → State → Prop} {free : Addr → Prop} {Ts : List Cond} {own : String} {As rest : List Value} {g : JFrame}
    (S : CallFix p m c cc nL s args Ts own) (hM : Met l y ws rm Pc Qc mc ms free) (cw : vx_CSW R s args own index y bytes maxL ret hh ws rm mc ms n) (hp : PreS s H Pc As)
    (hg : g.method = m) (hn : As.length = n) (hsize : g.locals.size = nL) (hstack : g.stack = As.reverse ++ rest) (hW : 2 * g.monitorRoom + (rest.map fun v => v.category).sum ≤ 8) (hdg : decode cc g.pc = .ok (.invokestatic index, 3)) (hf : cells + mc ≤ R.cells ∧ slots + ms ≤ R.slots) :
    va_Run p l e R s m args below meth c H locs cells slots mc ms g rest (Qc As.toArray) (free) := by
  obtain ⟨⟨hrc, hrs, hfr, hlo, hws, hcw⟩, hcode, hini, hy, hlen, hl, hstt⟩ := cw
  have hK : Back l R p e below s args y 3 8 (PreOf R mc ms Pc) (PostOf Qc mc ms free) := va_backW (hh := hh) (bytes := bytes) (maxL := maxL) (ret := ret) hM hp.1 hrc hrs hfr hlo hws hcw (fun a' U hW => word_at hW (Or.inl (by first | rfl | simp [Cond.onTables, Cond.keeps, Cond.steady])) hini)
  obtain ⟨hx, hb, hml, ho, -⟩ := S
  intro T hT X
  obtain ⟨v, vm₁, ⟨U', l2, c2, s2⟩, hW₁, X', ⟨g', mk, t, L, e1, e2, hq, h1, hL, h2, h3⟩, st⟩ := vx_callSW X hx (hh := hh) (bytes := bytes) (maxL := maxL) (ret := ret) ho hl hstt hini hcode hy hK hg (hsize.trans hml.symm) (argsL := As) (rest := rest) (fun sig h => hn.trans (hlen sig h)) hstack hW (by rw [hb]; exact hdg)
    (fun vm₁ hW₁ => ⟨hf.1, hf.2, hp.2 (T.setVm vm₁) hT hW₁⟩)
  dsimp only [Pt.U, Pt.locs, Pt.cells, Pt.slots] at X' e1 e2 h1 h2 h3 st
  subst h1; subst h2; subst h3
  exact ⟨v, (T.setVm vm₁).calling g' mk As.toArray, t, U', L, hT, X', hL, e1, e2, hq, st⟩
/-- not caught here, past rows that name other classes: it goes on to the caller -/
theorem vx_outP {p : Program} {l : Launch} {e : Env} {R : Room} {s : State} {m : MethodId} {args : Array Value} {below : List Frame} {meth : Method} {c : Code} {H : Heap} {locs : List Loc} {cells slots : Nat} {free : Addr → Prop} {ls : Array Slot} {rest : List Value} {Qc : Array Value → State → Outcome → State → Prop} {XC : String → State → State → Prop}
    {pc : Nat} {own E : String} {ce : Cell} {q : Addr} {mc ms : Nat} (hown : s.vm.findClass own = some m.cls) (hlocks : meth.locks = false)
    (hpass : ∀ z ∈ c.exceptionTable.toList, covers z pc = false ∨ (z.catchType ≠ 0 ∧ ∃ nm : String, (Cond.classLink own z.catchType nm).before args s = true ∧ va_Nc E nm s)) (hcell : H[q]? = some ce) (hv : ce.vm = .none) (hcl : s.vm.findClass E = some ce.cls)
    (hx : ∀ t : State, t.heap = H → s.vm.Alike t.vm → XC E s t) (hf : ∀ z ∈ locs, free z.base) (hc : cells ≤ mc) (hs : slots ≤ ms) :
    vx_W p l e R s m args below meth c H locs cells slots (vx_MQ below Qc XC args s mc ms free) (F0 m pc ls rest) q := by
  intro T hT X
  have hpl : e.platform.magicAccessors = ({} : Platform).magicAccessors := by rw [X.admits.platform]
  obtain ⟨vm', hW', X', st⟩ := X.outThrough hlocks q (g := F0 m pc ls rest) rfl rfl rfl (cell := ce) (by rw [hT]; exact hcell) (by rw [hv]; rfl)
    (by obtain ⟨k9, h9, -⟩ := Vm.findClass_spec hcl; exact ⟨k9, h9⟩) (fun z hz => by
      rcases hpass z hz with h | ⟨hz0, nm, hl1, hn1⟩
      · exact Or.inl h
      · obtain ⟨c6, hc6, hcl6⟩ := Cond.classLink_spec hown hl1 e.platform hpl
        obtain ⟨a8, b8, h1, h2, h3⟩ := hn1
        cases Option.some.inj (h1.symm.trans hcl)
        cases Option.some.inj (h2.symm.trans hc6)
        exact Or.inr ⟨hz0, _, hcl6, h3⟩)
  obtain ⟨g₀, hfr⟩ := X'.frames_eq
  have hcell9 : ((T.setVm vm').setFrames (.throwing q :: below)).heap[q]? = some ce := by
    show T.heap[q]? = some ce
    rw [hT]; exact hcell
  have hend : Ended ((T.setVm vm').setFrames (.throwing q :: below)) below (.threw q) := State.frames_setFrames _ (State.cur_lt_of_frames hfr)
  refine ⟨(T.setVm vm').setFrames (.throwing q :: below), ?_, .threw q, X'.here.running, hend, Or.inr ⟨q, rfl, E, ce, locs, hx _ hT (X'.ends _).1.alike, hcell9, hv, hcl, (X'.ends _).1, (X'.ends _).2.mono hc hs, hf⟩⟩
  rw [X.pushThrowing_eq]
  exact st
/-- a thing of a world lies in the heap -/
theorem vx_lt {D : va_G} {cl : List vw_C} {ws : va_W} {H1 : Heap} (h : va_P D cl ws H1) {k : Nat} {q : Nat × va_E} (hk : ws[k]? = some q) : q.1 < H1.size := (h k q hk).lt
end VXS
/-! ===== END ===== -/
/-! ===== BEGIN methods with a table of their own: called by a name, returning or throwing ===== -/
section VXH
/-! vx_backW, vx_callVX, vx_callSX, vx_callVW, vx_runVW, vx_runVX, vx_runSX, vx_ofWH follow the same proofs as their sisters above (Free/Laws.lean, Shelf42/LK1.lean); vx_outP calls Shelf42/NT130.lean (outThrough). -/
section
variable {l : Launch} {R : Room} {p : Program} {e : Env} {below : List Frame} {s : State} {sargs : Array Value} {y : MethodName} {len W9 : Nat}
theorem vx_backW {ws : List Cond} {rm : Room} {Pc : Array Value → State → Prop} {Qc : Array Value → State → Outcome → State → Prop} {XC : String → State → State → Prop} {mc ms : Nat} {free : Addr → Prop} {bytes : ByteArray} {maxL : Nat} {ret : Option FieldType} {hh : List (Nat × Nat × Nat × Nat)}
    (hM : vx_Met l y ws rm Pc Qc XC mc ms free) (hblind : FrameBlind Pc) (hrc : rm.cells = mc) (hrs : rm.slots = ms)
    (hframes : rm.frames + 1 ≤ R.frames) (hlocals : W9 + (maxL + 11) + rm.locals ≤ R.locals)
    (hws : ∀ w ∈ ws, ∀ a' U, s.WarmedH U.vm → w.before a' U = true) (hcode : Cond.codeWith y bytes maxL ret hh ∈ ws) (hinit : ∀ a' U, s.WarmedH U.vm → (Cond.initialized y.cls).before a' U = true) :
    vx_Back l R p e below s sargs y len W9 (PreOf R mc ms Pc) (PostOf Qc mc ms free) (vx_Post XC mc ms free) := by
  intro m meth c A g ig mk a X hg hsize hdg hW hn hp
  have h1 : (headSpec ws rm).pre.before a A.U = true := atoms_intro fun w hw => hws w hw _ _ X.warmed
  have h2 : (Cond.codeWith y bytes maxL ret hh).before a A.U = true := hws _ hcode _ _ X.warmed
  have h3 : (Cond.initialized y.cls).before a A.U = true := hinit _ _ X.warmed
  have h4 : A.cells + (headSpec ws rm).room.cells ≤ R.cells := by rw [show (headSpec ws rm).room.cells = mc from hrc]; exact hp.1
  have h5 : A.slots + (headSpec ws rm).room.slots ≤ R.slots := by rw [show (headSpec ws rm).room.slots = ms from hrs]; exact hp.2.1
  have hPc : Pc a (A.U.calling g mk a) := hblind _ _ _ _ hp.2.2
  obtain ⟨U, Ls, c0, s0⟩ := A
  dsimp only [Pt.U, Pt.locs, Pt.cells, Pt.slots] at h1 h2 h3 h4 h5 X hn hPc ⊢
  obtain ⟨m9, methY, cY, hn9, hmY, hcY, -, hlY, -⟩ := Cond.codeWith_spec h2
  cases Option.some.inj (hn9.symm.trans hn)
  obtain ⟨kY, hkY, -⟩ := className_of_methodNamed hn
  have hinitY : kY.init = .initialized := Cond.initialized_spec (findClass_of_methodNamed hn) hkY h3
  have h : At U g.method c below := by rw [hg]; exact X.here
  have hlocals9 : W9 + (maxL + 11) + (headSpec ws rm).room.locals ≤ R.locals := hlocals
  have happ : (headSpec ws rm).appliesLoose y e.platform (U.calling g mk a) = true :=
    Spec.appliesLoose_calling (g := g) h hdg hn hkY hinitY
      (X.room_calling (g := g) (R' := (headSpec ws rm).room) hsize hmY hcY hframes (by rw [hlY]; omega) h4 h5) h1
  obtain ⟨mid, hmid⟩ := h.above
  have hfr : (U.setTop g).frames = (.java g :: mid) ++ below := by rw [State.frames_setTop' g h.top, hmid]; rfl
  obtain ⟨o, s₂, hsteps, -, hend, hq⟩ := Steps.callFree hM p X.admits X.cas X.clock (acts := []) hfr happ hPc trivial
  have hq' : vx_Q Qc XC mc ms free a (U.calling g mk a) o s₂ := hq
  rw [State.frames_setTop' g h.top] at hend
  obtain ⟨g₀, hg0⟩ := Option.isSome_iff_exists.mp h.top
  obtain ⟨r, hr⟩ := State.topJava?_eq_some.mp hg0
  have hr' : (({ U with heap := s₂.heap, slotsUsed := s₂.slotsUsed } : State).setVm s₂.vm).frames = .java g₀ :: r := hr
  rcases hq' with ⟨hqc, L, hfe, hL⟩ | ⟨q, rfl, E, ce, L, hx, hce, hcv, hcl, hW₂, hsm, hL⟩
  · obtain ⟨⟨v, rfl⟩, hW₂, e2, q2, q3, q4, q5, q6⟩ := id hfe
    have e3 : s₂ = ({ (U.calling g mk a).setFrames s₂.frames with heap := s₂.heap, slotsUsed := s₂.slotsUsed } : State).setVm s₂.vm := by
      have : s₂ = ({ s₂ with vm := (U.calling g mk a).vm } : State).setVm s₂.vm := rfl
      rw [e2] at this
      exact this
    obtain ⟨c₂, i₂, len₂, hc₂, hd₂, hf₂⟩ := hend
    have hW' : U.WarmedH s₂.vm := hW₂
    have hcc : c₂ = c := by
      have h1 : s₂.code? g.method = U.code? g.method := by
        rw [State.code?_eq, State.code?_eq, hW'.alike.method?]
      exact Option.some.inj (hc₂.symm.trans (h1.trans h.code))
    subst hcc
    have hlen : len₂ = len := by rw [hdg] at hd₂; cases hd₂; rfl
    subst hlen
    have hs₂ : s₂ = (({ U with heap := s₂.heap, slotsUsed := s₂.slotsUsed } : State).setVm s₂.vm).setTop { g with pc := g.pc + len₂, stack := v.toList ++ g.stack } := by
      refine e3.trans ?_
      rw [hf₂, State.calling_eq h.top, State.setFrames_setFrames, State.setTop_of_frames _ hr', hr]
      rfl
    have hsame : U.sameButNew ({ U with heap := s₂.heap, slotsUsed := s₂.slotsUsed } : State) L mc ms := by
      refine ⟨?_, q2, q3, q4, q5, q6⟩
      obtain ⟨t, ht, -⟩ := State.frames_cons hr
      show ({ U with heap := s₂.heap, slotsUsed := s₂.slotsUsed } : State) = { U.setFrames U.frames with heap := s₂.heap, slotsUsed := s₂.slotsUsed }
      rw [State.setFrames_self ht]
    subst hg
    refine Or.inl ⟨v, ⟨(({ U with heap := s₂.heap, slotsUsed := s₂.slotsUsed } : State).setVm s₂.vm), Ls ++ L, c0 + mc, s0 + ms⟩,
      ⟨X.admits, X.cas, X.clock, X.frames, X.room, X.hears, X.method, X.code, (X.here.setHeapUsed s₂.heap s₂.slotsUsed).setVm hW'.alike, X.tail, State.WarmedH.trans X.warmed hW', X.limits, X.bytes, X.same.trans (hsame.setVm s.vm)⟩,
      ⟨g, mk, s₂, L, rfl, rfl, hqc, rfl, hL, rfl, rfl⟩, ?_⟩
    show Steps p.tables e below _ ((({ U with heap := s₂.heap, slotsUsed := s₂.slotsUsed } : State).setVm s₂.vm).setTop { g with pc := g.pc + len₂, stack := v.toList ++ g.stack })
    rw [← hs₂]
    exact hsteps
  · obtain ⟨e2, q2, q3, q4, q5, q6⟩ := id hsm
    have e3 : s₂ = ({ (U.calling g mk a).setFrames s₂.frames with heap := s₂.heap, slotsUsed := s₂.slotsUsed } : State).setVm s₂.vm := by
      have : s₂ = ({ s₂ with vm := (U.calling g mk a).vm } : State).setVm s₂.vm := rfl
      rw [e2] at this
      exact this
    have hf₂ : s₂.frames = .throwing q :: .java g :: U.frames.tail := hend
    have hW' : U.WarmedH s₂.vm := hW₂
    have hs₂ : s₂ = ((({ U with heap := s₂.heap, slotsUsed := s₂.slotsUsed } : State).setVm s₂.vm).setTop g).pushFrame (.throwing q) := by
      refine e3.trans ?_
      rw [hf₂, State.calling_eq h.top, State.setFrames_setFrames, State.pushFrame, State.frames_setTop _ hr', State.setTop_of_frames _ hr', State.setFrames_setFrames, hr]
      rfl
    have hsame : U.sameButNew ({ U with heap := s₂.heap, slotsUsed := s₂.slotsUsed } : State) L mc ms := by
      refine ⟨?_, q2, q3, q4, q5, q6⟩
      obtain ⟨t, ht, -⟩ := State.frames_cons hr
      show ({ U with heap := s₂.heap, slotsUsed := s₂.slotsUsed } : State) = { U.setFrames U.frames with heap := s₂.heap, slotsUsed := s₂.slotsUsed }
      rw [State.setFrames_self ht]
    subst hg
    refine Or.inr ⟨q, ⟨(({ U with heap := s₂.heap, slotsUsed := s₂.slotsUsed } : State).setVm s₂.vm), Ls ++ L, c0 + mc, s0 + ms⟩,
      ⟨X.admits, X.cas, X.clock, X.frames, X.room, X.hears, X.method, X.code, (X.here.setHeapUsed s₂.heap s₂.slotsUsed).setVm hW'.alike, X.tail, State.WarmedH.trans X.warmed hW', X.limits, X.bytes, X.same.trans (hsame.setVm s.vm)⟩,
      ⟨g, mk, s₂, L, E, ce, rfl, rfl, hx, hce, hcv, hcl, rfl, hL, rfl, rfl⟩, ?_⟩
    show Steps p.tables e below _ (((({ U with heap := s₂.heap, slotsUsed := s₂.slotsUsed } : State).setVm s₂.vm).setTop g).pushFrame (.throwing q))
    rw [← hs₂]
    exact hsteps
end
variable {p : Program} {l : Launch} {e : Env} {R : Room} {s : State} {m : MethodId} {args : Array Value} {below : List Frame} {meth : Method} {c : Code} {T : State} {H : Heap} {locs : List Loc} {cells slots : Nat}
theorem vx_callVX (X : Stand p l e R s m args below meth c T locs cells slots) (hexec : p.tables.exec = Jvm.exec) {own C : String} {index : Nat} {y : MethodName} {bytes : ByteArray} {maxL : Nat} {ret : Option FieldType} {hh : List (Nat × Nat × Nat × Nat)}
    (hown : s.vm.findClass own = some m.cls) (hlink : (Cond.methodLink own index y).before args s = true) (hinst : (Cond.instanceMethod y).before args s = true) (hsel : (Cond.selects C y y).before args s = true)
    (hcode : (Cond.codeWith y bytes maxL ret hh).before args s = true) (hy : y.cls ≠ "java/lang/invoke/MethodHandle" ∧ y.cls ≠ "java/lang/invoke/VarHandle")
    {W9 : Nat} {Pre : Pt → Array Value → Prop} {Post : Pt → Array Value → Option Value → Pt → Prop} {PostX : Pt → Array Value → Addr → Pt → Prop} (hK : vx_Back l R p e below s args y 3 W9 Pre Post PostX)
    {b : Addr} {cellB : Cell} (hcell : T.heap[b]? = some cellB) (hobj : cellB.vm.isStatics = false) (hcls : s.vm.findClass C = some cellB.cls)
    {g : JFrame} (hg : g.method = m) (hsize : g.locals.size = c.maxLocals) {argsL rest : List Value} (hlen : ∀ sig, parseMethodDescriptor y.desc = some sig → argsL.length = sig.parameters.length)
    (hstack : g.stack = argsL.reverse ++ .ref b :: rest) (hW : 2 * g.monitorRoom + (rest.map fun v => v.category).sum ≤ W9) (hdg : decode c.code g.pc = .ok (.invokevirtual index, 3))
    (hpre : ∀ vm₁, s.WarmedH vm₁ → Pre ⟨T.setVm vm₁, locs, cells, slots⟩ (Value.ref b :: argsL).toArray) :
    (∃ (v : Option Value) (vm₁ : Vm) (B : Pt), s.WarmedH vm₁ ∧ Stand p l e R s m args below meth c B.U B.locs B.cells B.slots ∧ Post ⟨T.setVm vm₁, locs, cells, slots⟩ (Value.ref b :: argsL).toArray v B ∧
      ∀ target, Steps p.tables e below (B.U.setTop { g with pc := g.pc + 3, stack := v.toList ++ rest }) target → Steps p.tables e below (T.setTop g) target) ∨
    (∃ (q : Addr) (vm₁ : Vm) (B : Pt), s.WarmedH vm₁ ∧ Stand p l e R s m args below meth c B.U B.locs B.cells B.slots ∧ PostX ⟨T.setVm vm₁, locs, cells, slots⟩ (Value.ref b :: argsL).toArray q B ∧
      Steps p.tables e below (T.setTop g) ((B.U.setTop { g with stack := rest }).pushFrame (.throwing q))) := by
  obtain ⟨mk, methM, hnamed, hmethM, hstM, habM⟩ := Cond.instanceMethod_spec hinst
  obtain ⟨m8, methM', cM, hn8, hmethM', -, -, -, -, -, -, hsigM⟩ := Cond.codeWith_spec hcode
  cases Option.some.inj (hn8.symm.trans hnamed)
  cases hmethM.symm.trans hmethM'
  obtain ⟨c2, r2, m2, q1, q2, q3, q4, kP, hkP, hkPi⟩ := Cond.selects_spec hsel
  cases hcls.symm.trans q1
  cases (State.methodFound?_of_named hnamed hy).symm.trans q2
  cases hnamed.symm.trans q3
  have hselP : selectMethod e.platform s.vm cellB.cls mk = .method mk := by rw [Launch.admits_selectMethod X.admits]; exact q4
  obtain ⟨vm₁, X₁, hstep₁⟩ := X.invokevirtual hexec hown hlink hnamed hmethM hstM hkP hkPi hy (a := b) (cell := cellB) hcell
    (fun z h => by rw [h] at hobj; cases hobj) hselP hmethM habM hkP hkPi (g := g) hg (argsL := argsL) (rest := rest) (hlen _ hsigM) hstack hdg
  rcases hK m meth c ⟨T.setVm vm₁, locs, cells, slots⟩ { g with stack := rest } (.invokevirtual index) mk (Value.ref b :: argsL).toArray X₁ hg hsize hdg hW (X₁.named hnamed) (hpre vm₁ X₁.warmed) with ⟨v, B, X', hpost, hsteps⟩ | ⟨q, B, X', hpost, hsteps⟩
  · exact Or.inl ⟨v, vm₁, B, X₁.warmed, X', hpost, fun target h => hstep₁ _ fun acts => by rw [doInvoke_state]; exact hsteps.trans h⟩
  · exact Or.inr ⟨q, vm₁, B, X₁.warmed, X', hpost, hstep₁ _ fun acts => by rw [doInvoke_state]; exact hsteps⟩
theorem vx_callSX (X : Stand p l e R s m args below meth c T locs cells slots) (hexec : p.tables.exec = Jvm.exec) {own : String} {index : Nat} {y : MethodName} {bytes : ByteArray} {maxL : Nat} {ret : Option FieldType} {hh : List (Nat × Nat × Nat × Nat)}
    (hown : s.vm.findClass own = some m.cls) (hlink : (Cond.methodLink own index y).before args s = true) (hstat : (Cond.static y).before args s = true) (hinit : (Cond.initialized y.cls).before args s = true)
    (hcode : (Cond.codeWith y bytes maxL ret hh).before args s = true) (hy : y.cls ≠ "java/lang/invoke/MethodHandle" ∧ y.cls ≠ "java/lang/invoke/VarHandle")
    {W9 : Nat} {Pre : Pt → Array Value → Prop} {Post : Pt → Array Value → Option Value → Pt → Prop} {PostX : Pt → Array Value → Addr → Pt → Prop} (hK : vx_Back l R p e below s args y 3 W9 Pre Post PostX)
    {g : JFrame} (hg : g.method = m) (hsize : g.locals.size = c.maxLocals) {argsL rest : List Value} (hlen : ∀ sig, parseMethodDescriptor y.desc = some sig → argsL.length = sig.parameters.length)
    (hstack : g.stack = argsL.reverse ++ rest) (hW : 2 * g.monitorRoom + (rest.map fun v => v.category).sum ≤ W9) (hdg : decode c.code g.pc = .ok (.invokestatic index, 3))
    (hpre : ∀ vm₁, s.WarmedH vm₁ → Pre ⟨T.setVm vm₁, locs, cells, slots⟩ argsL.toArray) :
    (∃ (v : Option Value) (vm₁ : Vm) (B : Pt), s.WarmedH vm₁ ∧ Stand p l e R s m args below meth c B.U B.locs B.cells B.slots ∧ Post ⟨T.setVm vm₁, locs, cells, slots⟩ argsL.toArray v B ∧
      ∀ target, Steps p.tables e below (B.U.setTop { g with pc := g.pc + 3, stack := v.toList ++ rest }) target → Steps p.tables e below (T.setTop g) target) ∨
    (∃ (q : Addr) (vm₁ : Vm) (B : Pt), s.WarmedH vm₁ ∧ Stand p l e R s m args below meth c B.U B.locs B.cells B.slots ∧ PostX ⟨T.setVm vm₁, locs, cells, slots⟩ argsL.toArray q B ∧
      Steps p.tables e below (T.setTop g) ((B.U.setTop { g with stack := rest }).pushFrame (.throwing q))) := by
  obtain ⟨mk, methM, cM, hnamed, hmethM, -, -, -, -, -, -, hsigM⟩ := Cond.codeWith_spec hcode
  have hstatic : methM.isStatic = true := Cond.static_spec hnamed hmethM hstat
  obtain ⟨kP, hkP, -⟩ := className_of_methodNamed hnamed
  have hinitP : kP.init = .initialized := Cond.initialized_spec (findClass_of_methodNamed hnamed) hkP hinit
  obtain ⟨vm₁, X₁, hstep₁⟩ := X.invokestatic hexec hown hlink hnamed hmethM hstatic hkP hinitP hy (g := g) hg (argsL := argsL) (rest := rest) (hlen _ hsigM) hstack hdg
  rcases hK m meth c ⟨T.setVm vm₁, locs, cells, slots⟩ { g with stack := rest } (.invokestatic index) mk argsL.toArray X₁ hg hsize hdg hW (X₁.named hnamed) (hpre vm₁ X₁.warmed) with ⟨v, B, X', hpost, hsteps⟩ | ⟨q, B, X', hpost, hsteps⟩
  · exact Or.inl ⟨v, vm₁, B, X₁.warmed, X', hpost, fun target h => hstep₁ _ fun acts => by rw [doInvoke_state]; exact hsteps.trans h⟩
  · exact Or.inr ⟨q, vm₁, B, X₁.warmed, X', hpost, hstep₁ _ fun acts => by rw [doInvoke_state]; exact hsteps⟩
theorem vx_callVW (X : Stand p l e R s m args below meth c T locs cells slots) (hexec : p.tables.exec = Jvm.exec) {own C : String} {index : Nat} {y : MethodName} {bytes : ByteArray} {maxL : Nat} {ret : Option FieldType} {hh : List (Nat × Nat × Nat × Nat)}
    (hown : s.vm.findClass own = some m.cls) (hlink : (Cond.methodLink own index y).before args s = true) (hinst : (Cond.instanceMethod y).before args s = true) (hsel : (Cond.selects C y y).before args s = true)
    (hcode : (Cond.codeWith y bytes maxL ret hh).before args s = true) (hy : y.cls ≠ "java/lang/invoke/MethodHandle" ∧ y.cls ≠ "java/lang/invoke/VarHandle")
    {W9 : Nat} {Pre : Pt → Array Value → Prop} {Post : Pt → Array Value → Option Value → Pt → Prop} (hK : Back l R p e below s args y 3 W9 Pre Post)
    {b : Addr} {cellB : Cell} (hcell : T.heap[b]? = some cellB) (hobj : cellB.vm.isStatics = false) (hcls : s.vm.findClass C = some cellB.cls)
    {g : JFrame} (hg : g.method = m) (hsize : g.locals.size = c.maxLocals) {argsL rest : List Value} (hlen : ∀ sig, parseMethodDescriptor y.desc = some sig → argsL.length = sig.parameters.length)
    (hstack : g.stack = argsL.reverse ++ .ref b :: rest) (hW : 2 * g.monitorRoom + (rest.map fun v => v.category).sum ≤ W9) (hdg : decode c.code g.pc = .ok (.invokevirtual index, 3))
    (hpre : ∀ vm₁, s.WarmedH vm₁ → Pre ⟨T.setVm vm₁, locs, cells, slots⟩ (Value.ref b :: argsL).toArray) :
    ∃ (v : Option Value) (vm₁ : Vm) (B : Pt), s.WarmedH vm₁ ∧ Stand p l e R s m args below meth c B.U B.locs B.cells B.slots ∧ Post ⟨T.setVm vm₁, locs, cells, slots⟩ (Value.ref b :: argsL).toArray v B ∧
      ∀ target, Steps p.tables e below (B.U.setTop { g with pc := g.pc + 3, stack := v.toList ++ rest }) target → Steps p.tables e below (T.setTop g) target := by
  obtain ⟨mk, methM, hnamed, hmethM, hstM, habM⟩ := Cond.instanceMethod_spec hinst
  obtain ⟨m8, methM', cM, hn8, hmethM', -, -, -, -, -, -, hsigM⟩ := Cond.codeWith_spec hcode
  cases Option.some.inj (hn8.symm.trans hnamed)
  cases hmethM.symm.trans hmethM'
  obtain ⟨c2, r2, m2, q1, q2, q3, q4, kP, hkP, hkPi⟩ := Cond.selects_spec hsel
  cases hcls.symm.trans q1
  cases (State.methodFound?_of_named hnamed hy).symm.trans q2
  cases hnamed.symm.trans q3
  have hselP : selectMethod e.platform s.vm cellB.cls mk = .method mk := by rw [Launch.admits_selectMethod X.admits]; exact q4
  obtain ⟨vm₁, X₁, hstep₁⟩ := X.invokevirtual hexec hown hlink hnamed hmethM hstM hkP hkPi hy (a := b) (cell := cellB) hcell
    (fun z h => by rw [h] at hobj; cases hobj) hselP hmethM habM hkP hkPi (g := g) hg (argsL := argsL) (rest := rest) (hlen _ hsigM) hstack hdg
  obtain ⟨v, B, X', hpost, hsteps⟩ := hK m meth c ⟨T.setVm vm₁, locs, cells, slots⟩ { g with stack := rest } (.invokevirtual index) mk (Value.ref b :: argsL).toArray X₁ hg hsize hdg hW (X₁.named hnamed) (hpre vm₁ X₁.warmed)
  exact ⟨v, vm₁, B, X₁.warmed, X', hpost, fun target h => hstep₁ _ fun acts => by rw [doInvoke_state]; exact hsteps.trans h⟩
abbrev vx_CVW (R : Room) (s : State) (args : Array Value) (own C : String) (index : Nat) (y : MethodName) (bytes : ByteArray) (maxL : Nat) (ret : Option FieldType) (hh : List (Nat × Nat × Nat × Nat)) (ws : List Cond) (rm : Room) (mc ms n : Nat) : Prop :=
  (rm.cells = mc ∧ rm.slots = ms ∧ rm.frames + 1 ≤ R.frames ∧ 8 + (maxL + 11) + rm.locals ≤ R.locals ∧ (∀ w ∈ ws, ∀ (a' : Array Value) (U : State), s.WarmedH U.vm → w.before a' U = true) ∧ Cond.codeWith y bytes maxL ret hh ∈ ws) ∧
  (Cond.codeWith y bytes maxL ret hh).before args s = true ∧ (Cond.initialized y.cls).before args s = true ∧ (y.cls ≠ "java/lang/invoke/MethodHandle" ∧ y.cls ≠ "java/lang/invoke/VarHandle") ∧
  (∀ sig, parseMethodDescriptor y.desc = some sig → n = sig.parameters.length) ∧ (Cond.methodLink own index y).before args s = true ∧ (Cond.instanceMethod y).before args s = true ∧ (Cond.selects C y y).before args s = true
theorem vx_cwVW {own C : String} {index maxL mc ms : Nat} {y : MethodName} {bytes : ByteArray} {ret : Option FieldType} {hh : List (Nat × Nat × Nat × Nat)} {Ts ws ws' : List Cond} {rm : Room} (n : Nat) (ht : ∀ w ∈ Ts, w.before args s = true) (hT : GoodIn Ts (wsV own index C y ws)) (hw : ws = Cond.codeWith y bytes maxL ret hh :: ws') (hrc : rm.cells = mc) (hrs : rm.slots = ms)
    (hd : y.cls = C ∧ y.cls ≠ "java/lang/invoke/MethodHandle" ∧ y.cls ≠ "java/lang/invoke/VarHandle" ∧ (parseMethodDescriptor y.desc).map (fun d => d.parameters.length) = some n) (hR : rm.frames + 1 ≤ R.frames ∧ 8 + (maxL + 11) + rm.locals ≤ R.locals) :
    vx_CVW R s args own C index y bytes maxL ret hh ws rm mc ms n := by
  obtain ⟨hC, hd⟩ := hd
  subst hC
  have ok : ∀ w ∈ wsV own index y.cls y ws, w.before args s = true := fun w h => ht w (hT w h).1
  have hG : GoodIn Ts ws := fun w h => hT w (by unfold wsV; exact List.mem_append_right _ h)
  have hc : Cond.codeWith y bytes maxL ret hh ∈ ws := by rw [hw]; exact List.mem_cons_self
  refine ⟨⟨hrc, hrs, hR.1, hR.2, pay_in ht hG, hc⟩, ht _ (hG _ hc).1, ok _ (by simp [wsV]), ⟨hd.1, hd.2.1⟩, fun sig h => ?_, ok _ (by simp [wsV]), ok _ (by simp [wsV]), ok _ (by simp [wsV])⟩
  have h2 := hd.2.2
  rw [h] at h2
  exact (Option.some.inj h2).symm
theorem vx_runVW {y : MethodName} {bytes cc : ByteArray} {maxL nL mc ms n index : Nat} {ret : Option FieldType} {hh : List (Nat × Nat × Nat × Nat)} {ws : List Cond} {rm : Room} {Pc : Array Value → State → Prop} {Qc : Array Value → State → Outcome → State → Prop} {free : Addr → Prop} {Ts : List Cond} {own C : String} {b : Addr} {As rest : List Value} {g : JFrame}
    (S : CallFix p m c cc nL s args Ts own) (hM : Met l y ws rm Pc Qc mc ms free) (cw : vx_CVW R s args own C index y bytes maxL ret hh ws rm mc ms n) (hp : PreV s H C b Pc As)
    (hg : g.method = m) (hn : As.length = n) (hsize : g.locals.size = nL) (hstack : g.stack = As.reverse ++ .ref b :: rest) (hW : 2 * g.monitorRoom + (rest.map fun v => v.category).sum ≤ 8) (hdg : decode cc g.pc = .ok (.invokevirtual index, 3)) (hf : cells + mc ≤ R.cells ∧ slots + ms ≤ R.slots) :
    va_Run p l e R s m args below meth c H locs cells slots mc ms g rest (Qc (Value.ref b :: As).toArray) free := by
  obtain ⟨⟨hrc, hrs, hfr, hlo, hws, hcw⟩, hcode, hini, hy, hlen, hl, hin, hse⟩ := cw
  have hK : Back l R p e below s args y 3 8 (PreOf R mc ms Pc) (PostOf Qc mc ms free) := va_backW (hh := hh) (bytes := bytes) (maxL := maxL) (ret := ret) hM hp.1 hrc hrs hfr hlo hws hcw (fun a' U hW => word_at hW (Or.inl (by first | rfl | simp [Cond.onTables, Cond.keeps, Cond.steady])) hini)
  obtain ⟨hx, hb, hml, ho, -⟩ := S
  obtain ⟨-, ⟨cellB, hcB, hoB, hclB⟩, hPc⟩ := hp
  intro T hT X
  obtain ⟨v, vm₁, ⟨U', l2, c2, s2⟩, hW₁, X', ⟨g', mk, t, L, e1, e2, hq, h1, hL, h2, h3⟩, st⟩ := vx_callVW X hx (C := C) (hh := hh) (bytes := bytes) (maxL := maxL) (ret := ret) ho hl hin hse hcode hy hK (by rw [hT]; exact hcB) hoB hclB hg (hsize.trans hml.symm) (argsL := As) (rest := rest) (fun sig h => hn.trans (hlen sig h)) hstack hW (by rw [hb]; exact hdg)
    (fun vm₁ hW₁ => ⟨hf.1, hf.2, hPc (T.setVm vm₁) hT hW₁⟩)
  dsimp only [Pt.U, Pt.locs, Pt.cells, Pt.slots] at X' e1 e2 h1 h2 h3 st
  subst h1; subst h2; subst h3
  exact ⟨v, (T.setVm vm₁).calling g' mk (Value.ref b :: As).toArray, t, U', L, hT, X', hL, e1, e2, hq, st⟩
section
variable {y : MethodName} {bytes cc : ByteArray} {maxL nL mc ms n index : Nat} {ret : Option FieldType} {ws : List Cond} {rm : Room} {Pc : Array Value → State → Prop} {Qc : Array Value → State → Outcome → State → Prop} {XC : String → State → State → Prop} {free : Addr → Prop} {Ts : List Cond} {own C : String} {b : Addr} {As rest : List Value} {g : JFrame}
theorem vx_runVX {hh : List (Nat × Nat × Nat × Nat)} (S : CallFix p m c cc nL s args Ts own) (hM : vx_Met l y ws rm Pc Qc XC mc ms free) (cw : vx_CVW R s args own C index y bytes maxL ret hh ws rm mc ms n) (hp : PreV s H C b Pc As)
    (hg : g.method = m) (hn : As.length = n) (hsize : g.locals.size = nL) (hstack : g.stack = As.reverse ++ .ref b :: rest) (hW : 2 * g.monitorRoom + (rest.map fun v => v.category).sum ≤ 8) (hdg : decode cc g.pc = .ok (.invokevirtual index, 3)) (hf : cells + mc ≤ R.cells ∧ slots + ms ≤ R.slots) :
    vx_Run p l e R s m args below meth c H locs cells slots mc ms g rest (Qc (Value.ref b :: As).toArray) XC free := by
  obtain ⟨⟨hrc, hrs, hfr, hlo, hws, hcw⟩, hcode, hini, hy, hlen, hl, hin, hse⟩ := cw
  have hK : vx_Back l R p e below s args y 3 8 (PreOf R mc ms Pc) (PostOf Qc mc ms free) (vx_Post XC mc ms free) := vx_backW (hh := hh) (bytes := bytes) (maxL := maxL) (ret := ret) hM hp.1 hrc hrs hfr hlo hws hcw (fun a' U hW => word_at hW (Or.inl (by first | rfl | simp [Cond.onTables, Cond.keeps, Cond.steady])) hini)
  obtain ⟨hx, hb, hml, ho, -⟩ := S
  obtain ⟨-, ⟨cellB, hcB, hoB, hclB⟩, hPc⟩ := hp
  intro T hT X
  rcases vx_callVX X hx (C := C) (hh := hh) (bytes := bytes) (maxL := maxL) (ret := ret) ho hl hin hse hcode hy hK (by rw [hT]; exact hcB) hoB hclB hg (hsize.trans hml.symm) (argsL := As) (rest := rest) (fun sig h => hn.trans (hlen sig h)) hstack hW (by rw [hb]; exact hdg)
    (fun vm₁ hW₁ => ⟨hf.1, hf.2, hPc (T.setVm vm₁) hT hW₁⟩) with ⟨v, vm₁, ⟨U', l2, c2, s2⟩, hW₁, X', ⟨g', mk, t, L, e1, e2, hq, h1, hL, h2, h3⟩, st⟩ | ⟨q, vm₁, ⟨U', l2, c2, s2⟩, hW₁, X', ⟨g', mk, t, L, E, ce, e1, e2, hq, hce, hcv, hcl, h1, hL, h2, h3⟩, st⟩
  · dsimp only [Pt.U, Pt.locs, Pt.cells, Pt.slots] at X' e1 e2 h1 h2 h3 st
    subst h1; subst h2; subst h3
    exact Or.inl ⟨v, (T.setVm vm₁).calling g' mk (Value.ref b :: As).toArray, t, U', L, hT, X', hL, e1, e2, hq, st⟩
  · dsimp only [Pt.U, Pt.locs, Pt.cells, Pt.slots] at X' e1 e2 h1 h2 h3 st hcl
    subst h1; subst h2; subst h3
    exact Or.inr ⟨q, (T.setVm vm₁).calling g' mk (Value.ref b :: As).toArray, t, U', L, E, ce, hT, X', hL, e1, e2, hq, hce, hcv, vx_cls hW₁ hcl, st⟩
theorem vx_runSX {hh : List (Nat × Nat × Nat × Nat)} (S : CallFix p m c cc nL s args Ts own) (hM : vx_Met l y ws rm Pc Qc XC mc ms free) (cw : vx_CSW R s args own index y bytes maxL ret hh ws rm mc ms n) (hp : PreS s H Pc As)
    (hg : g.method = m) (hn : As.length = n) (hsize : g.locals.size = nL) (hstack : g.stack = As.reverse ++ rest) (hW : 2 * g.monitorRoom + (rest.map fun v => v.category).sum ≤ 8) (hdg : decode cc g.pc = .ok (.invokestatic index, 3)) (hf : cells + mc ≤ R.cells ∧ slots + ms ≤ R.slots) :
    vx_Run p l e R s m args below meth c H locs cells slots mc ms g rest (Qc As.toArray) XC free := by
  obtain ⟨⟨hrc, hrs, hfr, hlo, hws, hcw⟩, hcode, hini, hy, hlen, hl, hstt⟩ := cw
  have hK : vx_Back l R p e below s args y 3 8 (PreOf R mc ms Pc) (PostOf Qc mc ms free) (vx_Post XC mc ms free) := vx_backW (hh := hh) (bytes := bytes) (maxL := maxL) (ret := ret) hM hp.1 hrc hrs hfr hlo hws hcw (fun a' U hW => word_at hW (Or.inl (by first | rfl | simp [Cond.onTables, Cond.keeps, Cond.steady])) hini)
  obtain ⟨hx, hb, hml, ho, -⟩ := S
  intro T hT X
  rcases vx_callSX X hx (hh := hh) (bytes := bytes) (maxL := maxL) (ret := ret) ho hl hstt hini hcode hy hK hg (hsize.trans hml.symm) (argsL := As) (rest := rest) (fun sig h => hn.trans (hlen sig h)) hstack hW (by rw [hb]; exact hdg)
    (fun vm₁ hW₁ => ⟨hf.1, hf.2, hp.2 (T.setVm vm₁) hT hW₁⟩) with ⟨v, vm₁, ⟨U', l2, c2, s2⟩, hW₁, X', ⟨g', mk, t, L, e1, e2, hq, h1, hL, h2, h3⟩, st⟩ | ⟨q, vm₁, ⟨U', l2, c2, s2⟩, hW₁, X', ⟨g', mk, t, L, E, ce, e1, e2, hq, hce, hcv, hcl, h1, hL, h2, h3⟩, st⟩
  · dsimp only [Pt.U, Pt.locs, Pt.cells, Pt.slots] at X' e1 e2 h1 h2 h3 st
    subst h1; subst h2; subst h3
    exact Or.inl ⟨v, (T.setVm vm₁).calling g' mk As.toArray, t, U', L, hT, X', hL, e1, e2, hq, st⟩
  · dsimp only [Pt.U, Pt.locs, Pt.cells, Pt.slots] at X' e1 e2 h1 h2 h3 st hcl
    subst h1; subst h2; subst h3
    exact Or.inr ⟨q, (T.setVm vm₁).calling g' mk As.toArray, t, U', L, E, ce, hT, X', hL, e1, e2, hq, hce, hcv, vx_cls hW₁ hcl, st⟩
end
end VXH
theorem vx_ofWH {l : Launch} {y : MethodName} {ws ws' : List Cond} {rm : Room} {Pc : Array Value → State → Prop} {Qc : Array Value → State → Outcome → State → Prop} {XC : String → State → State → Prop} {mc ms : Nat} {free : Addr → Prop} {cc : ByteArray} {maxL : Nat} {ret : Option FieldType} {hh : List (Nat × Nat × Nat × Nat)}
    (hy : plainName y.cls = true) (hw : ws = Cond.codeWith y cc maxL ret hh :: ws')
    (body : ∀ p e s m args below meth c s₁, BodyLoose p l y (headSpec ws rm) cc maxL ret e s m args below meth c s₁ → c.maxLocals = maxL → Pc args s →
      W p l e (headSpec ws rm).room s m args below meth c s.heap [] 0 0 (vx_MQ below Qc XC args s mc ms free) (entryFrame m args maxL)) : vx_Met l y ws rm Pc Qc XC mc ms free := by
  refine MetFree.of_bodyS (code := cc) (maxLocals := maxL) (ret := ret) hy ?_ ?_
  · intro args s m h hn
    obtain ⟨m9, meth, c, hn9, h1, h2, h3, h4, -, h5, h6, -⟩ := Cond.codeWith_spec (atoms_spec (ws := ws) h _ (by rw [hw]; exact List.mem_cons_self))
    cases hn.symm.trans hn9
    exact ⟨meth, c, h1, h2, h3, h4, h5, h6⟩
  · intro p e s m args below meth c s₁ B hml hP _
    have hh0 : s₁.heap = s.heap := by rw [B.state]; rfl
    obtain ⟨t, a1, o, b1, b2, b3⟩ := body p e s m args below meth c s₁ B hml hP s₁ hh0 (Stand.of_body B)
    exact ⟨t, o, a1, b1, b2, b3⟩
/-! ===== END ===== -/

def RX0 : String := "Kerfworks$Drawing"
def TX0 : u_T := fun k => match k with
  | 0 => ("Kerfworks$Drawing", "number", "I", true)
  | 1 => ("Kerfworks$Drawing", "outline", "LKerfworks$Outline;", true)
  | 2 => ("Kerfworks$Drawing", "state", "I", false)
  | _ => ("Kerfworks$Drawing", "version", "I", false)
def tyX0 : Nat → FieldType := fun k => match k with
  | 0 => .int
  | 1 => .object "Kerfworks$Outline"
  | 2 => .int
  | _ => .int
abbrev wsX00 : List Cond := u_ws RX0 TX0 4
theorem nmX0 : ∀ a, a < 4 → ∀ b, b < 4 → a ≠ b → (TX0 a).2.1 ≠ (TX0 b).2.1 := by decide +kernel
theorem tyX0_ok : ∀ k, k < 4 → parseFieldDescriptor (TX0 k).2.2.1 = some (tyX0 k) := by decide +kernel
abbrev cX0_init : ByteArray := prog_2_method_1_code
def yX0_init : MethodName := ⟨RX0, "<init>", "(I)V"⟩
abbrev cX0_openAgain : ByteArray := prog_2_method_2_code
def yX0_openAgain : MethodName := ⟨RX0, "openAgain", "()V"⟩
def RX1 : String := "Kerfworks$Job"
def TX1 : u_T := fun k => match k with
  | 0 => ("Kerfworks$Job", "design", "LKerfworks$Drawing;", true)
  | 1 => ("Kerfworks$Job", "copies", "I", true)
  | 2 => ("Kerfworks$Job", "state", "I", false)
  | 3 => ("Kerfworks$Job", "version", "I", false)
  | 4 => ("Kerfworks$Job", "laid", "Ljava/util/ArrayList;", true)
  | _ => ("Kerfworks$Job", "cutStrokes", "LKerfworks$Outline;", true)
def tyX1 : Nat → FieldType := fun k => match k with
  | 0 => .object "Kerfworks$Drawing"
  | 1 => .int
  | 2 => .int
  | 3 => .int
  | 4 => .object "java/util/ArrayList"
  | _ => .object "Kerfworks$Outline"
abbrev wsX10 : List Cond := u_ws RX1 TX1 6
theorem nmX1 : ∀ a, a < 6 → ∀ b, b < 6 → a ≠ b → (TX1 a).2.1 ≠ (TX1 b).2.1 := by decide +kernel
theorem tyX1_ok : ∀ k, k < 6 → parseFieldDescriptor (TX1 k).2.2.1 = some (tyX1 k) := by decide +kernel
abbrev cX1_init : ByteArray := prog_3_method_1_code
def yX1_init : MethodName := ⟨RX1, "<init>", "(LKerfworks$Drawing;I)V"⟩
abbrev cX1_nestOn : ByteArray := prog_3_method_2_code
def yX1_nestOn : MethodName := ⟨RX1, "nestOn", "(LKerfworks$Stock;)V"⟩
abbrev cX1_takeOff : ByteArray := prog_3_method_3_code
def yX1_takeOff : MethodName := ⟨RX1, "takeOff", "()V"⟩
abbrev cX1_sheetsUsed : ByteArray := prog_3_method_4_code
def yX1_sheetsUsed : MethodName := ⟨RX1, "sheetsUsed", "()I"⟩
abbrev cX1_keepStrokes : ByteArray := prog_3_method_5_code
def yX1_keepStrokes : MethodName := ⟨RX1, "keepStrokes", "()V"⟩
abbrev cX1_minutesFor : ByteArray := prog_3_method_6_code
def yX1_minutesFor : MethodName := ⟨RX1, "minutesFor", "(F)I"⟩
abbrev cX1_touchesEarlier : ByteArray := prog_3_method_7_code
def yX1_touchesEarlier : MethodName := ⟨RX1, "touchesEarlier", "(I)Z"⟩
def RX2 : String := "Kerfworks$Outline"
def TX2 : u_T := fun k => match k with
  | 0 => ("Kerfworks$Outline", "strokes", "[I", true)
  | _ => ("Kerfworks$Outline", "size", "I", false)
def tyX2 : Nat → FieldType := fun k => match k with
  | 0 => .array .int
  | _ => .int
abbrev wsX20 : List Cond := u_ws RX2 TX2 2
theorem nmX2 : ∀ a, a < 2 → ∀ b, b < 2 → a ≠ b → (TX2 a).2.1 ≠ (TX2 b).2.1 := by decide +kernel
theorem tyX2_ok : ∀ k, k < 2 → parseFieldDescriptor (TX2 k).2.2.1 = some (tyX2 k) := by decide +kernel
abbrev cX2_init : ByteArray := prog_4_method_1_code
def yX2_init : MethodName := ⟨RX2, "<init>", "()V"⟩
abbrev cX2_add : ByteArray := prog_4_method_2_code
def yX2_add : MethodName := ⟨RX2, "add", "(II)V"⟩
abbrev cX2_clear : ByteArray := prog_4_method_3_code
def yX2_clear : MethodName := ⟨RX2, "clear", "()V"⟩
abbrev cX2_copy : ByteArray := prog_4_method_4_code
def yX2_copy : MethodName := ⟨RX2, "copy", "(LKerfworks$Outline;)V"⟩
abbrev cX2_dropDoubled : ByteArray := prog_4_method_5_code
def yX2_dropDoubled : MethodName := ⟨RX2, "dropDoubled", "()V"⟩
abbrev cX2_has : ByteArray := prog_4_method_6_code
def yX2_has : MethodName := ⟨RX2, "has", "(II)Z"⟩
abbrev cX2_firstWrongPoint : ByteArray := prog_4_method_7_code
def yX2_firstWrongPoint : MethodName := ⟨RX2, "firstWrongPoint", "()I"⟩
abbrev cX2_wrongOrNoPoint : ByteArray := prog_4_method_8_code
def yX2_wrongOrNoPoint : MethodName := ⟨RX2, "wrongOrNoPoint", "(I)I"⟩
abbrev cX2_strokesAt : ByteArray := prog_4_method_9_code
def yX2_strokesAt : MethodName := ⟨RX2, "strokesAt", "(I)I"⟩
abbrev cX2_wide : ByteArray := prog_4_method_10_code
def yX2_wide : MethodName := ⟨RX2, "wide", "()I"⟩
abbrev cX2_high : ByteArray := prog_4_method_11_code
def yX2_high : MethodName := ⟨RX2, "high", "()I"⟩
abbrev cX2_sumOfStrokes : ByteArray := prog_4_method_12_code
def yX2_sumOfStrokes : MethodName := ⟨RX2, "sumOfStrokes", "()F"⟩
abbrev cX2_fromOf : ByteArray := prog_4_method_13_code
def yX2_fromOf : MethodName := ⟨RX2, "fromOf", "(I)I"⟩
abbrev cX2_toOf : ByteArray := prog_4_method_14_code
def yX2_toOf : MethodName := ⟨RX2, "toOf", "(I)I"⟩
abbrev cX2_xOf : ByteArray := prog_4_method_15_code
def yX2_xOf : MethodName := ⟨RX2, "xOf", "(I)I"⟩
abbrev cX2_yOf : ByteArray := prog_4_method_16_code
def yX2_yOf : MethodName := ⟨RX2, "yOf", "(I)I"⟩
abbrev cX2_distance : ByteArray := prog_4_method_17_code
def yX2_distance : MethodName := ⟨RX2, "distance", "(II)F"⟩
abbrev cX2_root : ByteArray := prog_4_method_18_code
def yX2_root : MethodName := ⟨RX2, "root", "(I)D"⟩
def RX3 : String := "Kerfworks$Piece"
def TX3 : u_T := fun k => match k with
  | 0 => ("Kerfworks$Piece", "number", "I", true)
  | 1 => ("Kerfworks$Piece", "sheetNumber", "I", false)
  | 2 => ("Kerfworks$Piece", "left", "I", false)
  | 3 => ("Kerfworks$Piece", "top", "I", false)
  | 4 => ("Kerfworks$Piece", "wide", "I", false)
  | 5 => ("Kerfworks$Piece", "high", "I", false)
  | 6 => ("Kerfworks$Piece", "state", "I", false)
  | 7 => ("Kerfworks$Piece", "whole", "LKerfworks$Piece;", false)
  | 8 => ("Kerfworks$Piece", "part", "LKerfworks$Piece;", false)
  | 9 => ("Kerfworks$Piece", "right", "LKerfworks$Piece;", false)
  | _ => ("Kerfworks$Piece", "below", "LKerfworks$Piece;", false)
def tyX3 : Nat → FieldType := fun k => match k with
  | 0 => .int
  | 1 => .int
  | 2 => .int
  | 3 => .int
  | 4 => .int
  | 5 => .int
  | 6 => .int
  | 7 => .object "Kerfworks$Piece"
  | 8 => .object "Kerfworks$Piece"
  | 9 => .object "Kerfworks$Piece"
  | _ => .object "Kerfworks$Piece"
abbrev wsX30 : List Cond := u_ws RX3 TX3 11
theorem nmX3 : ∀ a, a < 11 → ∀ b, b < 11 → a ≠ b → (TX3 a).2.1 ≠ (TX3 b).2.1 := by decide +kernel
theorem tyX3_ok : ∀ k, k < 11 → parseFieldDescriptor (TX3 k).2.2.1 = some (tyX3 k) := by decide +kernel
abbrev cX3_init : ByteArray := prog_5_method_1_code
def yX3_init : MethodName := ⟨RX3, "<init>", "(I)V"⟩
abbrev cX3_begin : ByteArray := prog_5_method_2_code
def yX3_begin : MethodName := ⟨RX3, "begin", "(LKerfworks$Piece;IIIII)V"⟩
abbrev cX3_holds : ByteArray := prog_5_method_3_code
def yX3_holds : MethodName := ⟨RX3, "holds", "(II)Z"⟩
abbrev cX3_area : ByteArray := prog_5_method_4_code
def yX3_area : MethodName := ⟨RX3, "area", "()I"⟩
abbrev cX3_touches : ByteArray := prog_5_method_5_code
def yX3_touches : MethodName := ⟨RX3, "touches", "(LKerfworks$Piece;)Z"⟩
abbrev cX3_release : ByteArray := prog_5_method_6_code
def yX3_release : MethodName := ⟨RX3, "release", "()V"⟩
abbrev cX3_hasAllFree : ByteArray := prog_5_method_7_code
def yX3_hasAllFree : MethodName := ⟨RX3, "hasAllFree", "()Z"⟩
abbrev cX3_isFreeOrNone : ByteArray := prog_5_method_8_code
def yX3_isFreeOrNone : MethodName := ⟨RX3, "isFreeOrNone", "(LKerfworks$Piece;)Z"⟩
abbrev cX3_endPieces : ByteArray := prog_5_method_9_code
def yX3_endPieces : MethodName := ⟨RX3, "endPieces", "()V"⟩
abbrev cX3_end : ByteArray := prog_5_method_10_code
def yX3_end : MethodName := ⟨RX3, "end", "(LKerfworks$Piece;)V"⟩
abbrev cX3_joinPieces : ByteArray := prog_5_method_11_code
def yX3_joinPieces : MethodName := ⟨RX3, "joinPieces", "()V"⟩
def RX4 : String := "Kerfworks$Stock"
def TX4 : u_T := fun k => match k with
  | 0 => ("Kerfworks$Stock", "pieces", "Ljava/util/ArrayList;", true)
  | 1 => ("Kerfworks$Stock", "pieceCount", "I", false)
  | _ => ("Kerfworks$Stock", "sheetCount", "I", false)
def tyX4 : Nat → FieldType := fun k => match k with
  | 0 => .object "java/util/ArrayList"
  | 1 => .int
  | _ => .int
abbrev wsX40 : List Cond := u_ws RX4 TX4 3
theorem nmX4 : ∀ a, a < 3 → ∀ b, b < 3 → a ≠ b → (TX4 a).2.1 ≠ (TX4 b).2.1 := by decide +kernel
theorem tyX4_ok : ∀ k, k < 3 → parseFieldDescriptor (TX4 k).2.2.1 = some (tyX4 k) := by decide +kernel
abbrev cX4_init : ByteArray := prog_6_method_1_code
def yX4_init : MethodName := ⟨RX4, "<init>", "()V"⟩
abbrev cX4_bring : ByteArray := prog_6_method_2_code
def yX4_bring : MethodName := ⟨RX4, "bring", "(II)I"⟩
abbrev cX4_next : ByteArray := prog_6_method_3_code
def yX4_next : MethodName := ⟨RX4, "next", "()LKerfworks$Piece;"⟩
abbrev cX4_lay : ByteArray := prog_6_method_4_code
def yX4_lay : MethodName := ⟨RX4, "lay", "(II)LKerfworks$Piece;"⟩
abbrev cX4_piecesOf : ByteArray := prog_6_method_5_code
def yX4_piecesOf : MethodName := ⟨RX4, "piecesOf", "(LKerfworks$Piece;II)I"⟩
abbrev cX4_pieceOf : ByteArray := prog_6_method_6_code
def yX4_pieceOf : MethodName := ⟨RX4, "pieceOf", "(LKerfworks$Piece;IIII)LKerfworks$Piece;"⟩
abbrev cX4_bestFor : ByteArray := prog_6_method_7_code
def yX4_bestFor : MethodName := ⟨RX4, "bestFor", "(II)LKerfworks$Piece;"⟩
abbrev cX4_undo : ByteArray := prog_6_method_8_code
def yX4_undo : MethodName := ⟨RX4, "undo", "(Ljava/util/ArrayList;I)V"⟩
abbrev cX4_freeAt : ByteArray := prog_6_method_9_code
def yX4_freeAt : MethodName := ⟨RX4, "freeAt", "(I)LKerfworks$Piece;"⟩
def RX5 : String := "Kerfworks"
def TX5 : u_T := fun k => match k with
  | 0 => ("Kerfworks", "drawings", "Ljava/util/ArrayList;", true)
  | 1 => ("Kerfworks", "jobs", "Ljava/util/ArrayList;", true)
  | 2 => ("Kerfworks", "cutJobs", "Ljava/util/ArrayList;", true)
  | 3 => ("Kerfworks", "stock", "LKerfworks$Stock;", true)
  | 4 => ("Kerfworks", "minutesSoFar", "I", false)
  | _ => ("Kerfworks", "lengthSoFar", "F", false)
def tyX5 : Nat → FieldType := fun k => match k with
  | 0 => .object "java/util/ArrayList"
  | 1 => .object "java/util/ArrayList"
  | 2 => .object "java/util/ArrayList"
  | 3 => .object "Kerfworks$Stock"
  | 4 => .int
  | _ => .float
abbrev wsX50 : List Cond := u_ws RX5 TX5 6
theorem nmX5 : ∀ a, a < 6 → ∀ b, b < 6 → a ≠ b → (TX5 a).2.1 ≠ (TX5 b).2.1 := by decide +kernel
theorem tyX5_ok : ∀ k, k < 6 → parseFieldDescriptor (TX5 k).2.2.1 = some (tyX5 k) := by decide +kernel
abbrev cX5_init : ByteArray := prog_1_method_1_code
def yX5_init : MethodName := ⟨RX5, "<init>", "()V"⟩
abbrev cX5_drawing : ByteArray := prog_1_method_2_code
def yX5_drawing : MethodName := ⟨RX5, "drawing", "()I"⟩
abbrev cX5_stroke : ByteArray := prog_1_method_3_code
def yX5_stroke : MethodName := ⟨RX5, "stroke", "(III)I"⟩
abbrev cX5_finish : ByteArray := prog_1_method_4_code
def yX5_finish : MethodName := ⟨RX5, "finish", "(I)I"⟩
abbrev cX5_redraw : ByteArray := prog_1_method_5_code
def yX5_redraw : MethodName := ⟨RX5, "redraw", "(I)I"⟩
abbrev cX5_ofDrawing : ByteArray := prog_1_method_6_code
def yX5_ofDrawing : MethodName := ⟨RX5, "ofDrawing", "(II)I"⟩
abbrev cX5_length : ByteArray := prog_1_method_7_code
def yX5_length : MethodName := ⟨RX5, "length", "(I)F"⟩
abbrev cX5_sheet : ByteArray := prog_1_method_8_code
def yX5_sheet : MethodName := ⟨RX5, "sheet", "(II)I"⟩
abbrev cX5_job : ByteArray := prog_1_method_9_code
def yX5_job : MethodName := ⟨RX5, "job", "(II)I"⟩
abbrev cX5_cancel : ByteArray := prog_1_method_10_code
def yX5_cancel : MethodName := ⟨RX5, "cancel", "(I)I"⟩
abbrev cX5_cut : ByteArray := prog_1_method_11_code
def yX5_cut : MethodName := ⟨RX5, "cut", "(I)I"⟩
abbrev cX5_ofJob : ByteArray := prog_1_method_12_code
def yX5_ofJob : MethodName := ⟨RX5, "ofJob", "(II)I"⟩
abbrev cX5_where : ByteArray := prog_1_method_13_code
def yX5_where : MethodName := ⟨RX5, "where", "(III)I"⟩
abbrev cX5_free : ByteArray := prog_1_method_14_code
def yX5_free : MethodName := ⟨RX5, "free", "(I)I"⟩
abbrev cX5_minutes : ByteArray := prog_1_method_15_code
def yX5_minutes : MethodName := ⟨RX5, "minutes", "()I"⟩
abbrev cX5_cutLength : ByteArray := prog_1_method_16_code
def yX5_cutLength : MethodName := ⟨RX5, "cutLength", "()F"⟩
abbrev cX5_cutAnew : ByteArray := prog_1_method_17_code
def yX5_cutAnew : MethodName := ⟨RX5, "cutAnew", "()F"⟩
abbrev cX5_drawingAt : ByteArray := prog_1_method_18_code
def yX5_drawingAt : MethodName := ⟨RX5, "drawingAt", "(I)LKerfworks$Drawing;"⟩
abbrev cX5_jobAt : ByteArray := prog_1_method_19_code
def yX5_jobAt : MethodName := ⟨RX5, "jobAt", "(I)LKerfworks$Job;"⟩
abbrev cX5_isPoint : ByteArray := prog_1_method_20_code
def yX5_isPoint : MethodName := ⟨RX5, "isPoint", "(I)Z"⟩
abbrev cX5_isSide : ByteArray := prog_1_method_21_code
def yX5_isSide : MethodName := ⟨RX5, "isSide", "(I)Z"⟩
abbrev cX5_addedForCopies : ByteArray := prog_1_method_22_code
def yX5_addedForCopies : MethodName := ⟨RX5, "addedForCopies", "(FFI)F"⟩
abbrev cX5_tryWaiting : ByteArray := prog_1_method_23_code
def yX5_tryWaiting : MethodName := ⟨RX5, "tryWaiting", "()V"⟩
abbrev cX5_sheetsUnder : ByteArray := prog_1_method_24_code
def yX5_sheetsUnder : MethodName := ⟨RX5, "sheetsUnder", "(LKerfworks$Drawing;)I"⟩
abbrev cX5_clearSheets : ByteArray := prog_1_method_25_code
def yX5_clearSheets : MethodName := ⟨RX5, "clearSheets", "(I)I"⟩
def RX6 : String := "KerfworksModel"
def TX6 : u_T := fun k => match k with
  | 0 => ("KerfworksModel", "df", "[I", true)
  | 1 => ("KerfworksModel", "dn", "[I", true)
  | 2 => ("KerfworksModel", "dv", "[I", true)
  | 3 => ("KerfworksModel", "from", "[I", true)
  | 4 => ("KerfworksModel", "to", "[I", true)
  | 5 => ("KerfworksModel", "drawings", "I", false)
  | 6 => ("KerfworksModel", "has", "[I", true)
  | 7 => ("KerfworksModel", "ps", "[I", true)
  | 8 => ("KerfworksModel", "px", "[I", true)
  | 9 => ("KerfworksModel", "py", "[I", true)
  | 10 => ("KerfworksModel", "pw", "[I", true)
  | 11 => ("KerfworksModel", "ph", "[I", true)
  | 12 => ("KerfworksModel", "pk", "[I", true)
  | 13 => ("KerfworksModel", "po", "[I", true)
  | 14 => ("KerfworksModel", "pieces", "I", false)
  | 15 => ("KerfworksModel", "sheets", "I", false)
  | 16 => ("KerfworksModel", "jd", "[I", true)
  | 17 => ("KerfworksModel", "jn", "[I", true)
  | 18 => ("KerfworksModel", "jk", "[I", true)
  | 19 => ("KerfworksModel", "jv", "[I", true)
  | 20 => ("KerfworksModel", "jp", "[I", true)
  | 21 => ("KerfworksModel", "jobs", "I", false)
  | 22 => ("KerfworksModel", "off", "[I", true)
  | 23 => ("KerfworksModel", "minutes", "I", false)
  | 24 => ("KerfworksModel", "cutLength", "F", false)
  | _ => ("KerfworksModel", "thrown", "I", false)
def tyX6 : Nat → FieldType := fun k => match k with
  | 0 => .array .int
  | 1 => .array .int
  | 2 => .array .int
  | 3 => .array .int
  | 4 => .array .int
  | 5 => .int
  | 6 => .array .int
  | 7 => .array .int
  | 8 => .array .int
  | 9 => .array .int
  | 10 => .array .int
  | 11 => .array .int
  | 12 => .array .int
  | 13 => .array .int
  | 14 => .int
  | 15 => .int
  | 16 => .array .int
  | 17 => .array .int
  | 18 => .array .int
  | 19 => .array .int
  | 20 => .array .int
  | 21 => .int
  | 22 => .array .int
  | 23 => .int
  | 24 => .float
  | _ => .int
abbrev wsX60 : List Cond := u_ws RX6 TX6 26
theorem nmX6 : ∀ a, a < 26 → ∀ b, b < 26 → a ≠ b → (TX6 a).2.1 ≠ (TX6 b).2.1 := by decide +kernel
theorem tyX6_ok : ∀ k, k < 26 → parseFieldDescriptor (TX6 k).2.2.1 = some (tyX6 k) := by decide +kernel
abbrev cX6_init : ByteArray := prog_8_method_1_code
def yX6_init : MethodName := ⟨RX6, "<init>", "()V"⟩
abbrev cX6_thrown : ByteArray := prog_8_method_2_code
def yX6_thrown : MethodName := ⟨RX6, "thrown", "()I"⟩
abbrev cX6_holds : ByteArray := prog_8_method_3_code
def yX6_holds : MethodName := ⟨RX6, "holds", "(I)Z"⟩
abbrev cX6_in : ByteArray := prog_8_method_4_code
def yX6_in : MethodName := ⟨RX6, "in", "(III)Z"⟩
abbrev cX6_isDrawing : ByteArray := prog_8_method_5_code
def yX6_isDrawing : MethodName := ⟨RX6, "isDrawing", "(I)Z"⟩
abbrev cX6_drawing : ByteArray := prog_8_method_6_code
def yX6_drawing : MethodName := ⟨RX6, "drawing", "()I"⟩
abbrev cX6_stroke : ByteArray := prog_8_method_7_code
def yX6_stroke : MethodName := ⟨RX6, "stroke", "(III)I"⟩
abbrev cX6_isDoubled : ByteArray := prog_8_method_8_code
def yX6_isDoubled : MethodName := ⟨RX6, "isDoubled", "(II)Z"⟩
abbrev cX6_mends : ByteArray := prog_8_method_9_code
def yX6_mends : MethodName := ⟨RX6, "mends", "(I)V"⟩
abbrev cX6_fault : ByteArray := prog_8_method_10_code
def yX6_fault : MethodName := ⟨RX6, "fault", "(I)I"⟩
abbrev cX6_finish : ByteArray := prog_8_method_11_code
def yX6_finish : MethodName := ⟨RX6, "finish", "(I)I"⟩
abbrev cX6_size : ByteArray := prog_8_method_12_code
def yX6_size : MethodName := ⟨RX6, "size", "(IZ)I"⟩
abbrev cX6_ofDrawing : ByteArray := prog_8_method_13_code
def yX6_ofDrawing : MethodName := ⟨RX6, "ofDrawing", "(II)I"⟩
abbrev cX6_root : ByteArray := prog_8_method_14_code
def yX6_root : MethodName := ⟨RX6, "root", "(I)D"⟩
abbrev cX6_lengthOf : ByteArray := prog_8_method_15_code
def yX6_lengthOf : MethodName := ⟨RX6, "lengthOf", "(I)F"⟩
abbrev cX6_length : ByteArray := prog_8_method_16_code
def yX6_length : MethodName := ⟨RX6, "length", "(I)F"⟩
abbrev cX6_adds : ByteArray := prog_8_method_17_code
def yX6_adds : MethodName := ⟨RX6, "adds", "(IIIIIII)I"⟩
abbrev cX6_sheet : ByteArray := prog_8_method_18_code
def yX6_sheet : MethodName := ⟨RX6, "sheet", "(II)I"⟩
abbrev cX6_bestFor : ByteArray := prog_8_method_19_code
def yX6_bestFor : MethodName := ⟨RX6, "bestFor", "(II)I"⟩
abbrev cX6_lays : ByteArray := prog_8_method_20_code
def yX6_lays : MethodName := ⟨RX6, "lays", "(II)I"⟩
abbrev cX6_allFree : ByteArray := prog_8_method_21_code
def yX6_allFree : MethodName := ⟨RX6, "allFree", "(I)Z"⟩
abbrev cX6_frees : ByteArray := prog_8_method_22_code
def yX6_frees : MethodName := ⟨RX6, "frees", "(I)V"⟩
abbrev cX6_isJob : ByteArray := prog_8_method_23_code
def yX6_isJob : MethodName := ⟨RX6, "isJob", "(I)Z"⟩
abbrev cX6_takesOff : ByteArray := prog_8_method_24_code
def yX6_takesOff : MethodName := ⟨RX6, "takesOff", "(II)V"⟩
abbrev cX6_nests : ByteArray := prog_8_method_25_code
def yX6_nests : MethodName := ⟨RX6, "nests", "(I)V"⟩
abbrev cX6_tries : ByteArray := prog_8_method_26_code
def yX6_tries : MethodName := ⟨RX6, "tries", "()V"⟩
abbrev cX6_job : ByteArray := prog_8_method_27_code
def yX6_job : MethodName := ⟨RX6, "job", "(II)I"⟩
abbrev cX6_cancel : ByteArray := prog_8_method_28_code
def yX6_cancel : MethodName := ⟨RX6, "cancel", "(I)I"⟩
abbrev cX6_shares : ByteArray := prog_8_method_29_code
def yX6_shares : MethodName := ⟨RX6, "shares", "(II)Z"⟩
abbrev cX6_redraw : ByteArray := prog_8_method_30_code
def yX6_redraw : MethodName := ⟨RX6, "redraw", "(I)I"⟩
abbrev cX6_touches : ByteArray := prog_8_method_31_code
def yX6_touches : MethodName := ⟨RX6, "touches", "(II)Z"⟩
abbrev cX6_cut : ByteArray := prog_8_method_32_code
def yX6_cut : MethodName := ⟨RX6, "cut", "(I)I"⟩
abbrev cX6_ofJob : ByteArray := prog_8_method_33_code
def yX6_ofJob : MethodName := ⟨RX6, "ofJob", "(II)I"⟩
abbrev cX6_where : ByteArray := prog_8_method_34_code
def yX6_where : MethodName := ⟨RX6, "where", "(III)I"⟩
abbrev cX6_free : ByteArray := prog_8_method_35_code
def yX6_free : MethodName := ⟨RX6, "free", "(I)I"⟩
abbrev cX6_minutes : ByteArray := prog_8_method_36_code
def yX6_minutes : MethodName := ⟨RX6, "minutes", "()I"⟩
abbrev cX6_cutLength : ByteArray := prog_8_method_37_code
def yX6_cutLength : MethodName := ⟨RX6, "cutLength", "()F"⟩
abbrev cX6_cutAnew : ByteArray := prog_8_method_38_code
def yX6_cutAnew : MethodName := ⟨RX6, "cutAnew", "()F"⟩
def RJx145de : String := "java/io/Serializable"
def TJx145de : u_T := fun k => match k with
  | _ => ("", "", "", false)
def tyJx145de : Nat → FieldType := fun k => match k with
  | _ => .int
abbrev wsJx145de0 : List Cond := u_ws RJx145de TJx145de 0
theorem nmJx145de : ∀ a, a < 0 → ∀ b, b < 0 → a ≠ b → (TJx145de a).2.1 ≠ (TJx145de b).2.1 := by decide +kernel
theorem tyJx145de_ok : ∀ k, k < 0 → parseFieldDescriptor (TJx145de k).2.2.1 = some (tyJx145de k) := by decide +kernel
def RJx8e188 : String := "java/lang/Cloneable"
def TJx8e188 : u_T := fun k => match k with
  | _ => ("", "", "", false)
def tyJx8e188 : Nat → FieldType := fun k => match k with
  | _ => .int
abbrev wsJx8e1880 : List Cond := u_ws RJx8e188 TJx8e188 0
theorem nmJx8e188 : ∀ a, a < 0 → ∀ b, b < 0 → a ≠ b → (TJx8e188 a).2.1 ≠ (TJx8e188 b).2.1 := by decide +kernel
theorem tyJx8e188_ok : ∀ k, k < 0 → parseFieldDescriptor (TJx8e188 k).2.2.1 = some (tyJx8e188 k) := by decide +kernel
def RJxab1ab : String := "java/lang/Iterable"
def TJxab1ab : u_T := fun k => match k with
  | _ => ("", "", "", false)
def tyJxab1ab : Nat → FieldType := fun k => match k with
  | _ => .int
abbrev wsJxab1ab0 : List Cond := u_ws RJxab1ab TJxab1ab 0
theorem nmJxab1ab : ∀ a, a < 0 → ∀ b, b < 0 → a ≠ b → (TJxab1ab a).2.1 ≠ (TJxab1ab b).2.1 := by decide +kernel
theorem tyJxab1ab_ok : ∀ k, k < 0 → parseFieldDescriptor (TJxab1ab k).2.2.1 = some (tyJxab1ab k) := by decide +kernel
def RJ9 : String := "java/lang/Math"
def TJ9 : u_T := fun k => match k with
  | _ => ("", "", "", false)
def tyJ9 : Nat → FieldType := fun k => match k with
  | _ => .int
abbrev wsJ90 : List Cond := u_ws RJ9 TJ9 0
theorem nmJ9 : ∀ a, a < 0 → ∀ b, b < 0 → a ≠ b → (TJ9 a).2.1 ≠ (TJ9 b).2.1 := by decide +kernel
theorem tyJ9_ok : ∀ k, k < 0 → parseFieldDescriptor (TJ9 k).2.2.1 = some (tyJ9 k) := by decide +kernel
abbrev cJ9_max_7cf53 : ByteArray := prog_16_method_65_code
def yJ9_max_7cf53 : MethodName := ⟨RJ9, "max", "(II)I"⟩
abbrev cJ9_min_7cf53 : ByteArray := prog_16_method_69_code
def yJ9_min_7cf53 : MethodName := ⟨RJ9, "min", "(II)I"⟩
def RJ0 : String := "java/lang/String"
def TJ0 : u_T := fun k => match k with
  | _ => ("", "", "", false)
def tyJ0 : Nat → FieldType := fun k => match k with
  | _ => .int
abbrev wsJ00 : List Cond := u_ws RJ0 TJ0 0
theorem nmJ0 : ∀ a, a < 0 → ∀ b, b < 0 → a ≠ b → (TJ0 a).2.1 ≠ (TJ0 b).2.1 := by decide +kernel
theorem tyJ0_ok : ∀ k, k < 0 → parseFieldDescriptor (TJ0 k).2.2.1 = some (tyJ0 k) := by decide +kernel
def RJ10 : String := "java/lang/System"
def TJ10 : u_T := fun k => match k with
  | _ => ("", "", "", false)
def tyJ10 : Nat → FieldType := fun k => match k with
  | _ => .int
abbrev wsJ100 : List Cond := u_ws RJ10 TJ10 0
theorem nmJ10 : ∀ a, a < 0 → ∀ b, b < 0 → a ≠ b → (TJ10 a).2.1 ≠ (TJ10 b).2.1 := by decide +kernel
theorem tyJ10_ok : ∀ k, k < 0 → parseFieldDescriptor (TJ10 k).2.2.1 = some (tyJ10 k) := by decide +kernel
def RJxa1e45 : String := "java/util/AbstractCollection"
def TJxa1e45 : u_T := fun k => match k with
  | _ => ("", "", "", false)
def tyJxa1e45 : Nat → FieldType := fun k => match k with
  | _ => .int
abbrev wsJxa1e450 : List Cond := u_ws RJxa1e45 TJxa1e45 0
theorem nmJxa1e45 : ∀ a, a < 0 → ∀ b, b < 0 → a ≠ b → (TJxa1e45 a).2.1 ≠ (TJxa1e45 b).2.1 := by decide +kernel
theorem tyJxa1e45_ok : ∀ k, k < 0 → parseFieldDescriptor (TJxa1e45 k).2.2.1 = some (tyJxa1e45 k) := by decide +kernel
abbrev cJxa1e45_init_da8c8 : ByteArray := prog_21_method_1_code
def yJxa1e45_init_da8c8 : MethodName := ⟨RJxa1e45, "<init>", "()V"⟩
def RJxc12de : String := "java/util/AbstractList"
def TJxc12de : u_T := fun k => match k with
  | _ => ("", "", "", false)
def tyJxc12de : Nat → FieldType := fun k => match k with
  | _ => .int
abbrev wsJxc12de0 : List Cond := u_ws RJxc12de TJxc12de 0
theorem nmJxc12de : ∀ a, a < 0 → ∀ b, b < 0 → a ≠ b → (TJxc12de a).2.1 ≠ (TJxc12de b).2.1 := by decide +kernel
theorem tyJxc12de_ok : ∀ k, k < 0 → parseFieldDescriptor (TJxc12de k).2.2.1 = some (tyJxc12de k) := by decide +kernel
abbrev cJxc12de_init_da8c8 : ByteArray := prog_22_method_1_code
def yJxc12de_init_da8c8 : MethodName := ⟨RJxc12de, "<init>", "()V"⟩
def RJx4a65c : String := "java/util/ArrayList"
def TJx4a65c : u_T := fun k => match k with
  | 0 => ("java/util/AbstractList", "modCount", "I", false)
  | 1 => ("java/util/ArrayList", "elementData", "[Ljava/lang/Object;", false)
  | _ => ("java/util/ArrayList", "size", "I", false)
def tyJx4a65c : Nat → FieldType := fun k => match k with
  | 0 => .int
  | 1 => .array (.object "java/lang/Object")
  | _ => .int
abbrev wsJx4a65c0 : List Cond := u_ws RJx4a65c TJx4a65c 3
theorem nmJx4a65c : ∀ a, a < 3 → ∀ b, b < 3 → a ≠ b → (TJx4a65c a).2.1 ≠ (TJx4a65c b).2.1 := by decide +kernel
theorem tyJx4a65c_ok : ∀ k, k < 3 → parseFieldDescriptor (TJx4a65c k).2.2.1 = some (tyJx4a65c k) := by decide +kernel
abbrev cJx4a65c_init_da8c8 : ByteArray := prog_23_method_2_code
def yJx4a65c_init_da8c8 : MethodName := ⟨RJx4a65c, "<init>", "()V"⟩
abbrev cJx4a65c_grow_92f84 : ByteArray := prog_23_method_6_code
def yJx4a65c_grow_92f84 : MethodName := ⟨RJx4a65c, "grow", "(I)[Ljava/lang/Object;"⟩
abbrev cJx4a65c_grow_d5877 : ByteArray := prog_23_method_7_code
def yJx4a65c_grow_d5877 : MethodName := ⟨RJx4a65c, "grow", "()[Ljava/lang/Object;"⟩
abbrev cJx4a65c_size_8abf5 : ByteArray := prog_23_method_8_code
def yJx4a65c_size_8abf5 : MethodName := ⟨RJx4a65c, "size", "()I"⟩
abbrev cJx4a65c_elementData_915e3 : ByteArray := prog_23_method_18_code
def yJx4a65c_elementData_915e3 : MethodName := ⟨RJx4a65c, "elementData", "(I)Ljava/lang/Object;"⟩
abbrev cJx4a65c_get_915e3 : ByteArray := prog_23_method_20_code
def yJx4a65c_get_915e3 : MethodName := ⟨RJx4a65c, "get", "(I)Ljava/lang/Object;"⟩
abbrev cJx4a65c_add_72be8 : ByteArray := prog_23_method_24_code
def yJx4a65c_add_72be8 : MethodName := ⟨RJx4a65c, "add", "(Ljava/lang/Object;[Ljava/lang/Object;I)V"⟩
abbrev cJx4a65c_add_9ea2d : ByteArray := prog_23_method_25_code
def yJx4a65c_add_9ea2d : MethodName := ⟨RJx4a65c, "add", "(Ljava/lang/Object;)Z"⟩
abbrev cJx4a65c_clear_da8c8 : ByteArray := prog_23_method_40_code
def yJx4a65c_clear_da8c8 : MethodName := ⟨RJx4a65c, "clear", "()V"⟩
def RJ7 : String := "java/util/Arrays"
def TJ7 : u_T := fun k => match k with
  | _ => ("", "", "", false)
def tyJ7 : Nat → FieldType := fun k => match k with
  | _ => .int
abbrev wsJ70 : List Cond := u_ws RJ7 TJ7 0
theorem nmJ7 : ∀ a, a < 0 → ∀ b, b < 0 → a ≠ b → (TJ7 a).2.1 ≠ (TJ7 b).2.1 := by decide +kernel
theorem tyJ7_ok : ∀ k, k < 0 → parseFieldDescriptor (TJ7 k).2.2.1 = some (tyJ7 k) := by decide +kernel
abbrev cJ7_copyOf_1904c : ByteArray := prog_24_method_119_code
def yJ7_copyOf_1904c : MethodName := ⟨RJ7, "copyOf", "([Ljava/lang/Object;I)[Ljava/lang/Object;"⟩
abbrev cJ7_copyOf_6403c : ByteArray := prog_24_method_120_code
def yJ7_copyOf_6403c : MethodName := ⟨RJ7, "copyOf", "([Ljava/lang/Object;ILjava/lang/Class;)[Ljava/lang/Object;"⟩
def RJx5ef63 : String := "java/util/Collection"
def TJx5ef63 : u_T := fun k => match k with
  | _ => ("", "", "", false)
def tyJx5ef63 : Nat → FieldType := fun k => match k with
  | _ => .int
abbrev wsJx5ef630 : List Cond := u_ws RJx5ef63 TJx5ef63 0
theorem nmJx5ef63 : ∀ a, a < 0 → ∀ b, b < 0 → a ≠ b → (TJx5ef63 a).2.1 ≠ (TJx5ef63 b).2.1 := by decide +kernel
theorem tyJx5ef63_ok : ∀ k, k < 0 → parseFieldDescriptor (TJx5ef63 k).2.2.1 = some (tyJx5ef63 k) := by decide +kernel
def RJxbd725 : String := "java/util/List"
def TJxbd725 : u_T := fun k => match k with
  | _ => ("", "", "", false)
def tyJxbd725 : Nat → FieldType := fun k => match k with
  | _ => .int
abbrev wsJxbd7250 : List Cond := u_ws RJxbd725 TJxbd725 0
theorem nmJxbd725 : ∀ a, a < 0 → ∀ b, b < 0 → a ≠ b → (TJxbd725 a).2.1 ≠ (TJxbd725 b).2.1 := by decide +kernel
theorem tyJxbd725_ok : ∀ k, k < 0 → parseFieldDescriptor (TJxbd725 k).2.2.1 = some (tyJxbd725 k) := by decide +kernel
def RJ15 : String := "java/util/Objects"
def TJ15 : u_T := fun k => match k with
  | _ => ("", "", "", false)
def tyJ15 : Nat → FieldType := fun k => match k with
  | _ => .int
abbrev wsJ150 : List Cond := u_ws RJ15 TJ15 0
theorem nmJ15 : ∀ a, a < 0 → ∀ b, b < 0 → a ≠ b → (TJ15 a).2.1 ≠ (TJ15 b).2.1 := by decide +kernel
theorem tyJ15_ok : ∀ k, k < 0 → parseFieldDescriptor (TJ15 k).2.2.1 = some (tyJ15 k) := by decide +kernel
abbrev cJ15_checkIndex_7cf53 : ByteArray := prog_27_method_17_code
def yJ15_checkIndex_7cf53 : MethodName := ⟨RJ15, "checkIndex", "(II)I"⟩
def RJxf0a74 : String := "java/util/RandomAccess"
def TJxf0a74 : u_T := fun k => match k with
  | _ => ("", "", "", false)
def tyJxf0a74 : Nat → FieldType := fun k => match k with
  | _ => .int
abbrev wsJxf0a740 : List Cond := u_ws RJxf0a74 TJxf0a74 0
theorem nmJxf0a74 : ∀ a, a < 0 → ∀ b, b < 0 → a ≠ b → (TJxf0a74 a).2.1 ≠ (TJxf0a74 b).2.1 := by decide +kernel
theorem tyJxf0a74_ok : ∀ k, k < 0 → parseFieldDescriptor (TJxf0a74 k).2.2.1 = some (tyJxf0a74 k) := by decide +kernel
def RJxa66e6 : String := "java/util/SequencedCollection"
def TJxa66e6 : u_T := fun k => match k with
  | _ => ("", "", "", false)
def tyJxa66e6 : Nat → FieldType := fun k => match k with
  | _ => .int
abbrev wsJxa66e60 : List Cond := u_ws RJxa66e6 TJxa66e6 0
theorem nmJxa66e6 : ∀ a, a < 0 → ∀ b, b < 0 → a ≠ b → (TJxa66e6 a).2.1 ≠ (TJxa66e6 b).2.1 := by decide +kernel
theorem tyJxa66e6_ok : ∀ k, k < 0 → parseFieldDescriptor (TJxa66e6 k).2.2.1 = some (tyJxa66e6 k) := by decide +kernel
def RJ8 : String := "jdk/internal/util/ArraysSupport"
def TJ8 : u_T := fun k => match k with
  | _ => ("", "", "", false)
def tyJ8 : Nat → FieldType := fun k => match k with
  | _ => .int
abbrev wsJ80 : List Cond := u_ws RJ8 TJ8 0
theorem nmJ8 : ∀ a, a < 0 → ∀ b, b < 0 → a ≠ b → (TJ8 a).2.1 ≠ (TJ8 b).2.1 := by decide +kernel
theorem tyJ8_ok : ∀ k, k < 0 → parseFieldDescriptor (TJ8 k).2.2.1 = some (tyJ8 k) := by decide +kernel
abbrev cJ8_newLength_cabcc : ByteArray := prog_30_method_27_code
def yJ8_newLength_cabcc : MethodName := ⟨RJ8, "newLength", "(III)I"⟩
abbrev cJ8_hugeLength_7cf53 : ByteArray := prog_30_method_28_code
def yJ8_hugeLength_7cf53 : MethodName := ⟨RJ8, "hugeLength", "(II)I"⟩
def RJ3 : String := "jdk/internal/util/Preconditions"
def TJ3 : u_T := fun k => match k with
  | _ => ("", "", "", false)
def tyJ3 : Nat → FieldType := fun k => match k with
  | _ => .int
abbrev wsJ30 : List Cond := u_ws RJ3 TJ3 0
theorem nmJ3 : ∀ a, a < 0 → ∀ b, b < 0 → a ≠ b → (TJ3 a).2.1 ≠ (TJ3 b).2.1 := by decide +kernel
theorem tyJ3_ok : ∀ k, k < 0 → parseFieldDescriptor (TJ3 k).2.2.1 = some (tyJ3 k) := by decide +kernel
abbrev cJ3_checkIndex_8e157 : ByteArray := prog_31_method_11_code
def yJ3_checkIndex_8e157 : MethodName := ⟨RJ3, "checkIndex", "(IILjava/util/function/BiFunction;)I"⟩
def RL : String := "KerfworksLaw"
abbrev cL_drawing : ByteArray := method_3_code
def yL_drawing : MethodName := ⟨RL, "drawing", "(LKerfworks;[J)I"⟩
abbrev cL_stroke : ByteArray := method_4_code
def yL_stroke : MethodName := ⟨RL, "stroke", "(LKerfworks;III[J)I"⟩
abbrev cL_finish : ByteArray := method_5_code
def yL_finish : MethodName := ⟨RL, "finish", "(LKerfworks;I[J)I"⟩
abbrev cL_redraw : ByteArray := method_6_code
def yL_redraw : MethodName := ⟨RL, "redraw", "(LKerfworks;I[J)I"⟩
abbrev cL_ofDrawing : ByteArray := method_7_code
def yL_ofDrawing : MethodName := ⟨RL, "ofDrawing", "(LKerfworks;II[J)I"⟩
abbrev cL_length : ByteArray := method_8_code
def yL_length : MethodName := ⟨RL, "length", "(LKerfworks;I[D)I"⟩
abbrev cL_sheet : ByteArray := method_9_code
def yL_sheet : MethodName := ⟨RL, "sheet", "(LKerfworks;II[J)I"⟩
abbrev cL_job : ByteArray := method_10_code
def yL_job : MethodName := ⟨RL, "job", "(LKerfworks;II[J)I"⟩
abbrev cL_cancel : ByteArray := method_11_code
def yL_cancel : MethodName := ⟨RL, "cancel", "(LKerfworks;I[J)I"⟩
abbrev cL_cut : ByteArray := method_12_code
def yL_cut : MethodName := ⟨RL, "cut", "(LKerfworks;I[J)I"⟩
abbrev cL_ofJob : ByteArray := method_13_code
def yL_ofJob : MethodName := ⟨RL, "ofJob", "(LKerfworks;II[J)I"⟩
abbrev cL_where : ByteArray := method_14_code
def yL_where : MethodName := ⟨RL, "where", "(LKerfworks;III[J)I"⟩
abbrev cL_free : ByteArray := method_15_code
def yL_free : MethodName := ⟨RL, "free", "(LKerfworks;I[J)I"⟩
abbrev cL_law : ByteArray := code
def yL_law : MethodName := ⟨RL, "law", "([I)Z"⟩
abbrev vwCl : List vw_C := [(RJx4a65c, TJx4a65c, 3), (RX0, TX0, 4), (RX1, TX1, 6), (RX2, TX2, 2), (RX3, TX3, 11), (RX4, TX4, 3), (RX5, TX5, 6), (RX6, TX6, 26)]
end
section
theorem dX0_init_0 : decode cX0_init 0 = .ok (.aload_n 0, 1) := by decide +kernel
theorem dX0_init_1 : decode cX0_init 1 = .ok (.invokespecial 3, 3) := by decide +kernel
theorem dX0_init_4 : decode cX0_init 4 = .ok (.aload_n 0, 1) := by decide +kernel
theorem dX0_init_5 : decode cX0_init 5 = .ok (.new 9, 3) := by decide +kernel
theorem dX0_init_8 : decode cX0_init 8 = .ok (.dup, 1) := by decide +kernel
theorem dX0_init_9 : decode cX0_init 9 = .ok (.invokespecial 11, 3) := by decide +kernel
theorem dX0_init_12 : decode cX0_init 12 = .ok (.putfield 12, 3) := by decide +kernel
theorem dX0_init_15 : decode cX0_init 15 = .ok (.aload_n 0, 1) := by decide +kernel
theorem dX0_init_16 : decode cX0_init 16 = .ok (.iconst 0, 1) := by decide +kernel
theorem dX0_init_17 : decode cX0_init 17 = .ok (.putfield 18, 3) := by decide +kernel
theorem dX0_init_20 : decode cX0_init 20 = .ok (.aload_n 0, 1) := by decide +kernel
theorem dX0_init_21 : decode cX0_init 21 = .ok (.iload_n 1, 1) := by decide +kernel
theorem dX0_init_22 : decode cX0_init 22 = .ok (.putfield 22, 3) := by decide +kernel
theorem dX0_init_25 : decode cX0_init 25 = .ok (.return_, 1) := by decide +kernel
theorem dX0_openAgain_0 : decode cX0_openAgain 0 = .ok (.aload_n 0, 1) := by decide +kernel
theorem dX0_openAgain_1 : decode cX0_openAgain 1 = .ok (.getfield 12, 3) := by decide +kernel
theorem dX0_openAgain_4 : decode cX0_openAgain 4 = .ok (.invokevirtual 25, 3) := by decide +kernel
theorem dX0_openAgain_7 : decode cX0_openAgain 7 = .ok (.aload_n 0, 1) := by decide +kernel
theorem dX0_openAgain_8 : decode cX0_openAgain 8 = .ok (.iconst 0, 1) := by decide +kernel
theorem dX0_openAgain_9 : decode cX0_openAgain 9 = .ok (.putfield 18, 3) := by decide +kernel
theorem dX0_openAgain_12 : decode cX0_openAgain 12 = .ok (.aload_n 0, 1) := by decide +kernel
theorem dX0_openAgain_13 : decode cX0_openAgain 13 = .ok (.dup, 1) := by decide +kernel
theorem dX0_openAgain_14 : decode cX0_openAgain 14 = .ok (.getfield 28, 3) := by decide +kernel
theorem dX0_openAgain_17 : decode cX0_openAgain 17 = .ok (.iconst 1, 1) := by decide +kernel
theorem dX0_openAgain_18 : decode cX0_openAgain 18 = .ok (.iadd, 1) := by decide +kernel
theorem dX0_openAgain_19 : decode cX0_openAgain 19 = .ok (.putfield 28, 3) := by decide +kernel
theorem dX0_openAgain_22 : decode cX0_openAgain 22 = .ok (.return_, 1) := by decide +kernel
theorem dX1_init_0 : decode cX1_init 0 = .ok (.aload_n 0, 1) := by decide +kernel
theorem dX1_init_1 : decode cX1_init 1 = .ok (.invokespecial 3, 3) := by decide +kernel
theorem dX1_init_4 : decode cX1_init 4 = .ok (.aload_n 0, 1) := by decide +kernel
theorem dX1_init_5 : decode cX1_init 5 = .ok (.iconst 0, 1) := by decide +kernel
theorem dX1_init_6 : decode cX1_init 6 = .ok (.putfield 9, 3) := by decide +kernel
theorem dX1_init_9 : decode cX1_init 9 = .ok (.aload_n 0, 1) := by decide +kernel
theorem dX1_init_10 : decode cX1_init 10 = .ok (.iconst (-1), 1) := by decide +kernel
theorem dX1_init_11 : decode cX1_init 11 = .ok (.putfield 15, 3) := by decide +kernel
theorem dX1_init_14 : decode cX1_init 14 = .ok (.aload_n 0, 1) := by decide +kernel
theorem dX1_init_15 : decode cX1_init 15 = .ok (.new 18, 3) := by decide +kernel
theorem dX1_init_18 : decode cX1_init 18 = .ok (.dup, 1) := by decide +kernel
theorem dX1_init_19 : decode cX1_init 19 = .ok (.invokespecial 20, 3) := by decide +kernel
theorem dX1_init_22 : decode cX1_init 22 = .ok (.putfield 21, 3) := by decide +kernel
theorem dX1_init_25 : decode cX1_init 25 = .ok (.aload_n 0, 1) := by decide +kernel
theorem dX1_init_26 : decode cX1_init 26 = .ok (.new 25, 3) := by decide +kernel
theorem dX1_init_29 : decode cX1_init 29 = .ok (.dup, 1) := by decide +kernel
theorem dX1_init_30 : decode cX1_init 30 = .ok (.invokespecial 27, 3) := by decide +kernel
theorem dX1_init_33 : decode cX1_init 33 = .ok (.putfield 28, 3) := by decide +kernel
theorem dX1_init_36 : decode cX1_init 36 = .ok (.aload_n 0, 1) := by decide +kernel
theorem dX1_init_37 : decode cX1_init 37 = .ok (.aload_n 1, 1) := by decide +kernel
theorem dX1_init_38 : decode cX1_init 38 = .ok (.putfield 32, 3) := by decide +kernel
theorem dX1_init_41 : decode cX1_init 41 = .ok (.aload_n 0, 1) := by decide +kernel
theorem dX1_init_42 : decode cX1_init 42 = .ok (.iload_n 2, 1) := by decide +kernel
theorem dX1_init_43 : decode cX1_init 43 = .ok (.putfield 36, 3) := by decide +kernel
theorem dX1_init_46 : decode cX1_init 46 = .ok (.return_, 1) := by decide +kernel
theorem dX1_nestOn_0 : decode cX1_nestOn 0 = .ok (.aload_n 1, 1) := by decide +kernel
theorem dX1_nestOn_1 : decode cX1_nestOn 1 = .ok (.getfield 39, 3) := by decide +kernel
theorem dX1_nestOn_4 : decode cX1_nestOn 4 = .ok (.istore_n 2, 1) := by decide +kernel
theorem dX1_nestOn_5 : decode cX1_nestOn 5 = .ok (.aload_n 0, 1) := by decide +kernel
theorem dX1_nestOn_6 : decode cX1_nestOn 6 = .ok (.getfield 32, 3) := by decide +kernel
theorem dX1_nestOn_9 : decode cX1_nestOn 9 = .ok (.getfield 44, 3) := by decide +kernel
theorem dX1_nestOn_12 : decode cX1_nestOn 12 = .ok (.invokevirtual 49, 3) := by decide +kernel
theorem dX1_nestOn_15 : decode cX1_nestOn 15 = .ok (.iconst 1, 1) := by decide +kernel
theorem dX1_nestOn_16 : decode cX1_nestOn 16 = .ok (.iadd, 1) := by decide +kernel
theorem dX1_nestOn_17 : decode cX1_nestOn 17 = .ok (.istore_n 3, 1) := by decide +kernel
theorem dX1_nestOn_18 : decode cX1_nestOn 18 = .ok (.aload_n 0, 1) := by decide +kernel
theorem dX1_nestOn_19 : decode cX1_nestOn 19 = .ok (.getfield 32, 3) := by decide +kernel
theorem dX1_nestOn_22 : decode cX1_nestOn 22 = .ok (.getfield 44, 3) := by decide +kernel
theorem dX1_nestOn_25 : decode cX1_nestOn 25 = .ok (.invokevirtual 53, 3) := by decide +kernel
theorem dX1_nestOn_28 : decode cX1_nestOn 28 = .ok (.iconst 1, 1) := by decide +kernel
theorem dX1_nestOn_29 : decode cX1_nestOn 29 = .ok (.iadd, 1) := by decide +kernel
theorem dX1_nestOn_30 : decode cX1_nestOn 30 = .ok (.istore 4, 2) := by decide +kernel
theorem dX1_nestOn_32 : decode cX1_nestOn 32 = .ok (.iconst 0, 1) := by decide +kernel
theorem dX1_nestOn_33 : decode cX1_nestOn 33 = .ok (.istore 5, 2) := by decide +kernel
theorem dX1_nestOn_35 : decode cX1_nestOn 35 = .ok (.iload 5, 2) := by decide +kernel
theorem dX1_nestOn_37 : decode cX1_nestOn 37 = .ok (.aload_n 0, 1) := by decide +kernel
theorem dX1_nestOn_38 : decode cX1_nestOn 38 = .ok (.getfield 36, 3) := by decide +kernel
theorem dX1_nestOn_41 : decode cX1_nestOn 41 = .ok (.if_icmp .ge 50, 3) := by decide +kernel
theorem dX1_nestOn_44 : decode cX1_nestOn 44 = .ok (.aload_n 1, 1) := by decide +kernel
theorem dX1_nestOn_45 : decode cX1_nestOn 45 = .ok (.iload_n 3, 1) := by decide +kernel
theorem dX1_nestOn_46 : decode cX1_nestOn 46 = .ok (.iload 4, 2) := by decide +kernel
theorem dX1_nestOn_48 : decode cX1_nestOn 48 = .ok (.invokevirtual 56, 3) := by decide +kernel
theorem dX1_nestOn_51 : decode cX1_nestOn 51 = .ok (.astore 6, 2) := by decide +kernel
theorem dX1_nestOn_53 : decode cX1_nestOn 53 = .ok (.aload 6, 2) := by decide +kernel
theorem dX1_nestOn_55 : decode cX1_nestOn 55 = .ok (.ifnonnull 20, 3) := by decide +kernel
theorem dX1_nestOn_58 : decode cX1_nestOn 58 = .ok (.aload_n 1, 1) := by decide +kernel
theorem dX1_nestOn_59 : decode cX1_nestOn 59 = .ok (.aload_n 0, 1) := by decide +kernel
theorem dX1_nestOn_60 : decode cX1_nestOn 60 = .ok (.getfield 21, 3) := by decide +kernel
theorem dX1_nestOn_63 : decode cX1_nestOn 63 = .ok (.iload_n 2, 1) := by decide +kernel
theorem dX1_nestOn_64 : decode cX1_nestOn 64 = .ok (.invokevirtual 60, 3) := by decide +kernel
theorem dX1_nestOn_67 : decode cX1_nestOn 67 = .ok (.aload_n 0, 1) := by decide +kernel
theorem dX1_nestOn_68 : decode cX1_nestOn 68 = .ok (.getfield 21, 3) := by decide +kernel
theorem dX1_nestOn_71 : decode cX1_nestOn 71 = .ok (.invokevirtual 64, 3) := by decide +kernel
theorem dX1_nestOn_74 : decode cX1_nestOn 74 = .ok (.return_, 1) := by decide +kernel
theorem dX1_nestOn_75 : decode cX1_nestOn 75 = .ok (.aload_n 0, 1) := by decide +kernel
theorem dX1_nestOn_76 : decode cX1_nestOn 76 = .ok (.getfield 21, 3) := by decide +kernel
theorem dX1_nestOn_79 : decode cX1_nestOn 79 = .ok (.aload 6, 2) := by decide +kernel
theorem dX1_nestOn_81 : decode cX1_nestOn 81 = .ok (.invokevirtual 67, 3) := by decide +kernel
theorem dX1_nestOn_84 : decode cX1_nestOn 84 = .ok (.pop, 1) := by decide +kernel
theorem dX1_nestOn_85 : decode cX1_nestOn 85 = .ok (.iinc 5 1, 3) := by decide +kernel
theorem dX1_nestOn_88 : decode cX1_nestOn 88 = .ok (.goto (-53), 3) := by decide +kernel
theorem dX1_nestOn_91 : decode cX1_nestOn 91 = .ok (.aload_n 0, 1) := by decide +kernel
theorem dX1_nestOn_92 : decode cX1_nestOn 92 = .ok (.iconst 1, 1) := by decide +kernel
theorem dX1_nestOn_93 : decode cX1_nestOn 93 = .ok (.putfield 9, 3) := by decide +kernel
theorem dX1_nestOn_96 : decode cX1_nestOn 96 = .ok (.aload_n 0, 1) := by decide +kernel
theorem dX1_nestOn_97 : decode cX1_nestOn 97 = .ok (.aload_n 0, 1) := by decide +kernel
theorem dX1_nestOn_98 : decode cX1_nestOn 98 = .ok (.getfield 32, 3) := by decide +kernel
theorem dX1_nestOn_101 : decode cX1_nestOn 101 = .ok (.getfield 71, 3) := by decide +kernel
theorem dX1_nestOn_104 : decode cX1_nestOn 104 = .ok (.putfield 15, 3) := by decide +kernel
theorem dX1_nestOn_107 : decode cX1_nestOn 107 = .ok (.return_, 1) := by decide +kernel
theorem dX1_takeOff_0 : decode cX1_takeOff 0 = .ok (.iconst 0, 1) := by decide +kernel
theorem dX1_takeOff_1 : decode cX1_takeOff 1 = .ok (.istore_n 1, 1) := by decide +kernel
theorem dX1_takeOff_2 : decode cX1_takeOff 2 = .ok (.iload_n 1, 1) := by decide +kernel
theorem dX1_takeOff_3 : decode cX1_takeOff 3 = .ok (.aload_n 0, 1) := by decide +kernel
theorem dX1_takeOff_4 : decode cX1_takeOff 4 = .ok (.getfield 21, 3) := by decide +kernel
theorem dX1_takeOff_7 : decode cX1_takeOff 7 = .ok (.invokevirtual 72, 3) := by decide +kernel
theorem dX1_takeOff_10 : decode cX1_takeOff 10 = .ok (.if_icmp .ge 23, 3) := by decide +kernel
theorem dX1_takeOff_13 : decode cX1_takeOff 13 = .ok (.aload_n 0, 1) := by decide +kernel
theorem dX1_takeOff_14 : decode cX1_takeOff 14 = .ok (.getfield 21, 3) := by decide +kernel
theorem dX1_takeOff_17 : decode cX1_takeOff 17 = .ok (.iload_n 1, 1) := by decide +kernel
theorem dX1_takeOff_18 : decode cX1_takeOff 18 = .ok (.invokevirtual 75, 3) := by decide +kernel
theorem dX1_takeOff_21 : decode cX1_takeOff 21 = .ok (.checkcast 79, 3) := by decide +kernel
theorem dX1_takeOff_24 : decode cX1_takeOff 24 = .ok (.invokevirtual 81, 3) := by decide +kernel
theorem dX1_takeOff_27 : decode cX1_takeOff 27 = .ok (.iinc 1 1, 3) := by decide +kernel
theorem dX1_takeOff_30 : decode cX1_takeOff 30 = .ok (.goto (-28), 3) := by decide +kernel
theorem dX1_takeOff_33 : decode cX1_takeOff 33 = .ok (.aload_n 0, 1) := by decide +kernel
theorem dX1_takeOff_34 : decode cX1_takeOff 34 = .ok (.getfield 21, 3) := by decide +kernel
theorem dX1_takeOff_37 : decode cX1_takeOff 37 = .ok (.invokevirtual 64, 3) := by decide +kernel
theorem dX1_takeOff_40 : decode cX1_takeOff 40 = .ok (.aload_n 0, 1) := by decide +kernel
theorem dX1_takeOff_41 : decode cX1_takeOff 41 = .ok (.iconst 0, 1) := by decide +kernel
theorem dX1_takeOff_42 : decode cX1_takeOff 42 = .ok (.putfield 9, 3) := by decide +kernel
theorem dX1_takeOff_45 : decode cX1_takeOff 45 = .ok (.aload_n 0, 1) := by decide +kernel
theorem dX1_takeOff_46 : decode cX1_takeOff 46 = .ok (.iconst (-1), 1) := by decide +kernel
theorem dX1_takeOff_47 : decode cX1_takeOff 47 = .ok (.putfield 15, 3) := by decide +kernel
theorem dX1_takeOff_50 : decode cX1_takeOff 50 = .ok (.return_, 1) := by decide +kernel
theorem dX1_sheetsUsed_0 : decode cX1_sheetsUsed 0 = .ok (.iconst 0, 1) := by decide +kernel
theorem dX1_sheetsUsed_1 : decode cX1_sheetsUsed 1 = .ok (.istore_n 1, 1) := by decide +kernel
theorem dX1_sheetsUsed_2 : decode cX1_sheetsUsed 2 = .ok (.iconst 0, 1) := by decide +kernel
theorem dX1_sheetsUsed_3 : decode cX1_sheetsUsed 3 = .ok (.istore_n 2, 1) := by decide +kernel
theorem dX1_sheetsUsed_4 : decode cX1_sheetsUsed 4 = .ok (.iload_n 2, 1) := by decide +kernel
theorem dX1_sheetsUsed_5 : decode cX1_sheetsUsed 5 = .ok (.aload_n 0, 1) := by decide +kernel
theorem dX1_sheetsUsed_6 : decode cX1_sheetsUsed 6 = .ok (.getfield 21, 3) := by decide +kernel
theorem dX1_sheetsUsed_9 : decode cX1_sheetsUsed 9 = .ok (.invokevirtual 72, 3) := by decide +kernel
theorem dX1_sheetsUsed_12 : decode cX1_sheetsUsed 12 = .ok (.if_icmp .ge 28, 3) := by decide +kernel
theorem dX1_sheetsUsed_15 : decode cX1_sheetsUsed 15 = .ok (.iload_n 1, 1) := by decide +kernel
theorem dX1_sheetsUsed_16 : decode cX1_sheetsUsed 16 = .ok (.iconst 1, 1) := by decide +kernel
theorem dX1_sheetsUsed_17 : decode cX1_sheetsUsed 17 = .ok (.aload_n 0, 1) := by decide +kernel
theorem dX1_sheetsUsed_18 : decode cX1_sheetsUsed 18 = .ok (.getfield 21, 3) := by decide +kernel
theorem dX1_sheetsUsed_21 : decode cX1_sheetsUsed 21 = .ok (.iload_n 2, 1) := by decide +kernel
theorem dX1_sheetsUsed_22 : decode cX1_sheetsUsed 22 = .ok (.invokevirtual 75, 3) := by decide +kernel
theorem dX1_sheetsUsed_25 : decode cX1_sheetsUsed 25 = .ok (.checkcast 79, 3) := by decide +kernel
theorem dX1_sheetsUsed_28 : decode cX1_sheetsUsed 28 = .ok (.getfield 84, 3) := by decide +kernel
theorem dX1_sheetsUsed_31 : decode cX1_sheetsUsed 31 = .ok (.ishl, 1) := by decide +kernel
theorem dX1_sheetsUsed_32 : decode cX1_sheetsUsed 32 = .ok (.ior, 1) := by decide +kernel
theorem dX1_sheetsUsed_33 : decode cX1_sheetsUsed 33 = .ok (.istore_n 1, 1) := by decide +kernel
theorem dX1_sheetsUsed_34 : decode cX1_sheetsUsed 34 = .ok (.iinc 2 1, 3) := by decide +kernel
theorem dX1_sheetsUsed_37 : decode cX1_sheetsUsed 37 = .ok (.goto (-33), 3) := by decide +kernel
theorem dX1_sheetsUsed_40 : decode cX1_sheetsUsed 40 = .ok (.iload_n 1, 1) := by decide +kernel
theorem dX1_sheetsUsed_41 : decode cX1_sheetsUsed 41 = .ok (.ireturn, 1) := by decide +kernel
theorem dX1_keepStrokes_0 : decode cX1_keepStrokes 0 = .ok (.aload_n 0, 1) := by decide +kernel
theorem dX1_keepStrokes_1 : decode cX1_keepStrokes 1 = .ok (.getfield 28, 3) := by decide +kernel
theorem dX1_keepStrokes_4 : decode cX1_keepStrokes 4 = .ok (.aload_n 0, 1) := by decide +kernel
theorem dX1_keepStrokes_5 : decode cX1_keepStrokes 5 = .ok (.getfield 32, 3) := by decide +kernel
theorem dX1_keepStrokes_8 : decode cX1_keepStrokes 8 = .ok (.getfield 44, 3) := by decide +kernel
theorem dX1_keepStrokes_11 : decode cX1_keepStrokes 11 = .ok (.invokevirtual 87, 3) := by decide +kernel
theorem dX1_keepStrokes_14 : decode cX1_keepStrokes 14 = .ok (.return_, 1) := by decide +kernel
theorem dX1_minutesFor_0 : decode cX1_minutesFor 0 = .ok (.aload_n 0, 1) := by decide +kernel
theorem dX1_minutesFor_1 : decode cX1_minutesFor 1 = .ok (.getfield 36, 3) := by decide +kernel
theorem dX1_minutesFor_4 : decode cX1_minutesFor 4 = .ok (.fload_n 1, 1) := by decide +kernel
theorem dX1_minutesFor_5 : decode cX1_minutesFor 5 = .ok (.ldc 91, 2) := by decide +kernel
theorem dX1_minutesFor_7 : decode cX1_minutesFor 7 = .ok (.fdiv, 1) := by decide +kernel
theorem dX1_minutesFor_8 : decode cX1_minutesFor 8 = .ok (.f2i, 1) := by decide +kernel
theorem dX1_minutesFor_9 : decode cX1_minutesFor 9 = .ok (.iconst 1, 1) := by decide +kernel
theorem dX1_minutesFor_10 : decode cX1_minutesFor 10 = .ok (.iadd, 1) := by decide +kernel
theorem dX1_minutesFor_11 : decode cX1_minutesFor 11 = .ok (.imul, 1) := by decide +kernel
theorem dX1_minutesFor_12 : decode cX1_minutesFor 12 = .ok (.istore_n 2, 1) := by decide +kernel
theorem dX1_minutesFor_13 : decode cX1_minutesFor 13 = .ok (.iconst 1, 1) := by decide +kernel
theorem dX1_minutesFor_14 : decode cX1_minutesFor 14 = .ok (.istore_n 3, 1) := by decide +kernel
theorem dX1_minutesFor_15 : decode cX1_minutesFor 15 = .ok (.iload_n 3, 1) := by decide +kernel
theorem dX1_minutesFor_16 : decode cX1_minutesFor 16 = .ok (.aload_n 0, 1) := by decide +kernel
theorem dX1_minutesFor_17 : decode cX1_minutesFor 17 = .ok (.getfield 21, 3) := by decide +kernel
theorem dX1_minutesFor_20 : decode cX1_minutesFor 20 = .ok (.invokevirtual 72, 3) := by decide +kernel
theorem dX1_minutesFor_23 : decode cX1_minutesFor 23 = .ok (.if_icmp .ge 20, 3) := by decide +kernel
theorem dX1_minutesFor_26 : decode cX1_minutesFor 26 = .ok (.aload_n 0, 1) := by decide +kernel
theorem dX1_minutesFor_27 : decode cX1_minutesFor 27 = .ok (.iload_n 3, 1) := by decide +kernel
theorem dX1_minutesFor_28 : decode cX1_minutesFor 28 = .ok (.invokevirtual 92, 3) := by decide +kernel
theorem dX1_minutesFor_31 : decode cX1_minutesFor 31 = .ok (.ifCond .eq 6, 3) := by decide +kernel
theorem dX1_minutesFor_34 : decode cX1_minutesFor 34 = .ok (.iinc 2 3, 3) := by decide +kernel
theorem dX1_minutesFor_37 : decode cX1_minutesFor 37 = .ok (.iinc 3 1, 3) := by decide +kernel
theorem dX1_minutesFor_40 : decode cX1_minutesFor 40 = .ok (.goto (-25), 3) := by decide +kernel
theorem dX1_minutesFor_43 : decode cX1_minutesFor 43 = .ok (.iload_n 2, 1) := by decide +kernel
theorem dX1_minutesFor_44 : decode cX1_minutesFor 44 = .ok (.ireturn, 1) := by decide +kernel
theorem dX1_touchesEarlier_0 : decode cX1_touchesEarlier 0 = .ok (.aload_n 0, 1) := by decide +kernel
theorem dX1_touchesEarlier_1 : decode cX1_touchesEarlier 1 = .ok (.getfield 21, 3) := by decide +kernel
theorem dX1_touchesEarlier_4 : decode cX1_touchesEarlier 4 = .ok (.iload_n 1, 1) := by decide +kernel
theorem dX1_touchesEarlier_5 : decode cX1_touchesEarlier 5 = .ok (.invokevirtual 75, 3) := by decide +kernel
theorem dX1_touchesEarlier_8 : decode cX1_touchesEarlier 8 = .ok (.checkcast 79, 3) := by decide +kernel
theorem dX1_touchesEarlier_11 : decode cX1_touchesEarlier 11 = .ok (.astore_n 2, 1) := by decide +kernel
theorem dX1_touchesEarlier_12 : decode cX1_touchesEarlier 12 = .ok (.iconst 0, 1) := by decide +kernel
theorem dX1_touchesEarlier_13 : decode cX1_touchesEarlier 13 = .ok (.istore_n 3, 1) := by decide +kernel
theorem dX1_touchesEarlier_14 : decode cX1_touchesEarlier 14 = .ok (.iload_n 3, 1) := by decide +kernel
theorem dX1_touchesEarlier_15 : decode cX1_touchesEarlier 15 = .ok (.iload_n 1, 1) := by decide +kernel
theorem dX1_touchesEarlier_16 : decode cX1_touchesEarlier 16 = .ok (.if_icmp .ge 29, 3) := by decide +kernel
theorem dX1_touchesEarlier_19 : decode cX1_touchesEarlier 19 = .ok (.aload_n 2, 1) := by decide +kernel
theorem dX1_touchesEarlier_20 : decode cX1_touchesEarlier 20 = .ok (.aload_n 0, 1) := by decide +kernel
theorem dX1_touchesEarlier_21 : decode cX1_touchesEarlier 21 = .ok (.getfield 21, 3) := by decide +kernel
theorem dX1_touchesEarlier_24 : decode cX1_touchesEarlier 24 = .ok (.iload_n 3, 1) := by decide +kernel
theorem dX1_touchesEarlier_25 : decode cX1_touchesEarlier 25 = .ok (.invokevirtual 75, 3) := by decide +kernel
theorem dX1_touchesEarlier_28 : decode cX1_touchesEarlier 28 = .ok (.checkcast 79, 3) := by decide +kernel
theorem dX1_touchesEarlier_31 : decode cX1_touchesEarlier 31 = .ok (.invokevirtual 96, 3) := by decide +kernel
theorem dX1_touchesEarlier_34 : decode cX1_touchesEarlier 34 = .ok (.ifCond .eq 5, 3) := by decide +kernel
theorem dX1_touchesEarlier_37 : decode cX1_touchesEarlier 37 = .ok (.iconst 1, 1) := by decide +kernel
theorem dX1_touchesEarlier_38 : decode cX1_touchesEarlier 38 = .ok (.ireturn, 1) := by decide +kernel
theorem dX1_touchesEarlier_39 : decode cX1_touchesEarlier 39 = .ok (.iinc 3 1, 3) := by decide +kernel
theorem dX1_touchesEarlier_42 : decode cX1_touchesEarlier 42 = .ok (.goto (-28), 3) := by decide +kernel
theorem dX1_touchesEarlier_45 : decode cX1_touchesEarlier 45 = .ok (.iconst 0, 1) := by decide +kernel
theorem dX1_touchesEarlier_46 : decode cX1_touchesEarlier 46 = .ok (.ireturn, 1) := by decide +kernel
theorem dX2_init_0 : decode cX2_init 0 = .ok (.aload_n 0, 1) := by decide +kernel
theorem dX2_init_1 : decode cX2_init 1 = .ok (.invokespecial 3, 3) := by decide +kernel
theorem dX2_init_4 : decode cX2_init 4 = .ok (.aload_n 0, 1) := by decide +kernel
theorem dX2_init_5 : decode cX2_init 5 = .ok (.bipush 24, 2) := by decide +kernel
theorem dX2_init_7 : decode cX2_init 7 = .ok (.newarray .int, 2) := by decide +kernel
theorem dX2_init_9 : decode cX2_init 9 = .ok (.putfield 9, 3) := by decide +kernel
theorem dX2_init_12 : decode cX2_init 12 = .ok (.return_, 1) := by decide +kernel
theorem dX2_add_0 : decode cX2_add 0 = .ok (.aload_n 0, 1) := by decide +kernel
theorem dX2_add_1 : decode cX2_add 1 = .ok (.getfield 15, 3) := by decide +kernel
theorem dX2_add_4 : decode cX2_add 4 = .ok (.ifCond .lt 41, 3) := by decide +kernel
theorem dX2_add_7 : decode cX2_add 7 = .ok (.aload_n 0, 1) := by decide +kernel
theorem dX2_add_8 : decode cX2_add 8 = .ok (.getfield 15, 3) := by decide +kernel
theorem dX2_add_11 : decode cX2_add 11 = .ok (.aload_n 0, 1) := by decide +kernel
theorem dX2_add_12 : decode cX2_add 12 = .ok (.getfield 9, 3) := by decide +kernel
theorem dX2_add_15 : decode cX2_add 15 = .ok (.arraylength, 1) := by decide +kernel
theorem dX2_add_16 : decode cX2_add 16 = .ok (.if_icmp .ge 29, 3) := by decide +kernel
theorem dX2_add_19 : decode cX2_add 19 = .ok (.aload_n 0, 1) := by decide +kernel
theorem dX2_add_20 : decode cX2_add 20 = .ok (.getfield 9, 3) := by decide +kernel
theorem dX2_add_23 : decode cX2_add 23 = .ok (.aload_n 0, 1) := by decide +kernel
theorem dX2_add_24 : decode cX2_add 24 = .ok (.getfield 15, 3) := by decide +kernel
theorem dX2_add_27 : decode cX2_add 27 = .ok (.sipush 1024, 3) := by decide +kernel
theorem dX2_add_30 : decode cX2_add 30 = .ok (.iload_n 1, 1) := by decide +kernel
theorem dX2_add_31 : decode cX2_add 31 = .ok (.imul, 1) := by decide +kernel
theorem dX2_add_32 : decode cX2_add 32 = .ok (.iload_n 2, 1) := by decide +kernel
theorem dX2_add_33 : decode cX2_add 33 = .ok (.iadd, 1) := by decide +kernel
theorem dX2_add_34 : decode cX2_add 34 = .ok (.iastore, 1) := by decide +kernel
theorem dX2_add_35 : decode cX2_add 35 = .ok (.aload_n 0, 1) := by decide +kernel
theorem dX2_add_36 : decode cX2_add 36 = .ok (.dup, 1) := by decide +kernel
theorem dX2_add_37 : decode cX2_add 37 = .ok (.getfield 15, 3) := by decide +kernel
theorem dX2_add_40 : decode cX2_add 40 = .ok (.iconst 1, 1) := by decide +kernel
theorem dX2_add_41 : decode cX2_add 41 = .ok (.iadd, 1) := by decide +kernel
theorem dX2_add_42 : decode cX2_add 42 = .ok (.putfield 15, 3) := by decide +kernel
theorem dX2_add_45 : decode cX2_add 45 = .ok (.return_, 1) := by decide +kernel
theorem dX2_clear_0 : decode cX2_clear 0 = .ok (.aload_n 0, 1) := by decide +kernel
theorem dX2_clear_1 : decode cX2_clear 1 = .ok (.iconst 0, 1) := by decide +kernel
theorem dX2_clear_2 : decode cX2_clear 2 = .ok (.putfield 15, 3) := by decide +kernel
theorem dX2_clear_5 : decode cX2_clear 5 = .ok (.return_, 1) := by decide +kernel
theorem dX2_copy_0 : decode cX2_copy 0 = .ok (.aload_n 1, 1) := by decide +kernel
theorem dX2_copy_1 : decode cX2_copy 1 = .ok (.getfield 9, 3) := by decide +kernel
theorem dX2_copy_4 : decode cX2_copy 4 = .ok (.iconst 0, 1) := by decide +kernel
theorem dX2_copy_5 : decode cX2_copy 5 = .ok (.aload_n 0, 1) := by decide +kernel
theorem dX2_copy_6 : decode cX2_copy 6 = .ok (.getfield 9, 3) := by decide +kernel
theorem dX2_copy_9 : decode cX2_copy 9 = .ok (.iconst 0, 1) := by decide +kernel
theorem dX2_copy_10 : decode cX2_copy 10 = .ok (.bipush 24, 2) := by decide +kernel
theorem dX2_copy_12 : decode cX2_copy 12 = .ok (.invokestatic 19, 3) := by decide +kernel
theorem dX2_copy_15 : decode cX2_copy 15 = .ok (.aload_n 0, 1) := by decide +kernel
theorem dX2_copy_16 : decode cX2_copy 16 = .ok (.aload_n 1, 1) := by decide +kernel
theorem dX2_copy_17 : decode cX2_copy 17 = .ok (.getfield 15, 3) := by decide +kernel
theorem dX2_copy_20 : decode cX2_copy 20 = .ok (.putfield 15, 3) := by decide +kernel
theorem dX2_copy_23 : decode cX2_copy 23 = .ok (.return_, 1) := by decide +kernel
theorem dX2_dropDoubled_0 : decode cX2_dropDoubled 0 = .ok (.aload_n 0, 1) := by decide +kernel
theorem dX2_dropDoubled_1 : decode cX2_dropDoubled 1 = .ok (.getfield 15, 3) := by decide +kernel
theorem dX2_dropDoubled_4 : decode cX2_dropDoubled 4 = .ok (.istore_n 1, 1) := by decide +kernel
theorem dX2_dropDoubled_5 : decode cX2_dropDoubled 5 = .ok (.aload_n 0, 1) := by decide +kernel
theorem dX2_dropDoubled_6 : decode cX2_dropDoubled 6 = .ok (.iconst 0, 1) := by decide +kernel
theorem dX2_dropDoubled_7 : decode cX2_dropDoubled 7 = .ok (.putfield 15, 3) := by decide +kernel
theorem dX2_dropDoubled_10 : decode cX2_dropDoubled 10 = .ok (.iconst 0, 1) := by decide +kernel
theorem dX2_dropDoubled_11 : decode cX2_dropDoubled 11 = .ok (.istore_n 2, 1) := by decide +kernel
theorem dX2_dropDoubled_12 : decode cX2_dropDoubled 12 = .ok (.iload_n 2, 1) := by decide +kernel
theorem dX2_dropDoubled_13 : decode cX2_dropDoubled 13 = .ok (.iload_n 1, 1) := by decide +kernel
theorem dX2_dropDoubled_14 : decode cX2_dropDoubled 14 = .ok (.if_icmp .ge 56, 3) := by decide +kernel
theorem dX2_dropDoubled_17 : decode cX2_dropDoubled 17 = .ok (.iload_n 2, 1) := by decide +kernel
theorem dX2_dropDoubled_18 : decode cX2_dropDoubled 18 = .ok (.aload_n 0, 1) := by decide +kernel
theorem dX2_dropDoubled_19 : decode cX2_dropDoubled 19 = .ok (.getfield 9, 3) := by decide +kernel
theorem dX2_dropDoubled_22 : decode cX2_dropDoubled 22 = .ok (.arraylength, 1) := by decide +kernel
theorem dX2_dropDoubled_23 : decode cX2_dropDoubled 23 = .ok (.if_icmp .ge 47, 3) := by decide +kernel
theorem dX2_dropDoubled_26 : decode cX2_dropDoubled 26 = .ok (.aload_n 0, 1) := by decide +kernel
theorem dX2_dropDoubled_27 : decode cX2_dropDoubled 27 = .ok (.getfield 9, 3) := by decide +kernel
theorem dX2_dropDoubled_30 : decode cX2_dropDoubled 30 = .ok (.iload_n 2, 1) := by decide +kernel
theorem dX2_dropDoubled_31 : decode cX2_dropDoubled 31 = .ok (.iaload, 1) := by decide +kernel
theorem dX2_dropDoubled_32 : decode cX2_dropDoubled 32 = .ok (.invokestatic 25, 3) := by decide +kernel
theorem dX2_dropDoubled_35 : decode cX2_dropDoubled 35 = .ok (.istore_n 3, 1) := by decide +kernel
theorem dX2_dropDoubled_36 : decode cX2_dropDoubled 36 = .ok (.aload_n 0, 1) := by decide +kernel
theorem dX2_dropDoubled_37 : decode cX2_dropDoubled 37 = .ok (.getfield 9, 3) := by decide +kernel
theorem dX2_dropDoubled_40 : decode cX2_dropDoubled 40 = .ok (.iload_n 2, 1) := by decide +kernel
theorem dX2_dropDoubled_41 : decode cX2_dropDoubled 41 = .ok (.iaload, 1) := by decide +kernel
theorem dX2_dropDoubled_42 : decode cX2_dropDoubled 42 = .ok (.invokestatic 29, 3) := by decide +kernel
theorem dX2_dropDoubled_45 : decode cX2_dropDoubled 45 = .ok (.istore 4, 2) := by decide +kernel
theorem dX2_dropDoubled_47 : decode cX2_dropDoubled 47 = .ok (.aload_n 0, 1) := by decide +kernel
theorem dX2_dropDoubled_48 : decode cX2_dropDoubled 48 = .ok (.iload_n 3, 1) := by decide +kernel
theorem dX2_dropDoubled_49 : decode cX2_dropDoubled 49 = .ok (.iload 4, 2) := by decide +kernel
theorem dX2_dropDoubled_51 : decode cX2_dropDoubled 51 = .ok (.invokevirtual 32, 3) := by decide +kernel
theorem dX2_dropDoubled_54 : decode cX2_dropDoubled 54 = .ok (.ifCond .ne 10, 3) := by decide +kernel
theorem dX2_dropDoubled_57 : decode cX2_dropDoubled 57 = .ok (.aload_n 0, 1) := by decide +kernel
theorem dX2_dropDoubled_58 : decode cX2_dropDoubled 58 = .ok (.iload_n 3, 1) := by decide +kernel
theorem dX2_dropDoubled_59 : decode cX2_dropDoubled 59 = .ok (.iload 4, 2) := by decide +kernel
theorem dX2_dropDoubled_61 : decode cX2_dropDoubled 61 = .ok (.invokevirtual 36, 3) := by decide +kernel
theorem dX2_dropDoubled_64 : decode cX2_dropDoubled 64 = .ok (.iinc 2 1, 3) := by decide +kernel
theorem dX2_dropDoubled_67 : decode cX2_dropDoubled 67 = .ok (.goto (-55), 3) := by decide +kernel
theorem dX2_dropDoubled_70 : decode cX2_dropDoubled 70 = .ok (.return_, 1) := by decide +kernel
theorem dX2_has_0 : decode cX2_has 0 = .ok (.iconst 0, 1) := by decide +kernel
theorem dX2_has_1 : decode cX2_has 1 = .ok (.istore_n 3, 1) := by decide +kernel
theorem dX2_has_2 : decode cX2_has 2 = .ok (.iload_n 3, 1) := by decide +kernel
theorem dX2_has_3 : decode cX2_has 3 = .ok (.aload_n 0, 1) := by decide +kernel
theorem dX2_has_4 : decode cX2_has 4 = .ok (.getfield 15, 3) := by decide +kernel
theorem dX2_has_7 : decode cX2_has 7 = .ok (.if_icmp .ge 66, 3) := by decide +kernel
theorem dX2_has_10 : decode cX2_has 10 = .ok (.iload_n 3, 1) := by decide +kernel
theorem dX2_has_11 : decode cX2_has 11 = .ok (.aload_n 0, 1) := by decide +kernel
theorem dX2_has_12 : decode cX2_has 12 = .ok (.getfield 9, 3) := by decide +kernel
theorem dX2_has_15 : decode cX2_has 15 = .ok (.arraylength, 1) := by decide +kernel
theorem dX2_has_16 : decode cX2_has 16 = .ok (.if_icmp .ge 57, 3) := by decide +kernel
theorem dX2_has_19 : decode cX2_has 19 = .ok (.aload_n 0, 1) := by decide +kernel
theorem dX2_has_20 : decode cX2_has 20 = .ok (.getfield 9, 3) := by decide +kernel
theorem dX2_has_23 : decode cX2_has 23 = .ok (.iload_n 3, 1) := by decide +kernel
theorem dX2_has_24 : decode cX2_has 24 = .ok (.iaload, 1) := by decide +kernel
theorem dX2_has_25 : decode cX2_has 25 = .ok (.invokestatic 25, 3) := by decide +kernel
theorem dX2_has_28 : decode cX2_has 28 = .ok (.istore 4, 2) := by decide +kernel
theorem dX2_has_30 : decode cX2_has 30 = .ok (.aload_n 0, 1) := by decide +kernel
theorem dX2_has_31 : decode cX2_has 31 = .ok (.getfield 9, 3) := by decide +kernel
theorem dX2_has_34 : decode cX2_has 34 = .ok (.iload_n 3, 1) := by decide +kernel
theorem dX2_has_35 : decode cX2_has 35 = .ok (.iaload, 1) := by decide +kernel
theorem dX2_has_36 : decode cX2_has 36 = .ok (.invokestatic 29, 3) := by decide +kernel
theorem dX2_has_39 : decode cX2_has 39 = .ok (.istore 5, 2) := by decide +kernel
theorem dX2_has_41 : decode cX2_has 41 = .ok (.iload 4, 2) := by decide +kernel
theorem dX2_has_43 : decode cX2_has 43 = .ok (.iload_n 1, 1) := by decide +kernel
theorem dX2_has_44 : decode cX2_has 44 = .ok (.if_icmp .ne 9, 3) := by decide +kernel
theorem dX2_has_47 : decode cX2_has 47 = .ok (.iload 5, 2) := by decide +kernel
theorem dX2_has_49 : decode cX2_has 49 = .ok (.iload_n 2, 1) := by decide +kernel
theorem dX2_has_50 : decode cX2_has 50 = .ok (.if_icmp .eq 15, 3) := by decide +kernel
theorem dX2_has_53 : decode cX2_has 53 = .ok (.iload 4, 2) := by decide +kernel
theorem dX2_has_55 : decode cX2_has 55 = .ok (.iload_n 2, 1) := by decide +kernel
theorem dX2_has_56 : decode cX2_has 56 = .ok (.if_icmp .ne 11, 3) := by decide +kernel
theorem dX2_has_59 : decode cX2_has 59 = .ok (.iload 5, 2) := by decide +kernel
theorem dX2_has_61 : decode cX2_has 61 = .ok (.iload_n 1, 1) := by decide +kernel
theorem dX2_has_62 : decode cX2_has 62 = .ok (.if_icmp .ne 5, 3) := by decide +kernel
theorem dX2_has_65 : decode cX2_has 65 = .ok (.iconst 1, 1) := by decide +kernel
theorem dX2_has_66 : decode cX2_has 66 = .ok (.ireturn, 1) := by decide +kernel
theorem dX2_has_67 : decode cX2_has 67 = .ok (.iinc 3 1, 3) := by decide +kernel
theorem dX2_has_70 : decode cX2_has 70 = .ok (.goto (-68), 3) := by decide +kernel
theorem dX2_has_73 : decode cX2_has 73 = .ok (.iconst 0, 1) := by decide +kernel
theorem dX2_has_74 : decode cX2_has 74 = .ok (.ireturn, 1) := by decide +kernel
theorem dX2_firstWrongPoint_0 : decode cX2_firstWrongPoint 0 = .ok (.aload_n 0, 1) := by decide +kernel
theorem dX2_firstWrongPoint_1 : decode cX2_firstWrongPoint 1 = .ok (.getfield 15, 3) := by decide +kernel
theorem dX2_firstWrongPoint_4 : decode cX2_firstWrongPoint 4 = .ok (.ifCond .ne 7, 3) := by decide +kernel
theorem dX2_firstWrongPoint_7 : decode cX2_firstWrongPoint 7 = .ok (.sipush 1024, 3) := by decide +kernel
theorem dX2_firstWrongPoint_10 : decode cX2_firstWrongPoint 10 = .ok (.ireturn, 1) := by decide +kernel
theorem dX2_firstWrongPoint_11 : decode cX2_firstWrongPoint 11 = .ok (.sipush 1024, 3) := by decide +kernel
theorem dX2_firstWrongPoint_14 : decode cX2_firstWrongPoint 14 = .ok (.istore_n 1, 1) := by decide +kernel
theorem dX2_firstWrongPoint_15 : decode cX2_firstWrongPoint 15 = .ok (.iconst 0, 1) := by decide +kernel
theorem dX2_firstWrongPoint_16 : decode cX2_firstWrongPoint 16 = .ok (.istore_n 2, 1) := by decide +kernel
theorem dX2_firstWrongPoint_17 : decode cX2_firstWrongPoint 17 = .ok (.iload_n 2, 1) := by decide +kernel
theorem dX2_firstWrongPoint_18 : decode cX2_firstWrongPoint 18 = .ok (.aload_n 0, 1) := by decide +kernel
theorem dX2_firstWrongPoint_19 : decode cX2_firstWrongPoint 19 = .ok (.getfield 15, 3) := by decide +kernel
theorem dX2_firstWrongPoint_22 : decode cX2_firstWrongPoint 22 = .ok (.if_icmp .ge 54, 3) := by decide +kernel
theorem dX2_firstWrongPoint_25 : decode cX2_firstWrongPoint 25 = .ok (.iload_n 2, 1) := by decide +kernel
theorem dX2_firstWrongPoint_26 : decode cX2_firstWrongPoint 26 = .ok (.aload_n 0, 1) := by decide +kernel
theorem dX2_firstWrongPoint_27 : decode cX2_firstWrongPoint 27 = .ok (.getfield 9, 3) := by decide +kernel
theorem dX2_firstWrongPoint_30 : decode cX2_firstWrongPoint 30 = .ok (.arraylength, 1) := by decide +kernel
theorem dX2_firstWrongPoint_31 : decode cX2_firstWrongPoint 31 = .ok (.if_icmp .ge 45, 3) := by decide +kernel
theorem dX2_firstWrongPoint_34 : decode cX2_firstWrongPoint 34 = .ok (.iload_n 1, 1) := by decide +kernel
theorem dX2_firstWrongPoint_35 : decode cX2_firstWrongPoint 35 = .ok (.aload_n 0, 1) := by decide +kernel
theorem dX2_firstWrongPoint_36 : decode cX2_firstWrongPoint 36 = .ok (.aload_n 0, 1) := by decide +kernel
theorem dX2_firstWrongPoint_37 : decode cX2_firstWrongPoint 37 = .ok (.getfield 9, 3) := by decide +kernel
theorem dX2_firstWrongPoint_40 : decode cX2_firstWrongPoint 40 = .ok (.iload_n 2, 1) := by decide +kernel
theorem dX2_firstWrongPoint_41 : decode cX2_firstWrongPoint 41 = .ok (.iaload, 1) := by decide +kernel
theorem dX2_firstWrongPoint_42 : decode cX2_firstWrongPoint 42 = .ok (.invokestatic 25, 3) := by decide +kernel
theorem dX2_firstWrongPoint_45 : decode cX2_firstWrongPoint 45 = .ok (.invokevirtual 40, 3) := by decide +kernel
theorem dX2_firstWrongPoint_48 : decode cX2_firstWrongPoint 48 = .ok (.invokestatic 43, 3) := by decide +kernel
theorem dX2_firstWrongPoint_51 : decode cX2_firstWrongPoint 51 = .ok (.istore_n 1, 1) := by decide +kernel
theorem dX2_firstWrongPoint_52 : decode cX2_firstWrongPoint 52 = .ok (.iload_n 1, 1) := by decide +kernel
theorem dX2_firstWrongPoint_53 : decode cX2_firstWrongPoint 53 = .ok (.aload_n 0, 1) := by decide +kernel
theorem dX2_firstWrongPoint_54 : decode cX2_firstWrongPoint 54 = .ok (.aload_n 0, 1) := by decide +kernel
theorem dX2_firstWrongPoint_55 : decode cX2_firstWrongPoint 55 = .ok (.getfield 9, 3) := by decide +kernel
theorem dX2_firstWrongPoint_58 : decode cX2_firstWrongPoint 58 = .ok (.iload_n 2, 1) := by decide +kernel
theorem dX2_firstWrongPoint_59 : decode cX2_firstWrongPoint 59 = .ok (.iaload, 1) := by decide +kernel
theorem dX2_firstWrongPoint_60 : decode cX2_firstWrongPoint 60 = .ok (.invokestatic 29, 3) := by decide +kernel
theorem dX2_firstWrongPoint_63 : decode cX2_firstWrongPoint 63 = .ok (.invokevirtual 40, 3) := by decide +kernel
theorem dX2_firstWrongPoint_66 : decode cX2_firstWrongPoint 66 = .ok (.invokestatic 43, 3) := by decide +kernel
theorem dX2_firstWrongPoint_69 : decode cX2_firstWrongPoint 69 = .ok (.istore_n 1, 1) := by decide +kernel
theorem dX2_firstWrongPoint_70 : decode cX2_firstWrongPoint 70 = .ok (.iinc 2 1, 3) := by decide +kernel
theorem dX2_firstWrongPoint_73 : decode cX2_firstWrongPoint 73 = .ok (.goto (-56), 3) := by decide +kernel
theorem dX2_firstWrongPoint_76 : decode cX2_firstWrongPoint 76 = .ok (.iload_n 1, 1) := by decide +kernel
theorem dX2_firstWrongPoint_77 : decode cX2_firstWrongPoint 77 = .ok (.sipush 1024, 3) := by decide +kernel
theorem dX2_firstWrongPoint_80 : decode cX2_firstWrongPoint 80 = .ok (.if_icmp .ne 7, 3) := by decide +kernel
theorem dX2_firstWrongPoint_83 : decode cX2_firstWrongPoint 83 = .ok (.iconst (-1), 1) := by decide +kernel
theorem dX2_firstWrongPoint_84 : decode cX2_firstWrongPoint 84 = .ok (.goto 4, 3) := by decide +kernel
theorem dX2_firstWrongPoint_87 : decode cX2_firstWrongPoint 87 = .ok (.iload_n 1, 1) := by decide +kernel
theorem dX2_firstWrongPoint_88 : decode cX2_firstWrongPoint 88 = .ok (.ireturn, 1) := by decide +kernel
theorem dX2_wrongOrNoPoint_0 : decode cX2_wrongOrNoPoint 0 = .ok (.aload_n 0, 1) := by decide +kernel
theorem dX2_wrongOrNoPoint_1 : decode cX2_wrongOrNoPoint 1 = .ok (.iload_n 1, 1) := by decide +kernel
theorem dX2_wrongOrNoPoint_2 : decode cX2_wrongOrNoPoint 2 = .ok (.invokevirtual 49, 3) := by decide +kernel
theorem dX2_wrongOrNoPoint_5 : decode cX2_wrongOrNoPoint 5 = .ok (.iconst 2, 1) := by decide +kernel
theorem dX2_wrongOrNoPoint_6 : decode cX2_wrongOrNoPoint 6 = .ok (.if_icmp .ne 9, 3) := by decide +kernel
theorem dX2_wrongOrNoPoint_9 : decode cX2_wrongOrNoPoint 9 = .ok (.sipush 1024, 3) := by decide +kernel
theorem dX2_wrongOrNoPoint_12 : decode cX2_wrongOrNoPoint 12 = .ok (.goto 4, 3) := by decide +kernel
theorem dX2_wrongOrNoPoint_15 : decode cX2_wrongOrNoPoint 15 = .ok (.iload_n 1, 1) := by decide +kernel
theorem dX2_wrongOrNoPoint_16 : decode cX2_wrongOrNoPoint 16 = .ok (.ireturn, 1) := by decide +kernel
theorem dX2_strokesAt_0 : decode cX2_strokesAt 0 = .ok (.iconst 0, 1) := by decide +kernel
theorem dX2_strokesAt_1 : decode cX2_strokesAt 1 = .ok (.istore_n 2, 1) := by decide +kernel
theorem dX2_strokesAt_2 : decode cX2_strokesAt 2 = .ok (.iconst 0, 1) := by decide +kernel
theorem dX2_strokesAt_3 : decode cX2_strokesAt 3 = .ok (.istore_n 3, 1) := by decide +kernel
theorem dX2_strokesAt_4 : decode cX2_strokesAt 4 = .ok (.iload_n 3, 1) := by decide +kernel
theorem dX2_strokesAt_5 : decode cX2_strokesAt 5 = .ok (.aload_n 0, 1) := by decide +kernel
theorem dX2_strokesAt_6 : decode cX2_strokesAt 6 = .ok (.getfield 15, 3) := by decide +kernel
theorem dX2_strokesAt_9 : decode cX2_strokesAt 9 = .ok (.if_icmp .ge 47, 3) := by decide +kernel
theorem dX2_strokesAt_12 : decode cX2_strokesAt 12 = .ok (.iload_n 3, 1) := by decide +kernel
theorem dX2_strokesAt_13 : decode cX2_strokesAt 13 = .ok (.aload_n 0, 1) := by decide +kernel
theorem dX2_strokesAt_14 : decode cX2_strokesAt 14 = .ok (.getfield 9, 3) := by decide +kernel
theorem dX2_strokesAt_17 : decode cX2_strokesAt 17 = .ok (.arraylength, 1) := by decide +kernel
theorem dX2_strokesAt_18 : decode cX2_strokesAt 18 = .ok (.if_icmp .ge 38, 3) := by decide +kernel
theorem dX2_strokesAt_21 : decode cX2_strokesAt 21 = .ok (.aload_n 0, 1) := by decide +kernel
theorem dX2_strokesAt_22 : decode cX2_strokesAt 22 = .ok (.getfield 9, 3) := by decide +kernel
theorem dX2_strokesAt_25 : decode cX2_strokesAt 25 = .ok (.iload_n 3, 1) := by decide +kernel
theorem dX2_strokesAt_26 : decode cX2_strokesAt 26 = .ok (.iaload, 1) := by decide +kernel
theorem dX2_strokesAt_27 : decode cX2_strokesAt 27 = .ok (.invokestatic 25, 3) := by decide +kernel
theorem dX2_strokesAt_30 : decode cX2_strokesAt 30 = .ok (.iload_n 1, 1) := by decide +kernel
theorem dX2_strokesAt_31 : decode cX2_strokesAt 31 = .ok (.if_icmp .eq 16, 3) := by decide +kernel
theorem dX2_strokesAt_34 : decode cX2_strokesAt 34 = .ok (.aload_n 0, 1) := by decide +kernel
theorem dX2_strokesAt_35 : decode cX2_strokesAt 35 = .ok (.getfield 9, 3) := by decide +kernel
theorem dX2_strokesAt_38 : decode cX2_strokesAt 38 = .ok (.iload_n 3, 1) := by decide +kernel
theorem dX2_strokesAt_39 : decode cX2_strokesAt 39 = .ok (.iaload, 1) := by decide +kernel
theorem dX2_strokesAt_40 : decode cX2_strokesAt 40 = .ok (.invokestatic 29, 3) := by decide +kernel
theorem dX2_strokesAt_43 : decode cX2_strokesAt 43 = .ok (.iload_n 1, 1) := by decide +kernel
theorem dX2_strokesAt_44 : decode cX2_strokesAt 44 = .ok (.if_icmp .ne 6, 3) := by decide +kernel
theorem dX2_strokesAt_47 : decode cX2_strokesAt 47 = .ok (.iinc 2 1, 3) := by decide +kernel
theorem dX2_strokesAt_50 : decode cX2_strokesAt 50 = .ok (.iinc 3 1, 3) := by decide +kernel
theorem dX2_strokesAt_53 : decode cX2_strokesAt 53 = .ok (.goto (-49), 3) := by decide +kernel
theorem dX2_strokesAt_56 : decode cX2_strokesAt 56 = .ok (.iload_n 2, 1) := by decide +kernel
theorem dX2_strokesAt_57 : decode cX2_strokesAt 57 = .ok (.ireturn, 1) := by decide +kernel
theorem dX2_wide_0 : decode cX2_wide 0 = .ok (.bipush 32, 2) := by decide +kernel
theorem dX2_wide_2 : decode cX2_wide 2 = .ok (.istore_n 1, 1) := by decide +kernel
theorem dX2_wide_3 : decode cX2_wide 3 = .ok (.iconst (-1), 1) := by decide +kernel
theorem dX2_wide_4 : decode cX2_wide 4 = .ok (.istore_n 2, 1) := by decide +kernel
theorem dX2_wide_5 : decode cX2_wide 5 = .ok (.iconst 0, 1) := by decide +kernel
theorem dX2_wide_6 : decode cX2_wide 6 = .ok (.istore_n 3, 1) := by decide +kernel
theorem dX2_wide_7 : decode cX2_wide 7 = .ok (.iload_n 3, 1) := by decide +kernel
theorem dX2_wide_8 : decode cX2_wide 8 = .ok (.aload_n 0, 1) := by decide +kernel
theorem dX2_wide_9 : decode cX2_wide 9 = .ok (.getfield 15, 3) := by decide +kernel
theorem dX2_wide_12 : decode cX2_wide 12 = .ok (.if_icmp .ge 70, 3) := by decide +kernel
theorem dX2_wide_15 : decode cX2_wide 15 = .ok (.iload_n 3, 1) := by decide +kernel
theorem dX2_wide_16 : decode cX2_wide 16 = .ok (.aload_n 0, 1) := by decide +kernel
theorem dX2_wide_17 : decode cX2_wide 17 = .ok (.getfield 9, 3) := by decide +kernel
theorem dX2_wide_20 : decode cX2_wide 20 = .ok (.arraylength, 1) := by decide +kernel
theorem dX2_wide_21 : decode cX2_wide 21 = .ok (.if_icmp .ge 61, 3) := by decide +kernel
theorem dX2_wide_24 : decode cX2_wide 24 = .ok (.aload_n 0, 1) := by decide +kernel
theorem dX2_wide_25 : decode cX2_wide 25 = .ok (.getfield 9, 3) := by decide +kernel
theorem dX2_wide_28 : decode cX2_wide 28 = .ok (.iload_n 3, 1) := by decide +kernel
theorem dX2_wide_29 : decode cX2_wide 29 = .ok (.iaload, 1) := by decide +kernel
theorem dX2_wide_30 : decode cX2_wide 30 = .ok (.invokestatic 25, 3) := by decide +kernel
theorem dX2_wide_33 : decode cX2_wide 33 = .ok (.invokestatic 52, 3) := by decide +kernel
theorem dX2_wide_36 : decode cX2_wide 36 = .ok (.istore 4, 2) := by decide +kernel
theorem dX2_wide_38 : decode cX2_wide 38 = .ok (.aload_n 0, 1) := by decide +kernel
theorem dX2_wide_39 : decode cX2_wide 39 = .ok (.getfield 9, 3) := by decide +kernel
theorem dX2_wide_42 : decode cX2_wide 42 = .ok (.iload_n 3, 1) := by decide +kernel
theorem dX2_wide_43 : decode cX2_wide 43 = .ok (.iaload, 1) := by decide +kernel
theorem dX2_wide_44 : decode cX2_wide 44 = .ok (.invokestatic 29, 3) := by decide +kernel
theorem dX2_wide_47 : decode cX2_wide 47 = .ok (.invokestatic 52, 3) := by decide +kernel
theorem dX2_wide_50 : decode cX2_wide 50 = .ok (.istore 5, 2) := by decide +kernel
theorem dX2_wide_52 : decode cX2_wide 52 = .ok (.iload_n 1, 1) := by decide +kernel
theorem dX2_wide_53 : decode cX2_wide 53 = .ok (.iload 4, 2) := by decide +kernel
theorem dX2_wide_55 : decode cX2_wide 55 = .ok (.iload 5, 2) := by decide +kernel
theorem dX2_wide_57 : decode cX2_wide 57 = .ok (.invokestatic 43, 3) := by decide +kernel
theorem dX2_wide_60 : decode cX2_wide 60 = .ok (.invokestatic 43, 3) := by decide +kernel
theorem dX2_wide_63 : decode cX2_wide 63 = .ok (.istore_n 1, 1) := by decide +kernel
theorem dX2_wide_64 : decode cX2_wide 64 = .ok (.iload_n 2, 1) := by decide +kernel
theorem dX2_wide_65 : decode cX2_wide 65 = .ok (.iload 4, 2) := by decide +kernel
theorem dX2_wide_67 : decode cX2_wide 67 = .ok (.iload 5, 2) := by decide +kernel
theorem dX2_wide_69 : decode cX2_wide 69 = .ok (.invokestatic 55, 3) := by decide +kernel
theorem dX2_wide_72 : decode cX2_wide 72 = .ok (.invokestatic 55, 3) := by decide +kernel
theorem dX2_wide_75 : decode cX2_wide 75 = .ok (.istore_n 2, 1) := by decide +kernel
theorem dX2_wide_76 : decode cX2_wide 76 = .ok (.iinc 3 1, 3) := by decide +kernel
theorem dX2_wide_79 : decode cX2_wide 79 = .ok (.goto (-72), 3) := by decide +kernel
theorem dX2_wide_82 : decode cX2_wide 82 = .ok (.aload_n 0, 1) := by decide +kernel
theorem dX2_wide_83 : decode cX2_wide 83 = .ok (.getfield 15, 3) := by decide +kernel
theorem dX2_wide_86 : decode cX2_wide 86 = .ok (.ifCond .ne 7, 3) := by decide +kernel
theorem dX2_wide_89 : decode cX2_wide 89 = .ok (.iconst 0, 1) := by decide +kernel
theorem dX2_wide_90 : decode cX2_wide 90 = .ok (.goto 8, 3) := by decide +kernel
theorem dX2_wide_93 : decode cX2_wide 93 = .ok (.iload_n 2, 1) := by decide +kernel
theorem dX2_wide_94 : decode cX2_wide 94 = .ok (.iload_n 1, 1) := by decide +kernel
theorem dX2_wide_95 : decode cX2_wide 95 = .ok (.isub, 1) := by decide +kernel
theorem dX2_wide_96 : decode cX2_wide 96 = .ok (.iconst 1, 1) := by decide +kernel
theorem dX2_wide_97 : decode cX2_wide 97 = .ok (.iadd, 1) := by decide +kernel
theorem dX2_wide_98 : decode cX2_wide 98 = .ok (.ireturn, 1) := by decide +kernel
theorem dX2_high_0 : decode cX2_high 0 = .ok (.bipush 32, 2) := by decide +kernel
theorem dX2_high_2 : decode cX2_high 2 = .ok (.istore_n 1, 1) := by decide +kernel
theorem dX2_high_3 : decode cX2_high 3 = .ok (.iconst (-1), 1) := by decide +kernel
theorem dX2_high_4 : decode cX2_high 4 = .ok (.istore_n 2, 1) := by decide +kernel
theorem dX2_high_5 : decode cX2_high 5 = .ok (.iconst 0, 1) := by decide +kernel
theorem dX2_high_6 : decode cX2_high 6 = .ok (.istore_n 3, 1) := by decide +kernel
theorem dX2_high_7 : decode cX2_high 7 = .ok (.iload_n 3, 1) := by decide +kernel
theorem dX2_high_8 : decode cX2_high 8 = .ok (.aload_n 0, 1) := by decide +kernel
theorem dX2_high_9 : decode cX2_high 9 = .ok (.getfield 15, 3) := by decide +kernel
theorem dX2_high_12 : decode cX2_high 12 = .ok (.if_icmp .ge 70, 3) := by decide +kernel
theorem dX2_high_15 : decode cX2_high 15 = .ok (.iload_n 3, 1) := by decide +kernel
theorem dX2_high_16 : decode cX2_high 16 = .ok (.aload_n 0, 1) := by decide +kernel
theorem dX2_high_17 : decode cX2_high 17 = .ok (.getfield 9, 3) := by decide +kernel
theorem dX2_high_20 : decode cX2_high 20 = .ok (.arraylength, 1) := by decide +kernel
theorem dX2_high_21 : decode cX2_high 21 = .ok (.if_icmp .ge 61, 3) := by decide +kernel
theorem dX2_high_24 : decode cX2_high 24 = .ok (.aload_n 0, 1) := by decide +kernel
theorem dX2_high_25 : decode cX2_high 25 = .ok (.getfield 9, 3) := by decide +kernel
theorem dX2_high_28 : decode cX2_high 28 = .ok (.iload_n 3, 1) := by decide +kernel
theorem dX2_high_29 : decode cX2_high 29 = .ok (.iaload, 1) := by decide +kernel
theorem dX2_high_30 : decode cX2_high 30 = .ok (.invokestatic 25, 3) := by decide +kernel
theorem dX2_high_33 : decode cX2_high 33 = .ok (.invokestatic 58, 3) := by decide +kernel
theorem dX2_high_36 : decode cX2_high 36 = .ok (.istore 4, 2) := by decide +kernel
theorem dX2_high_38 : decode cX2_high 38 = .ok (.aload_n 0, 1) := by decide +kernel
theorem dX2_high_39 : decode cX2_high 39 = .ok (.getfield 9, 3) := by decide +kernel
theorem dX2_high_42 : decode cX2_high 42 = .ok (.iload_n 3, 1) := by decide +kernel
theorem dX2_high_43 : decode cX2_high 43 = .ok (.iaload, 1) := by decide +kernel
theorem dX2_high_44 : decode cX2_high 44 = .ok (.invokestatic 29, 3) := by decide +kernel
theorem dX2_high_47 : decode cX2_high 47 = .ok (.invokestatic 58, 3) := by decide +kernel
theorem dX2_high_50 : decode cX2_high 50 = .ok (.istore 5, 2) := by decide +kernel
theorem dX2_high_52 : decode cX2_high 52 = .ok (.iload_n 1, 1) := by decide +kernel
theorem dX2_high_53 : decode cX2_high 53 = .ok (.iload 4, 2) := by decide +kernel
theorem dX2_high_55 : decode cX2_high 55 = .ok (.iload 5, 2) := by decide +kernel
theorem dX2_high_57 : decode cX2_high 57 = .ok (.invokestatic 43, 3) := by decide +kernel
theorem dX2_high_60 : decode cX2_high 60 = .ok (.invokestatic 43, 3) := by decide +kernel
theorem dX2_high_63 : decode cX2_high 63 = .ok (.istore_n 1, 1) := by decide +kernel
theorem dX2_high_64 : decode cX2_high 64 = .ok (.iload_n 2, 1) := by decide +kernel
theorem dX2_high_65 : decode cX2_high 65 = .ok (.iload 4, 2) := by decide +kernel
theorem dX2_high_67 : decode cX2_high 67 = .ok (.iload 5, 2) := by decide +kernel
theorem dX2_high_69 : decode cX2_high 69 = .ok (.invokestatic 55, 3) := by decide +kernel
theorem dX2_high_72 : decode cX2_high 72 = .ok (.invokestatic 55, 3) := by decide +kernel
theorem dX2_high_75 : decode cX2_high 75 = .ok (.istore_n 2, 1) := by decide +kernel
theorem dX2_high_76 : decode cX2_high 76 = .ok (.iinc 3 1, 3) := by decide +kernel
theorem dX2_high_79 : decode cX2_high 79 = .ok (.goto (-72), 3) := by decide +kernel
theorem dX2_high_82 : decode cX2_high 82 = .ok (.aload_n 0, 1) := by decide +kernel
theorem dX2_high_83 : decode cX2_high 83 = .ok (.getfield 15, 3) := by decide +kernel
theorem dX2_high_86 : decode cX2_high 86 = .ok (.ifCond .ne 7, 3) := by decide +kernel
theorem dX2_high_89 : decode cX2_high 89 = .ok (.iconst 0, 1) := by decide +kernel
theorem dX2_high_90 : decode cX2_high 90 = .ok (.goto 8, 3) := by decide +kernel
theorem dX2_high_93 : decode cX2_high 93 = .ok (.iload_n 2, 1) := by decide +kernel
theorem dX2_high_94 : decode cX2_high 94 = .ok (.iload_n 1, 1) := by decide +kernel
theorem dX2_high_95 : decode cX2_high 95 = .ok (.isub, 1) := by decide +kernel
theorem dX2_high_96 : decode cX2_high 96 = .ok (.iconst 1, 1) := by decide +kernel
theorem dX2_high_97 : decode cX2_high 97 = .ok (.iadd, 1) := by decide +kernel
theorem dX2_high_98 : decode cX2_high 98 = .ok (.ireturn, 1) := by decide +kernel
theorem dX2_sumOfStrokes_0 : decode cX2_sumOfStrokes 0 = .ok (.fconst 0, 1) := by decide +kernel
theorem dX2_sumOfStrokes_1 : decode cX2_sumOfStrokes 1 = .ok (.fstore_n 1, 1) := by decide +kernel
theorem dX2_sumOfStrokes_2 : decode cX2_sumOfStrokes 2 = .ok (.iconst 0, 1) := by decide +kernel
theorem dX2_sumOfStrokes_3 : decode cX2_sumOfStrokes 3 = .ok (.istore_n 2, 1) := by decide +kernel
theorem dX2_sumOfStrokes_4 : decode cX2_sumOfStrokes 4 = .ok (.iload_n 2, 1) := by decide +kernel
theorem dX2_sumOfStrokes_5 : decode cX2_sumOfStrokes 5 = .ok (.aload_n 0, 1) := by decide +kernel
theorem dX2_sumOfStrokes_6 : decode cX2_sumOfStrokes 6 = .ok (.getfield 15, 3) := by decide +kernel
theorem dX2_sumOfStrokes_9 : decode cX2_sumOfStrokes 9 = .ok (.if_icmp .ge 42, 3) := by decide +kernel
theorem dX2_sumOfStrokes_12 : decode cX2_sumOfStrokes 12 = .ok (.iload_n 2, 1) := by decide +kernel
theorem dX2_sumOfStrokes_13 : decode cX2_sumOfStrokes 13 = .ok (.aload_n 0, 1) := by decide +kernel
theorem dX2_sumOfStrokes_14 : decode cX2_sumOfStrokes 14 = .ok (.getfield 9, 3) := by decide +kernel
theorem dX2_sumOfStrokes_17 : decode cX2_sumOfStrokes 17 = .ok (.arraylength, 1) := by decide +kernel
theorem dX2_sumOfStrokes_18 : decode cX2_sumOfStrokes 18 = .ok (.if_icmp .ge 33, 3) := by decide +kernel
theorem dX2_sumOfStrokes_21 : decode cX2_sumOfStrokes 21 = .ok (.fload_n 1, 1) := by decide +kernel
theorem dX2_sumOfStrokes_22 : decode cX2_sumOfStrokes 22 = .ok (.aload_n 0, 1) := by decide +kernel
theorem dX2_sumOfStrokes_23 : decode cX2_sumOfStrokes 23 = .ok (.getfield 9, 3) := by decide +kernel
theorem dX2_sumOfStrokes_26 : decode cX2_sumOfStrokes 26 = .ok (.iload_n 2, 1) := by decide +kernel
theorem dX2_sumOfStrokes_27 : decode cX2_sumOfStrokes 27 = .ok (.iaload, 1) := by decide +kernel
theorem dX2_sumOfStrokes_28 : decode cX2_sumOfStrokes 28 = .ok (.invokestatic 25, 3) := by decide +kernel
theorem dX2_sumOfStrokes_31 : decode cX2_sumOfStrokes 31 = .ok (.aload_n 0, 1) := by decide +kernel
theorem dX2_sumOfStrokes_32 : decode cX2_sumOfStrokes 32 = .ok (.getfield 9, 3) := by decide +kernel
theorem dX2_sumOfStrokes_35 : decode cX2_sumOfStrokes 35 = .ok (.iload_n 2, 1) := by decide +kernel
theorem dX2_sumOfStrokes_36 : decode cX2_sumOfStrokes 36 = .ok (.iaload, 1) := by decide +kernel
theorem dX2_sumOfStrokes_37 : decode cX2_sumOfStrokes 37 = .ok (.invokestatic 29, 3) := by decide +kernel
theorem dX2_sumOfStrokes_40 : decode cX2_sumOfStrokes 40 = .ok (.invokestatic 61, 3) := by decide +kernel
theorem dX2_sumOfStrokes_43 : decode cX2_sumOfStrokes 43 = .ok (.fadd, 1) := by decide +kernel
theorem dX2_sumOfStrokes_44 : decode cX2_sumOfStrokes 44 = .ok (.fstore_n 1, 1) := by decide +kernel
theorem dX2_sumOfStrokes_45 : decode cX2_sumOfStrokes 45 = .ok (.iinc 2 1, 3) := by decide +kernel
theorem dX2_sumOfStrokes_48 : decode cX2_sumOfStrokes 48 = .ok (.goto (-44), 3) := by decide +kernel
theorem dX2_sumOfStrokes_51 : decode cX2_sumOfStrokes 51 = .ok (.fload_n 1, 1) := by decide +kernel
theorem dX2_sumOfStrokes_52 : decode cX2_sumOfStrokes 52 = .ok (.freturn, 1) := by decide +kernel
theorem dX2_fromOf_0 : decode cX2_fromOf 0 = .ok (.iload_n 0, 1) := by decide +kernel
theorem dX2_fromOf_1 : decode cX2_fromOf 1 = .ok (.sipush 1024, 3) := by decide +kernel
theorem dX2_fromOf_4 : decode cX2_fromOf 4 = .ok (.idiv, 1) := by decide +kernel
theorem dX2_fromOf_5 : decode cX2_fromOf 5 = .ok (.ireturn, 1) := by decide +kernel
theorem dX2_toOf_0 : decode cX2_toOf 0 = .ok (.iload_n 0, 1) := by decide +kernel
theorem dX2_toOf_1 : decode cX2_toOf 1 = .ok (.sipush 1024, 3) := by decide +kernel
theorem dX2_toOf_4 : decode cX2_toOf 4 = .ok (.irem, 1) := by decide +kernel
theorem dX2_toOf_5 : decode cX2_toOf 5 = .ok (.ireturn, 1) := by decide +kernel
theorem dX2_xOf_0 : decode cX2_xOf 0 = .ok (.iload_n 0, 1) := by decide +kernel
theorem dX2_xOf_1 : decode cX2_xOf 1 = .ok (.bipush 32, 2) := by decide +kernel
theorem dX2_xOf_3 : decode cX2_xOf 3 = .ok (.irem, 1) := by decide +kernel
theorem dX2_xOf_4 : decode cX2_xOf 4 = .ok (.ireturn, 1) := by decide +kernel
theorem dX2_yOf_0 : decode cX2_yOf 0 = .ok (.iload_n 0, 1) := by decide +kernel
theorem dX2_yOf_1 : decode cX2_yOf 1 = .ok (.bipush 32, 2) := by decide +kernel
theorem dX2_yOf_3 : decode cX2_yOf 3 = .ok (.idiv, 1) := by decide +kernel
theorem dX2_yOf_4 : decode cX2_yOf 4 = .ok (.ireturn, 1) := by decide +kernel
theorem dX2_distance_0 : decode cX2_distance 0 = .ok (.iload_n 0, 1) := by decide +kernel
theorem dX2_distance_1 : decode cX2_distance 1 = .ok (.invokestatic 52, 3) := by decide +kernel
theorem dX2_distance_4 : decode cX2_distance 4 = .ok (.iload_n 1, 1) := by decide +kernel
theorem dX2_distance_5 : decode cX2_distance 5 = .ok (.invokestatic 52, 3) := by decide +kernel
theorem dX2_distance_8 : decode cX2_distance 8 = .ok (.isub, 1) := by decide +kernel
theorem dX2_distance_9 : decode cX2_distance 9 = .ok (.istore_n 2, 1) := by decide +kernel
theorem dX2_distance_10 : decode cX2_distance 10 = .ok (.iload_n 0, 1) := by decide +kernel
theorem dX2_distance_11 : decode cX2_distance 11 = .ok (.invokestatic 58, 3) := by decide +kernel
theorem dX2_distance_14 : decode cX2_distance 14 = .ok (.iload_n 1, 1) := by decide +kernel
theorem dX2_distance_15 : decode cX2_distance 15 = .ok (.invokestatic 58, 3) := by decide +kernel
theorem dX2_distance_18 : decode cX2_distance 18 = .ok (.isub, 1) := by decide +kernel
theorem dX2_distance_19 : decode cX2_distance 19 = .ok (.istore_n 3, 1) := by decide +kernel
theorem dX2_distance_20 : decode cX2_distance 20 = .ok (.iload_n 2, 1) := by decide +kernel
theorem dX2_distance_21 : decode cX2_distance 21 = .ok (.iload_n 2, 1) := by decide +kernel
theorem dX2_distance_22 : decode cX2_distance 22 = .ok (.imul, 1) := by decide +kernel
theorem dX2_distance_23 : decode cX2_distance 23 = .ok (.iload_n 3, 1) := by decide +kernel
theorem dX2_distance_24 : decode cX2_distance 24 = .ok (.iload_n 3, 1) := by decide +kernel
theorem dX2_distance_25 : decode cX2_distance 25 = .ok (.imul, 1) := by decide +kernel
theorem dX2_distance_26 : decode cX2_distance 26 = .ok (.iadd, 1) := by decide +kernel
theorem dX2_distance_27 : decode cX2_distance 27 = .ok (.invokestatic 65, 3) := by decide +kernel
theorem dX2_distance_30 : decode cX2_distance 30 = .ok (.d2f, 1) := by decide +kernel
theorem dX2_distance_31 : decode cX2_distance 31 = .ok (.freturn, 1) := by decide +kernel
theorem dX2_root_0 : decode cX2_root 0 = .ok (.iload_n 0, 1) := by decide +kernel
theorem dX2_root_1 : decode cX2_root 1 = .ok (.ifCond .gt 5, 3) := by decide +kernel
theorem dX2_root_4 : decode cX2_root 4 = .ok (.dconst 0, 1) := by decide +kernel
theorem dX2_root_5 : decode cX2_root 5 = .ok (.dreturn, 1) := by decide +kernel
theorem dX2_root_6 : decode cX2_root 6 = .ok (.iload_n 0, 1) := by decide +kernel
theorem dX2_root_7 : decode cX2_root 7 = .ok (.i2d, 1) := by decide +kernel
theorem dX2_root_8 : decode cX2_root 8 = .ok (.dstore_n 1, 1) := by decide +kernel
theorem dX2_root_9 : decode cX2_root 9 = .ok (.iconst 0, 1) := by decide +kernel
theorem dX2_root_10 : decode cX2_root 10 = .ok (.istore_n 3, 1) := by decide +kernel
theorem dX2_root_11 : decode cX2_root 11 = .ok (.iload_n 3, 1) := by decide +kernel
theorem dX2_root_12 : decode cX2_root 12 = .ok (.bipush 16, 2) := by decide +kernel
theorem dX2_root_14 : decode cX2_root 14 = .ok (.if_icmp .ge 20, 3) := by decide +kernel
theorem dX2_root_17 : decode cX2_root 17 = .ok (.dload_n 1, 1) := by decide +kernel
theorem dX2_root_18 : decode cX2_root 18 = .ok (.iload_n 0, 1) := by decide +kernel
theorem dX2_root_19 : decode cX2_root 19 = .ok (.i2d, 1) := by decide +kernel
theorem dX2_root_20 : decode cX2_root 20 = .ok (.dload_n 1, 1) := by decide +kernel
theorem dX2_root_21 : decode cX2_root 21 = .ok (.ddiv, 1) := by decide +kernel
theorem dX2_root_22 : decode cX2_root 22 = .ok (.dadd, 1) := by decide +kernel
theorem dX2_root_23 : decode cX2_root 23 = .ok (.ldc2_w 69, 3) := by decide +kernel
theorem dX2_root_26 : decode cX2_root 26 = .ok (.ddiv, 1) := by decide +kernel
theorem dX2_root_27 : decode cX2_root 27 = .ok (.dstore_n 1, 1) := by decide +kernel
theorem dX2_root_28 : decode cX2_root 28 = .ok (.iinc 3 1, 3) := by decide +kernel
theorem dX2_root_31 : decode cX2_root 31 = .ok (.goto (-20), 3) := by decide +kernel
theorem dX2_root_34 : decode cX2_root 34 = .ok (.dload_n 1, 1) := by decide +kernel
theorem dX2_root_35 : decode cX2_root 35 = .ok (.dreturn, 1) := by decide +kernel
theorem dX3_init_0 : decode cX3_init 0 = .ok (.aload_n 0, 1) := by decide +kernel
theorem dX3_init_1 : decode cX3_init 1 = .ok (.invokespecial 1, 3) := by decide +kernel
theorem dX3_init_4 : decode cX3_init 4 = .ok (.aload_n 0, 1) := by decide +kernel
theorem dX3_init_5 : decode cX3_init 5 = .ok (.iload_n 1, 1) := by decide +kernel
theorem dX3_init_6 : decode cX3_init 6 = .ok (.putfield 7, 3) := by decide +kernel
theorem dX3_init_9 : decode cX3_init 9 = .ok (.return_, 1) := by decide +kernel
theorem dX3_begin_0 : decode cX3_begin 0 = .ok (.aload_n 0, 1) := by decide +kernel
theorem dX3_begin_1 : decode cX3_begin 1 = .ok (.aload_n 1, 1) := by decide +kernel
theorem dX3_begin_2 : decode cX3_begin 2 = .ok (.putfield 13, 3) := by decide +kernel
theorem dX3_begin_5 : decode cX3_begin 5 = .ok (.aload_n 0, 1) := by decide +kernel
theorem dX3_begin_6 : decode cX3_begin 6 = .ok (.iload_n 2, 1) := by decide +kernel
theorem dX3_begin_7 : decode cX3_begin 7 = .ok (.putfield 17, 3) := by decide +kernel
theorem dX3_begin_10 : decode cX3_begin 10 = .ok (.aload_n 0, 1) := by decide +kernel
theorem dX3_begin_11 : decode cX3_begin 11 = .ok (.iload_n 3, 1) := by decide +kernel
theorem dX3_begin_12 : decode cX3_begin 12 = .ok (.putfield 20, 3) := by decide +kernel
theorem dX3_begin_15 : decode cX3_begin 15 = .ok (.aload_n 0, 1) := by decide +kernel
theorem dX3_begin_16 : decode cX3_begin 16 = .ok (.iload 4, 2) := by decide +kernel
theorem dX3_begin_18 : decode cX3_begin 18 = .ok (.putfield 23, 3) := by decide +kernel
theorem dX3_begin_21 : decode cX3_begin 21 = .ok (.aload_n 0, 1) := by decide +kernel
theorem dX3_begin_22 : decode cX3_begin 22 = .ok (.iload 5, 2) := by decide +kernel
theorem dX3_begin_24 : decode cX3_begin 24 = .ok (.putfield 26, 3) := by decide +kernel
theorem dX3_begin_27 : decode cX3_begin 27 = .ok (.aload_n 0, 1) := by decide +kernel
theorem dX3_begin_28 : decode cX3_begin 28 = .ok (.iload 6, 2) := by decide +kernel
theorem dX3_begin_30 : decode cX3_begin 30 = .ok (.putfield 29, 3) := by decide +kernel
theorem dX3_begin_33 : decode cX3_begin 33 = .ok (.aload_n 0, 1) := by decide +kernel
theorem dX3_begin_34 : decode cX3_begin 34 = .ok (.iconst 0, 1) := by decide +kernel
theorem dX3_begin_35 : decode cX3_begin 35 = .ok (.putfield 32, 3) := by decide +kernel
theorem dX3_begin_38 : decode cX3_begin 38 = .ok (.aload_n 0, 1) := by decide +kernel
theorem dX3_begin_39 : decode cX3_begin 39 = .ok (.invokevirtual 35, 3) := by decide +kernel
theorem dX3_begin_42 : decode cX3_begin 42 = .ok (.return_, 1) := by decide +kernel
theorem dX3_holds_0 : decode cX3_holds 0 = .ok (.aload_n 0, 1) := by decide +kernel
theorem dX3_holds_1 : decode cX3_holds 1 = .ok (.getfield 32, 3) := by decide +kernel
theorem dX3_holds_4 : decode cX3_holds 4 = .ok (.ifCond .ne 23, 3) := by decide +kernel
theorem dX3_holds_7 : decode cX3_holds 7 = .ok (.aload_n 0, 1) := by decide +kernel
theorem dX3_holds_8 : decode cX3_holds 8 = .ok (.getfield 26, 3) := by decide +kernel
theorem dX3_holds_11 : decode cX3_holds 11 = .ok (.iload_n 1, 1) := by decide +kernel
theorem dX3_holds_12 : decode cX3_holds 12 = .ok (.if_icmp .lt 15, 3) := by decide +kernel
theorem dX3_holds_15 : decode cX3_holds 15 = .ok (.aload_n 0, 1) := by decide +kernel
theorem dX3_holds_16 : decode cX3_holds 16 = .ok (.getfield 29, 3) := by decide +kernel
theorem dX3_holds_19 : decode cX3_holds 19 = .ok (.iload_n 2, 1) := by decide +kernel
theorem dX3_holds_20 : decode cX3_holds 20 = .ok (.if_icmp .lt 7, 3) := by decide +kernel
theorem dX3_holds_23 : decode cX3_holds 23 = .ok (.iconst 1, 1) := by decide +kernel
theorem dX3_holds_24 : decode cX3_holds 24 = .ok (.goto 4, 3) := by decide +kernel
theorem dX3_holds_27 : decode cX3_holds 27 = .ok (.iconst 0, 1) := by decide +kernel
theorem dX3_holds_28 : decode cX3_holds 28 = .ok (.ireturn, 1) := by decide +kernel
theorem dX3_area_0 : decode cX3_area 0 = .ok (.aload_n 0, 1) := by decide +kernel
theorem dX3_area_1 : decode cX3_area 1 = .ok (.getfield 26, 3) := by decide +kernel
theorem dX3_area_4 : decode cX3_area 4 = .ok (.aload_n 0, 1) := by decide +kernel
theorem dX3_area_5 : decode cX3_area 5 = .ok (.getfield 29, 3) := by decide +kernel
theorem dX3_area_8 : decode cX3_area 8 = .ok (.imul, 1) := by decide +kernel
theorem dX3_area_9 : decode cX3_area 9 = .ok (.ireturn, 1) := by decide +kernel
theorem dX3_touches_0 : decode cX3_touches 0 = .ok (.aload_n 0, 1) := by decide +kernel
theorem dX3_touches_1 : decode cX3_touches 1 = .ok (.getfield 17, 3) := by decide +kernel
theorem dX3_touches_4 : decode cX3_touches 4 = .ok (.aload_n 1, 1) := by decide +kernel
theorem dX3_touches_5 : decode cX3_touches 5 = .ok (.getfield 17, 3) := by decide +kernel
theorem dX3_touches_8 : decode cX3_touches 8 = .ok (.if_icmp .ne 71, 3) := by decide +kernel
theorem dX3_touches_11 : decode cX3_touches 11 = .ok (.aload_n 0, 1) := by decide +kernel
theorem dX3_touches_12 : decode cX3_touches 12 = .ok (.getfield 20, 3) := by decide +kernel
theorem dX3_touches_15 : decode cX3_touches 15 = .ok (.aload_n 1, 1) := by decide +kernel
theorem dX3_touches_16 : decode cX3_touches 16 = .ok (.getfield 20, 3) := by decide +kernel
theorem dX3_touches_19 : decode cX3_touches 19 = .ok (.aload_n 1, 1) := by decide +kernel
theorem dX3_touches_20 : decode cX3_touches 20 = .ok (.getfield 26, 3) := by decide +kernel
theorem dX3_touches_23 : decode cX3_touches 23 = .ok (.iadd, 1) := by decide +kernel
theorem dX3_touches_24 : decode cX3_touches 24 = .ok (.if_icmp .gt 55, 3) := by decide +kernel
theorem dX3_touches_27 : decode cX3_touches 27 = .ok (.aload_n 1, 1) := by decide +kernel
theorem dX3_touches_28 : decode cX3_touches 28 = .ok (.getfield 20, 3) := by decide +kernel
theorem dX3_touches_31 : decode cX3_touches 31 = .ok (.aload_n 0, 1) := by decide +kernel
theorem dX3_touches_32 : decode cX3_touches 32 = .ok (.getfield 20, 3) := by decide +kernel
theorem dX3_touches_35 : decode cX3_touches 35 = .ok (.aload_n 0, 1) := by decide +kernel
theorem dX3_touches_36 : decode cX3_touches 36 = .ok (.getfield 26, 3) := by decide +kernel
theorem dX3_touches_39 : decode cX3_touches 39 = .ok (.iadd, 1) := by decide +kernel
theorem dX3_touches_40 : decode cX3_touches 40 = .ok (.if_icmp .gt 39, 3) := by decide +kernel
theorem dX3_touches_43 : decode cX3_touches 43 = .ok (.aload_n 0, 1) := by decide +kernel
theorem dX3_touches_44 : decode cX3_touches 44 = .ok (.getfield 23, 3) := by decide +kernel
theorem dX3_touches_47 : decode cX3_touches 47 = .ok (.aload_n 1, 1) := by decide +kernel
theorem dX3_touches_48 : decode cX3_touches 48 = .ok (.getfield 23, 3) := by decide +kernel
theorem dX3_touches_51 : decode cX3_touches 51 = .ok (.aload_n 1, 1) := by decide +kernel
theorem dX3_touches_52 : decode cX3_touches 52 = .ok (.getfield 29, 3) := by decide +kernel
theorem dX3_touches_55 : decode cX3_touches 55 = .ok (.iadd, 1) := by decide +kernel
theorem dX3_touches_56 : decode cX3_touches 56 = .ok (.if_icmp .gt 23, 3) := by decide +kernel
theorem dX3_touches_59 : decode cX3_touches 59 = .ok (.aload_n 1, 1) := by decide +kernel
theorem dX3_touches_60 : decode cX3_touches 60 = .ok (.getfield 23, 3) := by decide +kernel
theorem dX3_touches_63 : decode cX3_touches 63 = .ok (.aload_n 0, 1) := by decide +kernel
theorem dX3_touches_64 : decode cX3_touches 64 = .ok (.getfield 23, 3) := by decide +kernel
theorem dX3_touches_67 : decode cX3_touches 67 = .ok (.aload_n 0, 1) := by decide +kernel
theorem dX3_touches_68 : decode cX3_touches 68 = .ok (.getfield 29, 3) := by decide +kernel
theorem dX3_touches_71 : decode cX3_touches 71 = .ok (.iadd, 1) := by decide +kernel
theorem dX3_touches_72 : decode cX3_touches 72 = .ok (.if_icmp .gt 7, 3) := by decide +kernel
theorem dX3_touches_75 : decode cX3_touches 75 = .ok (.iconst 1, 1) := by decide +kernel
theorem dX3_touches_76 : decode cX3_touches 76 = .ok (.goto 4, 3) := by decide +kernel
theorem dX3_touches_79 : decode cX3_touches 79 = .ok (.iconst 0, 1) := by decide +kernel
theorem dX3_touches_80 : decode cX3_touches 80 = .ok (.ireturn, 1) := by decide +kernel
theorem dX3_release_0 : decode cX3_release 0 = .ok (.aload_n 0, 1) := by decide +kernel
theorem dX3_release_1 : decode cX3_release 1 = .ok (.iconst 0, 1) := by decide +kernel
theorem dX3_release_2 : decode cX3_release 2 = .ok (.putfield 32, 3) := by decide +kernel
theorem dX3_release_5 : decode cX3_release 5 = .ok (.aload_n 0, 1) := by decide +kernel
theorem dX3_release_6 : decode cX3_release 6 = .ok (.getfield 13, 3) := by decide +kernel
theorem dX3_release_9 : decode cX3_release 9 = .ok (.astore_n 1, 1) := by decide +kernel
theorem dX3_release_10 : decode cX3_release 10 = .ok (.aload_n 1, 1) := by decide +kernel
theorem dX3_release_11 : decode cX3_release 11 = .ok (.ifnull 27, 3) := by decide +kernel
theorem dX3_release_14 : decode cX3_release 14 = .ok (.aload_n 1, 1) := by decide +kernel
theorem dX3_release_15 : decode cX3_release 15 = .ok (.invokevirtual 38, 3) := by decide +kernel
theorem dX3_release_18 : decode cX3_release 18 = .ok (.ifCond .eq 20, 3) := by decide +kernel
theorem dX3_release_21 : decode cX3_release 21 = .ok (.aload_n 1, 1) := by decide +kernel
theorem dX3_release_22 : decode cX3_release 22 = .ok (.invokevirtual 42, 3) := by decide +kernel
theorem dX3_release_25 : decode cX3_release 25 = .ok (.aload_n 1, 1) := by decide +kernel
theorem dX3_release_26 : decode cX3_release 26 = .ok (.iconst 0, 1) := by decide +kernel
theorem dX3_release_27 : decode cX3_release 27 = .ok (.putfield 32, 3) := by decide +kernel
theorem dX3_release_30 : decode cX3_release 30 = .ok (.aload_n 1, 1) := by decide +kernel
theorem dX3_release_31 : decode cX3_release 31 = .ok (.getfield 13, 3) := by decide +kernel
theorem dX3_release_34 : decode cX3_release 34 = .ok (.astore_n 1, 1) := by decide +kernel
theorem dX3_release_35 : decode cX3_release 35 = .ok (.goto (-25), 3) := by decide +kernel
theorem dX3_release_38 : decode cX3_release 38 = .ok (.return_, 1) := by decide +kernel
theorem dX3_hasAllFree_0 : decode cX3_hasAllFree 0 = .ok (.aload_n 0, 1) := by decide +kernel
theorem dX3_hasAllFree_1 : decode cX3_hasAllFree 1 = .ok (.getfield 45, 3) := by decide +kernel
theorem dX3_hasAllFree_4 : decode cX3_hasAllFree 4 = .ok (.invokestatic 48, 3) := by decide +kernel
theorem dX3_hasAllFree_7 : decode cX3_hasAllFree 7 = .ok (.ifCond .eq 27, 3) := by decide +kernel
theorem dX3_hasAllFree_10 : decode cX3_hasAllFree 10 = .ok (.aload_n 0, 1) := by decide +kernel
theorem dX3_hasAllFree_11 : decode cX3_hasAllFree 11 = .ok (.getfield 52, 3) := by decide +kernel
theorem dX3_hasAllFree_14 : decode cX3_hasAllFree 14 = .ok (.invokestatic 48, 3) := by decide +kernel
theorem dX3_hasAllFree_17 : decode cX3_hasAllFree 17 = .ok (.ifCond .eq 17, 3) := by decide +kernel
theorem dX3_hasAllFree_20 : decode cX3_hasAllFree 20 = .ok (.aload_n 0, 1) := by decide +kernel
theorem dX3_hasAllFree_21 : decode cX3_hasAllFree 21 = .ok (.getfield 55, 3) := by decide +kernel
theorem dX3_hasAllFree_24 : decode cX3_hasAllFree 24 = .ok (.invokestatic 48, 3) := by decide +kernel
theorem dX3_hasAllFree_27 : decode cX3_hasAllFree 27 = .ok (.ifCond .eq 7, 3) := by decide +kernel
theorem dX3_hasAllFree_30 : decode cX3_hasAllFree 30 = .ok (.iconst 1, 1) := by decide +kernel
theorem dX3_hasAllFree_31 : decode cX3_hasAllFree 31 = .ok (.goto 4, 3) := by decide +kernel
theorem dX3_hasAllFree_34 : decode cX3_hasAllFree 34 = .ok (.iconst 0, 1) := by decide +kernel
theorem dX3_hasAllFree_35 : decode cX3_hasAllFree 35 = .ok (.ireturn, 1) := by decide +kernel
theorem dX3_isFreeOrNone_0 : decode cX3_isFreeOrNone 0 = .ok (.aload_n 0, 1) := by decide +kernel
theorem dX3_isFreeOrNone_1 : decode cX3_isFreeOrNone 1 = .ok (.ifnull 10, 3) := by decide +kernel
theorem dX3_isFreeOrNone_4 : decode cX3_isFreeOrNone 4 = .ok (.aload_n 0, 1) := by decide +kernel
theorem dX3_isFreeOrNone_5 : decode cX3_isFreeOrNone 5 = .ok (.getfield 32, 3) := by decide +kernel
theorem dX3_isFreeOrNone_8 : decode cX3_isFreeOrNone 8 = .ok (.ifCond .ne 7, 3) := by decide +kernel
theorem dX3_isFreeOrNone_11 : decode cX3_isFreeOrNone 11 = .ok (.iconst 1, 1) := by decide +kernel
theorem dX3_isFreeOrNone_12 : decode cX3_isFreeOrNone 12 = .ok (.goto 4, 3) := by decide +kernel
theorem dX3_isFreeOrNone_15 : decode cX3_isFreeOrNone 15 = .ok (.iconst 0, 1) := by decide +kernel
theorem dX3_isFreeOrNone_16 : decode cX3_isFreeOrNone 16 = .ok (.ireturn, 1) := by decide +kernel
theorem dX3_endPieces_0 : decode cX3_endPieces 0 = .ok (.aload_n 0, 1) := by decide +kernel
theorem dX3_endPieces_1 : decode cX3_endPieces 1 = .ok (.getfield 45, 3) := by decide +kernel
theorem dX3_endPieces_4 : decode cX3_endPieces 4 = .ok (.invokestatic 58, 3) := by decide +kernel
theorem dX3_endPieces_7 : decode cX3_endPieces 7 = .ok (.aload_n 0, 1) := by decide +kernel
theorem dX3_endPieces_8 : decode cX3_endPieces 8 = .ok (.getfield 52, 3) := by decide +kernel
theorem dX3_endPieces_11 : decode cX3_endPieces 11 = .ok (.invokestatic 58, 3) := by decide +kernel
theorem dX3_endPieces_14 : decode cX3_endPieces 14 = .ok (.aload_n 0, 1) := by decide +kernel
theorem dX3_endPieces_15 : decode cX3_endPieces 15 = .ok (.getfield 55, 3) := by decide +kernel
theorem dX3_endPieces_18 : decode cX3_endPieces 18 = .ok (.invokestatic 58, 3) := by decide +kernel
theorem dX3_endPieces_21 : decode cX3_endPieces 21 = .ok (.aload_n 0, 1) := by decide +kernel
theorem dX3_endPieces_22 : decode cX3_endPieces 22 = .ok (.invokevirtual 35, 3) := by decide +kernel
theorem dX3_endPieces_25 : decode cX3_endPieces 25 = .ok (.return_, 1) := by decide +kernel
theorem dX3_end_0 : decode cX3_end 0 = .ok (.aload_n 0, 1) := by decide +kernel
theorem dX3_end_1 : decode cX3_end 1 = .ok (.ifnull 8, 3) := by decide +kernel
theorem dX3_end_4 : decode cX3_end 4 = .ok (.aload_n 0, 1) := by decide +kernel
theorem dX3_end_5 : decode cX3_end 5 = .ok (.iconst 3, 1) := by decide +kernel
theorem dX3_end_6 : decode cX3_end 6 = .ok (.putfield 32, 3) := by decide +kernel
theorem dX3_end_9 : decode cX3_end 9 = .ok (.return_, 1) := by decide +kernel
theorem dX3_joinPieces_0 : decode cX3_joinPieces 0 = .ok (.aload_n 0, 1) := by decide +kernel
theorem dX3_joinPieces_1 : decode cX3_joinPieces 1 = .ok (.aconst_null, 1) := by decide +kernel
theorem dX3_joinPieces_2 : decode cX3_joinPieces 2 = .ok (.putfield 45, 3) := by decide +kernel
theorem dX3_joinPieces_5 : decode cX3_joinPieces 5 = .ok (.aload_n 0, 1) := by decide +kernel
theorem dX3_joinPieces_6 : decode cX3_joinPieces 6 = .ok (.aconst_null, 1) := by decide +kernel
theorem dX3_joinPieces_7 : decode cX3_joinPieces 7 = .ok (.putfield 52, 3) := by decide +kernel
theorem dX3_joinPieces_10 : decode cX3_joinPieces 10 = .ok (.aload_n 0, 1) := by decide +kernel
theorem dX3_joinPieces_11 : decode cX3_joinPieces 11 = .ok (.aconst_null, 1) := by decide +kernel
theorem dX3_joinPieces_12 : decode cX3_joinPieces 12 = .ok (.putfield 55, 3) := by decide +kernel
theorem dX3_joinPieces_15 : decode cX3_joinPieces 15 = .ok (.return_, 1) := by decide +kernel
theorem dX4_init_0 : decode cX4_init 0 = .ok (.aload_n 0, 1) := by decide +kernel
theorem dX4_init_1 : decode cX4_init 1 = .ok (.invokespecial 3, 3) := by decide +kernel
theorem dX4_init_4 : decode cX4_init 4 = .ok (.aload_n 0, 1) := by decide +kernel
theorem dX4_init_5 : decode cX4_init 5 = .ok (.new 9, 3) := by decide +kernel
theorem dX4_init_8 : decode cX4_init 8 = .ok (.dup, 1) := by decide +kernel
theorem dX4_init_9 : decode cX4_init 9 = .ok (.invokespecial 11, 3) := by decide +kernel
theorem dX4_init_12 : decode cX4_init 12 = .ok (.putfield 12, 3) := by decide +kernel
theorem dX4_init_15 : decode cX4_init 15 = .ok (.return_, 1) := by decide +kernel
theorem dX4_bring_0 : decode cX4_bring 0 = .ok (.aload_n 0, 1) := by decide +kernel
theorem dX4_bring_1 : decode cX4_bring 1 = .ok (.getfield 18, 3) := by decide +kernel
theorem dX4_bring_4 : decode cX4_bring 4 = .ok (.istore_n 3, 1) := by decide +kernel
theorem dX4_bring_5 : decode cX4_bring 5 = .ok (.aload_n 0, 1) := by decide +kernel
theorem dX4_bring_6 : decode cX4_bring 6 = .ok (.invokevirtual 22, 3) := by decide +kernel
theorem dX4_bring_9 : decode cX4_bring 9 = .ok (.aconst_null, 1) := by decide +kernel
theorem dX4_bring_10 : decode cX4_bring 10 = .ok (.iload_n 3, 1) := by decide +kernel
theorem dX4_bring_11 : decode cX4_bring 11 = .ok (.iconst 0, 1) := by decide +kernel
theorem dX4_bring_12 : decode cX4_bring 12 = .ok (.iconst 0, 1) := by decide +kernel
theorem dX4_bring_13 : decode cX4_bring 13 = .ok (.iload_n 1, 1) := by decide +kernel
theorem dX4_bring_14 : decode cX4_bring 14 = .ok (.iload_n 2, 1) := by decide +kernel
theorem dX4_bring_15 : decode cX4_bring 15 = .ok (.invokevirtual 26, 3) := by decide +kernel
theorem dX4_bring_18 : decode cX4_bring 18 = .ok (.aload_n 0, 1) := by decide +kernel
theorem dX4_bring_19 : decode cX4_bring 19 = .ok (.dup, 1) := by decide +kernel
theorem dX4_bring_20 : decode cX4_bring 20 = .ok (.getfield 18, 3) := by decide +kernel
theorem dX4_bring_23 : decode cX4_bring 23 = .ok (.iconst 1, 1) := by decide +kernel
theorem dX4_bring_24 : decode cX4_bring 24 = .ok (.iadd, 1) := by decide +kernel
theorem dX4_bring_25 : decode cX4_bring 25 = .ok (.putfield 18, 3) := by decide +kernel
theorem dX4_bring_28 : decode cX4_bring 28 = .ok (.iload_n 3, 1) := by decide +kernel
theorem dX4_bring_29 : decode cX4_bring 29 = .ok (.ireturn, 1) := by decide +kernel
theorem dX4_next_0 : decode cX4_next 0 = .ok (.aload_n 0, 1) := by decide +kernel
theorem dX4_next_1 : decode cX4_next 1 = .ok (.getfield 32, 3) := by decide +kernel
theorem dX4_next_4 : decode cX4_next 4 = .ok (.istore_n 1, 1) := by decide +kernel
theorem dX4_next_5 : decode cX4_next 5 = .ok (.aload_n 0, 1) := by decide +kernel
theorem dX4_next_6 : decode cX4_next 6 = .ok (.dup, 1) := by decide +kernel
theorem dX4_next_7 : decode cX4_next 7 = .ok (.getfield 32, 3) := by decide +kernel
theorem dX4_next_10 : decode cX4_next 10 = .ok (.iconst 1, 1) := by decide +kernel
theorem dX4_next_11 : decode cX4_next 11 = .ok (.iadd, 1) := by decide +kernel
theorem dX4_next_12 : decode cX4_next 12 = .ok (.putfield 32, 3) := by decide +kernel
theorem dX4_next_15 : decode cX4_next 15 = .ok (.iload_n 1, 1) := by decide +kernel
theorem dX4_next_16 : decode cX4_next 16 = .ok (.ifCond .lt 26, 3) := by decide +kernel
theorem dX4_next_19 : decode cX4_next 19 = .ok (.iload_n 1, 1) := by decide +kernel
theorem dX4_next_20 : decode cX4_next 20 = .ok (.aload_n 0, 1) := by decide +kernel
theorem dX4_next_21 : decode cX4_next 21 = .ok (.getfield 12, 3) := by decide +kernel
theorem dX4_next_24 : decode cX4_next 24 = .ok (.invokevirtual 35, 3) := by decide +kernel
theorem dX4_next_27 : decode cX4_next 27 = .ok (.if_icmp .ge 15, 3) := by decide +kernel
theorem dX4_next_30 : decode cX4_next 30 = .ok (.aload_n 0, 1) := by decide +kernel
theorem dX4_next_31 : decode cX4_next 31 = .ok (.getfield 12, 3) := by decide +kernel
theorem dX4_next_34 : decode cX4_next 34 = .ok (.iload_n 1, 1) := by decide +kernel
theorem dX4_next_35 : decode cX4_next 35 = .ok (.invokevirtual 39, 3) := by decide +kernel
theorem dX4_next_38 : decode cX4_next 38 = .ok (.checkcast 27, 3) := by decide +kernel
theorem dX4_next_41 : decode cX4_next 41 = .ok (.areturn, 1) := by decide +kernel
theorem dX4_next_42 : decode cX4_next 42 = .ok (.new 27, 3) := by decide +kernel
theorem dX4_next_45 : decode cX4_next 45 = .ok (.dup, 1) := by decide +kernel
theorem dX4_next_46 : decode cX4_next 46 = .ok (.iload_n 1, 1) := by decide +kernel
theorem dX4_next_47 : decode cX4_next 47 = .ok (.invokespecial 43, 3) := by decide +kernel
theorem dX4_next_50 : decode cX4_next 50 = .ok (.astore_n 2, 1) := by decide +kernel
theorem dX4_next_51 : decode cX4_next 51 = .ok (.aload_n 0, 1) := by decide +kernel
theorem dX4_next_52 : decode cX4_next 52 = .ok (.getfield 12, 3) := by decide +kernel
theorem dX4_next_55 : decode cX4_next 55 = .ok (.aload_n 2, 1) := by decide +kernel
theorem dX4_next_56 : decode cX4_next 56 = .ok (.invokevirtual 46, 3) := by decide +kernel
theorem dX4_next_59 : decode cX4_next 59 = .ok (.pop, 1) := by decide +kernel
theorem dX4_next_60 : decode cX4_next 60 = .ok (.aload_n 2, 1) := by decide +kernel
theorem dX4_next_61 : decode cX4_next 61 = .ok (.areturn, 1) := by decide +kernel
theorem dX4_lay_0 : decode cX4_lay 0 = .ok (.aload_n 0, 1) := by decide +kernel
theorem dX4_lay_1 : decode cX4_lay 1 = .ok (.iload_n 1, 1) := by decide +kernel
theorem dX4_lay_2 : decode cX4_lay 2 = .ok (.iload_n 2, 1) := by decide +kernel
theorem dX4_lay_3 : decode cX4_lay 3 = .ok (.invokevirtual 50, 3) := by decide +kernel
theorem dX4_lay_6 : decode cX4_lay 6 = .ok (.astore_n 3, 1) := by decide +kernel
theorem dX4_lay_7 : decode cX4_lay 7 = .ok (.aload_n 3, 1) := by decide +kernel
theorem dX4_lay_8 : decode cX4_lay 8 = .ok (.ifnull 20, 3) := by decide +kernel
theorem dX4_lay_11 : decode cX4_lay 11 = .ok (.aload_n 0, 1) := by decide +kernel
theorem dX4_lay_12 : decode cX4_lay 12 = .ok (.getfield 32, 3) := by decide +kernel
theorem dX4_lay_15 : decode cX4_lay 15 = .ok (.aload_n 3, 1) := by decide +kernel
theorem dX4_lay_16 : decode cX4_lay 16 = .ok (.iload_n 1, 1) := by decide +kernel
theorem dX4_lay_17 : decode cX4_lay 17 = .ok (.iload_n 2, 1) := by decide +kernel
theorem dX4_lay_18 : decode cX4_lay 18 = .ok (.invokestatic 54, 3) := by decide +kernel
theorem dX4_lay_21 : decode cX4_lay 21 = .ok (.iadd, 1) := by decide +kernel
theorem dX4_lay_22 : decode cX4_lay 22 = .ok (.sipush 400, 3) := by decide +kernel
theorem dX4_lay_25 : decode cX4_lay 25 = .ok (.if_icmp .le 5, 3) := by decide +kernel
theorem dX4_lay_28 : decode cX4_lay 28 = .ok (.aconst_null, 1) := by decide +kernel
theorem dX4_lay_29 : decode cX4_lay 29 = .ok (.areturn, 1) := by decide +kernel
theorem dX4_lay_30 : decode cX4_lay 30 = .ok (.aload_n 0, 1) := by decide +kernel
theorem dX4_lay_31 : decode cX4_lay 31 = .ok (.aload_n 3, 1) := by decide +kernel
theorem dX4_lay_32 : decode cX4_lay 32 = .ok (.aload_n 3, 1) := by decide +kernel
theorem dX4_lay_33 : decode cX4_lay 33 = .ok (.getfield 58, 3) := by decide +kernel
theorem dX4_lay_36 : decode cX4_lay 36 = .ok (.aload_n 3, 1) := by decide +kernel
theorem dX4_lay_37 : decode cX4_lay 37 = .ok (.getfield 61, 3) := by decide +kernel
theorem dX4_lay_40 : decode cX4_lay 40 = .ok (.iload_n 1, 1) := by decide +kernel
theorem dX4_lay_41 : decode cX4_lay 41 = .ok (.iload_n 2, 1) := by decide +kernel
theorem dX4_lay_42 : decode cX4_lay 42 = .ok (.invokevirtual 64, 3) := by decide +kernel
theorem dX4_lay_45 : decode cX4_lay 45 = .ok (.astore 4, 2) := by decide +kernel
theorem dX4_lay_47 : decode cX4_lay 47 = .ok (.aload 4, 2) := by decide +kernel
theorem dX4_lay_49 : decode cX4_lay 49 = .ok (.iconst 1, 1) := by decide +kernel
theorem dX4_lay_50 : decode cX4_lay 50 = .ok (.putfield 68, 3) := by decide +kernel
theorem dX4_lay_53 : decode cX4_lay 53 = .ok (.aload_n 3, 1) := by decide +kernel
theorem dX4_lay_54 : decode cX4_lay 54 = .ok (.iconst 2, 1) := by decide +kernel
theorem dX4_lay_55 : decode cX4_lay 55 = .ok (.putfield 68, 3) := by decide +kernel
theorem dX4_lay_58 : decode cX4_lay 58 = .ok (.aload_n 3, 1) := by decide +kernel
theorem dX4_lay_59 : decode cX4_lay 59 = .ok (.aload 4, 2) := by decide +kernel
theorem dX4_lay_61 : decode cX4_lay 61 = .ok (.putfield 71, 3) := by decide +kernel
theorem dX4_lay_64 : decode cX4_lay 64 = .ok (.aload_n 3, 1) := by decide +kernel
theorem dX4_lay_65 : decode cX4_lay 65 = .ok (.getfield 75, 3) := by decide +kernel
theorem dX4_lay_68 : decode cX4_lay 68 = .ok (.iload_n 1, 1) := by decide +kernel
theorem dX4_lay_69 : decode cX4_lay 69 = .ok (.if_icmp .le 29, 3) := by decide +kernel
theorem dX4_lay_72 : decode cX4_lay 72 = .ok (.aload_n 3, 1) := by decide +kernel
theorem dX4_lay_73 : decode cX4_lay 73 = .ok (.aload_n 0, 1) := by decide +kernel
theorem dX4_lay_74 : decode cX4_lay 74 = .ok (.aload_n 3, 1) := by decide +kernel
theorem dX4_lay_75 : decode cX4_lay 75 = .ok (.aload_n 3, 1) := by decide +kernel
theorem dX4_lay_76 : decode cX4_lay 76 = .ok (.getfield 58, 3) := by decide +kernel
theorem dX4_lay_79 : decode cX4_lay 79 = .ok (.iload_n 1, 1) := by decide +kernel
theorem dX4_lay_80 : decode cX4_lay 80 = .ok (.iadd, 1) := by decide +kernel
theorem dX4_lay_81 : decode cX4_lay 81 = .ok (.aload_n 3, 1) := by decide +kernel
theorem dX4_lay_82 : decode cX4_lay 82 = .ok (.getfield 61, 3) := by decide +kernel
theorem dX4_lay_85 : decode cX4_lay 85 = .ok (.aload_n 3, 1) := by decide +kernel
theorem dX4_lay_86 : decode cX4_lay 86 = .ok (.getfield 75, 3) := by decide +kernel
theorem dX4_lay_89 : decode cX4_lay 89 = .ok (.iload_n 1, 1) := by decide +kernel
theorem dX4_lay_90 : decode cX4_lay 90 = .ok (.isub, 1) := by decide +kernel
theorem dX4_lay_91 : decode cX4_lay 91 = .ok (.iload_n 2, 1) := by decide +kernel
theorem dX4_lay_92 : decode cX4_lay 92 = .ok (.invokevirtual 64, 3) := by decide +kernel
theorem dX4_lay_95 : decode cX4_lay 95 = .ok (.putfield 78, 3) := by decide +kernel
theorem dX4_lay_98 : decode cX4_lay 98 = .ok (.aload_n 3, 1) := by decide +kernel
theorem dX4_lay_99 : decode cX4_lay 99 = .ok (.getfield 81, 3) := by decide +kernel
theorem dX4_lay_102 : decode cX4_lay 102 = .ok (.iload_n 2, 1) := by decide +kernel
theorem dX4_lay_103 : decode cX4_lay 103 = .ok (.if_icmp .le 32, 3) := by decide +kernel
theorem dX4_lay_106 : decode cX4_lay 106 = .ok (.aload_n 3, 1) := by decide +kernel
theorem dX4_lay_107 : decode cX4_lay 107 = .ok (.aload_n 0, 1) := by decide +kernel
theorem dX4_lay_108 : decode cX4_lay 108 = .ok (.aload_n 3, 1) := by decide +kernel
theorem dX4_lay_109 : decode cX4_lay 109 = .ok (.aload_n 3, 1) := by decide +kernel
theorem dX4_lay_110 : decode cX4_lay 110 = .ok (.getfield 58, 3) := by decide +kernel
theorem dX4_lay_113 : decode cX4_lay 113 = .ok (.aload_n 3, 1) := by decide +kernel
theorem dX4_lay_114 : decode cX4_lay 114 = .ok (.getfield 61, 3) := by decide +kernel
theorem dX4_lay_117 : decode cX4_lay 117 = .ok (.iload_n 2, 1) := by decide +kernel
theorem dX4_lay_118 : decode cX4_lay 118 = .ok (.iadd, 1) := by decide +kernel
theorem dX4_lay_119 : decode cX4_lay 119 = .ok (.aload_n 3, 1) := by decide +kernel
theorem dX4_lay_120 : decode cX4_lay 120 = .ok (.getfield 75, 3) := by decide +kernel
theorem dX4_lay_123 : decode cX4_lay 123 = .ok (.aload_n 3, 1) := by decide +kernel
theorem dX4_lay_124 : decode cX4_lay 124 = .ok (.getfield 81, 3) := by decide +kernel
theorem dX4_lay_127 : decode cX4_lay 127 = .ok (.iload_n 2, 1) := by decide +kernel
theorem dX4_lay_128 : decode cX4_lay 128 = .ok (.isub, 1) := by decide +kernel
theorem dX4_lay_129 : decode cX4_lay 129 = .ok (.invokevirtual 64, 3) := by decide +kernel
theorem dX4_lay_132 : decode cX4_lay 132 = .ok (.putfield 84, 3) := by decide +kernel
theorem dX4_lay_135 : decode cX4_lay 135 = .ok (.aload 4, 2) := by decide +kernel
theorem dX4_lay_137 : decode cX4_lay 137 = .ok (.areturn, 1) := by decide +kernel
theorem dX4_piecesOf_0 : decode cX4_piecesOf 0 = .ok (.iconst 1, 1) := by decide +kernel
theorem dX4_piecesOf_1 : decode cX4_piecesOf 1 = .ok (.aload_n 0, 1) := by decide +kernel
theorem dX4_piecesOf_2 : decode cX4_piecesOf 2 = .ok (.getfield 75, 3) := by decide +kernel
theorem dX4_piecesOf_5 : decode cX4_piecesOf 5 = .ok (.iload_n 1, 1) := by decide +kernel
theorem dX4_piecesOf_6 : decode cX4_piecesOf 6 = .ok (.if_icmp .le 7, 3) := by decide +kernel
theorem dX4_piecesOf_9 : decode cX4_piecesOf 9 = .ok (.iconst 1, 1) := by decide +kernel
theorem dX4_piecesOf_10 : decode cX4_piecesOf 10 = .ok (.goto 4, 3) := by decide +kernel
theorem dX4_piecesOf_13 : decode cX4_piecesOf 13 = .ok (.iconst 0, 1) := by decide +kernel
theorem dX4_piecesOf_14 : decode cX4_piecesOf 14 = .ok (.iadd, 1) := by decide +kernel
theorem dX4_piecesOf_15 : decode cX4_piecesOf 15 = .ok (.aload_n 0, 1) := by decide +kernel
theorem dX4_piecesOf_16 : decode cX4_piecesOf 16 = .ok (.getfield 81, 3) := by decide +kernel
theorem dX4_piecesOf_19 : decode cX4_piecesOf 19 = .ok (.iload_n 2, 1) := by decide +kernel
theorem dX4_piecesOf_20 : decode cX4_piecesOf 20 = .ok (.if_icmp .le 7, 3) := by decide +kernel
theorem dX4_piecesOf_23 : decode cX4_piecesOf 23 = .ok (.iconst 1, 1) := by decide +kernel
theorem dX4_piecesOf_24 : decode cX4_piecesOf 24 = .ok (.goto 4, 3) := by decide +kernel
theorem dX4_piecesOf_27 : decode cX4_piecesOf 27 = .ok (.iconst 0, 1) := by decide +kernel
theorem dX4_piecesOf_28 : decode cX4_piecesOf 28 = .ok (.iadd, 1) := by decide +kernel
theorem dX4_piecesOf_29 : decode cX4_piecesOf 29 = .ok (.ireturn, 1) := by decide +kernel
theorem dX4_pieceOf_0 : decode cX4_pieceOf 0 = .ok (.aload_n 0, 1) := by decide +kernel
theorem dX4_pieceOf_1 : decode cX4_pieceOf 1 = .ok (.invokevirtual 22, 3) := by decide +kernel
theorem dX4_pieceOf_4 : decode cX4_pieceOf 4 = .ok (.astore 6, 2) := by decide +kernel
theorem dX4_pieceOf_6 : decode cX4_pieceOf 6 = .ok (.aload 6, 2) := by decide +kernel
theorem dX4_pieceOf_8 : decode cX4_pieceOf 8 = .ok (.aload_n 1, 1) := by decide +kernel
theorem dX4_pieceOf_9 : decode cX4_pieceOf 9 = .ok (.aload_n 1, 1) := by decide +kernel
theorem dX4_pieceOf_10 : decode cX4_pieceOf 10 = .ok (.getfield 87, 3) := by decide +kernel
theorem dX4_pieceOf_13 : decode cX4_pieceOf 13 = .ok (.iload_n 2, 1) := by decide +kernel
theorem dX4_pieceOf_14 : decode cX4_pieceOf 14 = .ok (.iload_n 3, 1) := by decide +kernel
theorem dX4_pieceOf_15 : decode cX4_pieceOf 15 = .ok (.iload 4, 2) := by decide +kernel
theorem dX4_pieceOf_17 : decode cX4_pieceOf 17 = .ok (.iload 5, 2) := by decide +kernel
theorem dX4_pieceOf_19 : decode cX4_pieceOf 19 = .ok (.invokevirtual 26, 3) := by decide +kernel
theorem dX4_pieceOf_22 : decode cX4_pieceOf 22 = .ok (.aload 6, 2) := by decide +kernel
theorem dX4_pieceOf_24 : decode cX4_pieceOf 24 = .ok (.areturn, 1) := by decide +kernel
theorem dX4_bestFor_0 : decode cX4_bestFor 0 = .ok (.aconst_null, 1) := by decide +kernel
theorem dX4_bestFor_1 : decode cX4_bestFor 1 = .ok (.astore_n 3, 1) := by decide +kernel
theorem dX4_bestFor_2 : decode cX4_bestFor 2 = .ok (.iconst 0, 1) := by decide +kernel
theorem dX4_bestFor_3 : decode cX4_bestFor 3 = .ok (.istore 4, 2) := by decide +kernel
theorem dX4_bestFor_5 : decode cX4_bestFor 5 = .ok (.iload 4, 2) := by decide +kernel
theorem dX4_bestFor_7 : decode cX4_bestFor 7 = .ok (.aload_n 0, 1) := by decide +kernel
theorem dX4_bestFor_8 : decode cX4_bestFor 8 = .ok (.getfield 32, 3) := by decide +kernel
theorem dX4_bestFor_11 : decode cX4_bestFor 11 = .ok (.if_icmp .ge 64, 3) := by decide +kernel
theorem dX4_bestFor_14 : decode cX4_bestFor 14 = .ok (.iload 4, 2) := by decide +kernel
theorem dX4_bestFor_16 : decode cX4_bestFor 16 = .ok (.aload_n 0, 1) := by decide +kernel
theorem dX4_bestFor_17 : decode cX4_bestFor 17 = .ok (.getfield 12, 3) := by decide +kernel
theorem dX4_bestFor_20 : decode cX4_bestFor 20 = .ok (.invokevirtual 35, 3) := by decide +kernel
theorem dX4_bestFor_23 : decode cX4_bestFor 23 = .ok (.if_icmp .ge 52, 3) := by decide +kernel
theorem dX4_bestFor_26 : decode cX4_bestFor 26 = .ok (.aload_n 0, 1) := by decide +kernel
theorem dX4_bestFor_27 : decode cX4_bestFor 27 = .ok (.getfield 12, 3) := by decide +kernel
theorem dX4_bestFor_30 : decode cX4_bestFor 30 = .ok (.iload 4, 2) := by decide +kernel
theorem dX4_bestFor_32 : decode cX4_bestFor 32 = .ok (.invokevirtual 39, 3) := by decide +kernel
theorem dX4_bestFor_35 : decode cX4_bestFor 35 = .ok (.checkcast 27, 3) := by decide +kernel
theorem dX4_bestFor_38 : decode cX4_bestFor 38 = .ok (.astore 5, 2) := by decide +kernel
theorem dX4_bestFor_40 : decode cX4_bestFor 40 = .ok (.aload 5, 2) := by decide +kernel
theorem dX4_bestFor_42 : decode cX4_bestFor 42 = .ok (.iload_n 1, 1) := by decide +kernel
theorem dX4_bestFor_43 : decode cX4_bestFor 43 = .ok (.iload_n 2, 1) := by decide +kernel
theorem dX4_bestFor_44 : decode cX4_bestFor 44 = .ok (.invokevirtual 90, 3) := by decide +kernel
theorem dX4_bestFor_47 : decode cX4_bestFor 47 = .ok (.ifCond .eq 22, 3) := by decide +kernel
theorem dX4_bestFor_50 : decode cX4_bestFor 50 = .ok (.aload_n 3, 1) := by decide +kernel
theorem dX4_bestFor_51 : decode cX4_bestFor 51 = .ok (.ifnull 15, 3) := by decide +kernel
theorem dX4_bestFor_54 : decode cX4_bestFor 54 = .ok (.aload 5, 2) := by decide +kernel
theorem dX4_bestFor_56 : decode cX4_bestFor 56 = .ok (.invokevirtual 94, 3) := by decide +kernel
theorem dX4_bestFor_59 : decode cX4_bestFor 59 = .ok (.aload_n 3, 1) := by decide +kernel
theorem dX4_bestFor_60 : decode cX4_bestFor 60 = .ok (.invokevirtual 94, 3) := by decide +kernel
theorem dX4_bestFor_63 : decode cX4_bestFor 63 = .ok (.if_icmp .ge 6, 3) := by decide +kernel
theorem dX4_bestFor_66 : decode cX4_bestFor 66 = .ok (.aload 5, 2) := by decide +kernel
theorem dX4_bestFor_68 : decode cX4_bestFor 68 = .ok (.astore_n 3, 1) := by decide +kernel
theorem dX4_bestFor_69 : decode cX4_bestFor 69 = .ok (.iinc 4 1, 3) := by decide +kernel
theorem dX4_bestFor_72 : decode cX4_bestFor 72 = .ok (.goto (-67), 3) := by decide +kernel
theorem dX4_bestFor_75 : decode cX4_bestFor 75 = .ok (.aload_n 3, 1) := by decide +kernel
theorem dX4_bestFor_76 : decode cX4_bestFor 76 = .ok (.areturn, 1) := by decide +kernel
theorem dX4_undo_0 : decode cX4_undo 0 = .ok (.aload_n 1, 1) := by decide +kernel
theorem dX4_undo_1 : decode cX4_undo 1 = .ok (.invokevirtual 35, 3) := by decide +kernel
theorem dX4_undo_4 : decode cX4_undo 4 = .ok (.iconst 1, 1) := by decide +kernel
theorem dX4_undo_5 : decode cX4_undo 5 = .ok (.isub, 1) := by decide +kernel
theorem dX4_undo_6 : decode cX4_undo 6 = .ok (.istore_n 3, 1) := by decide +kernel
theorem dX4_undo_7 : decode cX4_undo 7 = .ok (.iload_n 3, 1) := by decide +kernel
theorem dX4_undo_8 : decode cX4_undo 8 = .ok (.ifCond .lt 38, 3) := by decide +kernel
theorem dX4_undo_11 : decode cX4_undo 11 = .ok (.aload_n 1, 1) := by decide +kernel
theorem dX4_undo_12 : decode cX4_undo 12 = .ok (.iload_n 3, 1) := by decide +kernel
theorem dX4_undo_13 : decode cX4_undo 13 = .ok (.invokevirtual 39, 3) := by decide +kernel
theorem dX4_undo_16 : decode cX4_undo 16 = .ok (.checkcast 27, 3) := by decide +kernel
theorem dX4_undo_19 : decode cX4_undo 19 = .ok (.getfield 97, 3) := by decide +kernel
theorem dX4_undo_22 : decode cX4_undo 22 = .ok (.astore 4, 2) := by decide +kernel
theorem dX4_undo_24 : decode cX4_undo 24 = .ok (.aload 4, 2) := by decide +kernel
theorem dX4_undo_26 : decode cX4_undo 26 = .ok (.ifnull 14, 3) := by decide +kernel
theorem dX4_undo_29 : decode cX4_undo 29 = .ok (.aload 4, 2) := by decide +kernel
theorem dX4_undo_31 : decode cX4_undo 31 = .ok (.invokevirtual 100, 3) := by decide +kernel
theorem dX4_undo_34 : decode cX4_undo 34 = .ok (.aload 4, 2) := by decide +kernel
theorem dX4_undo_36 : decode cX4_undo 36 = .ok (.iconst 0, 1) := by decide +kernel
theorem dX4_undo_37 : decode cX4_undo 37 = .ok (.putfield 68, 3) := by decide +kernel
theorem dX4_undo_40 : decode cX4_undo 40 = .ok (.iinc 3 (-1), 3) := by decide +kernel
theorem dX4_undo_43 : decode cX4_undo 43 = .ok (.goto (-36), 3) := by decide +kernel
theorem dX4_undo_46 : decode cX4_undo 46 = .ok (.aload_n 0, 1) := by decide +kernel
theorem dX4_undo_47 : decode cX4_undo 47 = .ok (.iload_n 2, 1) := by decide +kernel
theorem dX4_undo_48 : decode cX4_undo 48 = .ok (.putfield 32, 3) := by decide +kernel
theorem dX4_undo_51 : decode cX4_undo 51 = .ok (.return_, 1) := by decide +kernel
theorem dX4_freeAt_0 : decode cX4_freeAt 0 = .ok (.iconst 0, 1) := by decide +kernel
theorem dX4_freeAt_1 : decode cX4_freeAt 1 = .ok (.istore_n 2, 1) := by decide +kernel
theorem dX4_freeAt_2 : decode cX4_freeAt 2 = .ok (.iconst 0, 1) := by decide +kernel
theorem dX4_freeAt_3 : decode cX4_freeAt 3 = .ok (.istore_n 3, 1) := by decide +kernel
theorem dX4_freeAt_4 : decode cX4_freeAt 4 = .ok (.iload_n 3, 1) := by decide +kernel
theorem dX4_freeAt_5 : decode cX4_freeAt 5 = .ok (.aload_n 0, 1) := by decide +kernel
theorem dX4_freeAt_6 : decode cX4_freeAt 6 = .ok (.getfield 32, 3) := by decide +kernel
theorem dX4_freeAt_9 : decode cX4_freeAt 9 = .ok (.if_icmp .ge 52, 3) := by decide +kernel
theorem dX4_freeAt_12 : decode cX4_freeAt 12 = .ok (.iload_n 3, 1) := by decide +kernel
theorem dX4_freeAt_13 : decode cX4_freeAt 13 = .ok (.aload_n 0, 1) := by decide +kernel
theorem dX4_freeAt_14 : decode cX4_freeAt 14 = .ok (.getfield 12, 3) := by decide +kernel
theorem dX4_freeAt_17 : decode cX4_freeAt 17 = .ok (.invokevirtual 35, 3) := by decide +kernel
theorem dX4_freeAt_20 : decode cX4_freeAt 20 = .ok (.if_icmp .ge 41, 3) := by decide +kernel
theorem dX4_freeAt_23 : decode cX4_freeAt 23 = .ok (.aload_n 0, 1) := by decide +kernel
theorem dX4_freeAt_24 : decode cX4_freeAt 24 = .ok (.getfield 12, 3) := by decide +kernel
theorem dX4_freeAt_27 : decode cX4_freeAt 27 = .ok (.iload_n 3, 1) := by decide +kernel
theorem dX4_freeAt_28 : decode cX4_freeAt 28 = .ok (.invokevirtual 39, 3) := by decide +kernel
theorem dX4_freeAt_31 : decode cX4_freeAt 31 = .ok (.checkcast 27, 3) := by decide +kernel
theorem dX4_freeAt_34 : decode cX4_freeAt 34 = .ok (.astore 4, 2) := by decide +kernel
theorem dX4_freeAt_36 : decode cX4_freeAt 36 = .ok (.aload 4, 2) := by decide +kernel
theorem dX4_freeAt_38 : decode cX4_freeAt 38 = .ok (.getfield 68, 3) := by decide +kernel
theorem dX4_freeAt_41 : decode cX4_freeAt 41 = .ok (.ifCond .ne 14, 3) := by decide +kernel
theorem dX4_freeAt_44 : decode cX4_freeAt 44 = .ok (.iload_n 2, 1) := by decide +kernel
theorem dX4_freeAt_45 : decode cX4_freeAt 45 = .ok (.iload_n 1, 1) := by decide +kernel
theorem dX4_freeAt_46 : decode cX4_freeAt 46 = .ok (.if_icmp .ne 6, 3) := by decide +kernel
theorem dX4_freeAt_49 : decode cX4_freeAt 49 = .ok (.aload 4, 2) := by decide +kernel
theorem dX4_freeAt_51 : decode cX4_freeAt 51 = .ok (.areturn, 1) := by decide +kernel
theorem dX4_freeAt_52 : decode cX4_freeAt 52 = .ok (.iinc 2 1, 3) := by decide +kernel
theorem dX4_freeAt_55 : decode cX4_freeAt 55 = .ok (.iinc 3 1, 3) := by decide +kernel
theorem dX4_freeAt_58 : decode cX4_freeAt 58 = .ok (.goto (-54), 3) := by decide +kernel
theorem dX4_freeAt_61 : decode cX4_freeAt 61 = .ok (.aconst_null, 1) := by decide +kernel
theorem dX4_freeAt_62 : decode cX4_freeAt 62 = .ok (.areturn, 1) := by decide +kernel
theorem dX5_init_0 : decode cX5_init 0 = .ok (.aload_n 0, 1) := by decide +kernel
theorem dX5_init_1 : decode cX5_init 1 = .ok (.invokespecial 3, 3) := by decide +kernel
theorem dX5_init_4 : decode cX5_init 4 = .ok (.aload_n 0, 1) := by decide +kernel
theorem dX5_init_5 : decode cX5_init 5 = .ok (.new 9, 3) := by decide +kernel
theorem dX5_init_8 : decode cX5_init 8 = .ok (.dup, 1) := by decide +kernel
theorem dX5_init_9 : decode cX5_init 9 = .ok (.invokespecial 11, 3) := by decide +kernel
theorem dX5_init_12 : decode cX5_init 12 = .ok (.putfield 12, 3) := by decide +kernel
theorem dX5_init_15 : decode cX5_init 15 = .ok (.aload_n 0, 1) := by decide +kernel
theorem dX5_init_16 : decode cX5_init 16 = .ok (.new 9, 3) := by decide +kernel
theorem dX5_init_19 : decode cX5_init 19 = .ok (.dup, 1) := by decide +kernel
theorem dX5_init_20 : decode cX5_init 20 = .ok (.invokespecial 11, 3) := by decide +kernel
theorem dX5_init_23 : decode cX5_init 23 = .ok (.putfield 16, 3) := by decide +kernel
theorem dX5_init_26 : decode cX5_init 26 = .ok (.aload_n 0, 1) := by decide +kernel
theorem dX5_init_27 : decode cX5_init 27 = .ok (.new 9, 3) := by decide +kernel
theorem dX5_init_30 : decode cX5_init 30 = .ok (.dup, 1) := by decide +kernel
theorem dX5_init_31 : decode cX5_init 31 = .ok (.invokespecial 11, 3) := by decide +kernel
theorem dX5_init_34 : decode cX5_init 34 = .ok (.putfield 19, 3) := by decide +kernel
theorem dX5_init_37 : decode cX5_init 37 = .ok (.aload_n 0, 1) := by decide +kernel
theorem dX5_init_38 : decode cX5_init 38 = .ok (.new 22, 3) := by decide +kernel
theorem dX5_init_41 : decode cX5_init 41 = .ok (.dup, 1) := by decide +kernel
theorem dX5_init_42 : decode cX5_init 42 = .ok (.invokespecial 24, 3) := by decide +kernel
theorem dX5_init_45 : decode cX5_init 45 = .ok (.putfield 25, 3) := by decide +kernel
theorem dX5_init_48 : decode cX5_init 48 = .ok (.return_, 1) := by decide +kernel
theorem dX5_drawing_0 : decode cX5_drawing 0 = .ok (.aload_n 0, 1) := by decide +kernel
theorem dX5_drawing_1 : decode cX5_drawing 1 = .ok (.getfield 12, 3) := by decide +kernel
theorem dX5_drawing_4 : decode cX5_drawing 4 = .ok (.invokevirtual 29, 3) := by decide +kernel
theorem dX5_drawing_7 : decode cX5_drawing 7 = .ok (.bipush 12, 2) := by decide +kernel
theorem dX5_drawing_9 : decode cX5_drawing 9 = .ok (.if_icmp .lt 13, 3) := by decide +kernel
theorem dX5_drawing_12 : decode cX5_drawing 12 = .ok (.new 33, 3) := by decide +kernel
theorem dX5_drawing_15 : decode cX5_drawing 15 = .ok (.dup, 1) := by decide +kernel
theorem dX5_drawing_16 : decode cX5_drawing 16 = .ok (.ldc 35, 2) := by decide +kernel
theorem dX5_drawing_18 : decode cX5_drawing 18 = .ok (.invokespecial 37, 3) := by decide +kernel
theorem dX5_drawing_21 : decode cX5_drawing 21 = .ok (.athrow, 1) := by decide +kernel
theorem dX5_drawing_22 : decode cX5_drawing 22 = .ok (.aload_n 0, 1) := by decide +kernel
theorem dX5_drawing_23 : decode cX5_drawing 23 = .ok (.getfield 12, 3) := by decide +kernel
theorem dX5_drawing_26 : decode cX5_drawing 26 = .ok (.invokevirtual 29, 3) := by decide +kernel
theorem dX5_drawing_29 : decode cX5_drawing 29 = .ok (.istore_n 1, 1) := by decide +kernel
theorem dX5_drawing_30 : decode cX5_drawing 30 = .ok (.aload_n 0, 1) := by decide +kernel
theorem dX5_drawing_31 : decode cX5_drawing 31 = .ok (.getfield 12, 3) := by decide +kernel
theorem dX5_drawing_34 : decode cX5_drawing 34 = .ok (.new 40, 3) := by decide +kernel
theorem dX5_drawing_37 : decode cX5_drawing 37 = .ok (.dup, 1) := by decide +kernel
theorem dX5_drawing_38 : decode cX5_drawing 38 = .ok (.iload_n 1, 1) := by decide +kernel
theorem dX5_drawing_39 : decode cX5_drawing 39 = .ok (.invokespecial 42, 3) := by decide +kernel
theorem dX5_drawing_42 : decode cX5_drawing 42 = .ok (.invokevirtual 45, 3) := by decide +kernel
theorem dX5_drawing_45 : decode cX5_drawing 45 = .ok (.pop, 1) := by decide +kernel
theorem dX5_drawing_46 : decode cX5_drawing 46 = .ok (.iload_n 1, 1) := by decide +kernel
theorem dX5_drawing_47 : decode cX5_drawing 47 = .ok (.ireturn, 1) := by decide +kernel
theorem dX5_stroke_0 : decode cX5_stroke 0 = .ok (.aload_n 0, 1) := by decide +kernel
theorem dX5_stroke_1 : decode cX5_stroke 1 = .ok (.iload_n 1, 1) := by decide +kernel
theorem dX5_stroke_2 : decode cX5_stroke 2 = .ok (.invokevirtual 49, 3) := by decide +kernel
theorem dX5_stroke_5 : decode cX5_stroke 5 = .ok (.astore 4, 2) := by decide +kernel
theorem dX5_stroke_7 : decode cX5_stroke 7 = .ok (.iload_n 2, 1) := by decide +kernel
theorem dX5_stroke_8 : decode cX5_stroke 8 = .ok (.invokestatic 53, 3) := by decide +kernel
theorem dX5_stroke_11 : decode cX5_stroke 11 = .ok (.ifCond .eq 10, 3) := by decide +kernel
theorem dX5_stroke_14 : decode cX5_stroke 14 = .ok (.iload_n 3, 1) := by decide +kernel
theorem dX5_stroke_15 : decode cX5_stroke 15 = .ok (.invokestatic 53, 3) := by decide +kernel
theorem dX5_stroke_18 : decode cX5_stroke 18 = .ok (.ifCond .ne 13, 3) := by decide +kernel
theorem dX5_stroke_21 : decode cX5_stroke 21 = .ok (.new 57, 3) := by decide +kernel
theorem dX5_stroke_24 : decode cX5_stroke 24 = .ok (.dup, 1) := by decide +kernel
theorem dX5_stroke_25 : decode cX5_stroke 25 = .ok (.ldc 59, 2) := by decide +kernel
theorem dX5_stroke_27 : decode cX5_stroke 27 = .ok (.invokespecial 61, 3) := by decide +kernel
theorem dX5_stroke_30 : decode cX5_stroke 30 = .ok (.athrow, 1) := by decide +kernel
theorem dX5_stroke_31 : decode cX5_stroke 31 = .ok (.iload_n 2, 1) := by decide +kernel
theorem dX5_stroke_32 : decode cX5_stroke 32 = .ok (.iload_n 3, 1) := by decide +kernel
theorem dX5_stroke_33 : decode cX5_stroke 33 = .ok (.if_icmp .ne 13, 3) := by decide +kernel
theorem dX5_stroke_36 : decode cX5_stroke 36 = .ok (.new 62, 3) := by decide +kernel
theorem dX5_stroke_39 : decode cX5_stroke 39 = .ok (.dup, 1) := by decide +kernel
theorem dX5_stroke_40 : decode cX5_stroke 40 = .ok (.ldc 64, 2) := by decide +kernel
theorem dX5_stroke_42 : decode cX5_stroke 42 = .ok (.invokespecial 66, 3) := by decide +kernel
theorem dX5_stroke_45 : decode cX5_stroke 45 = .ok (.athrow, 1) := by decide +kernel
theorem dX5_stroke_46 : decode cX5_stroke 46 = .ok (.aload 4, 2) := by decide +kernel
theorem dX5_stroke_48 : decode cX5_stroke 48 = .ok (.getfield 67, 3) := by decide +kernel
theorem dX5_stroke_51 : decode cX5_stroke 51 = .ok (.ifCond .ne 16, 3) := by decide +kernel
theorem dX5_stroke_54 : decode cX5_stroke 54 = .ok (.aload 4, 2) := by decide +kernel
theorem dX5_stroke_56 : decode cX5_stroke 56 = .ok (.getfield 71, 3) := by decide +kernel
theorem dX5_stroke_59 : decode cX5_stroke 59 = .ok (.getfield 75, 3) := by decide +kernel
theorem dX5_stroke_62 : decode cX5_stroke 62 = .ok (.bipush 24, 2) := by decide +kernel
theorem dX5_stroke_64 : decode cX5_stroke 64 = .ok (.if_icmp .lt 13, 3) := by decide +kernel
theorem dX5_stroke_67 : decode cX5_stroke 67 = .ok (.new 33, 3) := by decide +kernel
theorem dX5_stroke_70 : decode cX5_stroke 70 = .ok (.dup, 1) := by decide +kernel
theorem dX5_stroke_71 : decode cX5_stroke 71 = .ok (.ldc 79, 2) := by decide +kernel
theorem dX5_stroke_73 : decode cX5_stroke 73 = .ok (.invokespecial 37, 3) := by decide +kernel
theorem dX5_stroke_76 : decode cX5_stroke 76 = .ok (.athrow, 1) := by decide +kernel
theorem dX5_stroke_77 : decode cX5_stroke 77 = .ok (.aload 4, 2) := by decide +kernel
theorem dX5_stroke_79 : decode cX5_stroke 79 = .ok (.getfield 71, 3) := by decide +kernel
theorem dX5_stroke_82 : decode cX5_stroke 82 = .ok (.iload_n 2, 1) := by decide +kernel
theorem dX5_stroke_83 : decode cX5_stroke 83 = .ok (.iload_n 3, 1) := by decide +kernel
theorem dX5_stroke_84 : decode cX5_stroke 84 = .ok (.invokevirtual 81, 3) := by decide +kernel
theorem dX5_stroke_87 : decode cX5_stroke 87 = .ok (.aload 4, 2) := by decide +kernel
theorem dX5_stroke_89 : decode cX5_stroke 89 = .ok (.getfield 71, 3) := by decide +kernel
theorem dX5_stroke_92 : decode cX5_stroke 92 = .ok (.getfield 75, 3) := by decide +kernel
theorem dX5_stroke_95 : decode cX5_stroke 95 = .ok (.ireturn, 1) := by decide +kernel
theorem dX5_finish_0 : decode cX5_finish 0 = .ok (.aload_n 0, 1) := by decide +kernel
theorem dX5_finish_1 : decode cX5_finish 1 = .ok (.iload_n 1, 1) := by decide +kernel
theorem dX5_finish_2 : decode cX5_finish 2 = .ok (.invokevirtual 49, 3) := by decide +kernel
theorem dX5_finish_5 : decode cX5_finish 5 = .ok (.astore_n 2, 1) := by decide +kernel
theorem dX5_finish_6 : decode cX5_finish 6 = .ok (.aload_n 2, 1) := by decide +kernel
theorem dX5_finish_7 : decode cX5_finish 7 = .ok (.getfield 67, 3) := by decide +kernel
theorem dX5_finish_10 : decode cX5_finish 10 = .ok (.ifCond .eq 13, 3) := by decide +kernel
theorem dX5_finish_13 : decode cX5_finish 13 = .ok (.new 33, 3) := by decide +kernel
theorem dX5_finish_16 : decode cX5_finish 16 = .ok (.dup, 1) := by decide +kernel
theorem dX5_finish_17 : decode cX5_finish 17 = .ok (.ldc 84, 2) := by decide +kernel
theorem dX5_finish_19 : decode cX5_finish 19 = .ok (.invokespecial 37, 3) := by decide +kernel
theorem dX5_finish_22 : decode cX5_finish 22 = .ok (.athrow, 1) := by decide +kernel
theorem dX5_finish_23 : decode cX5_finish 23 = .ok (.aload_n 2, 1) := by decide +kernel
theorem dX5_finish_24 : decode cX5_finish 24 = .ok (.getfield 71, 3) := by decide +kernel
theorem dX5_finish_27 : decode cX5_finish 27 = .ok (.invokevirtual 86, 3) := by decide +kernel
theorem dX5_finish_30 : decode cX5_finish 30 = .ok (.aload_n 2, 1) := by decide +kernel
theorem dX5_finish_31 : decode cX5_finish 31 = .ok (.getfield 71, 3) := by decide +kernel
theorem dX5_finish_34 : decode cX5_finish 34 = .ok (.invokevirtual 89, 3) := by decide +kernel
theorem dX5_finish_37 : decode cX5_finish 37 = .ok (.istore_n 3, 1) := by decide +kernel
theorem dX5_finish_38 : decode cX5_finish 38 = .ok (.iload_n 3, 1) := by decide +kernel
theorem dX5_finish_39 : decode cX5_finish 39 = .ok (.iconst (-1), 1) := by decide +kernel
theorem dX5_finish_40 : decode cX5_finish 40 = .ok (.if_icmp .ne 12, 3) := by decide +kernel
theorem dX5_finish_43 : decode cX5_finish 43 = .ok (.aload_n 2, 1) := by decide +kernel
theorem dX5_finish_44 : decode cX5_finish 44 = .ok (.iconst 1, 1) := by decide +kernel
theorem dX5_finish_45 : decode cX5_finish 45 = .ok (.putfield 67, 3) := by decide +kernel
theorem dX5_finish_48 : decode cX5_finish 48 = .ok (.aload_n 0, 1) := by decide +kernel
theorem dX5_finish_49 : decode cX5_finish 49 = .ok (.invokevirtual 92, 3) := by decide +kernel
theorem dX5_finish_52 : decode cX5_finish 52 = .ok (.iload_n 3, 1) := by decide +kernel
theorem dX5_finish_53 : decode cX5_finish 53 = .ok (.ireturn, 1) := by decide +kernel
theorem dX5_redraw_0 : decode cX5_redraw 0 = .ok (.aload_n 0, 1) := by decide +kernel
theorem dX5_redraw_1 : decode cX5_redraw 1 = .ok (.iload_n 1, 1) := by decide +kernel
theorem dX5_redraw_2 : decode cX5_redraw 2 = .ok (.invokevirtual 49, 3) := by decide +kernel
theorem dX5_redraw_5 : decode cX5_redraw 5 = .ok (.astore_n 2, 1) := by decide +kernel
theorem dX5_redraw_6 : decode cX5_redraw 6 = .ok (.aload_n 2, 1) := by decide +kernel
theorem dX5_redraw_7 : decode cX5_redraw 7 = .ok (.getfield 67, 3) := by decide +kernel
theorem dX5_redraw_10 : decode cX5_redraw 10 = .ok (.iconst 1, 1) := by decide +kernel
theorem dX5_redraw_11 : decode cX5_redraw 11 = .ok (.if_icmp .eq 13, 3) := by decide +kernel
theorem dX5_redraw_14 : decode cX5_redraw 14 = .ok (.new 33, 3) := by decide +kernel
theorem dX5_redraw_17 : decode cX5_redraw 17 = .ok (.dup, 1) := by decide +kernel
theorem dX5_redraw_18 : decode cX5_redraw 18 = .ok (.ldc 95, 2) := by decide +kernel
theorem dX5_redraw_20 : decode cX5_redraw 20 = .ok (.invokespecial 37, 3) := by decide +kernel
theorem dX5_redraw_23 : decode cX5_redraw 23 = .ok (.athrow, 1) := by decide +kernel
theorem dX5_redraw_24 : decode cX5_redraw 24 = .ok (.aload_n 0, 1) := by decide +kernel
theorem dX5_redraw_25 : decode cX5_redraw 25 = .ok (.aload_n 2, 1) := by decide +kernel
theorem dX5_redraw_26 : decode cX5_redraw 26 = .ok (.invokevirtual 97, 3) := by decide +kernel
theorem dX5_redraw_29 : decode cX5_redraw 29 = .ok (.istore_n 3, 1) := by decide +kernel
theorem dX5_redraw_30 : decode cX5_redraw 30 = .ok (.aload_n 2, 1) := by decide +kernel
theorem dX5_redraw_31 : decode cX5_redraw 31 = .ok (.invokevirtual 101, 3) := by decide +kernel
theorem dX5_redraw_34 : decode cX5_redraw 34 = .ok (.aload_n 0, 1) := by decide +kernel
theorem dX5_redraw_35 : decode cX5_redraw 35 = .ok (.iload_n 3, 1) := by decide +kernel
theorem dX5_redraw_36 : decode cX5_redraw 36 = .ok (.invokevirtual 104, 3) := by decide +kernel
theorem dX5_redraw_39 : decode cX5_redraw 39 = .ok (.istore 4, 2) := by decide +kernel
theorem dX5_redraw_41 : decode cX5_redraw 41 = .ok (.aload_n 0, 1) := by decide +kernel
theorem dX5_redraw_42 : decode cX5_redraw 42 = .ok (.invokevirtual 92, 3) := by decide +kernel
theorem dX5_redraw_45 : decode cX5_redraw 45 = .ok (.iload 4, 2) := by decide +kernel
theorem dX5_redraw_47 : decode cX5_redraw 47 = .ok (.ireturn, 1) := by decide +kernel
theorem dX5_ofDrawing_0 : decode cX5_ofDrawing 0 = .ok (.aload_n 0, 1) := by decide +kernel
theorem dX5_ofDrawing_1 : decode cX5_ofDrawing 1 = .ok (.iload_n 1, 1) := by decide +kernel
theorem dX5_ofDrawing_2 : decode cX5_ofDrawing 2 = .ok (.invokevirtual 49, 3) := by decide +kernel
theorem dX5_ofDrawing_5 : decode cX5_ofDrawing 5 = .ok (.astore_n 3, 1) := by decide +kernel
theorem dX5_ofDrawing_6 : decode cX5_ofDrawing 6 = .ok (.iload_n 2, 1) := by decide +kernel
theorem dX5_ofDrawing_7 : decode cX5_ofDrawing 7 = .ok (.tableswitch 67 0 4 #[33, 38, 46, 54, 62], 33) := by decide +kernel
theorem dX5_ofDrawing_40 : decode cX5_ofDrawing 40 = .ok (.aload_n 3, 1) := by decide +kernel
theorem dX5_ofDrawing_41 : decode cX5_ofDrawing 41 = .ok (.getfield 67, 3) := by decide +kernel
theorem dX5_ofDrawing_44 : decode cX5_ofDrawing 44 = .ok (.ireturn, 1) := by decide +kernel
theorem dX5_ofDrawing_45 : decode cX5_ofDrawing 45 = .ok (.aload_n 3, 1) := by decide +kernel
theorem dX5_ofDrawing_46 : decode cX5_ofDrawing 46 = .ok (.getfield 71, 3) := by decide +kernel
theorem dX5_ofDrawing_49 : decode cX5_ofDrawing 49 = .ok (.getfield 75, 3) := by decide +kernel
theorem dX5_ofDrawing_52 : decode cX5_ofDrawing 52 = .ok (.ireturn, 1) := by decide +kernel
theorem dX5_ofDrawing_53 : decode cX5_ofDrawing 53 = .ok (.aload_n 3, 1) := by decide +kernel
theorem dX5_ofDrawing_54 : decode cX5_ofDrawing 54 = .ok (.getfield 71, 3) := by decide +kernel
theorem dX5_ofDrawing_57 : decode cX5_ofDrawing 57 = .ok (.invokevirtual 108, 3) := by decide +kernel
theorem dX5_ofDrawing_60 : decode cX5_ofDrawing 60 = .ok (.ireturn, 1) := by decide +kernel
theorem dX5_ofDrawing_61 : decode cX5_ofDrawing 61 = .ok (.aload_n 3, 1) := by decide +kernel
theorem dX5_ofDrawing_62 : decode cX5_ofDrawing 62 = .ok (.getfield 71, 3) := by decide +kernel
theorem dX5_ofDrawing_65 : decode cX5_ofDrawing 65 = .ok (.invokevirtual 111, 3) := by decide +kernel
theorem dX5_ofDrawing_68 : decode cX5_ofDrawing 68 = .ok (.ireturn, 1) := by decide +kernel
theorem dX5_ofDrawing_69 : decode cX5_ofDrawing 69 = .ok (.aload_n 3, 1) := by decide +kernel
theorem dX5_ofDrawing_70 : decode cX5_ofDrawing 70 = .ok (.getfield 114, 3) := by decide +kernel
theorem dX5_ofDrawing_73 : decode cX5_ofDrawing 73 = .ok (.ireturn, 1) := by decide +kernel
theorem dX5_ofDrawing_74 : decode cX5_ofDrawing 74 = .ok (.new 62, 3) := by decide +kernel
theorem dX5_ofDrawing_77 : decode cX5_ofDrawing 77 = .ok (.dup, 1) := by decide +kernel
theorem dX5_ofDrawing_78 : decode cX5_ofDrawing 78 = .ok (.ldc 117, 2) := by decide +kernel
theorem dX5_ofDrawing_80 : decode cX5_ofDrawing 80 = .ok (.invokespecial 66, 3) := by decide +kernel
theorem dX5_ofDrawing_83 : decode cX5_ofDrawing 83 = .ok (.athrow, 1) := by decide +kernel
theorem dX5_length_0 : decode cX5_length 0 = .ok (.aload_n 0, 1) := by decide +kernel
theorem dX5_length_1 : decode cX5_length 1 = .ok (.iload_n 1, 1) := by decide +kernel
theorem dX5_length_2 : decode cX5_length 2 = .ok (.invokevirtual 49, 3) := by decide +kernel
theorem dX5_length_5 : decode cX5_length 5 = .ok (.getfield 71, 3) := by decide +kernel
theorem dX5_length_8 : decode cX5_length 8 = .ok (.invokevirtual 119, 3) := by decide +kernel
theorem dX5_length_11 : decode cX5_length 11 = .ok (.freturn, 1) := by decide +kernel
theorem dX5_sheet_0 : decode cX5_sheet 0 = .ok (.iload_n 1, 1) := by decide +kernel
theorem dX5_sheet_1 : decode cX5_sheet 1 = .ok (.invokestatic 123, 3) := by decide +kernel
theorem dX5_sheet_4 : decode cX5_sheet 4 = .ok (.ifCond .eq 10, 3) := by decide +kernel
theorem dX5_sheet_7 : decode cX5_sheet 7 = .ok (.iload_n 2, 1) := by decide +kernel
theorem dX5_sheet_8 : decode cX5_sheet 8 = .ok (.invokestatic 123, 3) := by decide +kernel
theorem dX5_sheet_11 : decode cX5_sheet 11 = .ok (.ifCond .ne 13, 3) := by decide +kernel
theorem dX5_sheet_14 : decode cX5_sheet 14 = .ok (.new 62, 3) := by decide +kernel
theorem dX5_sheet_17 : decode cX5_sheet 17 = .ok (.dup, 1) := by decide +kernel
theorem dX5_sheet_18 : decode cX5_sheet 18 = .ok (.ldc 126, 2) := by decide +kernel
theorem dX5_sheet_20 : decode cX5_sheet 20 = .ok (.invokespecial 66, 3) := by decide +kernel
theorem dX5_sheet_23 : decode cX5_sheet 23 = .ok (.athrow, 1) := by decide +kernel
theorem dX5_sheet_24 : decode cX5_sheet 24 = .ok (.aload_n 0, 1) := by decide +kernel
theorem dX5_sheet_25 : decode cX5_sheet 25 = .ok (.getfield 25, 3) := by decide +kernel
theorem dX5_sheet_28 : decode cX5_sheet 28 = .ok (.getfield 128, 3) := by decide +kernel
theorem dX5_sheet_31 : decode cX5_sheet 31 = .ok (.bipush 8, 2) := by decide +kernel
theorem dX5_sheet_33 : decode cX5_sheet 33 = .ok (.if_icmp .ge 16, 3) := by decide +kernel
theorem dX5_sheet_36 : decode cX5_sheet 36 = .ok (.aload_n 0, 1) := by decide +kernel
theorem dX5_sheet_37 : decode cX5_sheet 37 = .ok (.getfield 25, 3) := by decide +kernel
theorem dX5_sheet_40 : decode cX5_sheet 40 = .ok (.getfield 131, 3) := by decide +kernel
theorem dX5_sheet_43 : decode cX5_sheet 43 = .ok (.sipush 400, 3) := by decide +kernel
theorem dX5_sheet_46 : decode cX5_sheet 46 = .ok (.if_icmp .lt 13, 3) := by decide +kernel
theorem dX5_sheet_49 : decode cX5_sheet 49 = .ok (.new 33, 3) := by decide +kernel
theorem dX5_sheet_52 : decode cX5_sheet 52 = .ok (.dup, 1) := by decide +kernel
theorem dX5_sheet_53 : decode cX5_sheet 53 = .ok (.ldc 134, 2) := by decide +kernel
theorem dX5_sheet_55 : decode cX5_sheet 55 = .ok (.invokespecial 37, 3) := by decide +kernel
theorem dX5_sheet_58 : decode cX5_sheet 58 = .ok (.athrow, 1) := by decide +kernel
theorem dX5_sheet_59 : decode cX5_sheet 59 = .ok (.aload_n 0, 1) := by decide +kernel
theorem dX5_sheet_60 : decode cX5_sheet 60 = .ok (.getfield 25, 3) := by decide +kernel
theorem dX5_sheet_63 : decode cX5_sheet 63 = .ok (.iload_n 1, 1) := by decide +kernel
theorem dX5_sheet_64 : decode cX5_sheet 64 = .ok (.iload_n 2, 1) := by decide +kernel
theorem dX5_sheet_65 : decode cX5_sheet 65 = .ok (.invokevirtual 136, 3) := by decide +kernel
theorem dX5_sheet_68 : decode cX5_sheet 68 = .ok (.istore_n 3, 1) := by decide +kernel
theorem dX5_sheet_69 : decode cX5_sheet 69 = .ok (.aload_n 0, 1) := by decide +kernel
theorem dX5_sheet_70 : decode cX5_sheet 70 = .ok (.invokevirtual 92, 3) := by decide +kernel
theorem dX5_sheet_73 : decode cX5_sheet 73 = .ok (.iload_n 3, 1) := by decide +kernel
theorem dX5_sheet_74 : decode cX5_sheet 74 = .ok (.ireturn, 1) := by decide +kernel
theorem dX5_job_0 : decode cX5_job 0 = .ok (.aload_n 0, 1) := by decide +kernel
theorem dX5_job_1 : decode cX5_job 1 = .ok (.iload_n 1, 1) := by decide +kernel
theorem dX5_job_2 : decode cX5_job 2 = .ok (.invokevirtual 49, 3) := by decide +kernel
theorem dX5_job_5 : decode cX5_job 5 = .ok (.astore_n 3, 1) := by decide +kernel
theorem dX5_job_6 : decode cX5_job 6 = .ok (.iload_n 2, 1) := by decide +kernel
theorem dX5_job_7 : decode cX5_job 7 = .ok (.iconst 1, 1) := by decide +kernel
theorem dX5_job_8 : decode cX5_job 8 = .ok (.if_icmp .lt 9, 3) := by decide +kernel
theorem dX5_job_11 : decode cX5_job 11 = .ok (.iload_n 2, 1) := by decide +kernel
theorem dX5_job_12 : decode cX5_job 12 = .ok (.bipush 6, 2) := by decide +kernel
theorem dX5_job_14 : decode cX5_job 14 = .ok (.if_icmp .le 13, 3) := by decide +kernel
theorem dX5_job_17 : decode cX5_job 17 = .ok (.new 62, 3) := by decide +kernel
theorem dX5_job_20 : decode cX5_job 20 = .ok (.dup, 1) := by decide +kernel
theorem dX5_job_21 : decode cX5_job 21 = .ok (.ldc 140, 2) := by decide +kernel
theorem dX5_job_23 : decode cX5_job 23 = .ok (.invokespecial 66, 3) := by decide +kernel
theorem dX5_job_26 : decode cX5_job 26 = .ok (.athrow, 1) := by decide +kernel
theorem dX5_job_27 : decode cX5_job 27 = .ok (.aload_n 3, 1) := by decide +kernel
theorem dX5_job_28 : decode cX5_job 28 = .ok (.getfield 67, 3) := by decide +kernel
theorem dX5_job_31 : decode cX5_job 31 = .ok (.iconst 1, 1) := by decide +kernel
theorem dX5_job_32 : decode cX5_job 32 = .ok (.if_icmp .ne 15, 3) := by decide +kernel
theorem dX5_job_35 : decode cX5_job 35 = .ok (.aload_n 0, 1) := by decide +kernel
theorem dX5_job_36 : decode cX5_job 36 = .ok (.getfield 16, 3) := by decide +kernel
theorem dX5_job_39 : decode cX5_job 39 = .ok (.invokevirtual 29, 3) := by decide +kernel
theorem dX5_job_42 : decode cX5_job 42 = .ok (.bipush 30, 2) := by decide +kernel
theorem dX5_job_44 : decode cX5_job 44 = .ok (.if_icmp .lt 13, 3) := by decide +kernel
theorem dX5_job_47 : decode cX5_job 47 = .ok (.new 33, 3) := by decide +kernel
theorem dX5_job_50 : decode cX5_job 50 = .ok (.dup, 1) := by decide +kernel
theorem dX5_job_51 : decode cX5_job 51 = .ok (.ldc 142, 2) := by decide +kernel
theorem dX5_job_53 : decode cX5_job 53 = .ok (.invokespecial 37, 3) := by decide +kernel
theorem dX5_job_56 : decode cX5_job 56 = .ok (.athrow, 1) := by decide +kernel
theorem dX5_job_57 : decode cX5_job 57 = .ok (.aload_n 0, 1) := by decide +kernel
theorem dX5_job_58 : decode cX5_job 58 = .ok (.getfield 16, 3) := by decide +kernel
theorem dX5_job_61 : decode cX5_job 61 = .ok (.invokevirtual 29, 3) := by decide +kernel
theorem dX5_job_64 : decode cX5_job 64 = .ok (.istore 4, 2) := by decide +kernel
theorem dX5_job_66 : decode cX5_job 66 = .ok (.new 144, 3) := by decide +kernel
theorem dX5_job_69 : decode cX5_job 69 = .ok (.dup, 1) := by decide +kernel
theorem dX5_job_70 : decode cX5_job 70 = .ok (.aload_n 3, 1) := by decide +kernel
theorem dX5_job_71 : decode cX5_job 71 = .ok (.iload_n 2, 1) := by decide +kernel
theorem dX5_job_72 : decode cX5_job 72 = .ok (.invokespecial 146, 3) := by decide +kernel
theorem dX5_job_75 : decode cX5_job 75 = .ok (.astore 5, 2) := by decide +kernel
theorem dX5_job_77 : decode cX5_job 77 = .ok (.aload_n 0, 1) := by decide +kernel
theorem dX5_job_78 : decode cX5_job 78 = .ok (.getfield 16, 3) := by decide +kernel
theorem dX5_job_81 : decode cX5_job 81 = .ok (.aload 5, 2) := by decide +kernel
theorem dX5_job_83 : decode cX5_job 83 = .ok (.invokevirtual 45, 3) := by decide +kernel
theorem dX5_job_86 : decode cX5_job 86 = .ok (.pop, 1) := by decide +kernel
theorem dX5_job_87 : decode cX5_job 87 = .ok (.aload 5, 2) := by decide +kernel
theorem dX5_job_89 : decode cX5_job 89 = .ok (.aload_n 0, 1) := by decide +kernel
theorem dX5_job_90 : decode cX5_job 90 = .ok (.getfield 25, 3) := by decide +kernel
theorem dX5_job_93 : decode cX5_job 93 = .ok (.invokevirtual 149, 3) := by decide +kernel
theorem dX5_job_96 : decode cX5_job 96 = .ok (.iload 4, 2) := by decide +kernel
theorem dX5_job_98 : decode cX5_job 98 = .ok (.ireturn, 1) := by decide +kernel
theorem dX5_cancel_0 : decode cX5_cancel 0 = .ok (.aload_n 0, 1) := by decide +kernel
theorem dX5_cancel_1 : decode cX5_cancel 1 = .ok (.iload_n 1, 1) := by decide +kernel
theorem dX5_cancel_2 : decode cX5_cancel 2 = .ok (.invokevirtual 153, 3) := by decide +kernel
theorem dX5_cancel_5 : decode cX5_cancel 5 = .ok (.astore_n 2, 1) := by decide +kernel
theorem dX5_cancel_6 : decode cX5_cancel 6 = .ok (.aload_n 2, 1) := by decide +kernel
theorem dX5_cancel_7 : decode cX5_cancel 7 = .ok (.getfield 157, 3) := by decide +kernel
theorem dX5_cancel_10 : decode cX5_cancel 10 = .ok (.istore_n 3, 1) := by decide +kernel
theorem dX5_cancel_11 : decode cX5_cancel 11 = .ok (.iload_n 3, 1) := by decide +kernel
theorem dX5_cancel_12 : decode cX5_cancel 12 = .ok (.iconst 2, 1) := by decide +kernel
theorem dX5_cancel_13 : decode cX5_cancel 13 = .ok (.if_icmp .eq 8, 3) := by decide +kernel
theorem dX5_cancel_16 : decode cX5_cancel 16 = .ok (.iload_n 3, 1) := by decide +kernel
theorem dX5_cancel_17 : decode cX5_cancel 17 = .ok (.iconst 3, 1) := by decide +kernel
theorem dX5_cancel_18 : decode cX5_cancel 18 = .ok (.if_icmp .ne 13, 3) := by decide +kernel
theorem dX5_cancel_21 : decode cX5_cancel 21 = .ok (.new 33, 3) := by decide +kernel
theorem dX5_cancel_24 : decode cX5_cancel 24 = .ok (.dup, 1) := by decide +kernel
theorem dX5_cancel_25 : decode cX5_cancel 25 = .ok (.ldc 158, 2) := by decide +kernel
theorem dX5_cancel_27 : decode cX5_cancel 27 = .ok (.invokespecial 37, 3) := by decide +kernel
theorem dX5_cancel_30 : decode cX5_cancel 30 = .ok (.athrow, 1) := by decide +kernel
theorem dX5_cancel_31 : decode cX5_cancel 31 = .ok (.aload_n 2, 1) := by decide +kernel
theorem dX5_cancel_32 : decode cX5_cancel 32 = .ok (.invokevirtual 160, 3) := by decide +kernel
theorem dX5_cancel_35 : decode cX5_cancel 35 = .ok (.aload_n 2, 1) := by decide +kernel
theorem dX5_cancel_36 : decode cX5_cancel 36 = .ok (.iconst 3, 1) := by decide +kernel
theorem dX5_cancel_37 : decode cX5_cancel 37 = .ok (.putfield 157, 3) := by decide +kernel
theorem dX5_cancel_40 : decode cX5_cancel 40 = .ok (.aload_n 0, 1) := by decide +kernel
theorem dX5_cancel_41 : decode cX5_cancel 41 = .ok (.invokevirtual 92, 3) := by decide +kernel
theorem dX5_cancel_44 : decode cX5_cancel 44 = .ok (.iload_n 3, 1) := by decide +kernel
theorem dX5_cancel_45 : decode cX5_cancel 45 = .ok (.ireturn, 1) := by decide +kernel
theorem dX5_cut_0 : decode cX5_cut 0 = .ok (.aload_n 0, 1) := by decide +kernel
theorem dX5_cut_1 : decode cX5_cut 1 = .ok (.iload_n 1, 1) := by decide +kernel
theorem dX5_cut_2 : decode cX5_cut 2 = .ok (.invokevirtual 153, 3) := by decide +kernel
theorem dX5_cut_5 : decode cX5_cut 5 = .ok (.astore_n 2, 1) := by decide +kernel
theorem dX5_cut_6 : decode cX5_cut 6 = .ok (.aload_n 2, 1) := by decide +kernel
theorem dX5_cut_7 : decode cX5_cut 7 = .ok (.getfield 157, 3) := by decide +kernel
theorem dX5_cut_10 : decode cX5_cut 10 = .ok (.iconst 1, 1) := by decide +kernel
theorem dX5_cut_11 : decode cX5_cut 11 = .ok (.if_icmp .eq 13, 3) := by decide +kernel
theorem dX5_cut_14 : decode cX5_cut 14 = .ok (.new 33, 3) := by decide +kernel
theorem dX5_cut_17 : decode cX5_cut 17 = .ok (.dup, 1) := by decide +kernel
theorem dX5_cut_18 : decode cX5_cut 18 = .ok (.ldc 163, 2) := by decide +kernel
theorem dX5_cut_20 : decode cX5_cut 20 = .ok (.invokespecial 37, 3) := by decide +kernel
theorem dX5_cut_23 : decode cX5_cut 23 = .ok (.athrow, 1) := by decide +kernel
theorem dX5_cut_24 : decode cX5_cut 24 = .ok (.aload_n 2, 1) := by decide +kernel
theorem dX5_cut_25 : decode cX5_cut 25 = .ok (.getfield 165, 3) := by decide +kernel
theorem dX5_cut_28 : decode cX5_cut 28 = .ok (.getfield 71, 3) := by decide +kernel
theorem dX5_cut_31 : decode cX5_cut 31 = .ok (.invokevirtual 119, 3) := by decide +kernel
theorem dX5_cut_34 : decode cX5_cut 34 = .ok (.fstore_n 3, 1) := by decide +kernel
theorem dX5_cut_35 : decode cX5_cut 35 = .ok (.aload_n 2, 1) := by decide +kernel
theorem dX5_cut_36 : decode cX5_cut 36 = .ok (.fload_n 3, 1) := by decide +kernel
theorem dX5_cut_37 : decode cX5_cut 37 = .ok (.invokevirtual 169, 3) := by decide +kernel
theorem dX5_cut_40 : decode cX5_cut 40 = .ok (.istore 4, 2) := by decide +kernel
theorem dX5_cut_42 : decode cX5_cut 42 = .ok (.aload_n 2, 1) := by decide +kernel
theorem dX5_cut_43 : decode cX5_cut 43 = .ok (.invokevirtual 173, 3) := by decide +kernel
theorem dX5_cut_46 : decode cX5_cut 46 = .ok (.aload_n 2, 1) := by decide +kernel
theorem dX5_cut_47 : decode cX5_cut 47 = .ok (.iconst 2, 1) := by decide +kernel
theorem dX5_cut_48 : decode cX5_cut 48 = .ok (.putfield 157, 3) := by decide +kernel
theorem dX5_cut_51 : decode cX5_cut 51 = .ok (.aload_n 0, 1) := by decide +kernel
theorem dX5_cut_52 : decode cX5_cut 52 = .ok (.getfield 19, 3) := by decide +kernel
theorem dX5_cut_55 : decode cX5_cut 55 = .ok (.aload_n 2, 1) := by decide +kernel
theorem dX5_cut_56 : decode cX5_cut 56 = .ok (.invokevirtual 45, 3) := by decide +kernel
theorem dX5_cut_59 : decode cX5_cut 59 = .ok (.pop, 1) := by decide +kernel
theorem dX5_cut_60 : decode cX5_cut 60 = .ok (.aload_n 0, 1) := by decide +kernel
theorem dX5_cut_61 : decode cX5_cut 61 = .ok (.dup, 1) := by decide +kernel
theorem dX5_cut_62 : decode cX5_cut 62 = .ok (.getfield 176, 3) := by decide +kernel
theorem dX5_cut_65 : decode cX5_cut 65 = .ok (.iload 4, 2) := by decide +kernel
theorem dX5_cut_67 : decode cX5_cut 67 = .ok (.iadd, 1) := by decide +kernel
theorem dX5_cut_68 : decode cX5_cut 68 = .ok (.putfield 176, 3) := by decide +kernel
theorem dX5_cut_71 : decode cX5_cut 71 = .ok (.aload_n 0, 1) := by decide +kernel
theorem dX5_cut_72 : decode cX5_cut 72 = .ok (.aload_n 0, 1) := by decide +kernel
theorem dX5_cut_73 : decode cX5_cut 73 = .ok (.getfield 179, 3) := by decide +kernel
theorem dX5_cut_76 : decode cX5_cut 76 = .ok (.fload_n 3, 1) := by decide +kernel
theorem dX5_cut_77 : decode cX5_cut 77 = .ok (.aload_n 2, 1) := by decide +kernel
theorem dX5_cut_78 : decode cX5_cut 78 = .ok (.getfield 183, 3) := by decide +kernel
theorem dX5_cut_81 : decode cX5_cut 81 = .ok (.invokestatic 186, 3) := by decide +kernel
theorem dX5_cut_84 : decode cX5_cut 84 = .ok (.putfield 179, 3) := by decide +kernel
theorem dX5_cut_87 : decode cX5_cut 87 = .ok (.iload 4, 2) := by decide +kernel
theorem dX5_cut_89 : decode cX5_cut 89 = .ok (.ireturn, 1) := by decide +kernel
theorem dX5_ofJob_0 : decode cX5_ofJob 0 = .ok (.aload_n 0, 1) := by decide +kernel
theorem dX5_ofJob_1 : decode cX5_ofJob 1 = .ok (.iload_n 1, 1) := by decide +kernel
theorem dX5_ofJob_2 : decode cX5_ofJob 2 = .ok (.invokevirtual 153, 3) := by decide +kernel
theorem dX5_ofJob_5 : decode cX5_ofJob 5 = .ok (.astore_n 3, 1) := by decide +kernel
theorem dX5_ofJob_6 : decode cX5_ofJob 6 = .ok (.iload_n 2, 1) := by decide +kernel
theorem dX5_ofJob_7 : decode cX5_ofJob 7 = .ok (.tableswitch 52 0 3 #[29, 34, 42, 47], 29) := by decide +kernel
theorem dX5_ofJob_36 : decode cX5_ofJob 36 = .ok (.aload_n 3, 1) := by decide +kernel
theorem dX5_ofJob_37 : decode cX5_ofJob 37 = .ok (.getfield 157, 3) := by decide +kernel
theorem dX5_ofJob_40 : decode cX5_ofJob 40 = .ok (.ireturn, 1) := by decide +kernel
theorem dX5_ofJob_41 : decode cX5_ofJob 41 = .ok (.aload_n 3, 1) := by decide +kernel
theorem dX5_ofJob_42 : decode cX5_ofJob 42 = .ok (.getfield 165, 3) := by decide +kernel
theorem dX5_ofJob_45 : decode cX5_ofJob 45 = .ok (.getfield 190, 3) := by decide +kernel
theorem dX5_ofJob_48 : decode cX5_ofJob 48 = .ok (.ireturn, 1) := by decide +kernel
theorem dX5_ofJob_49 : decode cX5_ofJob 49 = .ok (.aload_n 3, 1) := by decide +kernel
theorem dX5_ofJob_50 : decode cX5_ofJob 50 = .ok (.getfield 183, 3) := by decide +kernel
theorem dX5_ofJob_53 : decode cX5_ofJob 53 = .ok (.ireturn, 1) := by decide +kernel
theorem dX5_ofJob_54 : decode cX5_ofJob 54 = .ok (.aload_n 3, 1) := by decide +kernel
theorem dX5_ofJob_55 : decode cX5_ofJob 55 = .ok (.getfield 193, 3) := by decide +kernel
theorem dX5_ofJob_58 : decode cX5_ofJob 58 = .ok (.ireturn, 1) := by decide +kernel
theorem dX5_ofJob_59 : decode cX5_ofJob 59 = .ok (.new 62, 3) := by decide +kernel
theorem dX5_ofJob_62 : decode cX5_ofJob 62 = .ok (.dup, 1) := by decide +kernel
theorem dX5_ofJob_63 : decode cX5_ofJob 63 = .ok (.ldc 117, 2) := by decide +kernel
theorem dX5_ofJob_65 : decode cX5_ofJob 65 = .ok (.invokespecial 66, 3) := by decide +kernel
theorem dX5_ofJob_68 : decode cX5_ofJob 68 = .ok (.athrow, 1) := by decide +kernel
theorem dX5_where_0 : decode cX5_where 0 = .ok (.aload_n 0, 1) := by decide +kernel
theorem dX5_where_1 : decode cX5_where 1 = .ok (.iload_n 1, 1) := by decide +kernel
theorem dX5_where_2 : decode cX5_where 2 = .ok (.invokevirtual 153, 3) := by decide +kernel
theorem dX5_where_5 : decode cX5_where 5 = .ok (.astore 4, 2) := by decide +kernel
theorem dX5_where_7 : decode cX5_where 7 = .ok (.iload_n 2, 1) := by decide +kernel
theorem dX5_where_8 : decode cX5_where 8 = .ok (.ifCond .lt 12, 3) := by decide +kernel
theorem dX5_where_11 : decode cX5_where 11 = .ok (.iload_n 2, 1) := by decide +kernel
theorem dX5_where_12 : decode cX5_where 12 = .ok (.aload 4, 2) := by decide +kernel
theorem dX5_where_14 : decode cX5_where 14 = .ok (.getfield 183, 3) := by decide +kernel
theorem dX5_where_17 : decode cX5_where 17 = .ok (.if_icmp .lt 13, 3) := by decide +kernel
theorem dX5_where_20 : decode cX5_where 20 = .ok (.new 57, 3) := by decide +kernel
theorem dX5_where_23 : decode cX5_where 23 = .ok (.dup, 1) := by decide +kernel
theorem dX5_where_24 : decode cX5_where 24 = .ok (.ldc 194, 2) := by decide +kernel
theorem dX5_where_26 : decode cX5_where 26 = .ok (.invokespecial 61, 3) := by decide +kernel
theorem dX5_where_29 : decode cX5_where 29 = .ok (.athrow, 1) := by decide +kernel
theorem dX5_where_30 : decode cX5_where 30 = .ok (.iload_n 3, 1) := by decide +kernel
theorem dX5_where_31 : decode cX5_where 31 = .ok (.ifCond .lt 8, 3) := by decide +kernel
theorem dX5_where_34 : decode cX5_where 34 = .ok (.iload_n 3, 1) := by decide +kernel
theorem dX5_where_35 : decode cX5_where 35 = .ok (.iconst 3, 1) := by decide +kernel
theorem dX5_where_36 : decode cX5_where 36 = .ok (.if_icmp .le 13, 3) := by decide +kernel
theorem dX5_where_39 : decode cX5_where 39 = .ok (.new 62, 3) := by decide +kernel
theorem dX5_where_42 : decode cX5_where 42 = .ok (.dup, 1) := by decide +kernel
theorem dX5_where_43 : decode cX5_where 43 = .ok (.ldc 117, 2) := by decide +kernel
theorem dX5_where_45 : decode cX5_where 45 = .ok (.invokespecial 66, 3) := by decide +kernel
theorem dX5_where_48 : decode cX5_where 48 = .ok (.athrow, 1) := by decide +kernel
theorem dX5_where_49 : decode cX5_where 49 = .ok (.iload_n 2, 1) := by decide +kernel
theorem dX5_where_50 : decode cX5_where 50 = .ok (.aload 4, 2) := by decide +kernel
theorem dX5_where_52 : decode cX5_where 52 = .ok (.getfield 196, 3) := by decide +kernel
theorem dX5_where_55 : decode cX5_where 55 = .ok (.invokevirtual 29, 3) := by decide +kernel
theorem dX5_where_58 : decode cX5_where 58 = .ok (.if_icmp .lt 5, 3) := by decide +kernel
theorem dX5_where_61 : decode cX5_where 61 = .ok (.iconst (-1), 1) := by decide +kernel
theorem dX5_where_62 : decode cX5_where 62 = .ok (.ireturn, 1) := by decide +kernel
theorem dX5_where_63 : decode cX5_where 63 = .ok (.aload 4, 2) := by decide +kernel
theorem dX5_where_65 : decode cX5_where 65 = .ok (.getfield 196, 3) := by decide +kernel
theorem dX5_where_68 : decode cX5_where 68 = .ok (.iload_n 2, 1) := by decide +kernel
theorem dX5_where_69 : decode cX5_where 69 = .ok (.invokevirtual 199, 3) := by decide +kernel
theorem dX5_where_72 : decode cX5_where 72 = .ok (.checkcast 203, 3) := by decide +kernel
theorem dX5_where_75 : decode cX5_where 75 = .ok (.astore 5, 2) := by decide +kernel
theorem dX5_where_77 : decode cX5_where 77 = .ok (.iload_n 3, 1) := by decide +kernel
theorem dX5_where_78 : decode cX5_where 78 = .ok (.tableswitch 44 0 2 #[26, 32, 38], 26) := by decide +kernel
theorem dX5_where_104 : decode cX5_where 104 = .ok (.aload 5, 2) := by decide +kernel
theorem dX5_where_106 : decode cX5_where 106 = .ok (.getfield 205, 3) := by decide +kernel
theorem dX5_where_109 : decode cX5_where 109 = .ok (.ireturn, 1) := by decide +kernel
theorem dX5_where_110 : decode cX5_where 110 = .ok (.aload 5, 2) := by decide +kernel
theorem dX5_where_112 : decode cX5_where 112 = .ok (.getfield 208, 3) := by decide +kernel
theorem dX5_where_115 : decode cX5_where 115 = .ok (.ireturn, 1) := by decide +kernel
theorem dX5_where_116 : decode cX5_where 116 = .ok (.aload 5, 2) := by decide +kernel
theorem dX5_where_118 : decode cX5_where 118 = .ok (.getfield 211, 3) := by decide +kernel
theorem dX5_where_121 : decode cX5_where 121 = .ok (.ireturn, 1) := by decide +kernel
theorem dX5_where_122 : decode cX5_where 122 = .ok (.aload 5, 2) := by decide +kernel
theorem dX5_where_124 : decode cX5_where 124 = .ok (.getfield 214, 3) := by decide +kernel
theorem dX5_where_127 : decode cX5_where 127 = .ok (.ireturn, 1) := by decide +kernel
theorem dX5_free_0 : decode cX5_free 0 = .ok (.iload_n 1, 1) := by decide +kernel
theorem dX5_free_1 : decode cX5_free 1 = .ok (.ifCond .ge 13, 3) := by decide +kernel
theorem dX5_free_4 : decode cX5_free 4 = .ok (.new 57, 3) := by decide +kernel
theorem dX5_free_7 : decode cX5_free 7 = .ok (.dup, 1) := by decide +kernel
theorem dX5_free_8 : decode cX5_free 8 = .ok (.ldc 215, 2) := by decide +kernel
theorem dX5_free_10 : decode cX5_free 10 = .ok (.invokespecial 61, 3) := by decide +kernel
theorem dX5_free_13 : decode cX5_free 13 = .ok (.athrow, 1) := by decide +kernel
theorem dX5_free_14 : decode cX5_free 14 = .ok (.aload_n 0, 1) := by decide +kernel
theorem dX5_free_15 : decode cX5_free 15 = .ok (.getfield 25, 3) := by decide +kernel
theorem dX5_free_18 : decode cX5_free 18 = .ok (.iload_n 1, 1) := by decide +kernel
theorem dX5_free_19 : decode cX5_free 19 = .ok (.invokevirtual 217, 3) := by decide +kernel
theorem dX5_free_22 : decode cX5_free 22 = .ok (.astore_n 2, 1) := by decide +kernel
theorem dX5_free_23 : decode cX5_free 23 = .ok (.aload_n 2, 1) := by decide +kernel
theorem dX5_free_24 : decode cX5_free 24 = .ok (.ifnonnull 7, 3) := by decide +kernel
theorem dX5_free_27 : decode cX5_free 27 = .ok (.iconst (-1), 1) := by decide +kernel
theorem dX5_free_28 : decode cX5_free 28 = .ok (.goto 24, 3) := by decide +kernel
theorem dX5_free_31 : decode cX5_free 31 = .ok (.sipush 10000, 3) := by decide +kernel
theorem dX5_free_34 : decode cX5_free 34 = .ok (.aload_n 2, 1) := by decide +kernel
theorem dX5_free_35 : decode cX5_free 35 = .ok (.getfield 205, 3) := by decide +kernel
theorem dX5_free_38 : decode cX5_free 38 = .ok (.imul, 1) := by decide +kernel
theorem dX5_free_39 : decode cX5_free 39 = .ok (.bipush 100, 2) := by decide +kernel
theorem dX5_free_41 : decode cX5_free 41 = .ok (.aload_n 2, 1) := by decide +kernel
theorem dX5_free_42 : decode cX5_free 42 = .ok (.getfield 221, 3) := by decide +kernel
theorem dX5_free_45 : decode cX5_free 45 = .ok (.imul, 1) := by decide +kernel
theorem dX5_free_46 : decode cX5_free 46 = .ok (.iadd, 1) := by decide +kernel
theorem dX5_free_47 : decode cX5_free 47 = .ok (.aload_n 2, 1) := by decide +kernel
theorem dX5_free_48 : decode cX5_free 48 = .ok (.getfield 223, 3) := by decide +kernel
theorem dX5_free_51 : decode cX5_free 51 = .ok (.iadd, 1) := by decide +kernel
theorem dX5_free_52 : decode cX5_free 52 = .ok (.ireturn, 1) := by decide +kernel
theorem dX5_minutes_0 : decode cX5_minutes 0 = .ok (.aload_n 0, 1) := by decide +kernel
theorem dX5_minutes_1 : decode cX5_minutes 1 = .ok (.getfield 176, 3) := by decide +kernel
theorem dX5_minutes_4 : decode cX5_minutes 4 = .ok (.ireturn, 1) := by decide +kernel
theorem dX5_cutLength_0 : decode cX5_cutLength 0 = .ok (.aload_n 0, 1) := by decide +kernel
theorem dX5_cutLength_1 : decode cX5_cutLength 1 = .ok (.getfield 179, 3) := by decide +kernel
theorem dX5_cutLength_4 : decode cX5_cutLength 4 = .ok (.freturn, 1) := by decide +kernel
theorem dX5_cutAnew_0 : decode cX5_cutAnew 0 = .ok (.fconst 0, 1) := by decide +kernel
theorem dX5_cutAnew_1 : decode cX5_cutAnew 1 = .ok (.fstore_n 1, 1) := by decide +kernel
theorem dX5_cutAnew_2 : decode cX5_cutAnew 2 = .ok (.iconst 0, 1) := by decide +kernel
theorem dX5_cutAnew_3 : decode cX5_cutAnew 3 = .ok (.istore_n 2, 1) := by decide +kernel
theorem dX5_cutAnew_4 : decode cX5_cutAnew 4 = .ok (.iload_n 2, 1) := by decide +kernel
theorem dX5_cutAnew_5 : decode cX5_cutAnew 5 = .ok (.aload_n 0, 1) := by decide +kernel
theorem dX5_cutAnew_6 : decode cX5_cutAnew 6 = .ok (.getfield 19, 3) := by decide +kernel
theorem dX5_cutAnew_9 : decode cX5_cutAnew 9 = .ok (.invokevirtual 29, 3) := by decide +kernel
theorem dX5_cutAnew_12 : decode cX5_cutAnew 12 = .ok (.if_icmp .ge 37, 3) := by decide +kernel
theorem dX5_cutAnew_15 : decode cX5_cutAnew 15 = .ok (.aload_n 0, 1) := by decide +kernel
theorem dX5_cutAnew_16 : decode cX5_cutAnew 16 = .ok (.getfield 19, 3) := by decide +kernel
theorem dX5_cutAnew_19 : decode cX5_cutAnew 19 = .ok (.iload_n 2, 1) := by decide +kernel
theorem dX5_cutAnew_20 : decode cX5_cutAnew 20 = .ok (.invokevirtual 199, 3) := by decide +kernel
theorem dX5_cutAnew_23 : decode cX5_cutAnew 23 = .ok (.checkcast 144, 3) := by decide +kernel
theorem dX5_cutAnew_26 : decode cX5_cutAnew 26 = .ok (.astore_n 3, 1) := by decide +kernel
theorem dX5_cutAnew_27 : decode cX5_cutAnew 27 = .ok (.fload_n 1, 1) := by decide +kernel
theorem dX5_cutAnew_28 : decode cX5_cutAnew 28 = .ok (.aload_n 3, 1) := by decide +kernel
theorem dX5_cutAnew_29 : decode cX5_cutAnew 29 = .ok (.getfield 225, 3) := by decide +kernel
theorem dX5_cutAnew_32 : decode cX5_cutAnew 32 = .ok (.invokevirtual 119, 3) := by decide +kernel
theorem dX5_cutAnew_35 : decode cX5_cutAnew 35 = .ok (.aload_n 3, 1) := by decide +kernel
theorem dX5_cutAnew_36 : decode cX5_cutAnew 36 = .ok (.getfield 183, 3) := by decide +kernel
theorem dX5_cutAnew_39 : decode cX5_cutAnew 39 = .ok (.invokestatic 186, 3) := by decide +kernel
theorem dX5_cutAnew_42 : decode cX5_cutAnew 42 = .ok (.fstore_n 1, 1) := by decide +kernel
theorem dX5_cutAnew_43 : decode cX5_cutAnew 43 = .ok (.iinc 2 1, 3) := by decide +kernel
theorem dX5_cutAnew_46 : decode cX5_cutAnew 46 = .ok (.goto (-42), 3) := by decide +kernel
theorem dX5_cutAnew_49 : decode cX5_cutAnew 49 = .ok (.fload_n 1, 1) := by decide +kernel
theorem dX5_cutAnew_50 : decode cX5_cutAnew 50 = .ok (.freturn, 1) := by decide +kernel
theorem dX5_drawingAt_0 : decode cX5_drawingAt 0 = .ok (.iload_n 1, 1) := by decide +kernel
theorem dX5_drawingAt_1 : decode cX5_drawingAt 1 = .ok (.ifCond .lt 14, 3) := by decide +kernel
theorem dX5_drawingAt_4 : decode cX5_drawingAt 4 = .ok (.iload_n 1, 1) := by decide +kernel
theorem dX5_drawingAt_5 : decode cX5_drawingAt 5 = .ok (.aload_n 0, 1) := by decide +kernel
theorem dX5_drawingAt_6 : decode cX5_drawingAt 6 = .ok (.getfield 12, 3) := by decide +kernel
theorem dX5_drawingAt_9 : decode cX5_drawingAt 9 = .ok (.invokevirtual 29, 3) := by decide +kernel
theorem dX5_drawingAt_12 : decode cX5_drawingAt 12 = .ok (.if_icmp .lt 13, 3) := by decide +kernel
theorem dX5_drawingAt_15 : decode cX5_drawingAt 15 = .ok (.new 57, 3) := by decide +kernel
theorem dX5_drawingAt_18 : decode cX5_drawingAt 18 = .ok (.dup, 1) := by decide +kernel
theorem dX5_drawingAt_19 : decode cX5_drawingAt 19 = .ok (.ldc 228, 2) := by decide +kernel
theorem dX5_drawingAt_21 : decode cX5_drawingAt 21 = .ok (.invokespecial 61, 3) := by decide +kernel
theorem dX5_drawingAt_24 : decode cX5_drawingAt 24 = .ok (.athrow, 1) := by decide +kernel
theorem dX5_drawingAt_25 : decode cX5_drawingAt 25 = .ok (.aload_n 0, 1) := by decide +kernel
theorem dX5_drawingAt_26 : decode cX5_drawingAt 26 = .ok (.getfield 12, 3) := by decide +kernel
theorem dX5_drawingAt_29 : decode cX5_drawingAt 29 = .ok (.iload_n 1, 1) := by decide +kernel
theorem dX5_drawingAt_30 : decode cX5_drawingAt 30 = .ok (.invokevirtual 199, 3) := by decide +kernel
theorem dX5_drawingAt_33 : decode cX5_drawingAt 33 = .ok (.checkcast 40, 3) := by decide +kernel
theorem dX5_drawingAt_36 : decode cX5_drawingAt 36 = .ok (.areturn, 1) := by decide +kernel
theorem dX5_jobAt_0 : decode cX5_jobAt 0 = .ok (.iload_n 1, 1) := by decide +kernel
end
section
theorem dX5_jobAt_1 : decode cX5_jobAt 1 = .ok (.ifCond .lt 14, 3) := by decide +kernel
theorem dX5_jobAt_4 : decode cX5_jobAt 4 = .ok (.iload_n 1, 1) := by decide +kernel
theorem dX5_jobAt_5 : decode cX5_jobAt 5 = .ok (.aload_n 0, 1) := by decide +kernel
theorem dX5_jobAt_6 : decode cX5_jobAt 6 = .ok (.getfield 16, 3) := by decide +kernel
theorem dX5_jobAt_9 : decode cX5_jobAt 9 = .ok (.invokevirtual 29, 3) := by decide +kernel
theorem dX5_jobAt_12 : decode cX5_jobAt 12 = .ok (.if_icmp .lt 13, 3) := by decide +kernel
theorem dX5_jobAt_15 : decode cX5_jobAt 15 = .ok (.new 57, 3) := by decide +kernel
theorem dX5_jobAt_18 : decode cX5_jobAt 18 = .ok (.dup, 1) := by decide +kernel
theorem dX5_jobAt_19 : decode cX5_jobAt 19 = .ok (.ldc 230, 2) := by decide +kernel
theorem dX5_jobAt_21 : decode cX5_jobAt 21 = .ok (.invokespecial 61, 3) := by decide +kernel
theorem dX5_jobAt_24 : decode cX5_jobAt 24 = .ok (.athrow, 1) := by decide +kernel
theorem dX5_jobAt_25 : decode cX5_jobAt 25 = .ok (.aload_n 0, 1) := by decide +kernel
theorem dX5_jobAt_26 : decode cX5_jobAt 26 = .ok (.getfield 16, 3) := by decide +kernel
theorem dX5_jobAt_29 : decode cX5_jobAt 29 = .ok (.iload_n 1, 1) := by decide +kernel
theorem dX5_jobAt_30 : decode cX5_jobAt 30 = .ok (.invokevirtual 199, 3) := by decide +kernel
theorem dX5_jobAt_33 : decode cX5_jobAt 33 = .ok (.checkcast 144, 3) := by decide +kernel
theorem dX5_jobAt_36 : decode cX5_jobAt 36 = .ok (.areturn, 1) := by decide +kernel
theorem dX5_isPoint_0 : decode cX5_isPoint 0 = .ok (.iload_n 0, 1) := by decide +kernel
theorem dX5_isPoint_1 : decode cX5_isPoint 1 = .ok (.ifCond .lt 14, 3) := by decide +kernel
theorem dX5_isPoint_4 : decode cX5_isPoint 4 = .ok (.iload_n 0, 1) := by decide +kernel
theorem dX5_isPoint_5 : decode cX5_isPoint 5 = .ok (.sipush 1024, 3) := by decide +kernel
theorem dX5_isPoint_8 : decode cX5_isPoint 8 = .ok (.if_icmp .ge 7, 3) := by decide +kernel
theorem dX5_isPoint_11 : decode cX5_isPoint 11 = .ok (.iconst 1, 1) := by decide +kernel
theorem dX5_isPoint_12 : decode cX5_isPoint 12 = .ok (.goto 4, 3) := by decide +kernel
theorem dX5_isPoint_15 : decode cX5_isPoint 15 = .ok (.iconst 0, 1) := by decide +kernel
theorem dX5_isPoint_16 : decode cX5_isPoint 16 = .ok (.ireturn, 1) := by decide +kernel
theorem dX5_isSide_0 : decode cX5_isSide 0 = .ok (.iload_n 0, 1) := by decide +kernel
theorem dX5_isSide_1 : decode cX5_isSide 1 = .ok (.iconst 1, 1) := by decide +kernel
theorem dX5_isSide_2 : decode cX5_isSide 2 = .ok (.if_icmp .lt 13, 3) := by decide +kernel
theorem dX5_isSide_5 : decode cX5_isSide 5 = .ok (.iload_n 0, 1) := by decide +kernel
theorem dX5_isSide_6 : decode cX5_isSide 6 = .ok (.bipush 64, 2) := by decide +kernel
theorem dX5_isSide_8 : decode cX5_isSide 8 = .ok (.if_icmp .gt 7, 3) := by decide +kernel
theorem dX5_isSide_11 : decode cX5_isSide 11 = .ok (.iconst 1, 1) := by decide +kernel
theorem dX5_isSide_12 : decode cX5_isSide 12 = .ok (.goto 4, 3) := by decide +kernel
theorem dX5_isSide_15 : decode cX5_isSide 15 = .ok (.iconst 0, 1) := by decide +kernel
theorem dX5_isSide_16 : decode cX5_isSide 16 = .ok (.ireturn, 1) := by decide +kernel
theorem dX5_addedForCopies_0 : decode cX5_addedForCopies 0 = .ok (.fload_n 0, 1) := by decide +kernel
theorem dX5_addedForCopies_1 : decode cX5_addedForCopies 1 = .ok (.fstore_n 3, 1) := by decide +kernel
theorem dX5_addedForCopies_2 : decode cX5_addedForCopies 2 = .ok (.iconst 0, 1) := by decide +kernel
theorem dX5_addedForCopies_3 : decode cX5_addedForCopies 3 = .ok (.istore 4, 2) := by decide +kernel
theorem dX5_addedForCopies_5 : decode cX5_addedForCopies 5 = .ok (.iload 4, 2) := by decide +kernel
theorem dX5_addedForCopies_7 : decode cX5_addedForCopies 7 = .ok (.iload_n 2, 1) := by decide +kernel
theorem dX5_addedForCopies_8 : decode cX5_addedForCopies 8 = .ok (.if_icmp .ge 13, 3) := by decide +kernel
theorem dX5_addedForCopies_11 : decode cX5_addedForCopies 11 = .ok (.fload_n 3, 1) := by decide +kernel
theorem dX5_addedForCopies_12 : decode cX5_addedForCopies 12 = .ok (.fload_n 1, 1) := by decide +kernel
theorem dX5_addedForCopies_13 : decode cX5_addedForCopies 13 = .ok (.fadd, 1) := by decide +kernel
theorem dX5_addedForCopies_14 : decode cX5_addedForCopies 14 = .ok (.fstore_n 3, 1) := by decide +kernel
theorem dX5_addedForCopies_15 : decode cX5_addedForCopies 15 = .ok (.iinc 4 1, 3) := by decide +kernel
theorem dX5_addedForCopies_18 : decode cX5_addedForCopies 18 = .ok (.goto (-13), 3) := by decide +kernel
theorem dX5_addedForCopies_21 : decode cX5_addedForCopies 21 = .ok (.fload_n 3, 1) := by decide +kernel
theorem dX5_addedForCopies_22 : decode cX5_addedForCopies 22 = .ok (.freturn, 1) := by decide +kernel
theorem dX5_tryWaiting_0 : decode cX5_tryWaiting 0 = .ok (.iconst 0, 1) := by decide +kernel
theorem dX5_tryWaiting_1 : decode cX5_tryWaiting 1 = .ok (.istore_n 1, 1) := by decide +kernel
theorem dX5_tryWaiting_2 : decode cX5_tryWaiting 2 = .ok (.iload_n 1, 1) := by decide +kernel
theorem dX5_tryWaiting_3 : decode cX5_tryWaiting 3 = .ok (.aload_n 0, 1) := by decide +kernel
theorem dX5_tryWaiting_4 : decode cX5_tryWaiting 4 = .ok (.getfield 16, 3) := by decide +kernel
theorem dX5_tryWaiting_7 : decode cX5_tryWaiting 7 = .ok (.invokevirtual 29, 3) := by decide +kernel
theorem dX5_tryWaiting_10 : decode cX5_tryWaiting 10 = .ok (.if_icmp .ge 47, 3) := by decide +kernel
theorem dX5_tryWaiting_13 : decode cX5_tryWaiting 13 = .ok (.aload_n 0, 1) := by decide +kernel
theorem dX5_tryWaiting_14 : decode cX5_tryWaiting 14 = .ok (.getfield 16, 3) := by decide +kernel
theorem dX5_tryWaiting_17 : decode cX5_tryWaiting 17 = .ok (.iload_n 1, 1) := by decide +kernel
theorem dX5_tryWaiting_18 : decode cX5_tryWaiting 18 = .ok (.invokevirtual 199, 3) := by decide +kernel
theorem dX5_tryWaiting_21 : decode cX5_tryWaiting 21 = .ok (.checkcast 144, 3) := by decide +kernel
theorem dX5_tryWaiting_24 : decode cX5_tryWaiting 24 = .ok (.astore_n 2, 1) := by decide +kernel
theorem dX5_tryWaiting_25 : decode cX5_tryWaiting 25 = .ok (.aload_n 2, 1) := by decide +kernel
theorem dX5_tryWaiting_26 : decode cX5_tryWaiting 26 = .ok (.getfield 157, 3) := by decide +kernel
theorem dX5_tryWaiting_29 : decode cX5_tryWaiting 29 = .ok (.ifCond .ne 22, 3) := by decide +kernel
theorem dX5_tryWaiting_32 : decode cX5_tryWaiting 32 = .ok (.aload_n 2, 1) := by decide +kernel
theorem dX5_tryWaiting_33 : decode cX5_tryWaiting 33 = .ok (.getfield 165, 3) := by decide +kernel
theorem dX5_tryWaiting_36 : decode cX5_tryWaiting 36 = .ok (.getfield 67, 3) := by decide +kernel
theorem dX5_tryWaiting_39 : decode cX5_tryWaiting 39 = .ok (.iconst 1, 1) := by decide +kernel
theorem dX5_tryWaiting_40 : decode cX5_tryWaiting 40 = .ok (.if_icmp .ne 11, 3) := by decide +kernel
theorem dX5_tryWaiting_43 : decode cX5_tryWaiting 43 = .ok (.aload_n 2, 1) := by decide +kernel
theorem dX5_tryWaiting_44 : decode cX5_tryWaiting 44 = .ok (.aload_n 0, 1) := by decide +kernel
theorem dX5_tryWaiting_45 : decode cX5_tryWaiting 45 = .ok (.getfield 25, 3) := by decide +kernel
theorem dX5_tryWaiting_48 : decode cX5_tryWaiting 48 = .ok (.invokevirtual 149, 3) := by decide +kernel
theorem dX5_tryWaiting_51 : decode cX5_tryWaiting 51 = .ok (.iinc 1 1, 3) := by decide +kernel
theorem dX5_tryWaiting_54 : decode cX5_tryWaiting 54 = .ok (.goto (-52), 3) := by decide +kernel
theorem dX5_tryWaiting_57 : decode cX5_tryWaiting 57 = .ok (.return_, 1) := by decide +kernel
theorem dX5_sheetsUnder_0 : decode cX5_sheetsUnder 0 = .ok (.iconst 0, 1) := by decide +kernel
theorem dX5_sheetsUnder_1 : decode cX5_sheetsUnder 1 = .ok (.istore_n 2, 1) := by decide +kernel
theorem dX5_sheetsUnder_2 : decode cX5_sheetsUnder 2 = .ok (.iconst 0, 1) := by decide +kernel
theorem dX5_sheetsUnder_3 : decode cX5_sheetsUnder 3 = .ok (.istore_n 3, 1) := by decide +kernel
theorem dX5_sheetsUnder_4 : decode cX5_sheetsUnder 4 = .ok (.iload_n 3, 1) := by decide +kernel
theorem dX5_sheetsUnder_5 : decode cX5_sheetsUnder 5 = .ok (.aload_n 0, 1) := by decide +kernel
theorem dX5_sheetsUnder_6 : decode cX5_sheetsUnder 6 = .ok (.getfield 16, 3) := by decide +kernel
theorem dX5_sheetsUnder_9 : decode cX5_sheetsUnder 9 = .ok (.invokevirtual 29, 3) := by decide +kernel
theorem dX5_sheetsUnder_12 : decode cX5_sheetsUnder 12 = .ok (.if_icmp .ge 48, 3) := by decide +kernel
theorem dX5_sheetsUnder_15 : decode cX5_sheetsUnder 15 = .ok (.aload_n 0, 1) := by decide +kernel
theorem dX5_sheetsUnder_16 : decode cX5_sheetsUnder 16 = .ok (.getfield 16, 3) := by decide +kernel
theorem dX5_sheetsUnder_19 : decode cX5_sheetsUnder 19 = .ok (.iload_n 3, 1) := by decide +kernel
theorem dX5_sheetsUnder_20 : decode cX5_sheetsUnder 20 = .ok (.invokevirtual 199, 3) := by decide +kernel
theorem dX5_sheetsUnder_23 : decode cX5_sheetsUnder 23 = .ok (.checkcast 144, 3) := by decide +kernel
theorem dX5_sheetsUnder_26 : decode cX5_sheetsUnder 26 = .ok (.astore 4, 2) := by decide +kernel
theorem dX5_sheetsUnder_28 : decode cX5_sheetsUnder 28 = .ok (.aload 4, 2) := by decide +kernel
theorem dX5_sheetsUnder_30 : decode cX5_sheetsUnder 30 = .ok (.getfield 157, 3) := by decide +kernel
theorem dX5_sheetsUnder_33 : decode cX5_sheetsUnder 33 = .ok (.iconst 1, 1) := by decide +kernel
theorem dX5_sheetsUnder_34 : decode cX5_sheetsUnder 34 = .ok (.if_icmp .ne 20, 3) := by decide +kernel
theorem dX5_sheetsUnder_37 : decode cX5_sheetsUnder 37 = .ok (.aload 4, 2) := by decide +kernel
theorem dX5_sheetsUnder_39 : decode cX5_sheetsUnder 39 = .ok (.getfield 165, 3) := by decide +kernel
theorem dX5_sheetsUnder_42 : decode cX5_sheetsUnder 42 = .ok (.aload_n 1, 1) := by decide +kernel
theorem dX5_sheetsUnder_43 : decode cX5_sheetsUnder 43 = .ok (.if_acmp .ne 11, 3) := by decide +kernel
theorem dX5_sheetsUnder_46 : decode cX5_sheetsUnder 46 = .ok (.iload_n 2, 1) := by decide +kernel
theorem dX5_sheetsUnder_47 : decode cX5_sheetsUnder 47 = .ok (.aload 4, 2) := by decide +kernel
theorem dX5_sheetsUnder_49 : decode cX5_sheetsUnder 49 = .ok (.invokevirtual 232, 3) := by decide +kernel
theorem dX5_sheetsUnder_52 : decode cX5_sheetsUnder 52 = .ok (.ior, 1) := by decide +kernel
theorem dX5_sheetsUnder_53 : decode cX5_sheetsUnder 53 = .ok (.istore_n 2, 1) := by decide +kernel
theorem dX5_sheetsUnder_54 : decode cX5_sheetsUnder 54 = .ok (.iinc 3 1, 3) := by decide +kernel
theorem dX5_sheetsUnder_57 : decode cX5_sheetsUnder 57 = .ok (.goto (-53), 3) := by decide +kernel
theorem dX5_sheetsUnder_60 : decode cX5_sheetsUnder 60 = .ok (.iload_n 2, 1) := by decide +kernel
theorem dX5_sheetsUnder_61 : decode cX5_sheetsUnder 61 = .ok (.ireturn, 1) := by decide +kernel
theorem dX5_clearSheets_0 : decode cX5_clearSheets 0 = .ok (.iconst 0, 1) := by decide +kernel
theorem dX5_clearSheets_1 : decode cX5_clearSheets 1 = .ok (.istore_n 2, 1) := by decide +kernel
theorem dX5_clearSheets_2 : decode cX5_clearSheets 2 = .ok (.aload_n 0, 1) := by decide +kernel
theorem dX5_clearSheets_3 : decode cX5_clearSheets 3 = .ok (.getfield 16, 3) := by decide +kernel
theorem dX5_clearSheets_6 : decode cX5_clearSheets 6 = .ok (.invokevirtual 29, 3) := by decide +kernel
theorem dX5_clearSheets_9 : decode cX5_clearSheets 9 = .ok (.iconst 1, 1) := by decide +kernel
theorem dX5_clearSheets_10 : decode cX5_clearSheets 10 = .ok (.isub, 1) := by decide +kernel
theorem dX5_clearSheets_11 : decode cX5_clearSheets 11 = .ok (.istore_n 3, 1) := by decide +kernel
theorem dX5_clearSheets_12 : decode cX5_clearSheets 12 = .ok (.iload_n 3, 1) := by decide +kernel
theorem dX5_clearSheets_13 : decode cX5_clearSheets 13 = .ok (.ifCond .lt 49, 3) := by decide +kernel
theorem dX5_clearSheets_16 : decode cX5_clearSheets 16 = .ok (.aload_n 0, 1) := by decide +kernel
theorem dX5_clearSheets_17 : decode cX5_clearSheets 17 = .ok (.getfield 16, 3) := by decide +kernel
theorem dX5_clearSheets_20 : decode cX5_clearSheets 20 = .ok (.iload_n 3, 1) := by decide +kernel
theorem dX5_clearSheets_21 : decode cX5_clearSheets 21 = .ok (.invokevirtual 199, 3) := by decide +kernel
theorem dX5_clearSheets_24 : decode cX5_clearSheets 24 = .ok (.checkcast 144, 3) := by decide +kernel
theorem dX5_clearSheets_27 : decode cX5_clearSheets 27 = .ok (.astore 4, 2) := by decide +kernel
theorem dX5_clearSheets_29 : decode cX5_clearSheets 29 = .ok (.aload 4, 2) := by decide +kernel
theorem dX5_clearSheets_31 : decode cX5_clearSheets 31 = .ok (.getfield 157, 3) := by decide +kernel
theorem dX5_clearSheets_34 : decode cX5_clearSheets 34 = .ok (.iconst 1, 1) := by decide +kernel
theorem dX5_clearSheets_35 : decode cX5_clearSheets 35 = .ok (.if_icmp .ne 21, 3) := by decide +kernel
theorem dX5_clearSheets_38 : decode cX5_clearSheets 38 = .ok (.aload 4, 2) := by decide +kernel
theorem dX5_clearSheets_40 : decode cX5_clearSheets 40 = .ok (.invokevirtual 232, 3) := by decide +kernel
theorem dX5_clearSheets_43 : decode cX5_clearSheets 43 = .ok (.iload_n 1, 1) := by decide +kernel
theorem dX5_clearSheets_44 : decode cX5_clearSheets 44 = .ok (.iand, 1) := by decide +kernel
theorem dX5_clearSheets_45 : decode cX5_clearSheets 45 = .ok (.ifCond .eq 11, 3) := by decide +kernel
theorem dX5_clearSheets_48 : decode cX5_clearSheets 48 = .ok (.aload 4, 2) := by decide +kernel
theorem dX5_clearSheets_50 : decode cX5_clearSheets 50 = .ok (.invokevirtual 160, 3) := by decide +kernel
theorem dX5_clearSheets_53 : decode cX5_clearSheets 53 = .ok (.iinc 2 1, 3) := by decide +kernel
theorem dX5_clearSheets_56 : decode cX5_clearSheets 56 = .ok (.iinc 3 (-1), 3) := by decide +kernel
theorem dX5_clearSheets_59 : decode cX5_clearSheets 59 = .ok (.goto (-47), 3) := by decide +kernel
theorem dX5_clearSheets_62 : decode cX5_clearSheets 62 = .ok (.iload_n 2, 1) := by decide +kernel
theorem dX5_clearSheets_63 : decode cX5_clearSheets 63 = .ok (.ireturn, 1) := by decide +kernel
theorem dX6_init_0 : decode cX6_init 0 = .ok (.aload_n 0, 1) := by decide +kernel
theorem dX6_init_1 : decode cX6_init 1 = .ok (.invokespecial 1, 3) := by decide +kernel
theorem dX6_init_4 : decode cX6_init 4 = .ok (.aload_n 0, 1) := by decide +kernel
theorem dX6_init_5 : decode cX6_init 5 = .ok (.bipush 12, 2) := by decide +kernel
theorem dX6_init_7 : decode cX6_init 7 = .ok (.newarray .int, 2) := by decide +kernel
theorem dX6_init_9 : decode cX6_init 9 = .ok (.putfield 7, 3) := by decide +kernel
theorem dX6_init_12 : decode cX6_init 12 = .ok (.aload_n 0, 1) := by decide +kernel
theorem dX6_init_13 : decode cX6_init 13 = .ok (.bipush 12, 2) := by decide +kernel
theorem dX6_init_15 : decode cX6_init 15 = .ok (.newarray .int, 2) := by decide +kernel
theorem dX6_init_17 : decode cX6_init 17 = .ok (.putfield 13, 3) := by decide +kernel
theorem dX6_init_20 : decode cX6_init 20 = .ok (.aload_n 0, 1) := by decide +kernel
theorem dX6_init_21 : decode cX6_init 21 = .ok (.bipush 12, 2) := by decide +kernel
theorem dX6_init_23 : decode cX6_init 23 = .ok (.newarray .int, 2) := by decide +kernel
theorem dX6_init_25 : decode cX6_init 25 = .ok (.putfield 16, 3) := by decide +kernel
theorem dX6_init_28 : decode cX6_init 28 = .ok (.aload_n 0, 1) := by decide +kernel
theorem dX6_init_29 : decode cX6_init 29 = .ok (.sipush 288, 3) := by decide +kernel
theorem dX6_init_32 : decode cX6_init 32 = .ok (.newarray .int, 2) := by decide +kernel
theorem dX6_init_34 : decode cX6_init 34 = .ok (.putfield 19, 3) := by decide +kernel
theorem dX6_init_37 : decode cX6_init 37 = .ok (.aload_n 0, 1) := by decide +kernel
theorem dX6_init_38 : decode cX6_init 38 = .ok (.sipush 288, 3) := by decide +kernel
theorem dX6_init_41 : decode cX6_init 41 = .ok (.newarray .int, 2) := by decide +kernel
theorem dX6_init_43 : decode cX6_init 43 = .ok (.putfield 22, 3) := by decide +kernel
theorem dX6_init_46 : decode cX6_init 46 = .ok (.aload_n 0, 1) := by decide +kernel
theorem dX6_init_47 : decode cX6_init 47 = .ok (.sipush 1024, 3) := by decide +kernel
theorem dX6_init_50 : decode cX6_init 50 = .ok (.newarray .int, 2) := by decide +kernel
theorem dX6_init_52 : decode cX6_init 52 = .ok (.putfield 25, 3) := by decide +kernel
theorem dX6_init_55 : decode cX6_init 55 = .ok (.aload_n 0, 1) := by decide +kernel
theorem dX6_init_56 : decode cX6_init 56 = .ok (.sipush 400, 3) := by decide +kernel
theorem dX6_init_59 : decode cX6_init 59 = .ok (.newarray .int, 2) := by decide +kernel
theorem dX6_init_61 : decode cX6_init 61 = .ok (.putfield 28, 3) := by decide +kernel
theorem dX6_init_64 : decode cX6_init 64 = .ok (.aload_n 0, 1) := by decide +kernel
theorem dX6_init_65 : decode cX6_init 65 = .ok (.sipush 400, 3) := by decide +kernel
theorem dX6_init_68 : decode cX6_init 68 = .ok (.newarray .int, 2) := by decide +kernel
theorem dX6_init_70 : decode cX6_init 70 = .ok (.putfield 31, 3) := by decide +kernel
theorem dX6_init_73 : decode cX6_init 73 = .ok (.aload_n 0, 1) := by decide +kernel
theorem dX6_init_74 : decode cX6_init 74 = .ok (.sipush 400, 3) := by decide +kernel
theorem dX6_init_77 : decode cX6_init 77 = .ok (.newarray .int, 2) := by decide +kernel
theorem dX6_init_79 : decode cX6_init 79 = .ok (.putfield 34, 3) := by decide +kernel
theorem dX6_init_82 : decode cX6_init 82 = .ok (.aload_n 0, 1) := by decide +kernel
theorem dX6_init_83 : decode cX6_init 83 = .ok (.sipush 400, 3) := by decide +kernel
theorem dX6_init_86 : decode cX6_init 86 = .ok (.newarray .int, 2) := by decide +kernel
theorem dX6_init_88 : decode cX6_init 88 = .ok (.putfield 37, 3) := by decide +kernel
theorem dX6_init_91 : decode cX6_init 91 = .ok (.aload_n 0, 1) := by decide +kernel
theorem dX6_init_92 : decode cX6_init 92 = .ok (.sipush 400, 3) := by decide +kernel
theorem dX6_init_95 : decode cX6_init 95 = .ok (.newarray .int, 2) := by decide +kernel
theorem dX6_init_97 : decode cX6_init 97 = .ok (.putfield 40, 3) := by decide +kernel
theorem dX6_init_100 : decode cX6_init 100 = .ok (.aload_n 0, 1) := by decide +kernel
theorem dX6_init_101 : decode cX6_init 101 = .ok (.sipush 400, 3) := by decide +kernel
theorem dX6_init_104 : decode cX6_init 104 = .ok (.newarray .int, 2) := by decide +kernel
theorem dX6_init_106 : decode cX6_init 106 = .ok (.putfield 43, 3) := by decide +kernel
theorem dX6_init_109 : decode cX6_init 109 = .ok (.aload_n 0, 1) := by decide +kernel
theorem dX6_init_110 : decode cX6_init 110 = .ok (.sipush 400, 3) := by decide +kernel
theorem dX6_init_113 : decode cX6_init 113 = .ok (.newarray .int, 2) := by decide +kernel
theorem dX6_init_115 : decode cX6_init 115 = .ok (.putfield 46, 3) := by decide +kernel
theorem dX6_init_118 : decode cX6_init 118 = .ok (.aload_n 0, 1) := by decide +kernel
theorem dX6_init_119 : decode cX6_init 119 = .ok (.bipush 30, 2) := by decide +kernel
theorem dX6_init_121 : decode cX6_init 121 = .ok (.newarray .int, 2) := by decide +kernel
theorem dX6_init_123 : decode cX6_init 123 = .ok (.putfield 49, 3) := by decide +kernel
theorem dX6_init_126 : decode cX6_init 126 = .ok (.aload_n 0, 1) := by decide +kernel
theorem dX6_init_127 : decode cX6_init 127 = .ok (.bipush 30, 2) := by decide +kernel
theorem dX6_init_129 : decode cX6_init 129 = .ok (.newarray .int, 2) := by decide +kernel
theorem dX6_init_131 : decode cX6_init 131 = .ok (.putfield 52, 3) := by decide +kernel
theorem dX6_init_134 : decode cX6_init 134 = .ok (.aload_n 0, 1) := by decide +kernel
theorem dX6_init_135 : decode cX6_init 135 = .ok (.bipush 30, 2) := by decide +kernel
theorem dX6_init_137 : decode cX6_init 137 = .ok (.newarray .int, 2) := by decide +kernel
theorem dX6_init_139 : decode cX6_init 139 = .ok (.putfield 55, 3) := by decide +kernel
theorem dX6_init_142 : decode cX6_init 142 = .ok (.aload_n 0, 1) := by decide +kernel
theorem dX6_init_143 : decode cX6_init 143 = .ok (.bipush 30, 2) := by decide +kernel
theorem dX6_init_145 : decode cX6_init 145 = .ok (.newarray .int, 2) := by decide +kernel
theorem dX6_init_147 : decode cX6_init 147 = .ok (.putfield 58, 3) := by decide +kernel
theorem dX6_init_150 : decode cX6_init 150 = .ok (.aload_n 0, 1) := by decide +kernel
theorem dX6_init_151 : decode cX6_init 151 = .ok (.sipush 180, 3) := by decide +kernel
theorem dX6_init_154 : decode cX6_init 154 = .ok (.newarray .int, 2) := by decide +kernel
theorem dX6_init_156 : decode cX6_init 156 = .ok (.putfield 61, 3) := by decide +kernel
theorem dX6_init_159 : decode cX6_init 159 = .ok (.aload_n 0, 1) := by decide +kernel
theorem dX6_init_160 : decode cX6_init 160 = .ok (.bipush 30, 2) := by decide +kernel
theorem dX6_init_162 : decode cX6_init 162 = .ok (.newarray .int, 2) := by decide +kernel
theorem dX6_init_164 : decode cX6_init 164 = .ok (.putfield 64, 3) := by decide +kernel
theorem dX6_init_167 : decode cX6_init 167 = .ok (.return_, 1) := by decide +kernel
theorem dX6_thrown_0 : decode cX6_thrown 0 = .ok (.aload_n 0, 1) := by decide +kernel
theorem dX6_thrown_1 : decode cX6_thrown 1 = .ok (.getfield 67, 3) := by decide +kernel
theorem dX6_thrown_4 : decode cX6_thrown 4 = .ok (.ireturn, 1) := by decide +kernel
theorem dX6_holds_0 : decode cX6_holds 0 = .ok (.aload_n 0, 1) := by decide +kernel
theorem dX6_holds_1 : decode cX6_holds 1 = .ok (.iload_n 1, 1) := by decide +kernel
theorem dX6_holds_2 : decode cX6_holds 2 = .ok (.putfield 67, 3) := by decide +kernel
theorem dX6_holds_5 : decode cX6_holds 5 = .ok (.iload_n 1, 1) := by decide +kernel
theorem dX6_holds_6 : decode cX6_holds 6 = .ok (.ifCond .le 7, 3) := by decide +kernel
theorem dX6_holds_9 : decode cX6_holds 9 = .ok (.iconst 1, 1) := by decide +kernel
theorem dX6_holds_10 : decode cX6_holds 10 = .ok (.goto 4, 3) := by decide +kernel
theorem dX6_holds_13 : decode cX6_holds 13 = .ok (.iconst 0, 1) := by decide +kernel
theorem dX6_holds_14 : decode cX6_holds 14 = .ok (.ireturn, 1) := by decide +kernel
theorem dX6_in_0 : decode cX6_in 0 = .ok (.iload_n 1, 1) := by decide +kernel
theorem dX6_in_1 : decode cX6_in 1 = .ok (.iload_n 2, 1) := by decide +kernel
theorem dX6_in_2 : decode cX6_in 2 = .ok (.if_icmp .lt 12, 3) := by decide +kernel
theorem dX6_in_5 : decode cX6_in 5 = .ok (.iload_n 1, 1) := by decide +kernel
theorem dX6_in_6 : decode cX6_in 6 = .ok (.iload_n 3, 1) := by decide +kernel
theorem dX6_in_7 : decode cX6_in 7 = .ok (.if_icmp .gt 7, 3) := by decide +kernel
theorem dX6_in_10 : decode cX6_in 10 = .ok (.iconst 1, 1) := by decide +kernel
theorem dX6_in_11 : decode cX6_in 11 = .ok (.goto 4, 3) := by decide +kernel
theorem dX6_in_14 : decode cX6_in 14 = .ok (.iconst 0, 1) := by decide +kernel
theorem dX6_in_15 : decode cX6_in 15 = .ok (.ireturn, 1) := by decide +kernel
theorem dX6_isDrawing_0 : decode cX6_isDrawing 0 = .ok (.aload_n 0, 1) := by decide +kernel
theorem dX6_isDrawing_1 : decode cX6_isDrawing 1 = .ok (.iload_n 1, 1) := by decide +kernel
theorem dX6_isDrawing_2 : decode cX6_isDrawing 2 = .ok (.iconst 0, 1) := by decide +kernel
theorem dX6_isDrawing_3 : decode cX6_isDrawing 3 = .ok (.aload_n 0, 1) := by decide +kernel
theorem dX6_isDrawing_4 : decode cX6_isDrawing 4 = .ok (.getfield 71, 3) := by decide +kernel
theorem dX6_isDrawing_7 : decode cX6_isDrawing 7 = .ok (.iconst 1, 1) := by decide +kernel
theorem dX6_isDrawing_8 : decode cX6_isDrawing 8 = .ok (.isub, 1) := by decide +kernel
theorem dX6_isDrawing_9 : decode cX6_isDrawing 9 = .ok (.invokevirtual 74, 3) := by decide +kernel
theorem dX6_isDrawing_12 : decode cX6_isDrawing 12 = .ok (.ireturn, 1) := by decide +kernel
theorem dX6_drawing_0 : decode cX6_drawing 0 = .ok (.aload_n 0, 1) := by decide +kernel
theorem dX6_drawing_1 : decode cX6_drawing 1 = .ok (.aload_n 0, 1) := by decide +kernel
theorem dX6_drawing_2 : decode cX6_drawing 2 = .ok (.getfield 71, 3) := by decide +kernel
theorem dX6_drawing_5 : decode cX6_drawing 5 = .ok (.bipush 12, 2) := by decide +kernel
theorem dX6_drawing_7 : decode cX6_drawing 7 = .ok (.if_icmp .ne 7, 3) := by decide +kernel
theorem dX6_drawing_10 : decode cX6_drawing 10 = .ok (.iconst 1, 1) := by decide +kernel
theorem dX6_drawing_11 : decode cX6_drawing 11 = .ok (.goto 4, 3) := by decide +kernel
theorem dX6_drawing_14 : decode cX6_drawing 14 = .ok (.iconst 0, 1) := by decide +kernel
theorem dX6_drawing_15 : decode cX6_drawing 15 = .ok (.invokevirtual 78, 3) := by decide +kernel
theorem dX6_drawing_18 : decode cX6_drawing 18 = .ok (.ifCond .eq 5, 3) := by decide +kernel
theorem dX6_drawing_21 : decode cX6_drawing 21 = .ok (.iconst (-1), 1) := by decide +kernel
theorem dX6_drawing_22 : decode cX6_drawing 22 = .ok (.ireturn, 1) := by decide +kernel
theorem dX6_drawing_23 : decode cX6_drawing 23 = .ok (.aload_n 0, 1) := by decide +kernel
theorem dX6_drawing_24 : decode cX6_drawing 24 = .ok (.dup, 1) := by decide +kernel
theorem dX6_drawing_25 : decode cX6_drawing 25 = .ok (.getfield 71, 3) := by decide +kernel
theorem dX6_drawing_28 : decode cX6_drawing 28 = .ok (.iconst 1, 1) := by decide +kernel
theorem dX6_drawing_29 : decode cX6_drawing 29 = .ok (.iadd, 1) := by decide +kernel
theorem dX6_drawing_30 : decode cX6_drawing 30 = .ok (.putfield 71, 3) := by decide +kernel
theorem dX6_drawing_33 : decode cX6_drawing 33 = .ok (.aload_n 0, 1) := by decide +kernel
theorem dX6_drawing_34 : decode cX6_drawing 34 = .ok (.getfield 71, 3) := by decide +kernel
theorem dX6_drawing_37 : decode cX6_drawing 37 = .ok (.iconst 1, 1) := by decide +kernel
theorem dX6_drawing_38 : decode cX6_drawing 38 = .ok (.isub, 1) := by decide +kernel
theorem dX6_drawing_39 : decode cX6_drawing 39 = .ok (.ireturn, 1) := by decide +kernel
theorem dX6_stroke_0 : decode cX6_stroke 0 = .ok (.aload_n 0, 1) := by decide +kernel
theorem dX6_stroke_1 : decode cX6_stroke 1 = .ok (.iload_n 1, 1) := by decide +kernel
theorem dX6_stroke_2 : decode cX6_stroke 2 = .ok (.invokevirtual 82, 3) := by decide +kernel
theorem dX6_stroke_5 : decode cX6_stroke 5 = .ok (.ifCond .eq 31, 3) := by decide +kernel
theorem dX6_stroke_8 : decode cX6_stroke 8 = .ok (.aload_n 0, 1) := by decide +kernel
theorem dX6_stroke_9 : decode cX6_stroke 9 = .ok (.iload_n 2, 1) := by decide +kernel
theorem dX6_stroke_10 : decode cX6_stroke 10 = .ok (.iconst 0, 1) := by decide +kernel
theorem dX6_stroke_11 : decode cX6_stroke 11 = .ok (.sipush 1023, 3) := by decide +kernel
theorem dX6_stroke_14 : decode cX6_stroke 14 = .ok (.invokevirtual 74, 3) := by decide +kernel
theorem dX6_stroke_17 : decode cX6_stroke 17 = .ok (.ifCond .eq 19, 3) := by decide +kernel
theorem dX6_stroke_20 : decode cX6_stroke 20 = .ok (.aload_n 0, 1) := by decide +kernel
theorem dX6_stroke_21 : decode cX6_stroke 21 = .ok (.iload_n 3, 1) := by decide +kernel
theorem dX6_stroke_22 : decode cX6_stroke 22 = .ok (.iconst 0, 1) := by decide +kernel
theorem dX6_stroke_23 : decode cX6_stroke 23 = .ok (.sipush 1023, 3) := by decide +kernel
theorem dX6_stroke_26 : decode cX6_stroke 26 = .ok (.invokevirtual 74, 3) := by decide +kernel
theorem dX6_stroke_29 : decode cX6_stroke 29 = .ok (.ifCond .eq 7, 3) := by decide +kernel
theorem dX6_stroke_32 : decode cX6_stroke 32 = .ok (.iconst 1, 1) := by decide +kernel
theorem dX6_stroke_33 : decode cX6_stroke 33 = .ok (.goto 4, 3) := by decide +kernel
theorem dX6_stroke_36 : decode cX6_stroke 36 = .ok (.iconst 0, 1) := by decide +kernel
theorem dX6_stroke_37 : decode cX6_stroke 37 = .ok (.istore 4, 2) := by decide +kernel
theorem dX6_stroke_39 : decode cX6_stroke 39 = .ok (.aload_n 0, 1) := by decide +kernel
theorem dX6_stroke_40 : decode cX6_stroke 40 = .ok (.iload 4, 2) := by decide +kernel
theorem dX6_stroke_42 : decode cX6_stroke 42 = .ok (.ifCond .ne 7, 3) := by decide +kernel
theorem dX6_stroke_45 : decode cX6_stroke 45 = .ok (.iconst 1, 1) := by decide +kernel
theorem dX6_stroke_46 : decode cX6_stroke 46 = .ok (.goto 38, 3) := by decide +kernel
theorem dX6_stroke_49 : decode cX6_stroke 49 = .ok (.iload_n 2, 1) := by decide +kernel
theorem dX6_stroke_50 : decode cX6_stroke 50 = .ok (.iload_n 3, 1) := by decide +kernel
theorem dX6_stroke_51 : decode cX6_stroke 51 = .ok (.if_icmp .ne 7, 3) := by decide +kernel
theorem dX6_stroke_54 : decode cX6_stroke 54 = .ok (.iconst 2, 1) := by decide +kernel
theorem dX6_stroke_55 : decode cX6_stroke 55 = .ok (.goto 29, 3) := by decide +kernel
theorem dX6_stroke_58 : decode cX6_stroke 58 = .ok (.aload_n 0, 1) := by decide +kernel
theorem dX6_stroke_59 : decode cX6_stroke 59 = .ok (.getfield 7, 3) := by decide +kernel
theorem dX6_stroke_62 : decode cX6_stroke 62 = .ok (.iload_n 1, 1) := by decide +kernel
theorem dX6_stroke_63 : decode cX6_stroke 63 = .ok (.iaload, 1) := by decide +kernel
theorem dX6_stroke_64 : decode cX6_stroke 64 = .ok (.iconst 1, 1) := by decide +kernel
theorem dX6_stroke_65 : decode cX6_stroke 65 = .ok (.if_icmp .eq 14, 3) := by decide +kernel
theorem dX6_stroke_68 : decode cX6_stroke 68 = .ok (.aload_n 0, 1) := by decide +kernel
theorem dX6_stroke_69 : decode cX6_stroke 69 = .ok (.getfield 13, 3) := by decide +kernel
theorem dX6_stroke_72 : decode cX6_stroke 72 = .ok (.iload_n 1, 1) := by decide +kernel
theorem dX6_stroke_73 : decode cX6_stroke 73 = .ok (.iaload, 1) := by decide +kernel
theorem dX6_stroke_74 : decode cX6_stroke 74 = .ok (.bipush 24, 2) := by decide +kernel
theorem dX6_stroke_76 : decode cX6_stroke 76 = .ok (.if_icmp .ne 7, 3) := by decide +kernel
theorem dX6_stroke_79 : decode cX6_stroke 79 = .ok (.iconst 3, 1) := by decide +kernel
theorem dX6_stroke_80 : decode cX6_stroke 80 = .ok (.goto 4, 3) := by decide +kernel
theorem dX6_stroke_83 : decode cX6_stroke 83 = .ok (.iconst 0, 1) := by decide +kernel
theorem dX6_stroke_84 : decode cX6_stroke 84 = .ok (.invokevirtual 78, 3) := by decide +kernel
theorem dX6_stroke_87 : decode cX6_stroke 87 = .ok (.ifCond .eq 5, 3) := by decide +kernel
theorem dX6_stroke_90 : decode cX6_stroke 90 = .ok (.iconst (-1), 1) := by decide +kernel
theorem dX6_stroke_91 : decode cX6_stroke 91 = .ok (.ireturn, 1) := by decide +kernel
theorem dX6_stroke_92 : decode cX6_stroke 92 = .ok (.aload_n 0, 1) := by decide +kernel
theorem dX6_stroke_93 : decode cX6_stroke 93 = .ok (.getfield 19, 3) := by decide +kernel
theorem dX6_stroke_96 : decode cX6_stroke 96 = .ok (.bipush 24, 2) := by decide +kernel
theorem dX6_stroke_98 : decode cX6_stroke 98 = .ok (.iload_n 1, 1) := by decide +kernel
theorem dX6_stroke_99 : decode cX6_stroke 99 = .ok (.imul, 1) := by decide +kernel
theorem dX6_stroke_100 : decode cX6_stroke 100 = .ok (.aload_n 0, 1) := by decide +kernel
theorem dX6_stroke_101 : decode cX6_stroke 101 = .ok (.getfield 13, 3) := by decide +kernel
theorem dX6_stroke_104 : decode cX6_stroke 104 = .ok (.iload_n 1, 1) := by decide +kernel
theorem dX6_stroke_105 : decode cX6_stroke 105 = .ok (.iaload, 1) := by decide +kernel
theorem dX6_stroke_106 : decode cX6_stroke 106 = .ok (.iadd, 1) := by decide +kernel
theorem dX6_stroke_107 : decode cX6_stroke 107 = .ok (.iload_n 2, 1) := by decide +kernel
theorem dX6_stroke_108 : decode cX6_stroke 108 = .ok (.iastore, 1) := by decide +kernel
theorem dX6_stroke_109 : decode cX6_stroke 109 = .ok (.aload_n 0, 1) := by decide +kernel
theorem dX6_stroke_110 : decode cX6_stroke 110 = .ok (.getfield 22, 3) := by decide +kernel
theorem dX6_stroke_113 : decode cX6_stroke 113 = .ok (.bipush 24, 2) := by decide +kernel
theorem dX6_stroke_115 : decode cX6_stroke 115 = .ok (.iload_n 1, 1) := by decide +kernel
theorem dX6_stroke_116 : decode cX6_stroke 116 = .ok (.imul, 1) := by decide +kernel
theorem dX6_stroke_117 : decode cX6_stroke 117 = .ok (.aload_n 0, 1) := by decide +kernel
theorem dX6_stroke_118 : decode cX6_stroke 118 = .ok (.getfield 13, 3) := by decide +kernel
theorem dX6_stroke_121 : decode cX6_stroke 121 = .ok (.iload_n 1, 1) := by decide +kernel
theorem dX6_stroke_122 : decode cX6_stroke 122 = .ok (.iaload, 1) := by decide +kernel
theorem dX6_stroke_123 : decode cX6_stroke 123 = .ok (.iadd, 1) := by decide +kernel
theorem dX6_stroke_124 : decode cX6_stroke 124 = .ok (.iload_n 3, 1) := by decide +kernel
theorem dX6_stroke_125 : decode cX6_stroke 125 = .ok (.iastore, 1) := by decide +kernel
theorem dX6_stroke_126 : decode cX6_stroke 126 = .ok (.aload_n 0, 1) := by decide +kernel
theorem dX6_stroke_127 : decode cX6_stroke 127 = .ok (.getfield 13, 3) := by decide +kernel
theorem dX6_stroke_130 : decode cX6_stroke 130 = .ok (.iload_n 1, 1) := by decide +kernel
theorem dX6_stroke_131 : decode cX6_stroke 131 = .ok (.dup2, 1) := by decide +kernel
theorem dX6_stroke_132 : decode cX6_stroke 132 = .ok (.iaload, 1) := by decide +kernel
theorem dX6_stroke_133 : decode cX6_stroke 133 = .ok (.iconst 1, 1) := by decide +kernel
theorem dX6_stroke_134 : decode cX6_stroke 134 = .ok (.iadd, 1) := by decide +kernel
theorem dX6_stroke_135 : decode cX6_stroke 135 = .ok (.iastore, 1) := by decide +kernel
theorem dX6_stroke_136 : decode cX6_stroke 136 = .ok (.aload_n 0, 1) := by decide +kernel
theorem dX6_stroke_137 : decode cX6_stroke 137 = .ok (.getfield 13, 3) := by decide +kernel
theorem dX6_stroke_140 : decode cX6_stroke 140 = .ok (.iload_n 1, 1) := by decide +kernel
theorem dX6_stroke_141 : decode cX6_stroke 141 = .ok (.iaload, 1) := by decide +kernel
theorem dX6_stroke_142 : decode cX6_stroke 142 = .ok (.ireturn, 1) := by decide +kernel
theorem dX6_isDoubled_0 : decode cX6_isDoubled 0 = .ok (.iconst 0, 1) := by decide +kernel
theorem dX6_isDoubled_1 : decode cX6_isDoubled 1 = .ok (.istore_n 3, 1) := by decide +kernel
theorem dX6_isDoubled_2 : decode cX6_isDoubled 2 = .ok (.aload_n 0, 1) := by decide +kernel
theorem dX6_isDoubled_3 : decode cX6_isDoubled 3 = .ok (.getfield 19, 3) := by decide +kernel
theorem dX6_isDoubled_6 : decode cX6_isDoubled 6 = .ok (.bipush 24, 2) := by decide +kernel
theorem dX6_isDoubled_8 : decode cX6_isDoubled 8 = .ok (.iload_n 1, 1) := by decide +kernel
theorem dX6_isDoubled_9 : decode cX6_isDoubled 9 = .ok (.imul, 1) := by decide +kernel
theorem dX6_isDoubled_10 : decode cX6_isDoubled 10 = .ok (.iload_n 2, 1) := by decide +kernel
theorem dX6_isDoubled_11 : decode cX6_isDoubled 11 = .ok (.iadd, 1) := by decide +kernel
theorem dX6_isDoubled_12 : decode cX6_isDoubled 12 = .ok (.iaload, 1) := by decide +kernel
theorem dX6_isDoubled_13 : decode cX6_isDoubled 13 = .ok (.istore 4, 2) := by decide +kernel
theorem dX6_isDoubled_15 : decode cX6_isDoubled 15 = .ok (.aload_n 0, 1) := by decide +kernel
theorem dX6_isDoubled_16 : decode cX6_isDoubled 16 = .ok (.getfield 22, 3) := by decide +kernel
theorem dX6_isDoubled_19 : decode cX6_isDoubled 19 = .ok (.bipush 24, 2) := by decide +kernel
theorem dX6_isDoubled_21 : decode cX6_isDoubled 21 = .ok (.iload_n 1, 1) := by decide +kernel
theorem dX6_isDoubled_22 : decode cX6_isDoubled 22 = .ok (.imul, 1) := by decide +kernel
theorem dX6_isDoubled_23 : decode cX6_isDoubled 23 = .ok (.iload_n 2, 1) := by decide +kernel
theorem dX6_isDoubled_24 : decode cX6_isDoubled 24 = .ok (.iadd, 1) := by decide +kernel
theorem dX6_isDoubled_25 : decode cX6_isDoubled 25 = .ok (.iaload, 1) := by decide +kernel
theorem dX6_isDoubled_26 : decode cX6_isDoubled 26 = .ok (.istore 5, 2) := by decide +kernel
theorem dX6_isDoubled_28 : decode cX6_isDoubled 28 = .ok (.bipush 24, 2) := by decide +kernel
theorem dX6_isDoubled_30 : decode cX6_isDoubled 30 = .ok (.iload_n 1, 1) := by decide +kernel
theorem dX6_isDoubled_31 : decode cX6_isDoubled 31 = .ok (.imul, 1) := by decide +kernel
theorem dX6_isDoubled_32 : decode cX6_isDoubled 32 = .ok (.istore 6, 2) := by decide +kernel
theorem dX6_isDoubled_34 : decode cX6_isDoubled 34 = .ok (.iload 6, 2) := by decide +kernel
theorem dX6_isDoubled_36 : decode cX6_isDoubled 36 = .ok (.bipush 24, 2) := by decide +kernel
theorem dX6_isDoubled_38 : decode cX6_isDoubled 38 = .ok (.iload_n 1, 1) := by decide +kernel
theorem dX6_isDoubled_39 : decode cX6_isDoubled 39 = .ok (.imul, 1) := by decide +kernel
theorem dX6_isDoubled_40 : decode cX6_isDoubled 40 = .ok (.iload_n 2, 1) := by decide +kernel
theorem dX6_isDoubled_41 : decode cX6_isDoubled 41 = .ok (.iadd, 1) := by decide +kernel
theorem dX6_isDoubled_42 : decode cX6_isDoubled 42 = .ok (.if_icmp .ge 65, 3) := by decide +kernel
theorem dX6_isDoubled_45 : decode cX6_isDoubled 45 = .ok (.iload_n 3, 1) := by decide +kernel
theorem dX6_isDoubled_46 : decode cX6_isDoubled 46 = .ok (.aload_n 0, 1) := by decide +kernel
theorem dX6_isDoubled_47 : decode cX6_isDoubled 47 = .ok (.getfield 19, 3) := by decide +kernel
theorem dX6_isDoubled_50 : decode cX6_isDoubled 50 = .ok (.iload 6, 2) := by decide +kernel
theorem dX6_isDoubled_52 : decode cX6_isDoubled 52 = .ok (.iaload, 1) := by decide +kernel
theorem dX6_isDoubled_53 : decode cX6_isDoubled 53 = .ok (.iload 4, 2) := by decide +kernel
theorem dX6_isDoubled_55 : decode cX6_isDoubled 55 = .ok (.if_icmp .ne 15, 3) := by decide +kernel
theorem dX6_isDoubled_58 : decode cX6_isDoubled 58 = .ok (.aload_n 0, 1) := by decide +kernel
theorem dX6_isDoubled_59 : decode cX6_isDoubled 59 = .ok (.getfield 22, 3) := by decide +kernel
theorem dX6_isDoubled_62 : decode cX6_isDoubled 62 = .ok (.iload 6, 2) := by decide +kernel
theorem dX6_isDoubled_64 : decode cX6_isDoubled 64 = .ok (.iaload, 1) := by decide +kernel
theorem dX6_isDoubled_65 : decode cX6_isDoubled 65 = .ok (.iload 5, 2) := by decide +kernel
theorem dX6_isDoubled_67 : decode cX6_isDoubled 67 = .ok (.if_icmp .eq 27, 3) := by decide +kernel
theorem dX6_isDoubled_70 : decode cX6_isDoubled 70 = .ok (.aload_n 0, 1) := by decide +kernel
theorem dX6_isDoubled_71 : decode cX6_isDoubled 71 = .ok (.getfield 19, 3) := by decide +kernel
theorem dX6_isDoubled_74 : decode cX6_isDoubled 74 = .ok (.iload 6, 2) := by decide +kernel
theorem dX6_isDoubled_76 : decode cX6_isDoubled 76 = .ok (.iaload, 1) := by decide +kernel
theorem dX6_isDoubled_77 : decode cX6_isDoubled 77 = .ok (.iload 5, 2) := by decide +kernel
theorem dX6_isDoubled_79 : decode cX6_isDoubled 79 = .ok (.if_icmp .ne 19, 3) := by decide +kernel
theorem dX6_isDoubled_82 : decode cX6_isDoubled 82 = .ok (.aload_n 0, 1) := by decide +kernel
theorem dX6_isDoubled_83 : decode cX6_isDoubled 83 = .ok (.getfield 22, 3) := by decide +kernel
theorem dX6_isDoubled_86 : decode cX6_isDoubled 86 = .ok (.iload 6, 2) := by decide +kernel
theorem dX6_isDoubled_88 : decode cX6_isDoubled 88 = .ok (.iaload, 1) := by decide +kernel
theorem dX6_isDoubled_89 : decode cX6_isDoubled 89 = .ok (.iload 4, 2) := by decide +kernel
theorem dX6_isDoubled_91 : decode cX6_isDoubled 91 = .ok (.if_icmp .ne 7, 3) := by decide +kernel
theorem dX6_isDoubled_94 : decode cX6_isDoubled 94 = .ok (.iconst 1, 1) := by decide +kernel
theorem dX6_isDoubled_95 : decode cX6_isDoubled 95 = .ok (.goto 4, 3) := by decide +kernel
theorem dX6_isDoubled_98 : decode cX6_isDoubled 98 = .ok (.iconst 0, 1) := by decide +kernel
theorem dX6_isDoubled_99 : decode cX6_isDoubled 99 = .ok (.ior, 1) := by decide +kernel
theorem dX6_isDoubled_100 : decode cX6_isDoubled 100 = .ok (.istore_n 3, 1) := by decide +kernel
theorem dX6_isDoubled_101 : decode cX6_isDoubled 101 = .ok (.iinc 6 1, 3) := by decide +kernel
theorem dX6_isDoubled_104 : decode cX6_isDoubled 104 = .ok (.goto (-70), 3) := by decide +kernel
theorem dX6_isDoubled_107 : decode cX6_isDoubled 107 = .ok (.iload_n 3, 1) := by decide +kernel
theorem dX6_isDoubled_108 : decode cX6_isDoubled 108 = .ok (.ireturn, 1) := by decide +kernel
theorem dX6_mends_0 : decode cX6_mends 0 = .ok (.iconst 0, 1) := by decide +kernel
theorem dX6_mends_1 : decode cX6_mends 1 = .ok (.istore_n 2, 1) := by decide +kernel
theorem dX6_mends_2 : decode cX6_mends 2 = .ok (.iload_n 2, 1) := by decide +kernel
theorem dX6_mends_3 : decode cX6_mends 3 = .ok (.aload_n 0, 1) := by decide +kernel
theorem dX6_mends_4 : decode cX6_mends 4 = .ok (.getfield 13, 3) := by decide +kernel
theorem dX6_mends_7 : decode cX6_mends 7 = .ok (.iload_n 1, 1) := by decide +kernel
theorem dX6_mends_8 : decode cX6_mends 8 = .ok (.iaload, 1) := by decide +kernel
theorem dX6_mends_9 : decode cX6_mends 9 = .ok (.if_icmp .ge 87, 3) := by decide +kernel
theorem dX6_mends_12 : decode cX6_mends 12 = .ok (.aload_n 0, 1) := by decide +kernel
theorem dX6_mends_13 : decode cX6_mends 13 = .ok (.iload_n 1, 1) := by decide +kernel
theorem dX6_mends_14 : decode cX6_mends 14 = .ok (.iload_n 2, 1) := by decide +kernel
theorem dX6_mends_15 : decode cX6_mends 15 = .ok (.invokevirtual 85, 3) := by decide +kernel
theorem dX6_mends_18 : decode cX6_mends 18 = .ok (.ifCond .eq 72, 3) := by decide +kernel
theorem dX6_mends_21 : decode cX6_mends 21 = .ok (.aload_n 0, 1) := by decide +kernel
theorem dX6_mends_22 : decode cX6_mends 22 = .ok (.getfield 13, 3) := by decide +kernel
theorem dX6_mends_25 : decode cX6_mends 25 = .ok (.iload_n 1, 1) := by decide +kernel
theorem dX6_mends_26 : decode cX6_mends 26 = .ok (.dup2, 1) := by decide +kernel
theorem dX6_mends_27 : decode cX6_mends 27 = .ok (.iaload, 1) := by decide +kernel
theorem dX6_mends_28 : decode cX6_mends 28 = .ok (.iconst 1, 1) := by decide +kernel
theorem dX6_mends_29 : decode cX6_mends 29 = .ok (.isub, 1) := by decide +kernel
theorem dX6_mends_30 : decode cX6_mends 30 = .ok (.iastore, 1) := by decide +kernel
theorem dX6_mends_31 : decode cX6_mends 31 = .ok (.bipush 24, 2) := by decide +kernel
theorem dX6_mends_33 : decode cX6_mends 33 = .ok (.iload_n 1, 1) := by decide +kernel
theorem dX6_mends_34 : decode cX6_mends 34 = .ok (.imul, 1) := by decide +kernel
theorem dX6_mends_35 : decode cX6_mends 35 = .ok (.iload_n 2, 1) := by decide +kernel
theorem dX6_mends_36 : decode cX6_mends 36 = .ok (.iadd, 1) := by decide +kernel
theorem dX6_mends_37 : decode cX6_mends 37 = .ok (.istore_n 3, 1) := by decide +kernel
theorem dX6_mends_38 : decode cX6_mends 38 = .ok (.iload_n 3, 1) := by decide +kernel
theorem dX6_mends_39 : decode cX6_mends 39 = .ok (.bipush 24, 2) := by decide +kernel
theorem dX6_mends_41 : decode cX6_mends 41 = .ok (.iload_n 1, 1) := by decide +kernel
theorem dX6_mends_42 : decode cX6_mends 42 = .ok (.imul, 1) := by decide +kernel
theorem dX6_mends_43 : decode cX6_mends 43 = .ok (.aload_n 0, 1) := by decide +kernel
theorem dX6_mends_44 : decode cX6_mends 44 = .ok (.getfield 13, 3) := by decide +kernel
theorem dX6_mends_47 : decode cX6_mends 47 = .ok (.iload_n 1, 1) := by decide +kernel
theorem dX6_mends_48 : decode cX6_mends 48 = .ok (.iaload, 1) := by decide +kernel
theorem dX6_mends_49 : decode cX6_mends 49 = .ok (.iadd, 1) := by decide +kernel
theorem dX6_mends_50 : decode cX6_mends 50 = .ok (.if_icmp .ge 37, 3) := by decide +kernel
theorem dX6_mends_53 : decode cX6_mends 53 = .ok (.aload_n 0, 1) := by decide +kernel
theorem dX6_mends_54 : decode cX6_mends 54 = .ok (.getfield 19, 3) := by decide +kernel
theorem dX6_mends_57 : decode cX6_mends 57 = .ok (.iload_n 3, 1) := by decide +kernel
theorem dX6_mends_58 : decode cX6_mends 58 = .ok (.aload_n 0, 1) := by decide +kernel
theorem dX6_mends_59 : decode cX6_mends 59 = .ok (.getfield 19, 3) := by decide +kernel
theorem dX6_mends_62 : decode cX6_mends 62 = .ok (.iload_n 3, 1) := by decide +kernel
theorem dX6_mends_63 : decode cX6_mends 63 = .ok (.iconst 1, 1) := by decide +kernel
theorem dX6_mends_64 : decode cX6_mends 64 = .ok (.iadd, 1) := by decide +kernel
theorem dX6_mends_65 : decode cX6_mends 65 = .ok (.iaload, 1) := by decide +kernel
theorem dX6_mends_66 : decode cX6_mends 66 = .ok (.iastore, 1) := by decide +kernel
theorem dX6_mends_67 : decode cX6_mends 67 = .ok (.aload_n 0, 1) := by decide +kernel
theorem dX6_mends_68 : decode cX6_mends 68 = .ok (.getfield 22, 3) := by decide +kernel
theorem dX6_mends_71 : decode cX6_mends 71 = .ok (.iload_n 3, 1) := by decide +kernel
theorem dX6_mends_72 : decode cX6_mends 72 = .ok (.aload_n 0, 1) := by decide +kernel
theorem dX6_mends_73 : decode cX6_mends 73 = .ok (.getfield 22, 3) := by decide +kernel
theorem dX6_mends_76 : decode cX6_mends 76 = .ok (.iload_n 3, 1) := by decide +kernel
theorem dX6_mends_77 : decode cX6_mends 77 = .ok (.iconst 1, 1) := by decide +kernel
theorem dX6_mends_78 : decode cX6_mends 78 = .ok (.iadd, 1) := by decide +kernel
theorem dX6_mends_79 : decode cX6_mends 79 = .ok (.iaload, 1) := by decide +kernel
theorem dX6_mends_80 : decode cX6_mends 80 = .ok (.iastore, 1) := by decide +kernel
theorem dX6_mends_81 : decode cX6_mends 81 = .ok (.iinc 3 1, 3) := by decide +kernel
theorem dX6_mends_84 : decode cX6_mends 84 = .ok (.goto (-46), 3) := by decide +kernel
theorem dX6_mends_87 : decode cX6_mends 87 = .ok (.goto (-85), 3) := by decide +kernel
theorem dX6_mends_90 : decode cX6_mends 90 = .ok (.iinc 2 1, 3) := by decide +kernel
theorem dX6_mends_93 : decode cX6_mends 93 = .ok (.goto (-91), 3) := by decide +kernel
theorem dX6_mends_96 : decode cX6_mends 96 = .ok (.return_, 1) := by decide +kernel
theorem dX6_fault_0 : decode cX6_fault 0 = .ok (.iconst 0, 1) := by decide +kernel
theorem dX6_fault_1 : decode cX6_fault 1 = .ok (.istore_n 2, 1) := by decide +kernel
theorem dX6_fault_2 : decode cX6_fault 2 = .ok (.iload_n 2, 1) := by decide +kernel
theorem dX6_fault_3 : decode cX6_fault 3 = .ok (.sipush 1024, 3) := by decide +kernel
theorem dX6_fault_6 : decode cX6_fault 6 = .ok (.if_icmp .ge 16, 3) := by decide +kernel
theorem dX6_fault_9 : decode cX6_fault 9 = .ok (.aload_n 0, 1) := by decide +kernel
theorem dX6_fault_10 : decode cX6_fault 10 = .ok (.getfield 25, 3) := by decide +kernel
theorem dX6_fault_13 : decode cX6_fault 13 = .ok (.iload_n 2, 1) := by decide +kernel
theorem dX6_fault_14 : decode cX6_fault 14 = .ok (.iconst 0, 1) := by decide +kernel
theorem dX6_fault_15 : decode cX6_fault 15 = .ok (.iastore, 1) := by decide +kernel
theorem dX6_fault_16 : decode cX6_fault 16 = .ok (.iinc 2 1, 3) := by decide +kernel
theorem dX6_fault_19 : decode cX6_fault 19 = .ok (.goto (-17), 3) := by decide +kernel
theorem dX6_fault_22 : decode cX6_fault 22 = .ok (.bipush 24, 2) := by decide +kernel
theorem dX6_fault_24 : decode cX6_fault 24 = .ok (.iload_n 1, 1) := by decide +kernel
theorem dX6_fault_25 : decode cX6_fault 25 = .ok (.imul, 1) := by decide +kernel
theorem dX6_fault_26 : decode cX6_fault 26 = .ok (.istore_n 2, 1) := by decide +kernel
theorem dX6_fault_27 : decode cX6_fault 27 = .ok (.iload_n 2, 1) := by decide +kernel
theorem dX6_fault_28 : decode cX6_fault 28 = .ok (.bipush 24, 2) := by decide +kernel
theorem dX6_fault_30 : decode cX6_fault 30 = .ok (.iload_n 1, 1) := by decide +kernel
theorem dX6_fault_31 : decode cX6_fault 31 = .ok (.imul, 1) := by decide +kernel
theorem dX6_fault_32 : decode cX6_fault 32 = .ok (.aload_n 0, 1) := by decide +kernel
theorem dX6_fault_33 : decode cX6_fault 33 = .ok (.getfield 13, 3) := by decide +kernel
theorem dX6_fault_36 : decode cX6_fault 36 = .ok (.iload_n 1, 1) := by decide +kernel
theorem dX6_fault_37 : decode cX6_fault 37 = .ok (.iaload, 1) := by decide +kernel
theorem dX6_fault_38 : decode cX6_fault 38 = .ok (.iadd, 1) := by decide +kernel
theorem dX6_fault_39 : decode cX6_fault 39 = .ok (.if_icmp .ge 39, 3) := by decide +kernel
theorem dX6_fault_42 : decode cX6_fault 42 = .ok (.aload_n 0, 1) := by decide +kernel
theorem dX6_fault_43 : decode cX6_fault 43 = .ok (.getfield 25, 3) := by decide +kernel
theorem dX6_fault_46 : decode cX6_fault 46 = .ok (.aload_n 0, 1) := by decide +kernel
theorem dX6_fault_47 : decode cX6_fault 47 = .ok (.getfield 19, 3) := by decide +kernel
theorem dX6_fault_50 : decode cX6_fault 50 = .ok (.iload_n 2, 1) := by decide +kernel
theorem dX6_fault_51 : decode cX6_fault 51 = .ok (.iaload, 1) := by decide +kernel
theorem dX6_fault_52 : decode cX6_fault 52 = .ok (.dup2, 1) := by decide +kernel
theorem dX6_fault_53 : decode cX6_fault 53 = .ok (.iaload, 1) := by decide +kernel
theorem dX6_fault_54 : decode cX6_fault 54 = .ok (.iconst 1, 1) := by decide +kernel
theorem dX6_fault_55 : decode cX6_fault 55 = .ok (.iadd, 1) := by decide +kernel
theorem dX6_fault_56 : decode cX6_fault 56 = .ok (.iastore, 1) := by decide +kernel
theorem dX6_fault_57 : decode cX6_fault 57 = .ok (.aload_n 0, 1) := by decide +kernel
theorem dX6_fault_58 : decode cX6_fault 58 = .ok (.getfield 25, 3) := by decide +kernel
theorem dX6_fault_61 : decode cX6_fault 61 = .ok (.aload_n 0, 1) := by decide +kernel
theorem dX6_fault_62 : decode cX6_fault 62 = .ok (.getfield 22, 3) := by decide +kernel
theorem dX6_fault_65 : decode cX6_fault 65 = .ok (.iload_n 2, 1) := by decide +kernel
theorem dX6_fault_66 : decode cX6_fault 66 = .ok (.iaload, 1) := by decide +kernel
theorem dX6_fault_67 : decode cX6_fault 67 = .ok (.dup2, 1) := by decide +kernel
theorem dX6_fault_68 : decode cX6_fault 68 = .ok (.iaload, 1) := by decide +kernel
theorem dX6_fault_69 : decode cX6_fault 69 = .ok (.iconst 1, 1) := by decide +kernel
theorem dX6_fault_70 : decode cX6_fault 70 = .ok (.iadd, 1) := by decide +kernel
theorem dX6_fault_71 : decode cX6_fault 71 = .ok (.iastore, 1) := by decide +kernel
theorem dX6_fault_72 : decode cX6_fault 72 = .ok (.iinc 2 1, 3) := by decide +kernel
theorem dX6_fault_75 : decode cX6_fault 75 = .ok (.goto (-48), 3) := by decide +kernel
theorem dX6_fault_78 : decode cX6_fault 78 = .ok (.iconst 0, 1) := by decide +kernel
theorem dX6_fault_79 : decode cX6_fault 79 = .ok (.istore_n 2, 1) := by decide +kernel
theorem dX6_fault_80 : decode cX6_fault 80 = .ok (.iload_n 2, 1) := by decide +kernel
theorem dX6_fault_81 : decode cX6_fault 81 = .ok (.sipush 1024, 3) := by decide +kernel
theorem dX6_fault_84 : decode cX6_fault 84 = .ok (.if_icmp .ge 30, 3) := by decide +kernel
theorem dX6_fault_87 : decode cX6_fault 87 = .ok (.aload_n 0, 1) := by decide +kernel
theorem dX6_fault_88 : decode cX6_fault 88 = .ok (.getfield 25, 3) := by decide +kernel
theorem dX6_fault_91 : decode cX6_fault 91 = .ok (.iload_n 2, 1) := by decide +kernel
theorem dX6_fault_92 : decode cX6_fault 92 = .ok (.iaload, 1) := by decide +kernel
theorem dX6_fault_93 : decode cX6_fault 93 = .ok (.ifCond .eq 15, 3) := by decide +kernel
theorem dX6_fault_96 : decode cX6_fault 96 = .ok (.aload_n 0, 1) := by decide +kernel
theorem dX6_fault_97 : decode cX6_fault 97 = .ok (.getfield 25, 3) := by decide +kernel
theorem dX6_fault_100 : decode cX6_fault 100 = .ok (.iload_n 2, 1) := by decide +kernel
theorem dX6_fault_101 : decode cX6_fault 101 = .ok (.iaload, 1) := by decide +kernel
theorem dX6_fault_102 : decode cX6_fault 102 = .ok (.iconst 2, 1) := by decide +kernel
theorem dX6_fault_103 : decode cX6_fault 103 = .ok (.if_icmp .eq 5, 3) := by decide +kernel
theorem dX6_fault_106 : decode cX6_fault 106 = .ok (.iload_n 2, 1) := by decide +kernel
theorem dX6_fault_107 : decode cX6_fault 107 = .ok (.ireturn, 1) := by decide +kernel
theorem dX6_fault_108 : decode cX6_fault 108 = .ok (.iinc 2 1, 3) := by decide +kernel
theorem dX6_fault_111 : decode cX6_fault 111 = .ok (.goto (-31), 3) := by decide +kernel
theorem dX6_fault_114 : decode cX6_fault 114 = .ok (.aload_n 0, 1) := by decide +kernel
theorem dX6_fault_115 : decode cX6_fault 115 = .ok (.getfield 13, 3) := by decide +kernel
theorem dX6_fault_118 : decode cX6_fault 118 = .ok (.iload_n 1, 1) := by decide +kernel
theorem dX6_fault_119 : decode cX6_fault 119 = .ok (.iaload, 1) := by decide +kernel
theorem dX6_fault_120 : decode cX6_fault 120 = .ok (.ifCond .ne 9, 3) := by decide +kernel
theorem dX6_fault_123 : decode cX6_fault 123 = .ok (.sipush 1024, 3) := by decide +kernel
theorem dX6_fault_126 : decode cX6_fault 126 = .ok (.goto 4, 3) := by decide +kernel
theorem dX6_fault_129 : decode cX6_fault 129 = .ok (.iconst (-1), 1) := by decide +kernel
theorem dX6_fault_130 : decode cX6_fault 130 = .ok (.ireturn, 1) := by decide +kernel
theorem dX6_finish_0 : decode cX6_finish 0 = .ok (.aload_n 0, 1) := by decide +kernel
theorem dX6_finish_1 : decode cX6_finish 1 = .ok (.aload_n 0, 1) := by decide +kernel
theorem dX6_finish_2 : decode cX6_finish 2 = .ok (.iload_n 1, 1) := by decide +kernel
theorem dX6_finish_3 : decode cX6_finish 3 = .ok (.invokevirtual 82, 3) := by decide +kernel
theorem dX6_finish_6 : decode cX6_finish 6 = .ok (.ifCond .ne 7, 3) := by decide +kernel
theorem dX6_finish_9 : decode cX6_finish 9 = .ok (.iconst 1, 1) := by decide +kernel
theorem dX6_finish_10 : decode cX6_finish 10 = .ok (.goto 18, 3) := by decide +kernel
theorem dX6_finish_13 : decode cX6_finish 13 = .ok (.aload_n 0, 1) := by decide +kernel
theorem dX6_finish_14 : decode cX6_finish 14 = .ok (.getfield 7, 3) := by decide +kernel
theorem dX6_finish_17 : decode cX6_finish 17 = .ok (.iload_n 1, 1) := by decide +kernel
theorem dX6_finish_18 : decode cX6_finish 18 = .ok (.iaload, 1) := by decide +kernel
theorem dX6_finish_19 : decode cX6_finish 19 = .ok (.iconst 1, 1) := by decide +kernel
theorem dX6_finish_20 : decode cX6_finish 20 = .ok (.if_icmp .ne 7, 3) := by decide +kernel
theorem dX6_finish_23 : decode cX6_finish 23 = .ok (.iconst 2, 1) := by decide +kernel
theorem dX6_finish_24 : decode cX6_finish 24 = .ok (.goto 4, 3) := by decide +kernel
theorem dX6_finish_27 : decode cX6_finish 27 = .ok (.iconst 0, 1) := by decide +kernel
theorem dX6_finish_28 : decode cX6_finish 28 = .ok (.invokevirtual 78, 3) := by decide +kernel
theorem dX6_finish_31 : decode cX6_finish 31 = .ok (.ifCond .eq 5, 3) := by decide +kernel
theorem dX6_finish_34 : decode cX6_finish 34 = .ok (.iconst (-1), 1) := by decide +kernel
theorem dX6_finish_35 : decode cX6_finish 35 = .ok (.ireturn, 1) := by decide +kernel
theorem dX6_finish_36 : decode cX6_finish 36 = .ok (.aload_n 0, 1) := by decide +kernel
theorem dX6_finish_37 : decode cX6_finish 37 = .ok (.iload_n 1, 1) := by decide +kernel
theorem dX6_finish_38 : decode cX6_finish 38 = .ok (.invokevirtual 89, 3) := by decide +kernel
theorem dX6_finish_41 : decode cX6_finish 41 = .ok (.aload_n 0, 1) := by decide +kernel
theorem dX6_finish_42 : decode cX6_finish 42 = .ok (.iload_n 1, 1) := by decide +kernel
theorem dX6_finish_43 : decode cX6_finish 43 = .ok (.invokevirtual 93, 3) := by decide +kernel
theorem dX6_finish_46 : decode cX6_finish 46 = .ok (.istore_n 2, 1) := by decide +kernel
theorem dX6_finish_47 : decode cX6_finish 47 = .ok (.iload_n 2, 1) := by decide +kernel
theorem dX6_finish_48 : decode cX6_finish 48 = .ok (.ifCond .ge 14, 3) := by decide +kernel
theorem dX6_finish_51 : decode cX6_finish 51 = .ok (.aload_n 0, 1) := by decide +kernel
theorem dX6_finish_52 : decode cX6_finish 52 = .ok (.getfield 7, 3) := by decide +kernel
theorem dX6_finish_55 : decode cX6_finish 55 = .ok (.iload_n 1, 1) := by decide +kernel
theorem dX6_finish_56 : decode cX6_finish 56 = .ok (.iconst 1, 1) := by decide +kernel
theorem dX6_finish_57 : decode cX6_finish 57 = .ok (.iastore, 1) := by decide +kernel
theorem dX6_finish_58 : decode cX6_finish 58 = .ok (.aload_n 0, 1) := by decide +kernel
theorem dX6_finish_59 : decode cX6_finish 59 = .ok (.invokevirtual 97, 3) := by decide +kernel
theorem dX6_finish_62 : decode cX6_finish 62 = .ok (.iload_n 2, 1) := by decide +kernel
theorem dX6_finish_63 : decode cX6_finish 63 = .ok (.ireturn, 1) := by decide +kernel
theorem dX6_size_0 : decode cX6_size 0 = .ok (.bipush 32, 2) := by decide +kernel
theorem dX6_size_2 : decode cX6_size 2 = .ok (.istore_n 3, 1) := by decide +kernel
theorem dX6_size_3 : decode cX6_size 3 = .ok (.iconst (-1), 1) := by decide +kernel
theorem dX6_size_4 : decode cX6_size 4 = .ok (.istore 4, 2) := by decide +kernel
theorem dX6_size_6 : decode cX6_size 6 = .ok (.bipush 24, 2) := by decide +kernel
theorem dX6_size_8 : decode cX6_size 8 = .ok (.iload_n 1, 1) := by decide +kernel
theorem dX6_size_9 : decode cX6_size 9 = .ok (.imul, 1) := by decide +kernel
theorem dX6_size_10 : decode cX6_size 10 = .ok (.istore 5, 2) := by decide +kernel
theorem dX6_size_12 : decode cX6_size 12 = .ok (.iload 5, 2) := by decide +kernel
theorem dX6_size_14 : decode cX6_size 14 = .ok (.bipush 24, 2) := by decide +kernel
theorem dX6_size_16 : decode cX6_size 16 = .ok (.iload_n 1, 1) := by decide +kernel
theorem dX6_size_17 : decode cX6_size 17 = .ok (.imul, 1) := by decide +kernel
theorem dX6_size_18 : decode cX6_size 18 = .ok (.aload_n 0, 1) := by decide +kernel
theorem dX6_size_19 : decode cX6_size 19 = .ok (.getfield 13, 3) := by decide +kernel
theorem dX6_size_22 : decode cX6_size 22 = .ok (.iload_n 1, 1) := by decide +kernel
theorem dX6_size_23 : decode cX6_size 23 = .ok (.iaload, 1) := by decide +kernel
theorem dX6_size_24 : decode cX6_size 24 = .ok (.iadd, 1) := by decide +kernel
theorem dX6_size_25 : decode cX6_size 25 = .ok (.if_icmp .ge 125, 3) := by decide +kernel
theorem dX6_size_28 : decode cX6_size 28 = .ok (.iload_n 2, 1) := by decide +kernel
theorem dX6_size_29 : decode cX6_size 29 = .ok (.ifCond .eq 16, 3) := by decide +kernel
theorem dX6_size_32 : decode cX6_size 32 = .ok (.aload_n 0, 1) := by decide +kernel
theorem dX6_size_33 : decode cX6_size 33 = .ok (.getfield 19, 3) := by decide +kernel
theorem dX6_size_36 : decode cX6_size 36 = .ok (.iload 5, 2) := by decide +kernel
theorem dX6_size_38 : decode cX6_size 38 = .ok (.iaload, 1) := by decide +kernel
theorem dX6_size_39 : decode cX6_size 39 = .ok (.bipush 32, 2) := by decide +kernel
theorem dX6_size_41 : decode cX6_size 41 = .ok (.irem, 1) := by decide +kernel
theorem dX6_size_42 : decode cX6_size 42 = .ok (.goto 13, 3) := by decide +kernel
theorem dX6_size_45 : decode cX6_size 45 = .ok (.aload_n 0, 1) := by decide +kernel
theorem dX6_size_46 : decode cX6_size 46 = .ok (.getfield 19, 3) := by decide +kernel
theorem dX6_size_49 : decode cX6_size 49 = .ok (.iload 5, 2) := by decide +kernel
theorem dX6_size_51 : decode cX6_size 51 = .ok (.iaload, 1) := by decide +kernel
theorem dX6_size_52 : decode cX6_size 52 = .ok (.bipush 32, 2) := by decide +kernel
theorem dX6_size_54 : decode cX6_size 54 = .ok (.idiv, 1) := by decide +kernel
theorem dX6_size_55 : decode cX6_size 55 = .ok (.istore 6, 2) := by decide +kernel
theorem dX6_size_57 : decode cX6_size 57 = .ok (.iload_n 2, 1) := by decide +kernel
theorem dX6_size_58 : decode cX6_size 58 = .ok (.ifCond .eq 16, 3) := by decide +kernel
theorem dX6_size_61 : decode cX6_size 61 = .ok (.aload_n 0, 1) := by decide +kernel
theorem dX6_size_62 : decode cX6_size 62 = .ok (.getfield 22, 3) := by decide +kernel
theorem dX6_size_65 : decode cX6_size 65 = .ok (.iload 5, 2) := by decide +kernel
theorem dX6_size_67 : decode cX6_size 67 = .ok (.iaload, 1) := by decide +kernel
theorem dX6_size_68 : decode cX6_size 68 = .ok (.bipush 32, 2) := by decide +kernel
theorem dX6_size_70 : decode cX6_size 70 = .ok (.irem, 1) := by decide +kernel
theorem dX6_size_71 : decode cX6_size 71 = .ok (.goto 13, 3) := by decide +kernel
theorem dX6_size_74 : decode cX6_size 74 = .ok (.aload_n 0, 1) := by decide +kernel
theorem dX6_size_75 : decode cX6_size 75 = .ok (.getfield 22, 3) := by decide +kernel
theorem dX6_size_78 : decode cX6_size 78 = .ok (.iload 5, 2) := by decide +kernel
theorem dX6_size_80 : decode cX6_size 80 = .ok (.iaload, 1) := by decide +kernel
theorem dX6_size_81 : decode cX6_size 81 = .ok (.bipush 32, 2) := by decide +kernel
theorem dX6_size_83 : decode cX6_size 83 = .ok (.idiv, 1) := by decide +kernel
theorem dX6_size_84 : decode cX6_size 84 = .ok (.istore 7, 2) := by decide +kernel
theorem dX6_size_86 : decode cX6_size 86 = .ok (.iload 6, 2) := by decide +kernel
theorem dX6_size_88 : decode cX6_size 88 = .ok (.iload_n 3, 1) := by decide +kernel
theorem dX6_size_89 : decode cX6_size 89 = .ok (.if_icmp .ge 8, 3) := by decide +kernel
theorem dX6_size_92 : decode cX6_size 92 = .ok (.iload 6, 2) := by decide +kernel
theorem dX6_size_94 : decode cX6_size 94 = .ok (.goto 4, 3) := by decide +kernel
theorem dX6_size_97 : decode cX6_size 97 = .ok (.iload_n 3, 1) := by decide +kernel
theorem dX6_size_98 : decode cX6_size 98 = .ok (.istore_n 3, 1) := by decide +kernel
theorem dX6_size_99 : decode cX6_size 99 = .ok (.iload 7, 2) := by decide +kernel
theorem dX6_size_101 : decode cX6_size 101 = .ok (.iload_n 3, 1) := by decide +kernel
theorem dX6_size_102 : decode cX6_size 102 = .ok (.if_icmp .ge 8, 3) := by decide +kernel
theorem dX6_size_105 : decode cX6_size 105 = .ok (.iload 7, 2) := by decide +kernel
theorem dX6_size_107 : decode cX6_size 107 = .ok (.goto 4, 3) := by decide +kernel
theorem dX6_size_110 : decode cX6_size 110 = .ok (.iload_n 3, 1) := by decide +kernel
theorem dX6_size_111 : decode cX6_size 111 = .ok (.istore_n 3, 1) := by decide +kernel
theorem dX6_size_112 : decode cX6_size 112 = .ok (.iload 6, 2) := by decide +kernel
theorem dX6_size_114 : decode cX6_size 114 = .ok (.iload 4, 2) := by decide +kernel
theorem dX6_size_116 : decode cX6_size 116 = .ok (.if_icmp .le 8, 3) := by decide +kernel
theorem dX6_size_119 : decode cX6_size 119 = .ok (.iload 6, 2) := by decide +kernel
theorem dX6_size_121 : decode cX6_size 121 = .ok (.goto 5, 3) := by decide +kernel
theorem dX6_size_124 : decode cX6_size 124 = .ok (.iload 4, 2) := by decide +kernel
theorem dX6_size_126 : decode cX6_size 126 = .ok (.istore 4, 2) := by decide +kernel
theorem dX6_size_128 : decode cX6_size 128 = .ok (.iload 7, 2) := by decide +kernel
theorem dX6_size_130 : decode cX6_size 130 = .ok (.iload 4, 2) := by decide +kernel
theorem dX6_size_132 : decode cX6_size 132 = .ok (.if_icmp .le 8, 3) := by decide +kernel
theorem dX6_size_135 : decode cX6_size 135 = .ok (.iload 7, 2) := by decide +kernel
theorem dX6_size_137 : decode cX6_size 137 = .ok (.goto 5, 3) := by decide +kernel
theorem dX6_size_140 : decode cX6_size 140 = .ok (.iload 4, 2) := by decide +kernel
theorem dX6_size_142 : decode cX6_size 142 = .ok (.istore 4, 2) := by decide +kernel
theorem dX6_size_144 : decode cX6_size 144 = .ok (.iinc 5 1, 3) := by decide +kernel
theorem dX6_size_147 : decode cX6_size 147 = .ok (.goto (-135), 3) := by decide +kernel
theorem dX6_size_150 : decode cX6_size 150 = .ok (.iload 4, 2) := by decide +kernel
theorem dX6_size_152 : decode cX6_size 152 = .ok (.ifCond .ge 7, 3) := by decide +kernel
theorem dX6_size_155 : decode cX6_size 155 = .ok (.iconst 0, 1) := by decide +kernel
theorem dX6_size_156 : decode cX6_size 156 = .ok (.goto 9, 3) := by decide +kernel
theorem dX6_size_159 : decode cX6_size 159 = .ok (.iload 4, 2) := by decide +kernel
theorem dX6_size_161 : decode cX6_size 161 = .ok (.iload_n 3, 1) := by decide +kernel
theorem dX6_size_162 : decode cX6_size 162 = .ok (.isub, 1) := by decide +kernel
theorem dX6_size_163 : decode cX6_size 163 = .ok (.iconst 1, 1) := by decide +kernel
theorem dX6_size_164 : decode cX6_size 164 = .ok (.iadd, 1) := by decide +kernel
theorem dX6_size_165 : decode cX6_size 165 = .ok (.ireturn, 1) := by decide +kernel
theorem dX6_ofDrawing_0 : decode cX6_ofDrawing 0 = .ok (.aload_n 0, 1) := by decide +kernel
theorem dX6_ofDrawing_1 : decode cX6_ofDrawing 1 = .ok (.aload_n 0, 1) := by decide +kernel
theorem dX6_ofDrawing_2 : decode cX6_ofDrawing 2 = .ok (.iload_n 1, 1) := by decide +kernel
theorem dX6_ofDrawing_3 : decode cX6_ofDrawing 3 = .ok (.invokevirtual 82, 3) := by decide +kernel
theorem dX6_ofDrawing_6 : decode cX6_ofDrawing 6 = .ok (.ifCond .ne 7, 3) := by decide +kernel
theorem dX6_ofDrawing_9 : decode cX6_ofDrawing 9 = .ok (.iconst 1, 1) := by decide +kernel
theorem dX6_ofDrawing_10 : decode cX6_ofDrawing 10 = .ok (.goto 18, 3) := by decide +kernel
theorem dX6_ofDrawing_13 : decode cX6_ofDrawing 13 = .ok (.aload_n 0, 1) := by decide +kernel
theorem dX6_ofDrawing_14 : decode cX6_ofDrawing 14 = .ok (.iload_n 2, 1) := by decide +kernel
theorem dX6_ofDrawing_15 : decode cX6_ofDrawing 15 = .ok (.iconst 0, 1) := by decide +kernel
theorem dX6_ofDrawing_16 : decode cX6_ofDrawing 16 = .ok (.iconst 4, 1) := by decide +kernel
theorem dX6_ofDrawing_17 : decode cX6_ofDrawing 17 = .ok (.invokevirtual 74, 3) := by decide +kernel
theorem dX6_ofDrawing_20 : decode cX6_ofDrawing 20 = .ok (.ifCond .eq 7, 3) := by decide +kernel
theorem dX6_ofDrawing_23 : decode cX6_ofDrawing 23 = .ok (.iconst 0, 1) := by decide +kernel
theorem dX6_ofDrawing_24 : decode cX6_ofDrawing 24 = .ok (.goto 4, 3) := by decide +kernel
theorem dX6_ofDrawing_27 : decode cX6_ofDrawing 27 = .ok (.iconst 2, 1) := by decide +kernel
theorem dX6_ofDrawing_28 : decode cX6_ofDrawing 28 = .ok (.invokevirtual 78, 3) := by decide +kernel
theorem dX6_ofDrawing_31 : decode cX6_ofDrawing 31 = .ok (.ifCond .eq 5, 3) := by decide +kernel
theorem dX6_ofDrawing_34 : decode cX6_ofDrawing 34 = .ok (.iconst (-1), 1) := by decide +kernel
theorem dX6_ofDrawing_35 : decode cX6_ofDrawing 35 = .ok (.ireturn, 1) := by decide +kernel
theorem dX6_ofDrawing_36 : decode cX6_ofDrawing 36 = .ok (.iload_n 2, 1) := by decide +kernel
theorem dX6_ofDrawing_37 : decode cX6_ofDrawing 37 = .ok (.tableswitch 59 0 3 #[31, 38, 45, 52], 31) := by decide +kernel
theorem dX6_ofDrawing_68 : decode cX6_ofDrawing 68 = .ok (.aload_n 0, 1) := by decide +kernel
theorem dX6_ofDrawing_69 : decode cX6_ofDrawing 69 = .ok (.getfield 7, 3) := by decide +kernel
theorem dX6_ofDrawing_72 : decode cX6_ofDrawing 72 = .ok (.iload_n 1, 1) := by decide +kernel
theorem dX6_ofDrawing_73 : decode cX6_ofDrawing 73 = .ok (.iaload, 1) := by decide +kernel
theorem dX6_ofDrawing_74 : decode cX6_ofDrawing 74 = .ok (.ireturn, 1) := by decide +kernel
theorem dX6_ofDrawing_75 : decode cX6_ofDrawing 75 = .ok (.aload_n 0, 1) := by decide +kernel
theorem dX6_ofDrawing_76 : decode cX6_ofDrawing 76 = .ok (.getfield 13, 3) := by decide +kernel
theorem dX6_ofDrawing_79 : decode cX6_ofDrawing 79 = .ok (.iload_n 1, 1) := by decide +kernel
theorem dX6_ofDrawing_80 : decode cX6_ofDrawing 80 = .ok (.iaload, 1) := by decide +kernel
theorem dX6_ofDrawing_81 : decode cX6_ofDrawing 81 = .ok (.ireturn, 1) := by decide +kernel
theorem dX6_ofDrawing_82 : decode cX6_ofDrawing 82 = .ok (.aload_n 0, 1) := by decide +kernel
theorem dX6_ofDrawing_83 : decode cX6_ofDrawing 83 = .ok (.iload_n 1, 1) := by decide +kernel
theorem dX6_ofDrawing_84 : decode cX6_ofDrawing 84 = .ok (.iconst 1, 1) := by decide +kernel
theorem dX6_ofDrawing_85 : decode cX6_ofDrawing 85 = .ok (.invokevirtual 100, 3) := by decide +kernel
theorem dX6_ofDrawing_88 : decode cX6_ofDrawing 88 = .ok (.ireturn, 1) := by decide +kernel
theorem dX6_ofDrawing_89 : decode cX6_ofDrawing 89 = .ok (.aload_n 0, 1) := by decide +kernel
theorem dX6_ofDrawing_90 : decode cX6_ofDrawing 90 = .ok (.iload_n 1, 1) := by decide +kernel
theorem dX6_ofDrawing_91 : decode cX6_ofDrawing 91 = .ok (.iconst 0, 1) := by decide +kernel
theorem dX6_ofDrawing_92 : decode cX6_ofDrawing 92 = .ok (.invokevirtual 100, 3) := by decide +kernel
theorem dX6_ofDrawing_95 : decode cX6_ofDrawing 95 = .ok (.ireturn, 1) := by decide +kernel
theorem dX6_ofDrawing_96 : decode cX6_ofDrawing 96 = .ok (.aload_n 0, 1) := by decide +kernel
theorem dX6_ofDrawing_97 : decode cX6_ofDrawing 97 = .ok (.getfield 16, 3) := by decide +kernel
theorem dX6_ofDrawing_100 : decode cX6_ofDrawing 100 = .ok (.iload_n 1, 1) := by decide +kernel
theorem dX6_ofDrawing_101 : decode cX6_ofDrawing 101 = .ok (.iaload, 1) := by decide +kernel
theorem dX6_ofDrawing_102 : decode cX6_ofDrawing 102 = .ok (.ireturn, 1) := by decide +kernel
theorem dX6_root_0 : decode cX6_root 0 = .ok (.iload_n 1, 1) := by decide +kernel
theorem dX6_root_1 : decode cX6_root 1 = .ok (.i2d, 1) := by decide +kernel
theorem dX6_root_2 : decode cX6_root 2 = .ok (.dstore_n 2, 1) := by decide +kernel
theorem dX6_root_3 : decode cX6_root 3 = .ok (.iconst 0, 1) := by decide +kernel
theorem dX6_root_4 : decode cX6_root 4 = .ok (.istore 4, 2) := by decide +kernel
theorem dX6_root_6 : decode cX6_root 6 = .ok (.iload 4, 2) := by decide +kernel
theorem dX6_root_8 : decode cX6_root 8 = .ok (.bipush 24, 2) := by decide +kernel
theorem dX6_root_10 : decode cX6_root 10 = .ok (.if_icmp .ge 20, 3) := by decide +kernel
theorem dX6_root_13 : decode cX6_root 13 = .ok (.dload_n 2, 1) := by decide +kernel
theorem dX6_root_14 : decode cX6_root 14 = .ok (.iload_n 1, 1) := by decide +kernel
theorem dX6_root_15 : decode cX6_root 15 = .ok (.i2d, 1) := by decide +kernel
theorem dX6_root_16 : decode cX6_root 16 = .ok (.dload_n 2, 1) := by decide +kernel
theorem dX6_root_17 : decode cX6_root 17 = .ok (.ddiv, 1) := by decide +kernel
theorem dX6_root_18 : decode cX6_root 18 = .ok (.dadd, 1) := by decide +kernel
theorem dX6_root_19 : decode cX6_root 19 = .ok (.ldc2_w 104, 3) := by decide +kernel
theorem dX6_root_22 : decode cX6_root 22 = .ok (.ddiv, 1) := by decide +kernel
theorem dX6_root_23 : decode cX6_root 23 = .ok (.dstore_n 2, 1) := by decide +kernel
theorem dX6_root_24 : decode cX6_root 24 = .ok (.iinc 4 1, 3) := by decide +kernel
theorem dX6_root_27 : decode cX6_root 27 = .ok (.goto (-21), 3) := by decide +kernel
theorem dX6_root_30 : decode cX6_root 30 = .ok (.dload_n 2, 1) := by decide +kernel
theorem dX6_root_31 : decode cX6_root 31 = .ok (.dreturn, 1) := by decide +kernel
theorem dX6_lengthOf_0 : decode cX6_lengthOf 0 = .ok (.fconst 0, 1) := by decide +kernel
theorem dX6_lengthOf_1 : decode cX6_lengthOf 1 = .ok (.fstore_n 2, 1) := by decide +kernel
theorem dX6_lengthOf_2 : decode cX6_lengthOf 2 = .ok (.bipush 24, 2) := by decide +kernel
theorem dX6_lengthOf_4 : decode cX6_lengthOf 4 = .ok (.iload_n 1, 1) := by decide +kernel
theorem dX6_lengthOf_5 : decode cX6_lengthOf 5 = .ok (.imul, 1) := by decide +kernel
theorem dX6_lengthOf_6 : decode cX6_lengthOf 6 = .ok (.istore_n 3, 1) := by decide +kernel
theorem dX6_lengthOf_7 : decode cX6_lengthOf 7 = .ok (.iload_n 3, 1) := by decide +kernel
theorem dX6_lengthOf_8 : decode cX6_lengthOf 8 = .ok (.bipush 24, 2) := by decide +kernel
theorem dX6_lengthOf_10 : decode cX6_lengthOf 10 = .ok (.iload_n 1, 1) := by decide +kernel
theorem dX6_lengthOf_11 : decode cX6_lengthOf 11 = .ok (.imul, 1) := by decide +kernel
theorem dX6_lengthOf_12 : decode cX6_lengthOf 12 = .ok (.aload_n 0, 1) := by decide +kernel
theorem dX6_lengthOf_13 : decode cX6_lengthOf 13 = .ok (.getfield 13, 3) := by decide +kernel
theorem dX6_lengthOf_16 : decode cX6_lengthOf 16 = .ok (.iload_n 1, 1) := by decide +kernel
theorem dX6_lengthOf_17 : decode cX6_lengthOf 17 = .ok (.iaload, 1) := by decide +kernel
theorem dX6_lengthOf_18 : decode cX6_lengthOf 18 = .ok (.iadd, 1) := by decide +kernel
theorem dX6_lengthOf_19 : decode cX6_lengthOf 19 = .ok (.if_icmp .ge 70, 3) := by decide +kernel
theorem dX6_lengthOf_22 : decode cX6_lengthOf 22 = .ok (.aload_n 0, 1) := by decide +kernel
theorem dX6_lengthOf_23 : decode cX6_lengthOf 23 = .ok (.getfield 19, 3) := by decide +kernel
theorem dX6_lengthOf_26 : decode cX6_lengthOf 26 = .ok (.iload_n 3, 1) := by decide +kernel
theorem dX6_lengthOf_27 : decode cX6_lengthOf 27 = .ok (.iaload, 1) := by decide +kernel
theorem dX6_lengthOf_28 : decode cX6_lengthOf 28 = .ok (.bipush 32, 2) := by decide +kernel
theorem dX6_lengthOf_30 : decode cX6_lengthOf 30 = .ok (.irem, 1) := by decide +kernel
theorem dX6_lengthOf_31 : decode cX6_lengthOf 31 = .ok (.aload_n 0, 1) := by decide +kernel
theorem dX6_lengthOf_32 : decode cX6_lengthOf 32 = .ok (.getfield 22, 3) := by decide +kernel
theorem dX6_lengthOf_35 : decode cX6_lengthOf 35 = .ok (.iload_n 3, 1) := by decide +kernel
theorem dX6_lengthOf_36 : decode cX6_lengthOf 36 = .ok (.iaload, 1) := by decide +kernel
theorem dX6_lengthOf_37 : decode cX6_lengthOf 37 = .ok (.bipush 32, 2) := by decide +kernel
theorem dX6_lengthOf_39 : decode cX6_lengthOf 39 = .ok (.irem, 1) := by decide +kernel
theorem dX6_lengthOf_40 : decode cX6_lengthOf 40 = .ok (.isub, 1) := by decide +kernel
theorem dX6_lengthOf_41 : decode cX6_lengthOf 41 = .ok (.istore 4, 2) := by decide +kernel
theorem dX6_lengthOf_43 : decode cX6_lengthOf 43 = .ok (.aload_n 0, 1) := by decide +kernel
theorem dX6_lengthOf_44 : decode cX6_lengthOf 44 = .ok (.getfield 19, 3) := by decide +kernel
theorem dX6_lengthOf_47 : decode cX6_lengthOf 47 = .ok (.iload_n 3, 1) := by decide +kernel
theorem dX6_lengthOf_48 : decode cX6_lengthOf 48 = .ok (.iaload, 1) := by decide +kernel
theorem dX6_lengthOf_49 : decode cX6_lengthOf 49 = .ok (.bipush 32, 2) := by decide +kernel
theorem dX6_lengthOf_51 : decode cX6_lengthOf 51 = .ok (.idiv, 1) := by decide +kernel
theorem dX6_lengthOf_52 : decode cX6_lengthOf 52 = .ok (.aload_n 0, 1) := by decide +kernel
theorem dX6_lengthOf_53 : decode cX6_lengthOf 53 = .ok (.getfield 22, 3) := by decide +kernel
theorem dX6_lengthOf_56 : decode cX6_lengthOf 56 = .ok (.iload_n 3, 1) := by decide +kernel
theorem dX6_lengthOf_57 : decode cX6_lengthOf 57 = .ok (.iaload, 1) := by decide +kernel
theorem dX6_lengthOf_58 : decode cX6_lengthOf 58 = .ok (.bipush 32, 2) := by decide +kernel
theorem dX6_lengthOf_60 : decode cX6_lengthOf 60 = .ok (.idiv, 1) := by decide +kernel
theorem dX6_lengthOf_61 : decode cX6_lengthOf 61 = .ok (.isub, 1) := by decide +kernel
theorem dX6_lengthOf_62 : decode cX6_lengthOf 62 = .ok (.istore 5, 2) := by decide +kernel
theorem dX6_lengthOf_64 : decode cX6_lengthOf 64 = .ok (.fload_n 2, 1) := by decide +kernel
theorem dX6_lengthOf_65 : decode cX6_lengthOf 65 = .ok (.aload_n 0, 1) := by decide +kernel
theorem dX6_lengthOf_66 : decode cX6_lengthOf 66 = .ok (.iload 4, 2) := by decide +kernel
theorem dX6_lengthOf_68 : decode cX6_lengthOf 68 = .ok (.iload 4, 2) := by decide +kernel
theorem dX6_lengthOf_70 : decode cX6_lengthOf 70 = .ok (.imul, 1) := by decide +kernel
theorem dX6_lengthOf_71 : decode cX6_lengthOf 71 = .ok (.iload 5, 2) := by decide +kernel
theorem dX6_lengthOf_73 : decode cX6_lengthOf 73 = .ok (.iload 5, 2) := by decide +kernel
theorem dX6_lengthOf_75 : decode cX6_lengthOf 75 = .ok (.imul, 1) := by decide +kernel
theorem dX6_lengthOf_76 : decode cX6_lengthOf 76 = .ok (.iadd, 1) := by decide +kernel
theorem dX6_lengthOf_77 : decode cX6_lengthOf 77 = .ok (.invokevirtual 106, 3) := by decide +kernel
theorem dX6_lengthOf_80 : decode cX6_lengthOf 80 = .ok (.d2f, 1) := by decide +kernel
theorem dX6_lengthOf_81 : decode cX6_lengthOf 81 = .ok (.fadd, 1) := by decide +kernel
theorem dX6_lengthOf_82 : decode cX6_lengthOf 82 = .ok (.fstore_n 2, 1) := by decide +kernel
theorem dX6_lengthOf_83 : decode cX6_lengthOf 83 = .ok (.iinc 3 1, 3) := by decide +kernel
theorem dX6_lengthOf_86 : decode cX6_lengthOf 86 = .ok (.goto (-79), 3) := by decide +kernel
theorem dX6_lengthOf_89 : decode cX6_lengthOf 89 = .ok (.fload_n 2, 1) := by decide +kernel
theorem dX6_lengthOf_90 : decode cX6_lengthOf 90 = .ok (.freturn, 1) := by decide +kernel
theorem dX6_length_0 : decode cX6_length 0 = .ok (.aload_n 0, 1) := by decide +kernel
theorem dX6_length_1 : decode cX6_length 1 = .ok (.aload_n 0, 1) := by decide +kernel
theorem dX6_length_2 : decode cX6_length 2 = .ok (.iload_n 1, 1) := by decide +kernel
theorem dX6_length_3 : decode cX6_length 3 = .ok (.invokevirtual 82, 3) := by decide +kernel
theorem dX6_length_6 : decode cX6_length 6 = .ok (.ifCond .eq 7, 3) := by decide +kernel
theorem dX6_length_9 : decode cX6_length 9 = .ok (.iconst 0, 1) := by decide +kernel
theorem dX6_length_10 : decode cX6_length 10 = .ok (.goto 4, 3) := by decide +kernel
theorem dX6_length_13 : decode cX6_length 13 = .ok (.iconst 1, 1) := by decide +kernel
theorem dX6_length_14 : decode cX6_length 14 = .ok (.invokevirtual 78, 3) := by decide +kernel
theorem dX6_length_17 : decode cX6_length 17 = .ok (.ifCond .eq 8, 3) := by decide +kernel
theorem dX6_length_20 : decode cX6_length 20 = .ok (.ldc 110, 2) := by decide +kernel
theorem dX6_length_22 : decode cX6_length 22 = .ok (.goto 8, 3) := by decide +kernel
theorem dX6_length_25 : decode cX6_length 25 = .ok (.aload_n 0, 1) := by decide +kernel
theorem dX6_length_26 : decode cX6_length 26 = .ok (.iload_n 1, 1) := by decide +kernel
theorem dX6_length_27 : decode cX6_length 27 = .ok (.invokevirtual 111, 3) := by decide +kernel
theorem dX6_length_30 : decode cX6_length 30 = .ok (.freturn, 1) := by decide +kernel
theorem dX6_adds_0 : decode cX6_adds 0 = .ok (.aload_n 0, 1) := by decide +kernel
theorem dX6_adds_1 : decode cX6_adds 1 = .ok (.getfield 28, 3) := by decide +kernel
theorem dX6_adds_4 : decode cX6_adds 4 = .ok (.aload_n 0, 1) := by decide +kernel
theorem dX6_adds_5 : decode cX6_adds 5 = .ok (.getfield 115, 3) := by decide +kernel
theorem dX6_adds_8 : decode cX6_adds 8 = .ok (.iload_n 1, 1) := by decide +kernel
theorem dX6_adds_9 : decode cX6_adds 9 = .ok (.iastore, 1) := by decide +kernel
theorem dX6_adds_10 : decode cX6_adds 10 = .ok (.aload_n 0, 1) := by decide +kernel
theorem dX6_adds_11 : decode cX6_adds 11 = .ok (.getfield 31, 3) := by decide +kernel
theorem dX6_adds_14 : decode cX6_adds 14 = .ok (.aload_n 0, 1) := by decide +kernel
theorem dX6_adds_15 : decode cX6_adds 15 = .ok (.getfield 115, 3) := by decide +kernel
theorem dX6_adds_18 : decode cX6_adds 18 = .ok (.iload_n 2, 1) := by decide +kernel
theorem dX6_adds_19 : decode cX6_adds 19 = .ok (.iastore, 1) := by decide +kernel
theorem dX6_adds_20 : decode cX6_adds 20 = .ok (.aload_n 0, 1) := by decide +kernel
theorem dX6_adds_21 : decode cX6_adds 21 = .ok (.getfield 34, 3) := by decide +kernel
theorem dX6_adds_24 : decode cX6_adds 24 = .ok (.aload_n 0, 1) := by decide +kernel
theorem dX6_adds_25 : decode cX6_adds 25 = .ok (.getfield 115, 3) := by decide +kernel
theorem dX6_adds_28 : decode cX6_adds 28 = .ok (.iload_n 3, 1) := by decide +kernel
theorem dX6_adds_29 : decode cX6_adds 29 = .ok (.iastore, 1) := by decide +kernel
theorem dX6_adds_30 : decode cX6_adds 30 = .ok (.aload_n 0, 1) := by decide +kernel
theorem dX6_adds_31 : decode cX6_adds 31 = .ok (.getfield 37, 3) := by decide +kernel
theorem dX6_adds_34 : decode cX6_adds 34 = .ok (.aload_n 0, 1) := by decide +kernel
theorem dX6_adds_35 : decode cX6_adds 35 = .ok (.getfield 115, 3) := by decide +kernel
theorem dX6_adds_38 : decode cX6_adds 38 = .ok (.iload 4, 2) := by decide +kernel
theorem dX6_adds_40 : decode cX6_adds 40 = .ok (.iastore, 1) := by decide +kernel
theorem dX6_adds_41 : decode cX6_adds 41 = .ok (.aload_n 0, 1) := by decide +kernel
theorem dX6_adds_42 : decode cX6_adds 42 = .ok (.getfield 40, 3) := by decide +kernel
theorem dX6_adds_45 : decode cX6_adds 45 = .ok (.aload_n 0, 1) := by decide +kernel
theorem dX6_adds_46 : decode cX6_adds 46 = .ok (.getfield 115, 3) := by decide +kernel
theorem dX6_adds_49 : decode cX6_adds 49 = .ok (.iload 5, 2) := by decide +kernel
theorem dX6_adds_51 : decode cX6_adds 51 = .ok (.iastore, 1) := by decide +kernel
theorem dX6_adds_52 : decode cX6_adds 52 = .ok (.aload_n 0, 1) := by decide +kernel
theorem dX6_adds_53 : decode cX6_adds 53 = .ok (.getfield 43, 3) := by decide +kernel
theorem dX6_adds_56 : decode cX6_adds 56 = .ok (.aload_n 0, 1) := by decide +kernel
theorem dX6_adds_57 : decode cX6_adds 57 = .ok (.getfield 115, 3) := by decide +kernel
theorem dX6_adds_60 : decode cX6_adds 60 = .ok (.iload 6, 2) := by decide +kernel
theorem dX6_adds_62 : decode cX6_adds 62 = .ok (.iastore, 1) := by decide +kernel
theorem dX6_adds_63 : decode cX6_adds 63 = .ok (.aload_n 0, 1) := by decide +kernel
theorem dX6_adds_64 : decode cX6_adds 64 = .ok (.getfield 46, 3) := by decide +kernel
theorem dX6_adds_67 : decode cX6_adds 67 = .ok (.aload_n 0, 1) := by decide +kernel
theorem dX6_adds_68 : decode cX6_adds 68 = .ok (.getfield 115, 3) := by decide +kernel
theorem dX6_adds_71 : decode cX6_adds 71 = .ok (.iload 7, 2) := by decide +kernel
theorem dX6_adds_73 : decode cX6_adds 73 = .ok (.iastore, 1) := by decide +kernel
theorem dX6_adds_74 : decode cX6_adds 74 = .ok (.aload_n 0, 1) := by decide +kernel
theorem dX6_adds_75 : decode cX6_adds 75 = .ok (.dup, 1) := by decide +kernel
theorem dX6_adds_76 : decode cX6_adds 76 = .ok (.getfield 115, 3) := by decide +kernel
theorem dX6_adds_79 : decode cX6_adds 79 = .ok (.iconst 1, 1) := by decide +kernel
theorem dX6_adds_80 : decode cX6_adds 80 = .ok (.iadd, 1) := by decide +kernel
theorem dX6_adds_81 : decode cX6_adds 81 = .ok (.putfield 115, 3) := by decide +kernel
theorem dX6_adds_84 : decode cX6_adds 84 = .ok (.aload_n 0, 1) := by decide +kernel
theorem dX6_adds_85 : decode cX6_adds 85 = .ok (.getfield 115, 3) := by decide +kernel
theorem dX6_adds_88 : decode cX6_adds 88 = .ok (.iconst 1, 1) := by decide +kernel
theorem dX6_adds_89 : decode cX6_adds 89 = .ok (.isub, 1) := by decide +kernel
theorem dX6_adds_90 : decode cX6_adds 90 = .ok (.ireturn, 1) := by decide +kernel
theorem dX6_sheet_0 : decode cX6_sheet 0 = .ok (.aload_n 0, 1) := by decide +kernel
theorem dX6_sheet_1 : decode cX6_sheet 1 = .ok (.iload_n 1, 1) := by decide +kernel
theorem dX6_sheet_2 : decode cX6_sheet 2 = .ok (.iconst 1, 1) := by decide +kernel
theorem dX6_sheet_3 : decode cX6_sheet 3 = .ok (.bipush 64, 2) := by decide +kernel
theorem dX6_sheet_5 : decode cX6_sheet 5 = .ok (.invokevirtual 74, 3) := by decide +kernel
theorem dX6_sheet_8 : decode cX6_sheet 8 = .ok (.ifCond .eq 18, 3) := by decide +kernel
theorem dX6_sheet_11 : decode cX6_sheet 11 = .ok (.aload_n 0, 1) := by decide +kernel
theorem dX6_sheet_12 : decode cX6_sheet 12 = .ok (.iload_n 2, 1) := by decide +kernel
theorem dX6_sheet_13 : decode cX6_sheet 13 = .ok (.iconst 1, 1) := by decide +kernel
theorem dX6_sheet_14 : decode cX6_sheet 14 = .ok (.bipush 64, 2) := by decide +kernel
theorem dX6_sheet_16 : decode cX6_sheet 16 = .ok (.invokevirtual 74, 3) := by decide +kernel
theorem dX6_sheet_19 : decode cX6_sheet 19 = .ok (.ifCond .eq 7, 3) := by decide +kernel
theorem dX6_sheet_22 : decode cX6_sheet 22 = .ok (.iconst 1, 1) := by decide +kernel
theorem dX6_sheet_23 : decode cX6_sheet 23 = .ok (.goto 4, 3) := by decide +kernel
theorem dX6_sheet_26 : decode cX6_sheet 26 = .ok (.iconst 0, 1) := by decide +kernel
theorem dX6_sheet_27 : decode cX6_sheet 27 = .ok (.istore_n 3, 1) := by decide +kernel
theorem dX6_sheet_28 : decode cX6_sheet 28 = .ok (.aload_n 0, 1) := by decide +kernel
theorem dX6_sheet_29 : decode cX6_sheet 29 = .ok (.iload_n 3, 1) := by decide +kernel
theorem dX6_sheet_30 : decode cX6_sheet 30 = .ok (.ifCond .ne 7, 3) := by decide +kernel
theorem dX6_sheet_33 : decode cX6_sheet 33 = .ok (.iconst 1, 1) := by decide +kernel
theorem dX6_sheet_34 : decode cX6_sheet 34 = .ok (.goto 27, 3) := by decide +kernel
theorem dX6_sheet_37 : decode cX6_sheet 37 = .ok (.aload_n 0, 1) := by decide +kernel
theorem dX6_sheet_38 : decode cX6_sheet 38 = .ok (.getfield 118, 3) := by decide +kernel
theorem dX6_sheet_41 : decode cX6_sheet 41 = .ok (.bipush 8, 2) := by decide +kernel
theorem dX6_sheet_43 : decode cX6_sheet 43 = .ok (.if_icmp .eq 13, 3) := by decide +kernel
theorem dX6_sheet_46 : decode cX6_sheet 46 = .ok (.aload_n 0, 1) := by decide +kernel
theorem dX6_sheet_47 : decode cX6_sheet 47 = .ok (.getfield 115, 3) := by decide +kernel
theorem dX6_sheet_50 : decode cX6_sheet 50 = .ok (.sipush 400, 3) := by decide +kernel
theorem dX6_sheet_53 : decode cX6_sheet 53 = .ok (.if_icmp .ne 7, 3) := by decide +kernel
theorem dX6_sheet_56 : decode cX6_sheet 56 = .ok (.iconst 2, 1) := by decide +kernel
theorem dX6_sheet_57 : decode cX6_sheet 57 = .ok (.goto 4, 3) := by decide +kernel
theorem dX6_sheet_60 : decode cX6_sheet 60 = .ok (.iconst 0, 1) := by decide +kernel
theorem dX6_sheet_61 : decode cX6_sheet 61 = .ok (.invokevirtual 78, 3) := by decide +kernel
theorem dX6_sheet_64 : decode cX6_sheet 64 = .ok (.ifCond .eq 5, 3) := by decide +kernel
theorem dX6_sheet_67 : decode cX6_sheet 67 = .ok (.iconst (-1), 1) := by decide +kernel
theorem dX6_sheet_68 : decode cX6_sheet 68 = .ok (.ireturn, 1) := by decide +kernel
theorem dX6_sheet_69 : decode cX6_sheet 69 = .ok (.aload_n 0, 1) := by decide +kernel
theorem dX6_sheet_70 : decode cX6_sheet 70 = .ok (.aload_n 0, 1) := by decide +kernel
theorem dX6_sheet_71 : decode cX6_sheet 71 = .ok (.getfield 118, 3) := by decide +kernel
theorem dX6_sheet_74 : decode cX6_sheet 74 = .ok (.iconst 0, 1) := by decide +kernel
theorem dX6_sheet_75 : decode cX6_sheet 75 = .ok (.iconst 0, 1) := by decide +kernel
theorem dX6_sheet_76 : decode cX6_sheet 76 = .ok (.iload_n 1, 1) := by decide +kernel
theorem dX6_sheet_77 : decode cX6_sheet 77 = .ok (.iload_n 2, 1) := by decide +kernel
theorem dX6_sheet_78 : decode cX6_sheet 78 = .ok (.iconst 0, 1) := by decide +kernel
theorem dX6_sheet_79 : decode cX6_sheet 79 = .ok (.iconst (-1), 1) := by decide +kernel
theorem dX6_sheet_80 : decode cX6_sheet 80 = .ok (.invokevirtual 121, 3) := by decide +kernel
theorem dX6_sheet_83 : decode cX6_sheet 83 = .ok (.istore 4, 2) := by decide +kernel
theorem dX6_sheet_85 : decode cX6_sheet 85 = .ok (.aload_n 0, 1) := by decide +kernel
theorem dX6_sheet_86 : decode cX6_sheet 86 = .ok (.dup, 1) := by decide +kernel
theorem dX6_sheet_87 : decode cX6_sheet 87 = .ok (.getfield 118, 3) := by decide +kernel
theorem dX6_sheet_90 : decode cX6_sheet 90 = .ok (.iconst 1, 1) := by decide +kernel
theorem dX6_sheet_91 : decode cX6_sheet 91 = .ok (.iadd, 1) := by decide +kernel
theorem dX6_sheet_92 : decode cX6_sheet 92 = .ok (.putfield 118, 3) := by decide +kernel
theorem dX6_sheet_95 : decode cX6_sheet 95 = .ok (.aload_n 0, 1) := by decide +kernel
theorem dX6_sheet_96 : decode cX6_sheet 96 = .ok (.invokevirtual 97, 3) := by decide +kernel
theorem dX6_sheet_99 : decode cX6_sheet 99 = .ok (.aload_n 0, 1) := by decide +kernel
theorem dX6_sheet_100 : decode cX6_sheet 100 = .ok (.getfield 118, 3) := by decide +kernel
theorem dX6_sheet_103 : decode cX6_sheet 103 = .ok (.iconst 1, 1) := by decide +kernel
theorem dX6_sheet_104 : decode cX6_sheet 104 = .ok (.isub, 1) := by decide +kernel
theorem dX6_sheet_105 : decode cX6_sheet 105 = .ok (.ireturn, 1) := by decide +kernel
theorem dX6_bestFor_0 : decode cX6_bestFor 0 = .ok (.iconst (-1), 1) := by decide +kernel
theorem dX6_bestFor_1 : decode cX6_bestFor 1 = .ok (.istore_n 3, 1) := by decide +kernel
theorem dX6_bestFor_2 : decode cX6_bestFor 2 = .ok (.iconst 0, 1) := by decide +kernel
theorem dX6_bestFor_3 : decode cX6_bestFor 3 = .ok (.istore 4, 2) := by decide +kernel
theorem dX6_bestFor_5 : decode cX6_bestFor 5 = .ok (.iload 4, 2) := by decide +kernel
theorem dX6_bestFor_7 : decode cX6_bestFor 7 = .ok (.aload_n 0, 1) := by decide +kernel
theorem dX6_bestFor_8 : decode cX6_bestFor 8 = .ok (.getfield 115, 3) := by decide +kernel
theorem dX6_bestFor_11 : decode cX6_bestFor 11 = .ok (.if_icmp .ge 95, 3) := by decide +kernel
theorem dX6_bestFor_14 : decode cX6_bestFor 14 = .ok (.aload_n 0, 1) := by decide +kernel
theorem dX6_bestFor_15 : decode cX6_bestFor 15 = .ok (.getfield 43, 3) := by decide +kernel
theorem dX6_bestFor_18 : decode cX6_bestFor 18 = .ok (.iload 4, 2) := by decide +kernel
theorem dX6_bestFor_20 : decode cX6_bestFor 20 = .ok (.iaload, 1) := by decide +kernel
theorem dX6_bestFor_21 : decode cX6_bestFor 21 = .ok (.ifCond .ne 29, 3) := by decide +kernel
theorem dX6_bestFor_24 : decode cX6_bestFor 24 = .ok (.aload_n 0, 1) := by decide +kernel
theorem dX6_bestFor_25 : decode cX6_bestFor 25 = .ok (.getfield 37, 3) := by decide +kernel
theorem dX6_bestFor_28 : decode cX6_bestFor 28 = .ok (.iload 4, 2) := by decide +kernel
theorem dX6_bestFor_30 : decode cX6_bestFor 30 = .ok (.iaload, 1) := by decide +kernel
theorem dX6_bestFor_31 : decode cX6_bestFor 31 = .ok (.iload_n 1, 1) := by decide +kernel
theorem dX6_bestFor_32 : decode cX6_bestFor 32 = .ok (.if_icmp .lt 18, 3) := by decide +kernel
theorem dX6_bestFor_35 : decode cX6_bestFor 35 = .ok (.aload_n 0, 1) := by decide +kernel
theorem dX6_bestFor_36 : decode cX6_bestFor 36 = .ok (.getfield 40, 3) := by decide +kernel
theorem dX6_bestFor_39 : decode cX6_bestFor 39 = .ok (.iload 4, 2) := by decide +kernel
theorem dX6_bestFor_41 : decode cX6_bestFor 41 = .ok (.iaload, 1) := by decide +kernel
theorem dX6_bestFor_42 : decode cX6_bestFor 42 = .ok (.iload_n 2, 1) := by decide +kernel
theorem dX6_bestFor_43 : decode cX6_bestFor 43 = .ok (.if_icmp .lt 7, 3) := by decide +kernel
theorem dX6_bestFor_46 : decode cX6_bestFor 46 = .ok (.iconst 1, 1) := by decide +kernel
theorem dX6_bestFor_47 : decode cX6_bestFor 47 = .ok (.goto 4, 3) := by decide +kernel
theorem dX6_bestFor_50 : decode cX6_bestFor 50 = .ok (.iconst 0, 1) := by decide +kernel
theorem dX6_bestFor_51 : decode cX6_bestFor 51 = .ok (.istore 5, 2) := by decide +kernel
theorem dX6_bestFor_53 : decode cX6_bestFor 53 = .ok (.iload 5, 2) := by decide +kernel
theorem dX6_bestFor_55 : decode cX6_bestFor 55 = .ok (.ifCond .eq 43, 3) := by decide +kernel
theorem dX6_bestFor_58 : decode cX6_bestFor 58 = .ok (.iload_n 3, 1) := by decide +kernel
theorem dX6_bestFor_59 : decode cX6_bestFor 59 = .ok (.ifCond .lt 34, 3) := by decide +kernel
theorem dX6_bestFor_62 : decode cX6_bestFor 62 = .ok (.aload_n 0, 1) := by decide +kernel
theorem dX6_bestFor_63 : decode cX6_bestFor 63 = .ok (.getfield 37, 3) := by decide +kernel
theorem dX6_bestFor_66 : decode cX6_bestFor 66 = .ok (.iload 4, 2) := by decide +kernel
theorem dX6_bestFor_68 : decode cX6_bestFor 68 = .ok (.iaload, 1) := by decide +kernel
theorem dX6_bestFor_69 : decode cX6_bestFor 69 = .ok (.aload_n 0, 1) := by decide +kernel
theorem dX6_bestFor_70 : decode cX6_bestFor 70 = .ok (.getfield 40, 3) := by decide +kernel
theorem dX6_bestFor_73 : decode cX6_bestFor 73 = .ok (.iload 4, 2) := by decide +kernel
theorem dX6_bestFor_75 : decode cX6_bestFor 75 = .ok (.iaload, 1) := by decide +kernel
theorem dX6_bestFor_76 : decode cX6_bestFor 76 = .ok (.imul, 1) := by decide +kernel
theorem dX6_bestFor_77 : decode cX6_bestFor 77 = .ok (.aload_n 0, 1) := by decide +kernel
theorem dX6_bestFor_78 : decode cX6_bestFor 78 = .ok (.getfield 37, 3) := by decide +kernel
theorem dX6_bestFor_81 : decode cX6_bestFor 81 = .ok (.iload_n 3, 1) := by decide +kernel
theorem dX6_bestFor_82 : decode cX6_bestFor 82 = .ok (.iaload, 1) := by decide +kernel
theorem dX6_bestFor_83 : decode cX6_bestFor 83 = .ok (.aload_n 0, 1) := by decide +kernel
theorem dX6_bestFor_84 : decode cX6_bestFor 84 = .ok (.getfield 40, 3) := by decide +kernel
theorem dX6_bestFor_87 : decode cX6_bestFor 87 = .ok (.iload_n 3, 1) := by decide +kernel
theorem dX6_bestFor_88 : decode cX6_bestFor 88 = .ok (.iaload, 1) := by decide +kernel
theorem dX6_bestFor_89 : decode cX6_bestFor 89 = .ok (.imul, 1) := by decide +kernel
theorem dX6_bestFor_90 : decode cX6_bestFor 90 = .ok (.if_icmp .ge 8, 3) := by decide +kernel
theorem dX6_bestFor_93 : decode cX6_bestFor 93 = .ok (.iload 4, 2) := by decide +kernel
theorem dX6_bestFor_95 : decode cX6_bestFor 95 = .ok (.goto 4, 3) := by decide +kernel
theorem dX6_bestFor_98 : decode cX6_bestFor 98 = .ok (.iload_n 3, 1) := by decide +kernel
theorem dX6_bestFor_99 : decode cX6_bestFor 99 = .ok (.istore_n 3, 1) := by decide +kernel
theorem dX6_bestFor_100 : decode cX6_bestFor 100 = .ok (.iinc 4 1, 3) := by decide +kernel
theorem dX6_bestFor_103 : decode cX6_bestFor 103 = .ok (.goto (-98), 3) := by decide +kernel
theorem dX6_bestFor_106 : decode cX6_bestFor 106 = .ok (.iload_n 3, 1) := by decide +kernel
theorem dX6_bestFor_107 : decode cX6_bestFor 107 = .ok (.ireturn, 1) := by decide +kernel
theorem dX6_lays_0 : decode cX6_lays 0 = .ok (.aload_n 0, 1) := by decide +kernel
theorem dX6_lays_1 : decode cX6_lays 1 = .ok (.iload_n 1, 1) := by decide +kernel
theorem dX6_lays_2 : decode cX6_lays 2 = .ok (.iload_n 2, 1) := by decide +kernel
theorem dX6_lays_3 : decode cX6_lays 3 = .ok (.invokevirtual 125, 3) := by decide +kernel
theorem dX6_lays_6 : decode cX6_lays 6 = .ok (.istore_n 3, 1) := by decide +kernel
theorem dX6_lays_7 : decode cX6_lays 7 = .ok (.iload_n 3, 1) := by decide +kernel
theorem dX6_lays_8 : decode cX6_lays 8 = .ok (.ifCond .ge 5, 3) := by decide +kernel
theorem dX6_lays_11 : decode cX6_lays 11 = .ok (.iconst (-1), 1) := by decide +kernel
theorem dX6_lays_12 : decode cX6_lays 12 = .ok (.ireturn, 1) := by decide +kernel
theorem dX6_lays_13 : decode cX6_lays 13 = .ok (.aload_n 0, 1) := by decide +kernel
theorem dX6_lays_14 : decode cX6_lays 14 = .ok (.getfield 37, 3) := by decide +kernel
theorem dX6_lays_17 : decode cX6_lays 17 = .ok (.iload_n 3, 1) := by decide +kernel
theorem dX6_lays_18 : decode cX6_lays 18 = .ok (.iaload, 1) := by decide +kernel
theorem dX6_lays_19 : decode cX6_lays 19 = .ok (.iload_n 1, 1) := by decide +kernel
theorem dX6_lays_20 : decode cX6_lays 20 = .ok (.if_icmp .le 7, 3) := by decide +kernel
theorem dX6_lays_23 : decode cX6_lays 23 = .ok (.iconst 1, 1) := by decide +kernel
theorem dX6_lays_24 : decode cX6_lays 24 = .ok (.goto 4, 3) := by decide +kernel
theorem dX6_lays_27 : decode cX6_lays 27 = .ok (.iconst 0, 1) := by decide +kernel
theorem dX6_lays_28 : decode cX6_lays 28 = .ok (.istore 4, 2) := by decide +kernel
theorem dX6_lays_30 : decode cX6_lays 30 = .ok (.aload_n 0, 1) := by decide +kernel
theorem dX6_lays_31 : decode cX6_lays 31 = .ok (.getfield 40, 3) := by decide +kernel
theorem dX6_lays_34 : decode cX6_lays 34 = .ok (.iload_n 3, 1) := by decide +kernel
theorem dX6_lays_35 : decode cX6_lays 35 = .ok (.iaload, 1) := by decide +kernel
theorem dX6_lays_36 : decode cX6_lays 36 = .ok (.iload_n 2, 1) := by decide +kernel
theorem dX6_lays_37 : decode cX6_lays 37 = .ok (.if_icmp .le 7, 3) := by decide +kernel
theorem dX6_lays_40 : decode cX6_lays 40 = .ok (.iconst 1, 1) := by decide +kernel
theorem dX6_lays_41 : decode cX6_lays 41 = .ok (.goto 4, 3) := by decide +kernel
theorem dX6_lays_44 : decode cX6_lays 44 = .ok (.iconst 0, 1) := by decide +kernel
theorem dX6_lays_45 : decode cX6_lays 45 = .ok (.istore 5, 2) := by decide +kernel
theorem dX6_lays_47 : decode cX6_lays 47 = .ok (.aload_n 0, 1) := by decide +kernel
theorem dX6_lays_48 : decode cX6_lays 48 = .ok (.getfield 115, 3) := by decide +kernel
theorem dX6_lays_51 : decode cX6_lays 51 = .ok (.iconst 1, 1) := by decide +kernel
theorem dX6_lays_52 : decode cX6_lays 52 = .ok (.iadd, 1) := by decide +kernel
theorem dX6_lays_53 : decode cX6_lays 53 = .ok (.iload 4, 2) := by decide +kernel
theorem dX6_lays_55 : decode cX6_lays 55 = .ok (.ifCond .eq 7, 3) := by decide +kernel
theorem dX6_lays_58 : decode cX6_lays 58 = .ok (.iconst 1, 1) := by decide +kernel
theorem dX6_lays_59 : decode cX6_lays 59 = .ok (.goto 4, 3) := by decide +kernel
theorem dX6_lays_62 : decode cX6_lays 62 = .ok (.iconst 0, 1) := by decide +kernel
theorem dX6_lays_63 : decode cX6_lays 63 = .ok (.iadd, 1) := by decide +kernel
theorem dX6_lays_64 : decode cX6_lays 64 = .ok (.iload 5, 2) := by decide +kernel
theorem dX6_lays_66 : decode cX6_lays 66 = .ok (.ifCond .eq 7, 3) := by decide +kernel
theorem dX6_lays_69 : decode cX6_lays 69 = .ok (.iconst 1, 1) := by decide +kernel
theorem dX6_lays_70 : decode cX6_lays 70 = .ok (.goto 4, 3) := by decide +kernel
theorem dX6_lays_73 : decode cX6_lays 73 = .ok (.iconst 0, 1) := by decide +kernel
theorem dX6_lays_74 : decode cX6_lays 74 = .ok (.iadd, 1) := by decide +kernel
theorem dX6_lays_75 : decode cX6_lays 75 = .ok (.sipush 400, 3) := by decide +kernel
theorem dX6_lays_78 : decode cX6_lays 78 = .ok (.if_icmp .le 5, 3) := by decide +kernel
theorem dX6_lays_81 : decode cX6_lays 81 = .ok (.iconst (-1), 1) := by decide +kernel
theorem dX6_lays_82 : decode cX6_lays 82 = .ok (.ireturn, 1) := by decide +kernel
theorem dX6_lays_83 : decode cX6_lays 83 = .ok (.aload_n 0, 1) := by decide +kernel
theorem dX6_lays_84 : decode cX6_lays 84 = .ok (.getfield 43, 3) := by decide +kernel
theorem dX6_lays_87 : decode cX6_lays 87 = .ok (.iload_n 3, 1) := by decide +kernel
theorem dX6_lays_88 : decode cX6_lays 88 = .ok (.iconst 2, 1) := by decide +kernel
theorem dX6_lays_89 : decode cX6_lays 89 = .ok (.iastore, 1) := by decide +kernel
theorem dX6_lays_90 : decode cX6_lays 90 = .ok (.aload_n 0, 1) := by decide +kernel
theorem dX6_lays_91 : decode cX6_lays 91 = .ok (.aload_n 0, 1) := by decide +kernel
theorem dX6_lays_92 : decode cX6_lays 92 = .ok (.getfield 28, 3) := by decide +kernel
theorem dX6_lays_95 : decode cX6_lays 95 = .ok (.iload_n 3, 1) := by decide +kernel
theorem dX6_lays_96 : decode cX6_lays 96 = .ok (.iaload, 1) := by decide +kernel
theorem dX6_lays_97 : decode cX6_lays 97 = .ok (.aload_n 0, 1) := by decide +kernel
theorem dX6_lays_98 : decode cX6_lays 98 = .ok (.getfield 31, 3) := by decide +kernel
theorem dX6_lays_101 : decode cX6_lays 101 = .ok (.iload_n 3, 1) := by decide +kernel
theorem dX6_lays_102 : decode cX6_lays 102 = .ok (.iaload, 1) := by decide +kernel
theorem dX6_lays_103 : decode cX6_lays 103 = .ok (.aload_n 0, 1) := by decide +kernel
theorem dX6_lays_104 : decode cX6_lays 104 = .ok (.getfield 34, 3) := by decide +kernel
theorem dX6_lays_107 : decode cX6_lays 107 = .ok (.iload_n 3, 1) := by decide +kernel
theorem dX6_lays_108 : decode cX6_lays 108 = .ok (.iaload, 1) := by decide +kernel
theorem dX6_lays_109 : decode cX6_lays 109 = .ok (.iload_n 1, 1) := by decide +kernel
theorem dX6_lays_110 : decode cX6_lays 110 = .ok (.iload_n 2, 1) := by decide +kernel
theorem dX6_lays_111 : decode cX6_lays 111 = .ok (.iconst 1, 1) := by decide +kernel
theorem dX6_lays_112 : decode cX6_lays 112 = .ok (.iload_n 3, 1) := by decide +kernel
theorem dX6_lays_113 : decode cX6_lays 113 = .ok (.invokevirtual 121, 3) := by decide +kernel
theorem dX6_lays_116 : decode cX6_lays 116 = .ok (.istore 6, 2) := by decide +kernel
theorem dX6_lays_118 : decode cX6_lays 118 = .ok (.iload 4, 2) := by decide +kernel
theorem dX6_lays_120 : decode cX6_lays 120 = .ok (.ifCond .eq 42, 3) := by decide +kernel
theorem dX6_lays_123 : decode cX6_lays 123 = .ok (.aload_n 0, 1) := by decide +kernel
theorem dX6_lays_124 : decode cX6_lays 124 = .ok (.aload_n 0, 1) := by decide +kernel
theorem dX6_lays_125 : decode cX6_lays 125 = .ok (.getfield 28, 3) := by decide +kernel
theorem dX6_lays_128 : decode cX6_lays 128 = .ok (.iload_n 3, 1) := by decide +kernel
theorem dX6_lays_129 : decode cX6_lays 129 = .ok (.iaload, 1) := by decide +kernel
theorem dX6_lays_130 : decode cX6_lays 130 = .ok (.aload_n 0, 1) := by decide +kernel
theorem dX6_lays_131 : decode cX6_lays 131 = .ok (.getfield 31, 3) := by decide +kernel
theorem dX6_lays_134 : decode cX6_lays 134 = .ok (.iload_n 3, 1) := by decide +kernel
theorem dX6_lays_135 : decode cX6_lays 135 = .ok (.iaload, 1) := by decide +kernel
theorem dX6_lays_136 : decode cX6_lays 136 = .ok (.iload_n 1, 1) := by decide +kernel
theorem dX6_lays_137 : decode cX6_lays 137 = .ok (.iadd, 1) := by decide +kernel
theorem dX6_lays_138 : decode cX6_lays 138 = .ok (.aload_n 0, 1) := by decide +kernel
theorem dX6_lays_139 : decode cX6_lays 139 = .ok (.getfield 34, 3) := by decide +kernel
theorem dX6_lays_142 : decode cX6_lays 142 = .ok (.iload_n 3, 1) := by decide +kernel
theorem dX6_lays_143 : decode cX6_lays 143 = .ok (.iaload, 1) := by decide +kernel
theorem dX6_lays_144 : decode cX6_lays 144 = .ok (.aload_n 0, 1) := by decide +kernel
theorem dX6_lays_145 : decode cX6_lays 145 = .ok (.getfield 37, 3) := by decide +kernel
theorem dX6_lays_148 : decode cX6_lays 148 = .ok (.iload_n 3, 1) := by decide +kernel
theorem dX6_lays_149 : decode cX6_lays 149 = .ok (.iaload, 1) := by decide +kernel
theorem dX6_lays_150 : decode cX6_lays 150 = .ok (.iload_n 1, 1) := by decide +kernel
theorem dX6_lays_151 : decode cX6_lays 151 = .ok (.isub, 1) := by decide +kernel
theorem dX6_lays_152 : decode cX6_lays 152 = .ok (.iload_n 2, 1) := by decide +kernel
theorem dX6_lays_153 : decode cX6_lays 153 = .ok (.iconst 0, 1) := by decide +kernel
theorem dX6_lays_154 : decode cX6_lays 154 = .ok (.iload_n 3, 1) := by decide +kernel
theorem dX6_lays_155 : decode cX6_lays 155 = .ok (.invokevirtual 121, 3) := by decide +kernel
theorem dX6_lays_158 : decode cX6_lays 158 = .ok (.iconst 1, 1) := by decide +kernel
theorem dX6_lays_159 : decode cX6_lays 159 = .ok (.isub, 1) := by decide +kernel
theorem dX6_lays_160 : decode cX6_lays 160 = .ok (.istore 6, 2) := by decide +kernel
theorem dX6_lays_162 : decode cX6_lays 162 = .ok (.iload 5, 2) := by decide +kernel
theorem dX6_lays_164 : decode cX6_lays 164 = .ok (.ifCond .eq 46, 3) := by decide +kernel
theorem dX6_lays_167 : decode cX6_lays 167 = .ok (.aload_n 0, 1) := by decide +kernel
theorem dX6_lays_168 : decode cX6_lays 168 = .ok (.aload_n 0, 1) := by decide +kernel
theorem dX6_lays_169 : decode cX6_lays 169 = .ok (.getfield 28, 3) := by decide +kernel
theorem dX6_lays_172 : decode cX6_lays 172 = .ok (.iload_n 3, 1) := by decide +kernel
theorem dX6_lays_173 : decode cX6_lays 173 = .ok (.iaload, 1) := by decide +kernel
theorem dX6_lays_174 : decode cX6_lays 174 = .ok (.aload_n 0, 1) := by decide +kernel
theorem dX6_lays_175 : decode cX6_lays 175 = .ok (.getfield 31, 3) := by decide +kernel
theorem dX6_lays_178 : decode cX6_lays 178 = .ok (.iload_n 3, 1) := by decide +kernel
theorem dX6_lays_179 : decode cX6_lays 179 = .ok (.iaload, 1) := by decide +kernel
theorem dX6_lays_180 : decode cX6_lays 180 = .ok (.aload_n 0, 1) := by decide +kernel
theorem dX6_lays_181 : decode cX6_lays 181 = .ok (.getfield 34, 3) := by decide +kernel
theorem dX6_lays_184 : decode cX6_lays 184 = .ok (.iload_n 3, 1) := by decide +kernel
theorem dX6_lays_185 : decode cX6_lays 185 = .ok (.iaload, 1) := by decide +kernel
theorem dX6_lays_186 : decode cX6_lays 186 = .ok (.iload_n 2, 1) := by decide +kernel
theorem dX6_lays_187 : decode cX6_lays 187 = .ok (.iadd, 1) := by decide +kernel
theorem dX6_lays_188 : decode cX6_lays 188 = .ok (.aload_n 0, 1) := by decide +kernel
theorem dX6_lays_189 : decode cX6_lays 189 = .ok (.getfield 37, 3) := by decide +kernel
theorem dX6_lays_192 : decode cX6_lays 192 = .ok (.iload_n 3, 1) := by decide +kernel
theorem dX6_lays_193 : decode cX6_lays 193 = .ok (.iaload, 1) := by decide +kernel
theorem dX6_lays_194 : decode cX6_lays 194 = .ok (.aload_n 0, 1) := by decide +kernel
theorem dX6_lays_195 : decode cX6_lays 195 = .ok (.getfield 40, 3) := by decide +kernel
theorem dX6_lays_198 : decode cX6_lays 198 = .ok (.iload_n 3, 1) := by decide +kernel
theorem dX6_lays_199 : decode cX6_lays 199 = .ok (.iaload, 1) := by decide +kernel
theorem dX6_lays_200 : decode cX6_lays 200 = .ok (.iload_n 2, 1) := by decide +kernel
theorem dX6_lays_201 : decode cX6_lays 201 = .ok (.isub, 1) := by decide +kernel
theorem dX6_lays_202 : decode cX6_lays 202 = .ok (.iconst 0, 1) := by decide +kernel
theorem dX6_lays_203 : decode cX6_lays 203 = .ok (.iload_n 3, 1) := by decide +kernel
theorem dX6_lays_204 : decode cX6_lays 204 = .ok (.invokevirtual 121, 3) := by decide +kernel
theorem dX6_lays_207 : decode cX6_lays 207 = .ok (.goto 4, 3) := by decide +kernel
theorem dX6_lays_210 : decode cX6_lays 210 = .ok (.iconst 0, 1) := by decide +kernel
theorem dX6_lays_211 : decode cX6_lays 211 = .ok (.istore 7, 2) := by decide +kernel
theorem dX6_lays_213 : decode cX6_lays 213 = .ok (.iload 6, 2) := by decide +kernel
theorem dX6_lays_215 : decode cX6_lays 215 = .ok (.ireturn, 1) := by decide +kernel
theorem dX6_allFree_0 : decode cX6_allFree 0 = .ok (.iconst 1, 1) := by decide +kernel
theorem dX6_allFree_1 : decode cX6_allFree 1 = .ok (.istore_n 2, 1) := by decide +kernel
theorem dX6_allFree_2 : decode cX6_allFree 2 = .ok (.iconst 0, 1) := by decide +kernel
theorem dX6_allFree_3 : decode cX6_allFree 3 = .ok (.istore_n 3, 1) := by decide +kernel
theorem dX6_allFree_4 : decode cX6_allFree 4 = .ok (.iload_n 3, 1) := by decide +kernel
theorem dX6_allFree_5 : decode cX6_allFree 5 = .ok (.aload_n 0, 1) := by decide +kernel
theorem dX6_allFree_6 : decode cX6_allFree 6 = .ok (.getfield 115, 3) := by decide +kernel
theorem dX6_allFree_9 : decode cX6_allFree 9 = .ok (.if_icmp .ge 46, 3) := by decide +kernel
theorem dX6_allFree_12 : decode cX6_allFree 12 = .ok (.iload_n 2, 1) := by decide +kernel
theorem dX6_allFree_13 : decode cX6_allFree 13 = .ok (.aload_n 0, 1) := by decide +kernel
theorem dX6_allFree_14 : decode cX6_allFree 14 = .ok (.getfield 46, 3) := by decide +kernel
theorem dX6_allFree_17 : decode cX6_allFree 17 = .ok (.iload_n 3, 1) := by decide +kernel
theorem dX6_allFree_18 : decode cX6_allFree 18 = .ok (.iaload, 1) := by decide +kernel
theorem dX6_allFree_19 : decode cX6_allFree 19 = .ok (.iload_n 1, 1) := by decide +kernel
theorem dX6_allFree_20 : decode cX6_allFree 20 = .ok (.if_icmp .ne 22, 3) := by decide +kernel
theorem dX6_allFree_23 : decode cX6_allFree 23 = .ok (.aload_n 0, 1) := by decide +kernel
theorem dX6_allFree_24 : decode cX6_allFree 24 = .ok (.getfield 43, 3) := by decide +kernel
theorem dX6_allFree_27 : decode cX6_allFree 27 = .ok (.iload_n 3, 1) := by decide +kernel
theorem dX6_allFree_28 : decode cX6_allFree 28 = .ok (.iaload, 1) := by decide +kernel
theorem dX6_allFree_29 : decode cX6_allFree 29 = .ok (.ifCond .eq 13, 3) := by decide +kernel
theorem dX6_allFree_32 : decode cX6_allFree 32 = .ok (.aload_n 0, 1) := by decide +kernel
theorem dX6_allFree_33 : decode cX6_allFree 33 = .ok (.getfield 43, 3) := by decide +kernel
theorem dX6_allFree_36 : decode cX6_allFree 36 = .ok (.iload_n 3, 1) := by decide +kernel
theorem dX6_allFree_37 : decode cX6_allFree 37 = .ok (.iaload, 1) := by decide +kernel
theorem dX6_allFree_38 : decode cX6_allFree 38 = .ok (.iconst 3, 1) := by decide +kernel
theorem dX6_allFree_39 : decode cX6_allFree 39 = .ok (.if_icmp .ne 7, 3) := by decide +kernel
theorem dX6_allFree_42 : decode cX6_allFree 42 = .ok (.iconst 1, 1) := by decide +kernel
theorem dX6_allFree_43 : decode cX6_allFree 43 = .ok (.goto 4, 3) := by decide +kernel
theorem dX6_allFree_46 : decode cX6_allFree 46 = .ok (.iconst 0, 1) := by decide +kernel
theorem dX6_allFree_47 : decode cX6_allFree 47 = .ok (.iand, 1) := by decide +kernel
theorem dX6_allFree_48 : decode cX6_allFree 48 = .ok (.istore_n 2, 1) := by decide +kernel
theorem dX6_allFree_49 : decode cX6_allFree 49 = .ok (.iinc 3 1, 3) := by decide +kernel
theorem dX6_allFree_52 : decode cX6_allFree 52 = .ok (.goto (-48), 3) := by decide +kernel
theorem dX6_allFree_55 : decode cX6_allFree 55 = .ok (.iload_n 2, 1) := by decide +kernel
theorem dX6_allFree_56 : decode cX6_allFree 56 = .ok (.ireturn, 1) := by decide +kernel
theorem dX6_frees_0 : decode cX6_frees 0 = .ok (.aload_n 0, 1) := by decide +kernel
theorem dX6_frees_1 : decode cX6_frees 1 = .ok (.getfield 43, 3) := by decide +kernel
theorem dX6_frees_4 : decode cX6_frees 4 = .ok (.iload_n 1, 1) := by decide +kernel
theorem dX6_frees_5 : decode cX6_frees 5 = .ok (.iconst 0, 1) := by decide +kernel
theorem dX6_frees_6 : decode cX6_frees 6 = .ok (.iastore, 1) := by decide +kernel
theorem dX6_frees_7 : decode cX6_frees 7 = .ok (.aload_n 0, 1) := by decide +kernel
theorem dX6_frees_8 : decode cX6_frees 8 = .ok (.getfield 46, 3) := by decide +kernel
theorem dX6_frees_11 : decode cX6_frees 11 = .ok (.iload_n 1, 1) := by decide +kernel
theorem dX6_frees_12 : decode cX6_frees 12 = .ok (.iaload, 1) := by decide +kernel
theorem dX6_frees_13 : decode cX6_frees 13 = .ok (.istore_n 2, 1) := by decide +kernel
theorem dX6_frees_14 : decode cX6_frees 14 = .ok (.iload_n 2, 1) := by decide +kernel
theorem dX6_frees_15 : decode cX6_frees 15 = .ok (.ifCond .lt 70, 3) := by decide +kernel
theorem dX6_frees_18 : decode cX6_frees 18 = .ok (.aload_n 0, 1) := by decide +kernel
theorem dX6_frees_19 : decode cX6_frees 19 = .ok (.iload_n 2, 1) := by decide +kernel
theorem dX6_frees_20 : decode cX6_frees 20 = .ok (.invokevirtual 129, 3) := by decide +kernel
theorem dX6_frees_23 : decode cX6_frees 23 = .ok (.ifCond .eq 62, 3) := by decide +kernel
theorem dX6_frees_26 : decode cX6_frees 26 = .ok (.iconst 0, 1) := by decide +kernel
theorem dX6_frees_27 : decode cX6_frees 27 = .ok (.istore_n 3, 1) := by decide +kernel
theorem dX6_frees_28 : decode cX6_frees 28 = .ok (.iload_n 3, 1) := by decide +kernel
theorem dX6_frees_29 : decode cX6_frees 29 = .ok (.aload_n 0, 1) := by decide +kernel
theorem dX6_frees_30 : decode cX6_frees 30 = .ok (.getfield 115, 3) := by decide +kernel
theorem dX6_frees_33 : decode cX6_frees 33 = .ok (.if_icmp .ge 35, 3) := by decide +kernel
theorem dX6_frees_36 : decode cX6_frees 36 = .ok (.aload_n 0, 1) := by decide +kernel
theorem dX6_frees_37 : decode cX6_frees 37 = .ok (.getfield 43, 3) := by decide +kernel
theorem dX6_frees_40 : decode cX6_frees 40 = .ok (.iload_n 3, 1) := by decide +kernel
theorem dX6_frees_41 : decode cX6_frees 41 = .ok (.aload_n 0, 1) := by decide +kernel
theorem dX6_frees_42 : decode cX6_frees 42 = .ok (.getfield 46, 3) := by decide +kernel
theorem dX6_frees_45 : decode cX6_frees 45 = .ok (.iload_n 3, 1) := by decide +kernel
theorem dX6_frees_46 : decode cX6_frees 46 = .ok (.iaload, 1) := by decide +kernel
theorem dX6_frees_47 : decode cX6_frees 47 = .ok (.iload_n 2, 1) := by decide +kernel
theorem dX6_frees_48 : decode cX6_frees 48 = .ok (.if_icmp .ne 7, 3) := by decide +kernel
theorem dX6_frees_51 : decode cX6_frees 51 = .ok (.iconst 3, 1) := by decide +kernel
theorem dX6_frees_52 : decode cX6_frees 52 = .ok (.goto 9, 3) := by decide +kernel
theorem dX6_frees_55 : decode cX6_frees 55 = .ok (.aload_n 0, 1) := by decide +kernel
theorem dX6_frees_56 : decode cX6_frees 56 = .ok (.getfield 43, 3) := by decide +kernel
theorem dX6_frees_59 : decode cX6_frees 59 = .ok (.iload_n 3, 1) := by decide +kernel
theorem dX6_frees_60 : decode cX6_frees 60 = .ok (.iaload, 1) := by decide +kernel
theorem dX6_frees_61 : decode cX6_frees 61 = .ok (.iastore, 1) := by decide +kernel
theorem dX6_frees_62 : decode cX6_frees 62 = .ok (.iinc 3 1, 3) := by decide +kernel
theorem dX6_frees_65 : decode cX6_frees 65 = .ok (.goto (-37), 3) := by decide +kernel
theorem dX6_frees_68 : decode cX6_frees 68 = .ok (.aload_n 0, 1) := by decide +kernel
theorem dX6_frees_69 : decode cX6_frees 69 = .ok (.getfield 43, 3) := by decide +kernel
theorem dX6_frees_72 : decode cX6_frees 72 = .ok (.iload_n 2, 1) := by decide +kernel
theorem dX6_frees_73 : decode cX6_frees 73 = .ok (.iconst 0, 1) := by decide +kernel
theorem dX6_frees_74 : decode cX6_frees 74 = .ok (.iastore, 1) := by decide +kernel
theorem dX6_frees_75 : decode cX6_frees 75 = .ok (.aload_n 0, 1) := by decide +kernel
theorem dX6_frees_76 : decode cX6_frees 76 = .ok (.getfield 46, 3) := by decide +kernel
theorem dX6_frees_79 : decode cX6_frees 79 = .ok (.iload_n 2, 1) := by decide +kernel
theorem dX6_frees_80 : decode cX6_frees 80 = .ok (.iaload, 1) := by decide +kernel
theorem dX6_frees_81 : decode cX6_frees 81 = .ok (.istore_n 2, 1) := by decide +kernel
theorem dX6_frees_82 : decode cX6_frees 82 = .ok (.goto (-68), 3) := by decide +kernel
theorem dX6_frees_85 : decode cX6_frees 85 = .ok (.return_, 1) := by decide +kernel
theorem dX6_isJob_0 : decode cX6_isJob 0 = .ok (.aload_n 0, 1) := by decide +kernel
theorem dX6_isJob_1 : decode cX6_isJob 1 = .ok (.iload_n 1, 1) := by decide +kernel
theorem dX6_isJob_2 : decode cX6_isJob 2 = .ok (.iconst 0, 1) := by decide +kernel
theorem dX6_isJob_3 : decode cX6_isJob 3 = .ok (.aload_n 0, 1) := by decide +kernel
theorem dX6_isJob_4 : decode cX6_isJob 4 = .ok (.getfield 132, 3) := by decide +kernel
theorem dX6_isJob_7 : decode cX6_isJob 7 = .ok (.iconst 1, 1) := by decide +kernel
theorem dX6_isJob_8 : decode cX6_isJob 8 = .ok (.isub, 1) := by decide +kernel
theorem dX6_isJob_9 : decode cX6_isJob 9 = .ok (.invokevirtual 74, 3) := by decide +kernel
theorem dX6_isJob_12 : decode cX6_isJob 12 = .ok (.ireturn, 1) := by decide +kernel
theorem dX6_takesOff_0 : decode cX6_takesOff 0 = .ok (.iload_n 2, 1) := by decide +kernel
theorem dX6_takesOff_1 : decode cX6_takesOff 1 = .ok (.iconst 1, 1) := by decide +kernel
theorem dX6_takesOff_2 : decode cX6_takesOff 2 = .ok (.isub, 1) := by decide +kernel
theorem dX6_takesOff_3 : decode cX6_takesOff 3 = .ok (.istore_n 3, 1) := by decide +kernel
theorem dX6_takesOff_4 : decode cX6_takesOff 4 = .ok (.iload_n 3, 1) := by decide +kernel
theorem dX6_takesOff_5 : decode cX6_takesOff 5 = .ok (.ifCond .lt 24, 3) := by decide +kernel
theorem dX6_takesOff_8 : decode cX6_takesOff 8 = .ok (.aload_n 0, 1) := by decide +kernel
theorem dX6_takesOff_9 : decode cX6_takesOff 9 = .ok (.aload_n 0, 1) := by decide +kernel
theorem dX6_takesOff_10 : decode cX6_takesOff 10 = .ok (.getfield 61, 3) := by decide +kernel
theorem dX6_takesOff_13 : decode cX6_takesOff 13 = .ok (.bipush 6, 2) := by decide +kernel
theorem dX6_takesOff_15 : decode cX6_takesOff 15 = .ok (.iload_n 1, 1) := by decide +kernel
theorem dX6_takesOff_16 : decode cX6_takesOff 16 = .ok (.imul, 1) := by decide +kernel
theorem dX6_takesOff_17 : decode cX6_takesOff 17 = .ok (.iload_n 3, 1) := by decide +kernel
theorem dX6_takesOff_18 : decode cX6_takesOff 18 = .ok (.iadd, 1) := by decide +kernel
theorem dX6_takesOff_19 : decode cX6_takesOff 19 = .ok (.iaload, 1) := by decide +kernel
theorem dX6_takesOff_20 : decode cX6_takesOff 20 = .ok (.invokevirtual 135, 3) := by decide +kernel
theorem dX6_takesOff_23 : decode cX6_takesOff 23 = .ok (.iinc 3 (-1), 3) := by decide +kernel
theorem dX6_takesOff_26 : decode cX6_takesOff 26 = .ok (.goto (-22), 3) := by decide +kernel
theorem dX6_takesOff_29 : decode cX6_takesOff 29 = .ok (.aload_n 0, 1) := by decide +kernel
theorem dX6_takesOff_30 : decode cX6_takesOff 30 = .ok (.getfield 55, 3) := by decide +kernel
theorem dX6_takesOff_33 : decode cX6_takesOff 33 = .ok (.iload_n 1, 1) := by decide +kernel
theorem dX6_takesOff_34 : decode cX6_takesOff 34 = .ok (.iconst 0, 1) := by decide +kernel
theorem dX6_takesOff_35 : decode cX6_takesOff 35 = .ok (.iastore, 1) := by decide +kernel
theorem dX6_takesOff_36 : decode cX6_takesOff 36 = .ok (.return_, 1) := by decide +kernel
theorem dX6_nests_0 : decode cX6_nests 0 = .ok (.aload_n 0, 1) := by decide +kernel
theorem dX6_nests_1 : decode cX6_nests 1 = .ok (.getfield 115, 3) := by decide +kernel
theorem dX6_nests_4 : decode cX6_nests 4 = .ok (.istore_n 2, 1) := by decide +kernel
theorem dX6_nests_5 : decode cX6_nests 5 = .ok (.aload_n 0, 1) := by decide +kernel
theorem dX6_nests_6 : decode cX6_nests 6 = .ok (.aload_n 0, 1) := by decide +kernel
theorem dX6_nests_7 : decode cX6_nests 7 = .ok (.getfield 49, 3) := by decide +kernel
theorem dX6_nests_10 : decode cX6_nests 10 = .ok (.iload_n 1, 1) := by decide +kernel
theorem dX6_nests_11 : decode cX6_nests 11 = .ok (.iaload, 1) := by decide +kernel
theorem dX6_nests_12 : decode cX6_nests 12 = .ok (.iconst 1, 1) := by decide +kernel
theorem dX6_nests_13 : decode cX6_nests 13 = .ok (.invokevirtual 100, 3) := by decide +kernel
theorem dX6_nests_16 : decode cX6_nests 16 = .ok (.iconst 1, 1) := by decide +kernel
theorem dX6_nests_17 : decode cX6_nests 17 = .ok (.iadd, 1) := by decide +kernel
theorem dX6_nests_18 : decode cX6_nests 18 = .ok (.istore_n 3, 1) := by decide +kernel
theorem dX6_nests_19 : decode cX6_nests 19 = .ok (.aload_n 0, 1) := by decide +kernel
theorem dX6_nests_20 : decode cX6_nests 20 = .ok (.aload_n 0, 1) := by decide +kernel
theorem dX6_nests_21 : decode cX6_nests 21 = .ok (.getfield 49, 3) := by decide +kernel
theorem dX6_nests_24 : decode cX6_nests 24 = .ok (.iload_n 1, 1) := by decide +kernel
theorem dX6_nests_25 : decode cX6_nests 25 = .ok (.iaload, 1) := by decide +kernel
theorem dX6_nests_26 : decode cX6_nests 26 = .ok (.iconst 0, 1) := by decide +kernel
theorem dX6_nests_27 : decode cX6_nests 27 = .ok (.invokevirtual 100, 3) := by decide +kernel
theorem dX6_nests_30 : decode cX6_nests 30 = .ok (.iconst 1, 1) := by decide +kernel
theorem dX6_nests_31 : decode cX6_nests 31 = .ok (.iadd, 1) := by decide +kernel
theorem dX6_nests_32 : decode cX6_nests 32 = .ok (.istore 4, 2) := by decide +kernel
theorem dX6_nests_34 : decode cX6_nests 34 = .ok (.iconst 0, 1) := by decide +kernel
theorem dX6_nests_35 : decode cX6_nests 35 = .ok (.istore 5, 2) := by decide +kernel
theorem dX6_nests_37 : decode cX6_nests 37 = .ok (.iconst 1, 1) := by decide +kernel
theorem dX6_nests_38 : decode cX6_nests 38 = .ok (.istore 6, 2) := by decide +kernel
theorem dX6_nests_40 : decode cX6_nests 40 = .ok (.iload 6, 2) := by decide +kernel
theorem dX6_nests_42 : decode cX6_nests 42 = .ok (.ifCond .eq 67, 3) := by decide +kernel
theorem dX6_nests_45 : decode cX6_nests 45 = .ok (.iload 5, 2) := by decide +kernel
theorem dX6_nests_47 : decode cX6_nests 47 = .ok (.aload_n 0, 1) := by decide +kernel
theorem dX6_nests_48 : decode cX6_nests 48 = .ok (.getfield 52, 3) := by decide +kernel
theorem dX6_nests_51 : decode cX6_nests 51 = .ok (.iload_n 1, 1) := by decide +kernel
theorem dX6_nests_52 : decode cX6_nests 52 = .ok (.iaload, 1) := by decide +kernel
theorem dX6_nests_53 : decode cX6_nests 53 = .ok (.if_icmp .ge 56, 3) := by decide +kernel
theorem dX6_nests_56 : decode cX6_nests 56 = .ok (.aload_n 0, 1) := by decide +kernel
theorem dX6_nests_57 : decode cX6_nests 57 = .ok (.iload_n 3, 1) := by decide +kernel
theorem dX6_nests_58 : decode cX6_nests 58 = .ok (.iload 4, 2) := by decide +kernel
theorem dX6_nests_60 : decode cX6_nests 60 = .ok (.invokevirtual 138, 3) := by decide +kernel
theorem dX6_nests_63 : decode cX6_nests 63 = .ok (.istore 7, 2) := by decide +kernel
theorem dX6_nests_65 : decode cX6_nests 65 = .ok (.iload 7, 2) := by decide +kernel
theorem dX6_nests_67 : decode cX6_nests 67 = .ok (.ifCond .lt 7, 3) := by decide +kernel
theorem dX6_nests_70 : decode cX6_nests 70 = .ok (.iconst 1, 1) := by decide +kernel
theorem dX6_nests_71 : decode cX6_nests 71 = .ok (.goto 4, 3) := by decide +kernel
theorem dX6_nests_74 : decode cX6_nests 74 = .ok (.iconst 0, 1) := by decide +kernel
theorem dX6_nests_75 : decode cX6_nests 75 = .ok (.istore 6, 2) := by decide +kernel
theorem dX6_nests_77 : decode cX6_nests 77 = .ok (.aload_n 0, 1) := by decide +kernel
theorem dX6_nests_78 : decode cX6_nests 78 = .ok (.getfield 61, 3) := by decide +kernel
theorem dX6_nests_81 : decode cX6_nests 81 = .ok (.bipush 6, 2) := by decide +kernel
theorem dX6_nests_83 : decode cX6_nests 83 = .ok (.iload_n 1, 1) := by decide +kernel
theorem dX6_nests_84 : decode cX6_nests 84 = .ok (.imul, 1) := by decide +kernel
theorem dX6_nests_85 : decode cX6_nests 85 = .ok (.iload 5, 2) := by decide +kernel
theorem dX6_nests_87 : decode cX6_nests 87 = .ok (.iadd, 1) := by decide +kernel
theorem dX6_nests_88 : decode cX6_nests 88 = .ok (.iload 7, 2) := by decide +kernel
theorem dX6_nests_90 : decode cX6_nests 90 = .ok (.iastore, 1) := by decide +kernel
theorem dX6_nests_91 : decode cX6_nests 91 = .ok (.iload 5, 2) := by decide +kernel
theorem dX6_nests_93 : decode cX6_nests 93 = .ok (.iload 6, 2) := by decide +kernel
theorem dX6_nests_95 : decode cX6_nests 95 = .ok (.ifCond .eq 7, 3) := by decide +kernel
theorem dX6_nests_98 : decode cX6_nests 98 = .ok (.iconst 1, 1) := by decide +kernel
theorem dX6_nests_99 : decode cX6_nests 99 = .ok (.goto 4, 3) := by decide +kernel
theorem dX6_nests_102 : decode cX6_nests 102 = .ok (.iconst 0, 1) := by decide +kernel
theorem dX6_nests_103 : decode cX6_nests 103 = .ok (.iadd, 1) := by decide +kernel
theorem dX6_nests_104 : decode cX6_nests 104 = .ok (.istore 5, 2) := by decide +kernel
theorem dX6_nests_106 : decode cX6_nests 106 = .ok (.goto (-66), 3) := by decide +kernel
theorem dX6_nests_109 : decode cX6_nests 109 = .ok (.iload 6, 2) := by decide +kernel
theorem dX6_nests_111 : decode cX6_nests 111 = .ok (.ifCond .eq 30, 3) := by decide +kernel
theorem dX6_nests_114 : decode cX6_nests 114 = .ok (.aload_n 0, 1) := by decide +kernel
theorem dX6_nests_115 : decode cX6_nests 115 = .ok (.getfield 55, 3) := by decide +kernel
theorem dX6_nests_118 : decode cX6_nests 118 = .ok (.iload_n 1, 1) := by decide +kernel
theorem dX6_nests_119 : decode cX6_nests 119 = .ok (.iconst 1, 1) := by decide +kernel
theorem dX6_nests_120 : decode cX6_nests 120 = .ok (.iastore, 1) := by decide +kernel
theorem dX6_nests_121 : decode cX6_nests 121 = .ok (.aload_n 0, 1) := by decide +kernel
theorem dX6_nests_122 : decode cX6_nests 122 = .ok (.getfield 58, 3) := by decide +kernel
theorem dX6_nests_125 : decode cX6_nests 125 = .ok (.iload_n 1, 1) := by decide +kernel
theorem dX6_nests_126 : decode cX6_nests 126 = .ok (.aload_n 0, 1) := by decide +kernel
theorem dX6_nests_127 : decode cX6_nests 127 = .ok (.getfield 16, 3) := by decide +kernel
theorem dX6_nests_130 : decode cX6_nests 130 = .ok (.aload_n 0, 1) := by decide +kernel
theorem dX6_nests_131 : decode cX6_nests 131 = .ok (.getfield 49, 3) := by decide +kernel
theorem dX6_nests_134 : decode cX6_nests 134 = .ok (.iload_n 1, 1) := by decide +kernel
theorem dX6_nests_135 : decode cX6_nests 135 = .ok (.iaload, 1) := by decide +kernel
theorem dX6_nests_136 : decode cX6_nests 136 = .ok (.iaload, 1) := by decide +kernel
theorem dX6_nests_137 : decode cX6_nests 137 = .ok (.iastore, 1) := by decide +kernel
theorem dX6_nests_138 : decode cX6_nests 138 = .ok (.goto 15, 3) := by decide +kernel
theorem dX6_nests_141 : decode cX6_nests 141 = .ok (.aload_n 0, 1) := by decide +kernel
theorem dX6_nests_142 : decode cX6_nests 142 = .ok (.iload_n 1, 1) := by decide +kernel
theorem dX6_nests_143 : decode cX6_nests 143 = .ok (.iload 5, 2) := by decide +kernel
theorem dX6_nests_145 : decode cX6_nests 145 = .ok (.invokevirtual 141, 3) := by decide +kernel
theorem dX6_nests_148 : decode cX6_nests 148 = .ok (.aload_n 0, 1) := by decide +kernel
theorem dX6_nests_149 : decode cX6_nests 149 = .ok (.iload_n 2, 1) := by decide +kernel
theorem dX6_nests_150 : decode cX6_nests 150 = .ok (.putfield 115, 3) := by decide +kernel
theorem dX6_nests_153 : decode cX6_nests 153 = .ok (.return_, 1) := by decide +kernel
theorem dX6_tries_0 : decode cX6_tries 0 = .ok (.iconst 0, 1) := by decide +kernel
theorem dX6_tries_1 : decode cX6_tries 1 = .ok (.istore_n 1, 1) := by decide +kernel
theorem dX6_tries_2 : decode cX6_tries 2 = .ok (.iload_n 1, 1) := by decide +kernel
theorem dX6_tries_3 : decode cX6_tries 3 = .ok (.aload_n 0, 1) := by decide +kernel
theorem dX6_tries_4 : decode cX6_tries 4 = .ok (.getfield 132, 3) := by decide +kernel
theorem dX6_tries_7 : decode cX6_tries 7 = .ok (.if_icmp .ge 38, 3) := by decide +kernel
theorem dX6_tries_10 : decode cX6_tries 10 = .ok (.aload_n 0, 1) := by decide +kernel
theorem dX6_tries_11 : decode cX6_tries 11 = .ok (.getfield 55, 3) := by decide +kernel
theorem dX6_tries_14 : decode cX6_tries 14 = .ok (.iload_n 1, 1) := by decide +kernel
theorem dX6_tries_15 : decode cX6_tries 15 = .ok (.iaload, 1) := by decide +kernel
theorem dX6_tries_16 : decode cX6_tries 16 = .ok (.ifCond .ne 23, 3) := by decide +kernel
theorem dX6_tries_19 : decode cX6_tries 19 = .ok (.aload_n 0, 1) := by decide +kernel
theorem dX6_tries_20 : decode cX6_tries 20 = .ok (.getfield 7, 3) := by decide +kernel
theorem dX6_tries_23 : decode cX6_tries 23 = .ok (.aload_n 0, 1) := by decide +kernel
theorem dX6_tries_24 : decode cX6_tries 24 = .ok (.getfield 49, 3) := by decide +kernel
theorem dX6_tries_27 : decode cX6_tries 27 = .ok (.iload_n 1, 1) := by decide +kernel
theorem dX6_tries_28 : decode cX6_tries 28 = .ok (.iaload, 1) := by decide +kernel
theorem dX6_tries_29 : decode cX6_tries 29 = .ok (.iaload, 1) := by decide +kernel
theorem dX6_tries_30 : decode cX6_tries 30 = .ok (.iconst 1, 1) := by decide +kernel
theorem dX6_tries_31 : decode cX6_tries 31 = .ok (.if_icmp .ne 8, 3) := by decide +kernel
theorem dX6_tries_34 : decode cX6_tries 34 = .ok (.aload_n 0, 1) := by decide +kernel
theorem dX6_tries_35 : decode cX6_tries 35 = .ok (.iload_n 1, 1) := by decide +kernel
theorem dX6_tries_36 : decode cX6_tries 36 = .ok (.invokevirtual 145, 3) := by decide +kernel
theorem dX6_tries_39 : decode cX6_tries 39 = .ok (.iinc 1 1, 3) := by decide +kernel
theorem dX6_tries_42 : decode cX6_tries 42 = .ok (.goto (-40), 3) := by decide +kernel
theorem dX6_tries_45 : decode cX6_tries 45 = .ok (.return_, 1) := by decide +kernel
theorem dX6_job_0 : decode cX6_job 0 = .ok (.aload_n 0, 1) := by decide +kernel
theorem dX6_job_1 : decode cX6_job 1 = .ok (.iload_n 1, 1) := by decide +kernel
theorem dX6_job_2 : decode cX6_job 2 = .ok (.invokevirtual 82, 3) := by decide +kernel
theorem dX6_job_5 : decode cX6_job 5 = .ok (.istore_n 3, 1) := by decide +kernel
theorem dX6_job_6 : decode cX6_job 6 = .ok (.aload_n 0, 1) := by decide +kernel
theorem dX6_job_7 : decode cX6_job 7 = .ok (.iload_n 3, 1) := by decide +kernel
theorem dX6_job_8 : decode cX6_job 8 = .ok (.ifCond .ne 7, 3) := by decide +kernel
theorem dX6_job_11 : decode cX6_job 11 = .ok (.iconst 1, 1) := by decide +kernel
theorem dX6_job_12 : decode cX6_job 12 = .ok (.goto 41, 3) := by decide +kernel
theorem dX6_job_15 : decode cX6_job 15 = .ok (.aload_n 0, 1) := by decide +kernel
theorem dX6_job_16 : decode cX6_job 16 = .ok (.iload_n 2, 1) := by decide +kernel
theorem dX6_job_17 : decode cX6_job 17 = .ok (.iconst 1, 1) := by decide +kernel
theorem dX6_job_18 : decode cX6_job 18 = .ok (.bipush 6, 2) := by decide +kernel
theorem dX6_job_20 : decode cX6_job 20 = .ok (.invokevirtual 74, 3) := by decide +kernel
theorem dX6_job_23 : decode cX6_job 23 = .ok (.ifCond .ne 7, 3) := by decide +kernel
theorem dX6_job_26 : decode cX6_job 26 = .ok (.iconst 2, 1) := by decide +kernel
theorem dX6_job_27 : decode cX6_job 27 = .ok (.goto 26, 3) := by decide +kernel
theorem dX6_job_30 : decode cX6_job 30 = .ok (.aload_n 0, 1) := by decide +kernel
theorem dX6_job_31 : decode cX6_job 31 = .ok (.getfield 7, 3) := by decide +kernel
theorem dX6_job_34 : decode cX6_job 34 = .ok (.iload_n 1, 1) := by decide +kernel
theorem dX6_job_35 : decode cX6_job 35 = .ok (.iaload, 1) := by decide +kernel
theorem dX6_job_36 : decode cX6_job 36 = .ok (.ifCond .eq 12, 3) := by decide +kernel
theorem dX6_job_39 : decode cX6_job 39 = .ok (.aload_n 0, 1) := by decide +kernel
theorem dX6_job_40 : decode cX6_job 40 = .ok (.getfield 132, 3) := by decide +kernel
theorem dX6_job_43 : decode cX6_job 43 = .ok (.bipush 30, 2) := by decide +kernel
theorem dX6_job_45 : decode cX6_job 45 = .ok (.if_icmp .ne 7, 3) := by decide +kernel
theorem dX6_job_48 : decode cX6_job 48 = .ok (.iconst 3, 1) := by decide +kernel
theorem dX6_job_49 : decode cX6_job 49 = .ok (.goto 4, 3) := by decide +kernel
theorem dX6_job_52 : decode cX6_job 52 = .ok (.iconst 0, 1) := by decide +kernel
theorem dX6_job_53 : decode cX6_job 53 = .ok (.invokevirtual 78, 3) := by decide +kernel
theorem dX6_job_56 : decode cX6_job 56 = .ok (.ifCond .eq 5, 3) := by decide +kernel
theorem dX6_job_59 : decode cX6_job 59 = .ok (.iconst (-1), 1) := by decide +kernel
theorem dX6_job_60 : decode cX6_job 60 = .ok (.ireturn, 1) := by decide +kernel
theorem dX6_job_61 : decode cX6_job 61 = .ok (.aload_n 0, 1) := by decide +kernel
theorem dX6_job_62 : decode cX6_job 62 = .ok (.getfield 49, 3) := by decide +kernel
theorem dX6_job_65 : decode cX6_job 65 = .ok (.aload_n 0, 1) := by decide +kernel
theorem dX6_job_66 : decode cX6_job 66 = .ok (.getfield 132, 3) := by decide +kernel
theorem dX6_job_69 : decode cX6_job 69 = .ok (.iload_n 1, 1) := by decide +kernel
theorem dX6_job_70 : decode cX6_job 70 = .ok (.iastore, 1) := by decide +kernel
theorem dX6_job_71 : decode cX6_job 71 = .ok (.aload_n 0, 1) := by decide +kernel
theorem dX6_job_72 : decode cX6_job 72 = .ok (.getfield 52, 3) := by decide +kernel
theorem dX6_job_75 : decode cX6_job 75 = .ok (.aload_n 0, 1) := by decide +kernel
theorem dX6_job_76 : decode cX6_job 76 = .ok (.getfield 132, 3) := by decide +kernel
theorem dX6_job_79 : decode cX6_job 79 = .ok (.iload_n 2, 1) := by decide +kernel
theorem dX6_job_80 : decode cX6_job 80 = .ok (.iastore, 1) := by decide +kernel
theorem dX6_job_81 : decode cX6_job 81 = .ok (.aload_n 0, 1) := by decide +kernel
theorem dX6_job_82 : decode cX6_job 82 = .ok (.dup, 1) := by decide +kernel
theorem dX6_job_83 : decode cX6_job 83 = .ok (.getfield 132, 3) := by decide +kernel
theorem dX6_job_86 : decode cX6_job 86 = .ok (.iconst 1, 1) := by decide +kernel
theorem dX6_job_87 : decode cX6_job 87 = .ok (.iadd, 1) := by decide +kernel
theorem dX6_job_88 : decode cX6_job 88 = .ok (.putfield 132, 3) := by decide +kernel
theorem dX6_job_91 : decode cX6_job 91 = .ok (.aload_n 0, 1) := by decide +kernel
theorem dX6_job_92 : decode cX6_job 92 = .ok (.aload_n 0, 1) := by decide +kernel
theorem dX6_job_93 : decode cX6_job 93 = .ok (.getfield 132, 3) := by decide +kernel
theorem dX6_job_96 : decode cX6_job 96 = .ok (.iconst 1, 1) := by decide +kernel
theorem dX6_job_97 : decode cX6_job 97 = .ok (.isub, 1) := by decide +kernel
theorem dX6_job_98 : decode cX6_job 98 = .ok (.invokevirtual 145, 3) := by decide +kernel
theorem dX6_job_101 : decode cX6_job 101 = .ok (.aload_n 0, 1) := by decide +kernel
theorem dX6_job_102 : decode cX6_job 102 = .ok (.getfield 132, 3) := by decide +kernel
theorem dX6_job_105 : decode cX6_job 105 = .ok (.iconst 1, 1) := by decide +kernel
theorem dX6_job_106 : decode cX6_job 106 = .ok (.isub, 1) := by decide +kernel
theorem dX6_job_107 : decode cX6_job 107 = .ok (.ireturn, 1) := by decide +kernel
theorem dX6_cancel_0 : decode cX6_cancel 0 = .ok (.aload_n 0, 1) := by decide +kernel
theorem dX6_cancel_1 : decode cX6_cancel 1 = .ok (.aload_n 0, 1) := by decide +kernel
theorem dX6_cancel_2 : decode cX6_cancel 2 = .ok (.iload_n 1, 1) := by decide +kernel
theorem dX6_cancel_3 : decode cX6_cancel 3 = .ok (.invokevirtual 148, 3) := by decide +kernel
theorem dX6_cancel_6 : decode cX6_cancel 6 = .ok (.ifCond .ne 7, 3) := by decide +kernel
theorem dX6_cancel_9 : decode cX6_cancel 9 = .ok (.iconst 1, 1) := by decide +kernel
theorem dX6_cancel_10 : decode cX6_cancel 10 = .ok (.goto 18, 3) := by decide +kernel
theorem dX6_cancel_13 : decode cX6_cancel 13 = .ok (.aload_n 0, 1) := by decide +kernel
theorem dX6_cancel_14 : decode cX6_cancel 14 = .ok (.getfield 55, 3) := by decide +kernel
theorem dX6_cancel_17 : decode cX6_cancel 17 = .ok (.iload_n 1, 1) := by decide +kernel
theorem dX6_cancel_18 : decode cX6_cancel 18 = .ok (.iaload, 1) := by decide +kernel
theorem dX6_cancel_19 : decode cX6_cancel 19 = .ok (.iconst 1, 1) := by decide +kernel
theorem dX6_cancel_20 : decode cX6_cancel 20 = .ok (.if_icmp .le 7, 3) := by decide +kernel
theorem dX6_cancel_23 : decode cX6_cancel 23 = .ok (.iconst 2, 1) := by decide +kernel
theorem dX6_cancel_24 : decode cX6_cancel 24 = .ok (.goto 4, 3) := by decide +kernel
theorem dX6_cancel_27 : decode cX6_cancel 27 = .ok (.iconst 0, 1) := by decide +kernel
theorem dX6_cancel_28 : decode cX6_cancel 28 = .ok (.invokevirtual 78, 3) := by decide +kernel
theorem dX6_cancel_31 : decode cX6_cancel 31 = .ok (.ifCond .eq 5, 3) := by decide +kernel
theorem dX6_cancel_34 : decode cX6_cancel 34 = .ok (.iconst (-1), 1) := by decide +kernel
theorem dX6_cancel_35 : decode cX6_cancel 35 = .ok (.ireturn, 1) := by decide +kernel
theorem dX6_cancel_36 : decode cX6_cancel 36 = .ok (.aload_n 0, 1) := by decide +kernel
theorem dX6_cancel_37 : decode cX6_cancel 37 = .ok (.getfield 55, 3) := by decide +kernel
theorem dX6_cancel_40 : decode cX6_cancel 40 = .ok (.iload_n 1, 1) := by decide +kernel
theorem dX6_cancel_41 : decode cX6_cancel 41 = .ok (.iaload, 1) := by decide +kernel
theorem dX6_cancel_42 : decode cX6_cancel 42 = .ok (.istore_n 2, 1) := by decide +kernel
theorem dX6_cancel_43 : decode cX6_cancel 43 = .ok (.iload_n 2, 1) := by decide +kernel
theorem dX6_cancel_44 : decode cX6_cancel 44 = .ok (.iconst 1, 1) := by decide +kernel
theorem dX6_cancel_45 : decode cX6_cancel 45 = .ok (.if_icmp .ne 14, 3) := by decide +kernel
theorem dX6_cancel_48 : decode cX6_cancel 48 = .ok (.aload_n 0, 1) := by decide +kernel
theorem dX6_cancel_49 : decode cX6_cancel 49 = .ok (.iload_n 1, 1) := by decide +kernel
theorem dX6_cancel_50 : decode cX6_cancel 50 = .ok (.aload_n 0, 1) := by decide +kernel
theorem dX6_cancel_51 : decode cX6_cancel 51 = .ok (.getfield 52, 3) := by decide +kernel
theorem dX6_cancel_54 : decode cX6_cancel 54 = .ok (.iload_n 1, 1) := by decide +kernel
theorem dX6_cancel_55 : decode cX6_cancel 55 = .ok (.iaload, 1) := by decide +kernel
theorem dX6_cancel_56 : decode cX6_cancel 56 = .ok (.invokevirtual 141, 3) := by decide +kernel
theorem dX6_cancel_59 : decode cX6_cancel 59 = .ok (.aload_n 0, 1) := by decide +kernel
theorem dX6_cancel_60 : decode cX6_cancel 60 = .ok (.getfield 55, 3) := by decide +kernel
theorem dX6_cancel_63 : decode cX6_cancel 63 = .ok (.iload_n 1, 1) := by decide +kernel
theorem dX6_cancel_64 : decode cX6_cancel 64 = .ok (.iconst 3, 1) := by decide +kernel
theorem dX6_cancel_65 : decode cX6_cancel 65 = .ok (.iastore, 1) := by decide +kernel
theorem dX6_cancel_66 : decode cX6_cancel 66 = .ok (.aload_n 0, 1) := by decide +kernel
theorem dX6_cancel_67 : decode cX6_cancel 67 = .ok (.invokevirtual 97, 3) := by decide +kernel
theorem dX6_cancel_70 : decode cX6_cancel 70 = .ok (.iload_n 2, 1) := by decide +kernel
theorem dX6_cancel_71 : decode cX6_cancel 71 = .ok (.ireturn, 1) := by decide +kernel
theorem dX6_shares_0 : decode cX6_shares 0 = .ok (.iconst 0, 1) := by decide +kernel
theorem dX6_shares_1 : decode cX6_shares 1 = .ok (.istore_n 3, 1) := by decide +kernel
theorem dX6_shares_2 : decode cX6_shares 2 = .ok (.iconst 0, 1) := by decide +kernel
theorem dX6_shares_3 : decode cX6_shares 3 = .ok (.istore 4, 2) := by decide +kernel
theorem dX6_shares_5 : decode cX6_shares 5 = .ok (.iload 4, 2) := by decide +kernel
theorem dX6_shares_7 : decode cX6_shares 7 = .ok (.aload_n 0, 1) := by decide +kernel
theorem dX6_shares_8 : decode cX6_shares 8 = .ok (.getfield 52, 3) := by decide +kernel
theorem dX6_shares_11 : decode cX6_shares 11 = .ok (.iload_n 1, 1) := by decide +kernel
theorem dX6_shares_12 : decode cX6_shares 12 = .ok (.iaload, 1) := by decide +kernel
theorem dX6_shares_13 : decode cX6_shares 13 = .ok (.aload_n 0, 1) := by decide +kernel
theorem dX6_shares_14 : decode cX6_shares 14 = .ok (.getfield 52, 3) := by decide +kernel
theorem dX6_shares_17 : decode cX6_shares 17 = .ok (.iload_n 2, 1) := by decide +kernel
theorem dX6_shares_18 : decode cX6_shares 18 = .ok (.iaload, 1) := by decide +kernel
theorem dX6_shares_19 : decode cX6_shares 19 = .ok (.imul, 1) := by decide +kernel
theorem dX6_shares_20 : decode cX6_shares 20 = .ok (.if_icmp .ge 68, 3) := by decide +kernel
theorem dX6_shares_23 : decode cX6_shares 23 = .ok (.iload_n 3, 1) := by decide +kernel
theorem dX6_shares_24 : decode cX6_shares 24 = .ok (.aload_n 0, 1) := by decide +kernel
theorem dX6_shares_25 : decode cX6_shares 25 = .ok (.getfield 28, 3) := by decide +kernel
theorem dX6_shares_28 : decode cX6_shares 28 = .ok (.aload_n 0, 1) := by decide +kernel
theorem dX6_shares_29 : decode cX6_shares 29 = .ok (.getfield 61, 3) := by decide +kernel
theorem dX6_shares_32 : decode cX6_shares 32 = .ok (.bipush 6, 2) := by decide +kernel
theorem dX6_shares_34 : decode cX6_shares 34 = .ok (.iload_n 1, 1) := by decide +kernel
theorem dX6_shares_35 : decode cX6_shares 35 = .ok (.imul, 1) := by decide +kernel
theorem dX6_shares_36 : decode cX6_shares 36 = .ok (.iload 4, 2) := by decide +kernel
theorem dX6_shares_38 : decode cX6_shares 38 = .ok (.aload_n 0, 1) := by decide +kernel
theorem dX6_shares_39 : decode cX6_shares 39 = .ok (.getfield 52, 3) := by decide +kernel
theorem dX6_shares_42 : decode cX6_shares 42 = .ok (.iload_n 2, 1) := by decide +kernel
theorem dX6_shares_43 : decode cX6_shares 43 = .ok (.iaload, 1) := by decide +kernel
theorem dX6_shares_44 : decode cX6_shares 44 = .ok (.idiv, 1) := by decide +kernel
theorem dX6_shares_45 : decode cX6_shares 45 = .ok (.iadd, 1) := by decide +kernel
theorem dX6_shares_46 : decode cX6_shares 46 = .ok (.iaload, 1) := by decide +kernel
theorem dX6_shares_47 : decode cX6_shares 47 = .ok (.iaload, 1) := by decide +kernel
theorem dX6_shares_48 : decode cX6_shares 48 = .ok (.aload_n 0, 1) := by decide +kernel
theorem dX6_shares_49 : decode cX6_shares 49 = .ok (.getfield 28, 3) := by decide +kernel
theorem dX6_shares_52 : decode cX6_shares 52 = .ok (.aload_n 0, 1) := by decide +kernel
theorem dX6_shares_53 : decode cX6_shares 53 = .ok (.getfield 61, 3) := by decide +kernel
theorem dX6_shares_56 : decode cX6_shares 56 = .ok (.bipush 6, 2) := by decide +kernel
theorem dX6_shares_58 : decode cX6_shares 58 = .ok (.iload_n 2, 1) := by decide +kernel
theorem dX6_shares_59 : decode cX6_shares 59 = .ok (.imul, 1) := by decide +kernel
theorem dX6_shares_60 : decode cX6_shares 60 = .ok (.iload 4, 2) := by decide +kernel
theorem dX6_shares_62 : decode cX6_shares 62 = .ok (.aload_n 0, 1) := by decide +kernel
theorem dX6_shares_63 : decode cX6_shares 63 = .ok (.getfield 52, 3) := by decide +kernel
theorem dX6_shares_66 : decode cX6_shares 66 = .ok (.iload_n 2, 1) := by decide +kernel
theorem dX6_shares_67 : decode cX6_shares 67 = .ok (.iaload, 1) := by decide +kernel
theorem dX6_shares_68 : decode cX6_shares 68 = .ok (.irem, 1) := by decide +kernel
theorem dX6_shares_69 : decode cX6_shares 69 = .ok (.iadd, 1) := by decide +kernel
theorem dX6_shares_70 : decode cX6_shares 70 = .ok (.iaload, 1) := by decide +kernel
theorem dX6_shares_71 : decode cX6_shares 71 = .ok (.iaload, 1) := by decide +kernel
theorem dX6_shares_72 : decode cX6_shares 72 = .ok (.if_icmp .ne 7, 3) := by decide +kernel
theorem dX6_shares_75 : decode cX6_shares 75 = .ok (.iconst 1, 1) := by decide +kernel
theorem dX6_shares_76 : decode cX6_shares 76 = .ok (.goto 4, 3) := by decide +kernel
theorem dX6_shares_79 : decode cX6_shares 79 = .ok (.iconst 0, 1) := by decide +kernel
theorem dX6_shares_80 : decode cX6_shares 80 = .ok (.ior, 1) := by decide +kernel
theorem dX6_shares_81 : decode cX6_shares 81 = .ok (.istore_n 3, 1) := by decide +kernel
theorem dX6_shares_82 : decode cX6_shares 82 = .ok (.iinc 4 1, 3) := by decide +kernel
theorem dX6_shares_85 : decode cX6_shares 85 = .ok (.goto (-80), 3) := by decide +kernel
theorem dX6_shares_88 : decode cX6_shares 88 = .ok (.iload_n 3, 1) := by decide +kernel
theorem dX6_shares_89 : decode cX6_shares 89 = .ok (.ireturn, 1) := by decide +kernel
theorem dX6_redraw_0 : decode cX6_redraw 0 = .ok (.aload_n 0, 1) := by decide +kernel
theorem dX6_redraw_1 : decode cX6_redraw 1 = .ok (.aload_n 0, 1) := by decide +kernel
theorem dX6_redraw_2 : decode cX6_redraw 2 = .ok (.iload_n 1, 1) := by decide +kernel
theorem dX6_redraw_3 : decode cX6_redraw 3 = .ok (.invokevirtual 82, 3) := by decide +kernel
theorem dX6_redraw_6 : decode cX6_redraw 6 = .ok (.ifCond .ne 7, 3) := by decide +kernel
theorem dX6_redraw_9 : decode cX6_redraw 9 = .ok (.iconst 1, 1) := by decide +kernel
theorem dX6_redraw_10 : decode cX6_redraw 10 = .ok (.goto 17, 3) := by decide +kernel
theorem dX6_redraw_13 : decode cX6_redraw 13 = .ok (.aload_n 0, 1) := by decide +kernel
theorem dX6_redraw_14 : decode cX6_redraw 14 = .ok (.getfield 7, 3) := by decide +kernel
theorem dX6_redraw_17 : decode cX6_redraw 17 = .ok (.iload_n 1, 1) := by decide +kernel
theorem dX6_redraw_18 : decode cX6_redraw 18 = .ok (.iaload, 1) := by decide +kernel
theorem dX6_redraw_19 : decode cX6_redraw 19 = .ok (.ifCond .ne 7, 3) := by decide +kernel
theorem dX6_redraw_22 : decode cX6_redraw 22 = .ok (.iconst 2, 1) := by decide +kernel
theorem dX6_redraw_23 : decode cX6_redraw 23 = .ok (.goto 4, 3) := by decide +kernel
theorem dX6_redraw_26 : decode cX6_redraw 26 = .ok (.iconst 0, 1) := by decide +kernel
theorem dX6_redraw_27 : decode cX6_redraw 27 = .ok (.invokevirtual 78, 3) := by decide +kernel
theorem dX6_redraw_30 : decode cX6_redraw 30 = .ok (.ifCond .eq 5, 3) := by decide +kernel
theorem dX6_redraw_33 : decode cX6_redraw 33 = .ok (.iconst (-1), 1) := by decide +kernel
end
section
theorem dX6_redraw_34 : decode cX6_redraw 34 = .ok (.ireturn, 1) := by decide +kernel
theorem dX6_redraw_35 : decode cX6_redraw 35 = .ok (.iconst 0, 1) := by decide +kernel
theorem dX6_redraw_36 : decode cX6_redraw 36 = .ok (.istore_n 2, 1) := by decide +kernel
theorem dX6_redraw_37 : decode cX6_redraw 37 = .ok (.iload_n 2, 1) := by decide +kernel
theorem dX6_redraw_38 : decode cX6_redraw 38 = .ok (.aload_n 0, 1) := by decide +kernel
theorem dX6_redraw_39 : decode cX6_redraw 39 = .ok (.getfield 132, 3) := by decide +kernel
theorem dX6_redraw_42 : decode cX6_redraw 42 = .ok (.if_icmp .ge 97, 3) := by decide +kernel
theorem dX6_redraw_45 : decode cX6_redraw 45 = .ok (.aload_n 0, 1) := by decide +kernel
theorem dX6_redraw_46 : decode cX6_redraw 46 = .ok (.getfield 64, 3) := by decide +kernel
theorem dX6_redraw_49 : decode cX6_redraw 49 = .ok (.iload_n 2, 1) := by decide +kernel
theorem dX6_redraw_50 : decode cX6_redraw 50 = .ok (.iconst 0, 1) := by decide +kernel
theorem dX6_redraw_51 : decode cX6_redraw 51 = .ok (.iastore, 1) := by decide +kernel
theorem dX6_redraw_52 : decode cX6_redraw 52 = .ok (.iconst 0, 1) := by decide +kernel
theorem dX6_redraw_53 : decode cX6_redraw 53 = .ok (.istore_n 3, 1) := by decide +kernel
theorem dX6_redraw_54 : decode cX6_redraw 54 = .ok (.iload_n 3, 1) := by decide +kernel
theorem dX6_redraw_55 : decode cX6_redraw 55 = .ok (.aload_n 0, 1) := by decide +kernel
theorem dX6_redraw_56 : decode cX6_redraw 56 = .ok (.getfield 132, 3) := by decide +kernel
theorem dX6_redraw_59 : decode cX6_redraw 59 = .ok (.if_icmp .ge 74, 3) := by decide +kernel
theorem dX6_redraw_62 : decode cX6_redraw 62 = .ok (.aload_n 0, 1) := by decide +kernel
theorem dX6_redraw_63 : decode cX6_redraw 63 = .ok (.getfield 55, 3) := by decide +kernel
theorem dX6_redraw_66 : decode cX6_redraw 66 = .ok (.iload_n 3, 1) := by decide +kernel
theorem dX6_redraw_67 : decode cX6_redraw 67 = .ok (.iaload, 1) := by decide +kernel
theorem dX6_redraw_68 : decode cX6_redraw 68 = .ok (.iconst 1, 1) := by decide +kernel
theorem dX6_redraw_69 : decode cX6_redraw 69 = .ok (.if_icmp .ne 17, 3) := by decide +kernel
theorem dX6_redraw_72 : decode cX6_redraw 72 = .ok (.aload_n 0, 1) := by decide +kernel
theorem dX6_redraw_73 : decode cX6_redraw 73 = .ok (.getfield 49, 3) := by decide +kernel
theorem dX6_redraw_76 : decode cX6_redraw 76 = .ok (.iload_n 3, 1) := by decide +kernel
theorem dX6_redraw_77 : decode cX6_redraw 77 = .ok (.iaload, 1) := by decide +kernel
theorem dX6_redraw_78 : decode cX6_redraw 78 = .ok (.iload_n 1, 1) := by decide +kernel
theorem dX6_redraw_79 : decode cX6_redraw 79 = .ok (.if_icmp .ne 7, 3) := by decide +kernel
theorem dX6_redraw_82 : decode cX6_redraw 82 = .ok (.iconst 1, 1) := by decide +kernel
theorem dX6_redraw_83 : decode cX6_redraw 83 = .ok (.goto 4, 3) := by decide +kernel
theorem dX6_redraw_86 : decode cX6_redraw 86 = .ok (.iconst 0, 1) := by decide +kernel
theorem dX6_redraw_87 : decode cX6_redraw 87 = .ok (.istore 4, 2) := by decide +kernel
theorem dX6_redraw_89 : decode cX6_redraw 89 = .ok (.aload_n 0, 1) := by decide +kernel
theorem dX6_redraw_90 : decode cX6_redraw 90 = .ok (.getfield 64, 3) := by decide +kernel
theorem dX6_redraw_93 : decode cX6_redraw 93 = .ok (.iload_n 2, 1) := by decide +kernel
theorem dX6_redraw_94 : decode cX6_redraw 94 = .ok (.dup2, 1) := by decide +kernel
theorem dX6_redraw_95 : decode cX6_redraw 95 = .ok (.iaload, 1) := by decide +kernel
theorem dX6_redraw_96 : decode cX6_redraw 96 = .ok (.aload_n 0, 1) := by decide +kernel
theorem dX6_redraw_97 : decode cX6_redraw 97 = .ok (.getfield 55, 3) := by decide +kernel
theorem dX6_redraw_100 : decode cX6_redraw 100 = .ok (.iload_n 2, 1) := by decide +kernel
theorem dX6_redraw_101 : decode cX6_redraw 101 = .ok (.iaload, 1) := by decide +kernel
theorem dX6_redraw_102 : decode cX6_redraw 102 = .ok (.iconst 1, 1) := by decide +kernel
theorem dX6_redraw_103 : decode cX6_redraw 103 = .ok (.if_icmp .ne 21, 3) := by decide +kernel
theorem dX6_redraw_106 : decode cX6_redraw 106 = .ok (.iload 4, 2) := by decide +kernel
theorem dX6_redraw_108 : decode cX6_redraw 108 = .ok (.ifCond .eq 16, 3) := by decide +kernel
theorem dX6_redraw_111 : decode cX6_redraw 111 = .ok (.aload_n 0, 1) := by decide +kernel
theorem dX6_redraw_112 : decode cX6_redraw 112 = .ok (.iload_n 2, 1) := by decide +kernel
theorem dX6_redraw_113 : decode cX6_redraw 113 = .ok (.iload_n 3, 1) := by decide +kernel
theorem dX6_redraw_114 : decode cX6_redraw 114 = .ok (.invokevirtual 151, 3) := by decide +kernel
theorem dX6_redraw_117 : decode cX6_redraw 117 = .ok (.ifCond .eq 7, 3) := by decide +kernel
theorem dX6_redraw_120 : decode cX6_redraw 120 = .ok (.iconst 1, 1) := by decide +kernel
theorem dX6_redraw_121 : decode cX6_redraw 121 = .ok (.goto 4, 3) := by decide +kernel
theorem dX6_redraw_124 : decode cX6_redraw 124 = .ok (.iconst 0, 1) := by decide +kernel
theorem dX6_redraw_125 : decode cX6_redraw 125 = .ok (.ior, 1) := by decide +kernel
theorem dX6_redraw_126 : decode cX6_redraw 126 = .ok (.iastore, 1) := by decide +kernel
theorem dX6_redraw_127 : decode cX6_redraw 127 = .ok (.iinc 3 1, 3) := by decide +kernel
theorem dX6_redraw_130 : decode cX6_redraw 130 = .ok (.goto (-76), 3) := by decide +kernel
theorem dX6_redraw_133 : decode cX6_redraw 133 = .ok (.iinc 2 1, 3) := by decide +kernel
theorem dX6_redraw_136 : decode cX6_redraw 136 = .ok (.goto (-99), 3) := by decide +kernel
theorem dX6_redraw_139 : decode cX6_redraw 139 = .ok (.iconst 0, 1) := by decide +kernel
theorem dX6_redraw_140 : decode cX6_redraw 140 = .ok (.istore_n 2, 1) := by decide +kernel
theorem dX6_redraw_141 : decode cX6_redraw 141 = .ok (.aload_n 0, 1) := by decide +kernel
theorem dX6_redraw_142 : decode cX6_redraw 142 = .ok (.getfield 132, 3) := by decide +kernel
theorem dX6_redraw_145 : decode cX6_redraw 145 = .ok (.iconst 1, 1) := by decide +kernel
theorem dX6_redraw_146 : decode cX6_redraw 146 = .ok (.isub, 1) := by decide +kernel
theorem dX6_redraw_147 : decode cX6_redraw 147 = .ok (.istore_n 3, 1) := by decide +kernel
theorem dX6_redraw_148 : decode cX6_redraw 148 = .ok (.iload_n 3, 1) := by decide +kernel
theorem dX6_redraw_149 : decode cX6_redraw 149 = .ok (.ifCond .lt 33, 3) := by decide +kernel
theorem dX6_redraw_152 : decode cX6_redraw 152 = .ok (.aload_n 0, 1) := by decide +kernel
theorem dX6_redraw_153 : decode cX6_redraw 153 = .ok (.getfield 64, 3) := by decide +kernel
theorem dX6_redraw_156 : decode cX6_redraw 156 = .ok (.iload_n 3, 1) := by decide +kernel
theorem dX6_redraw_157 : decode cX6_redraw 157 = .ok (.iaload, 1) := by decide +kernel
theorem dX6_redraw_158 : decode cX6_redraw 158 = .ok (.iconst 1, 1) := by decide +kernel
theorem dX6_redraw_159 : decode cX6_redraw 159 = .ok (.if_icmp .ne 17, 3) := by decide +kernel
theorem dX6_redraw_162 : decode cX6_redraw 162 = .ok (.aload_n 0, 1) := by decide +kernel
theorem dX6_redraw_163 : decode cX6_redraw 163 = .ok (.iload_n 3, 1) := by decide +kernel
theorem dX6_redraw_164 : decode cX6_redraw 164 = .ok (.aload_n 0, 1) := by decide +kernel
theorem dX6_redraw_165 : decode cX6_redraw 165 = .ok (.getfield 52, 3) := by decide +kernel
theorem dX6_redraw_168 : decode cX6_redraw 168 = .ok (.iload_n 3, 1) := by decide +kernel
theorem dX6_redraw_169 : decode cX6_redraw 169 = .ok (.iaload, 1) := by decide +kernel
theorem dX6_redraw_170 : decode cX6_redraw 170 = .ok (.invokevirtual 141, 3) := by decide +kernel
theorem dX6_redraw_173 : decode cX6_redraw 173 = .ok (.iinc 2 1, 3) := by decide +kernel
theorem dX6_redraw_176 : decode cX6_redraw 176 = .ok (.iinc 3 (-1), 3) := by decide +kernel
theorem dX6_redraw_179 : decode cX6_redraw 179 = .ok (.goto (-31), 3) := by decide +kernel
theorem dX6_redraw_182 : decode cX6_redraw 182 = .ok (.aload_n 0, 1) := by decide +kernel
theorem dX6_redraw_183 : decode cX6_redraw 183 = .ok (.getfield 7, 3) := by decide +kernel
theorem dX6_redraw_186 : decode cX6_redraw 186 = .ok (.iload_n 1, 1) := by decide +kernel
theorem dX6_redraw_187 : decode cX6_redraw 187 = .ok (.iconst 0, 1) := by decide +kernel
theorem dX6_redraw_188 : decode cX6_redraw 188 = .ok (.iastore, 1) := by decide +kernel
theorem dX6_redraw_189 : decode cX6_redraw 189 = .ok (.aload_n 0, 1) := by decide +kernel
theorem dX6_redraw_190 : decode cX6_redraw 190 = .ok (.getfield 13, 3) := by decide +kernel
theorem dX6_redraw_193 : decode cX6_redraw 193 = .ok (.iload_n 1, 1) := by decide +kernel
theorem dX6_redraw_194 : decode cX6_redraw 194 = .ok (.iconst 0, 1) := by decide +kernel
theorem dX6_redraw_195 : decode cX6_redraw 195 = .ok (.iastore, 1) := by decide +kernel
theorem dX6_redraw_196 : decode cX6_redraw 196 = .ok (.aload_n 0, 1) := by decide +kernel
theorem dX6_redraw_197 : decode cX6_redraw 197 = .ok (.getfield 16, 3) := by decide +kernel
theorem dX6_redraw_200 : decode cX6_redraw 200 = .ok (.iload_n 1, 1) := by decide +kernel
theorem dX6_redraw_201 : decode cX6_redraw 201 = .ok (.dup2, 1) := by decide +kernel
theorem dX6_redraw_202 : decode cX6_redraw 202 = .ok (.iaload, 1) := by decide +kernel
theorem dX6_redraw_203 : decode cX6_redraw 203 = .ok (.iconst 1, 1) := by decide +kernel
theorem dX6_redraw_204 : decode cX6_redraw 204 = .ok (.iadd, 1) := by decide +kernel
theorem dX6_redraw_205 : decode cX6_redraw 205 = .ok (.iastore, 1) := by decide +kernel
theorem dX6_redraw_206 : decode cX6_redraw 206 = .ok (.aload_n 0, 1) := by decide +kernel
theorem dX6_redraw_207 : decode cX6_redraw 207 = .ok (.invokevirtual 97, 3) := by decide +kernel
theorem dX6_redraw_210 : decode cX6_redraw 210 = .ok (.iload_n 2, 1) := by decide +kernel
theorem dX6_redraw_211 : decode cX6_redraw 211 = .ok (.ireturn, 1) := by decide +kernel
theorem dX6_touches_0 : decode cX6_touches 0 = .ok (.aload_n 0, 1) := by decide +kernel
theorem dX6_touches_1 : decode cX6_touches 1 = .ok (.getfield 28, 3) := by decide +kernel
theorem dX6_touches_4 : decode cX6_touches 4 = .ok (.iload_n 1, 1) := by decide +kernel
theorem dX6_touches_5 : decode cX6_touches 5 = .ok (.iaload, 1) := by decide +kernel
theorem dX6_touches_6 : decode cX6_touches 6 = .ok (.aload_n 0, 1) := by decide +kernel
theorem dX6_touches_7 : decode cX6_touches 7 = .ok (.getfield 28, 3) := by decide +kernel
theorem dX6_touches_10 : decode cX6_touches 10 = .ok (.iload_n 2, 1) := by decide +kernel
theorem dX6_touches_11 : decode cX6_touches 11 = .ok (.iaload, 1) := by decide +kernel
theorem dX6_touches_12 : decode cX6_touches 12 = .ok (.if_icmp .ne 95, 3) := by decide +kernel
theorem dX6_touches_15 : decode cX6_touches 15 = .ok (.aload_n 0, 1) := by decide +kernel
theorem dX6_touches_16 : decode cX6_touches 16 = .ok (.getfield 31, 3) := by decide +kernel
theorem dX6_touches_19 : decode cX6_touches 19 = .ok (.iload_n 1, 1) := by decide +kernel
theorem dX6_touches_20 : decode cX6_touches 20 = .ok (.iaload, 1) := by decide +kernel
theorem dX6_touches_21 : decode cX6_touches 21 = .ok (.aload_n 0, 1) := by decide +kernel
theorem dX6_touches_22 : decode cX6_touches 22 = .ok (.getfield 31, 3) := by decide +kernel
theorem dX6_touches_25 : decode cX6_touches 25 = .ok (.iload_n 2, 1) := by decide +kernel
theorem dX6_touches_26 : decode cX6_touches 26 = .ok (.iaload, 1) := by decide +kernel
theorem dX6_touches_27 : decode cX6_touches 27 = .ok (.aload_n 0, 1) := by decide +kernel
theorem dX6_touches_28 : decode cX6_touches 28 = .ok (.getfield 37, 3) := by decide +kernel
theorem dX6_touches_31 : decode cX6_touches 31 = .ok (.iload_n 2, 1) := by decide +kernel
theorem dX6_touches_32 : decode cX6_touches 32 = .ok (.iaload, 1) := by decide +kernel
theorem dX6_touches_33 : decode cX6_touches 33 = .ok (.iadd, 1) := by decide +kernel
theorem dX6_touches_34 : decode cX6_touches 34 = .ok (.if_icmp .gt 73, 3) := by decide +kernel
theorem dX6_touches_37 : decode cX6_touches 37 = .ok (.aload_n 0, 1) := by decide +kernel
theorem dX6_touches_38 : decode cX6_touches 38 = .ok (.getfield 31, 3) := by decide +kernel
theorem dX6_touches_41 : decode cX6_touches 41 = .ok (.iload_n 2, 1) := by decide +kernel
theorem dX6_touches_42 : decode cX6_touches 42 = .ok (.iaload, 1) := by decide +kernel
theorem dX6_touches_43 : decode cX6_touches 43 = .ok (.aload_n 0, 1) := by decide +kernel
theorem dX6_touches_44 : decode cX6_touches 44 = .ok (.getfield 31, 3) := by decide +kernel
theorem dX6_touches_47 : decode cX6_touches 47 = .ok (.iload_n 1, 1) := by decide +kernel
theorem dX6_touches_48 : decode cX6_touches 48 = .ok (.iaload, 1) := by decide +kernel
theorem dX6_touches_49 : decode cX6_touches 49 = .ok (.aload_n 0, 1) := by decide +kernel
theorem dX6_touches_50 : decode cX6_touches 50 = .ok (.getfield 37, 3) := by decide +kernel
theorem dX6_touches_53 : decode cX6_touches 53 = .ok (.iload_n 1, 1) := by decide +kernel
theorem dX6_touches_54 : decode cX6_touches 54 = .ok (.iaload, 1) := by decide +kernel
theorem dX6_touches_55 : decode cX6_touches 55 = .ok (.iadd, 1) := by decide +kernel
theorem dX6_touches_56 : decode cX6_touches 56 = .ok (.if_icmp .gt 51, 3) := by decide +kernel
theorem dX6_touches_59 : decode cX6_touches 59 = .ok (.aload_n 0, 1) := by decide +kernel
theorem dX6_touches_60 : decode cX6_touches 60 = .ok (.getfield 34, 3) := by decide +kernel
theorem dX6_touches_63 : decode cX6_touches 63 = .ok (.iload_n 1, 1) := by decide +kernel
theorem dX6_touches_64 : decode cX6_touches 64 = .ok (.iaload, 1) := by decide +kernel
theorem dX6_touches_65 : decode cX6_touches 65 = .ok (.aload_n 0, 1) := by decide +kernel
theorem dX6_touches_66 : decode cX6_touches 66 = .ok (.getfield 34, 3) := by decide +kernel
theorem dX6_touches_69 : decode cX6_touches 69 = .ok (.iload_n 2, 1) := by decide +kernel
theorem dX6_touches_70 : decode cX6_touches 70 = .ok (.iaload, 1) := by decide +kernel
theorem dX6_touches_71 : decode cX6_touches 71 = .ok (.aload_n 0, 1) := by decide +kernel
theorem dX6_touches_72 : decode cX6_touches 72 = .ok (.getfield 40, 3) := by decide +kernel
theorem dX6_touches_75 : decode cX6_touches 75 = .ok (.iload_n 2, 1) := by decide +kernel
theorem dX6_touches_76 : decode cX6_touches 76 = .ok (.iaload, 1) := by decide +kernel
theorem dX6_touches_77 : decode cX6_touches 77 = .ok (.iadd, 1) := by decide +kernel
theorem dX6_touches_78 : decode cX6_touches 78 = .ok (.if_icmp .gt 29, 3) := by decide +kernel
theorem dX6_touches_81 : decode cX6_touches 81 = .ok (.aload_n 0, 1) := by decide +kernel
theorem dX6_touches_82 : decode cX6_touches 82 = .ok (.getfield 34, 3) := by decide +kernel
theorem dX6_touches_85 : decode cX6_touches 85 = .ok (.iload_n 2, 1) := by decide +kernel
theorem dX6_touches_86 : decode cX6_touches 86 = .ok (.iaload, 1) := by decide +kernel
theorem dX6_touches_87 : decode cX6_touches 87 = .ok (.aload_n 0, 1) := by decide +kernel
theorem dX6_touches_88 : decode cX6_touches 88 = .ok (.getfield 34, 3) := by decide +kernel
theorem dX6_touches_91 : decode cX6_touches 91 = .ok (.iload_n 1, 1) := by decide +kernel
theorem dX6_touches_92 : decode cX6_touches 92 = .ok (.iaload, 1) := by decide +kernel
theorem dX6_touches_93 : decode cX6_touches 93 = .ok (.aload_n 0, 1) := by decide +kernel
theorem dX6_touches_94 : decode cX6_touches 94 = .ok (.getfield 40, 3) := by decide +kernel
theorem dX6_touches_97 : decode cX6_touches 97 = .ok (.iload_n 1, 1) := by decide +kernel
theorem dX6_touches_98 : decode cX6_touches 98 = .ok (.iaload, 1) := by decide +kernel
theorem dX6_touches_99 : decode cX6_touches 99 = .ok (.iadd, 1) := by decide +kernel
theorem dX6_touches_100 : decode cX6_touches 100 = .ok (.if_icmp .gt 7, 3) := by decide +kernel
theorem dX6_touches_103 : decode cX6_touches 103 = .ok (.iconst 1, 1) := by decide +kernel
theorem dX6_touches_104 : decode cX6_touches 104 = .ok (.goto 4, 3) := by decide +kernel
theorem dX6_touches_107 : decode cX6_touches 107 = .ok (.iconst 0, 1) := by decide +kernel
theorem dX6_touches_108 : decode cX6_touches 108 = .ok (.ireturn, 1) := by decide +kernel
theorem dX6_cut_0 : decode cX6_cut 0 = .ok (.aload_n 0, 1) := by decide +kernel
theorem dX6_cut_1 : decode cX6_cut 1 = .ok (.aload_n 0, 1) := by decide +kernel
theorem dX6_cut_2 : decode cX6_cut 2 = .ok (.iload_n 1, 1) := by decide +kernel
theorem dX6_cut_3 : decode cX6_cut 3 = .ok (.invokevirtual 148, 3) := by decide +kernel
theorem dX6_cut_6 : decode cX6_cut 6 = .ok (.ifCond .ne 7, 3) := by decide +kernel
theorem dX6_cut_9 : decode cX6_cut 9 = .ok (.iconst 1, 1) := by decide +kernel
theorem dX6_cut_10 : decode cX6_cut 10 = .ok (.goto 18, 3) := by decide +kernel
theorem dX6_cut_13 : decode cX6_cut 13 = .ok (.aload_n 0, 1) := by decide +kernel
theorem dX6_cut_14 : decode cX6_cut 14 = .ok (.getfield 55, 3) := by decide +kernel
theorem dX6_cut_17 : decode cX6_cut 17 = .ok (.iload_n 1, 1) := by decide +kernel
theorem dX6_cut_18 : decode cX6_cut 18 = .ok (.iaload, 1) := by decide +kernel
theorem dX6_cut_19 : decode cX6_cut 19 = .ok (.iconst 1, 1) := by decide +kernel
theorem dX6_cut_20 : decode cX6_cut 20 = .ok (.if_icmp .eq 7, 3) := by decide +kernel
theorem dX6_cut_23 : decode cX6_cut 23 = .ok (.iconst 2, 1) := by decide +kernel
theorem dX6_cut_24 : decode cX6_cut 24 = .ok (.goto 4, 3) := by decide +kernel
theorem dX6_cut_27 : decode cX6_cut 27 = .ok (.iconst 0, 1) := by decide +kernel
theorem dX6_cut_28 : decode cX6_cut 28 = .ok (.invokevirtual 78, 3) := by decide +kernel
theorem dX6_cut_31 : decode cX6_cut 31 = .ok (.ifCond .eq 5, 3) := by decide +kernel
theorem dX6_cut_34 : decode cX6_cut 34 = .ok (.iconst (-1), 1) := by decide +kernel
theorem dX6_cut_35 : decode cX6_cut 35 = .ok (.ireturn, 1) := by decide +kernel
theorem dX6_cut_36 : decode cX6_cut 36 = .ok (.aload_n 0, 1) := by decide +kernel
theorem dX6_cut_37 : decode cX6_cut 37 = .ok (.aload_n 0, 1) := by decide +kernel
theorem dX6_cut_38 : decode cX6_cut 38 = .ok (.getfield 49, 3) := by decide +kernel
theorem dX6_cut_41 : decode cX6_cut 41 = .ok (.iload_n 1, 1) := by decide +kernel
theorem dX6_cut_42 : decode cX6_cut 42 = .ok (.iaload, 1) := by decide +kernel
theorem dX6_cut_43 : decode cX6_cut 43 = .ok (.invokevirtual 111, 3) := by decide +kernel
theorem dX6_cut_46 : decode cX6_cut 46 = .ok (.fstore_n 2, 1) := by decide +kernel
theorem dX6_cut_47 : decode cX6_cut 47 = .ok (.iconst 0, 1) := by decide +kernel
theorem dX6_cut_48 : decode cX6_cut 48 = .ok (.istore_n 3, 1) := by decide +kernel
theorem dX6_cut_49 : decode cX6_cut 49 = .ok (.iconst 0, 1) := by decide +kernel
theorem dX6_cut_50 : decode cX6_cut 50 = .ok (.istore 4, 2) := by decide +kernel
theorem dX6_cut_52 : decode cX6_cut 52 = .ok (.iload 4, 2) := by decide +kernel
theorem dX6_cut_54 : decode cX6_cut 54 = .ok (.aload_n 0, 1) := by decide +kernel
theorem dX6_cut_55 : decode cX6_cut 55 = .ok (.getfield 52, 3) := by decide +kernel
theorem dX6_cut_58 : decode cX6_cut 58 = .ok (.iload_n 1, 1) := by decide +kernel
theorem dX6_cut_59 : decode cX6_cut 59 = .ok (.iaload, 1) := by decide +kernel
theorem dX6_cut_60 : decode cX6_cut 60 = .ok (.if_icmp .ge 92, 3) := by decide +kernel
theorem dX6_cut_63 : decode cX6_cut 63 = .ok (.iconst 0, 1) := by decide +kernel
theorem dX6_cut_64 : decode cX6_cut 64 = .ok (.istore 5, 2) := by decide +kernel
theorem dX6_cut_66 : decode cX6_cut 66 = .ok (.iconst 0, 1) := by decide +kernel
theorem dX6_cut_67 : decode cX6_cut 67 = .ok (.istore 6, 2) := by decide +kernel
theorem dX6_cut_69 : decode cX6_cut 69 = .ok (.iload 6, 2) := by decide +kernel
theorem dX6_cut_71 : decode cX6_cut 71 = .ok (.iload 4, 2) := by decide +kernel
theorem dX6_cut_73 : decode cX6_cut 73 = .ok (.if_icmp .ge 42, 3) := by decide +kernel
theorem dX6_cut_76 : decode cX6_cut 76 = .ok (.iload 5, 2) := by decide +kernel
theorem dX6_cut_78 : decode cX6_cut 78 = .ok (.aload_n 0, 1) := by decide +kernel
theorem dX6_cut_79 : decode cX6_cut 79 = .ok (.aload_n 0, 1) := by decide +kernel
theorem dX6_cut_80 : decode cX6_cut 80 = .ok (.getfield 61, 3) := by decide +kernel
theorem dX6_cut_83 : decode cX6_cut 83 = .ok (.bipush 6, 2) := by decide +kernel
theorem dX6_cut_85 : decode cX6_cut 85 = .ok (.iload_n 1, 1) := by decide +kernel
theorem dX6_cut_86 : decode cX6_cut 86 = .ok (.imul, 1) := by decide +kernel
theorem dX6_cut_87 : decode cX6_cut 87 = .ok (.iload 4, 2) := by decide +kernel
theorem dX6_cut_89 : decode cX6_cut 89 = .ok (.iadd, 1) := by decide +kernel
theorem dX6_cut_90 : decode cX6_cut 90 = .ok (.iaload, 1) := by decide +kernel
theorem dX6_cut_91 : decode cX6_cut 91 = .ok (.aload_n 0, 1) := by decide +kernel
theorem dX6_cut_92 : decode cX6_cut 92 = .ok (.getfield 61, 3) := by decide +kernel
theorem dX6_cut_95 : decode cX6_cut 95 = .ok (.bipush 6, 2) := by decide +kernel
theorem dX6_cut_97 : decode cX6_cut 97 = .ok (.iload_n 1, 1) := by decide +kernel
theorem dX6_cut_98 : decode cX6_cut 98 = .ok (.imul, 1) := by decide +kernel
theorem dX6_cut_99 : decode cX6_cut 99 = .ok (.iload 6, 2) := by decide +kernel
theorem dX6_cut_101 : decode cX6_cut 101 = .ok (.iadd, 1) := by decide +kernel
theorem dX6_cut_102 : decode cX6_cut 102 = .ok (.iaload, 1) := by decide +kernel
theorem dX6_cut_103 : decode cX6_cut 103 = .ok (.invokevirtual 154, 3) := by decide +kernel
theorem dX6_cut_106 : decode cX6_cut 106 = .ok (.ior, 1) := by decide +kernel
theorem dX6_cut_107 : decode cX6_cut 107 = .ok (.istore 5, 2) := by decide +kernel
theorem dX6_cut_109 : decode cX6_cut 109 = .ok (.iinc 6 1, 3) := by decide +kernel
theorem dX6_cut_112 : decode cX6_cut 112 = .ok (.goto (-43), 3) := by decide +kernel
theorem dX6_cut_115 : decode cX6_cut 115 = .ok (.iload_n 3, 1) := by decide +kernel
theorem dX6_cut_116 : decode cX6_cut 116 = .ok (.fload_n 2, 1) := by decide +kernel
theorem dX6_cut_117 : decode cX6_cut 117 = .ok (.ldc 157, 2) := by decide +kernel
theorem dX6_cut_119 : decode cX6_cut 119 = .ok (.fdiv, 1) := by decide +kernel
theorem dX6_cut_120 : decode cX6_cut 120 = .ok (.f2i, 1) := by decide +kernel
theorem dX6_cut_121 : decode cX6_cut 121 = .ok (.iconst 1, 1) := by decide +kernel
theorem dX6_cut_122 : decode cX6_cut 122 = .ok (.iadd, 1) := by decide +kernel
theorem dX6_cut_123 : decode cX6_cut 123 = .ok (.iload 5, 2) := by decide +kernel
theorem dX6_cut_125 : decode cX6_cut 125 = .ok (.ifCond .eq 7, 3) := by decide +kernel
theorem dX6_cut_128 : decode cX6_cut 128 = .ok (.iconst 3, 1) := by decide +kernel
theorem dX6_cut_129 : decode cX6_cut 129 = .ok (.goto 4, 3) := by decide +kernel
theorem dX6_cut_132 : decode cX6_cut 132 = .ok (.iconst 0, 1) := by decide +kernel
theorem dX6_cut_133 : decode cX6_cut 133 = .ok (.iadd, 1) := by decide +kernel
theorem dX6_cut_134 : decode cX6_cut 134 = .ok (.iadd, 1) := by decide +kernel
theorem dX6_cut_135 : decode cX6_cut 135 = .ok (.istore_n 3, 1) := by decide +kernel
theorem dX6_cut_136 : decode cX6_cut 136 = .ok (.aload_n 0, 1) := by decide +kernel
theorem dX6_cut_137 : decode cX6_cut 137 = .ok (.dup, 1) := by decide +kernel
theorem dX6_cut_138 : decode cX6_cut 138 = .ok (.getfield 158, 3) := by decide +kernel
theorem dX6_cut_141 : decode cX6_cut 141 = .ok (.fload_n 2, 1) := by decide +kernel
theorem dX6_cut_142 : decode cX6_cut 142 = .ok (.fadd, 1) := by decide +kernel
theorem dX6_cut_143 : decode cX6_cut 143 = .ok (.putfield 158, 3) := by decide +kernel
theorem dX6_cut_146 : decode cX6_cut 146 = .ok (.iinc 4 1, 3) := by decide +kernel
theorem dX6_cut_149 : decode cX6_cut 149 = .ok (.goto (-97), 3) := by decide +kernel
theorem dX6_cut_152 : decode cX6_cut 152 = .ok (.aload_n 0, 1) := by decide +kernel
theorem dX6_cut_153 : decode cX6_cut 153 = .ok (.getfield 55, 3) := by decide +kernel
theorem dX6_cut_156 : decode cX6_cut 156 = .ok (.iload_n 1, 1) := by decide +kernel
theorem dX6_cut_157 : decode cX6_cut 157 = .ok (.iconst 2, 1) := by decide +kernel
theorem dX6_cut_158 : decode cX6_cut 158 = .ok (.iastore, 1) := by decide +kernel
theorem dX6_cut_159 : decode cX6_cut 159 = .ok (.aload_n 0, 1) := by decide +kernel
theorem dX6_cut_160 : decode cX6_cut 160 = .ok (.dup, 1) := by decide +kernel
theorem dX6_cut_161 : decode cX6_cut 161 = .ok (.getfield 162, 3) := by decide +kernel
theorem dX6_cut_164 : decode cX6_cut 164 = .ok (.iload_n 3, 1) := by decide +kernel
theorem dX6_cut_165 : decode cX6_cut 165 = .ok (.iadd, 1) := by decide +kernel
theorem dX6_cut_166 : decode cX6_cut 166 = .ok (.putfield 162, 3) := by decide +kernel
theorem dX6_cut_169 : decode cX6_cut 169 = .ok (.iload_n 3, 1) := by decide +kernel
theorem dX6_cut_170 : decode cX6_cut 170 = .ok (.ireturn, 1) := by decide +kernel
theorem dX6_ofJob_0 : decode cX6_ofJob 0 = .ok (.aload_n 0, 1) := by decide +kernel
theorem dX6_ofJob_1 : decode cX6_ofJob 1 = .ok (.aload_n 0, 1) := by decide +kernel
theorem dX6_ofJob_2 : decode cX6_ofJob 2 = .ok (.iload_n 1, 1) := by decide +kernel
theorem dX6_ofJob_3 : decode cX6_ofJob 3 = .ok (.invokevirtual 148, 3) := by decide +kernel
theorem dX6_ofJob_6 : decode cX6_ofJob 6 = .ok (.ifCond .ne 7, 3) := by decide +kernel
theorem dX6_ofJob_9 : decode cX6_ofJob 9 = .ok (.iconst 1, 1) := by decide +kernel
theorem dX6_ofJob_10 : decode cX6_ofJob 10 = .ok (.goto 18, 3) := by decide +kernel
theorem dX6_ofJob_13 : decode cX6_ofJob 13 = .ok (.aload_n 0, 1) := by decide +kernel
theorem dX6_ofJob_14 : decode cX6_ofJob 14 = .ok (.iload_n 2, 1) := by decide +kernel
theorem dX6_ofJob_15 : decode cX6_ofJob 15 = .ok (.iconst 0, 1) := by decide +kernel
theorem dX6_ofJob_16 : decode cX6_ofJob 16 = .ok (.iconst 3, 1) := by decide +kernel
theorem dX6_ofJob_17 : decode cX6_ofJob 17 = .ok (.invokevirtual 74, 3) := by decide +kernel
theorem dX6_ofJob_20 : decode cX6_ofJob 20 = .ok (.ifCond .eq 7, 3) := by decide +kernel
theorem dX6_ofJob_23 : decode cX6_ofJob 23 = .ok (.iconst 0, 1) := by decide +kernel
theorem dX6_ofJob_24 : decode cX6_ofJob 24 = .ok (.goto 4, 3) := by decide +kernel
theorem dX6_ofJob_27 : decode cX6_ofJob 27 = .ok (.iconst 2, 1) := by decide +kernel
theorem dX6_ofJob_28 : decode cX6_ofJob 28 = .ok (.invokevirtual 78, 3) := by decide +kernel
theorem dX6_ofJob_31 : decode cX6_ofJob 31 = .ok (.ifCond .eq 5, 3) := by decide +kernel
theorem dX6_ofJob_34 : decode cX6_ofJob 34 = .ok (.iconst (-1), 1) := by decide +kernel
theorem dX6_ofJob_35 : decode cX6_ofJob 35 = .ok (.ireturn, 1) := by decide +kernel
theorem dX6_ofJob_36 : decode cX6_ofJob 36 = .ok (.iload_n 2, 1) := by decide +kernel
theorem dX6_ofJob_37 : decode cX6_ofJob 37 = .ok (.tableswitch 48 0 2 #[27, 34, 41], 27) := by decide +kernel
theorem dX6_ofJob_64 : decode cX6_ofJob 64 = .ok (.aload_n 0, 1) := by decide +kernel
theorem dX6_ofJob_65 : decode cX6_ofJob 65 = .ok (.getfield 55, 3) := by decide +kernel
theorem dX6_ofJob_68 : decode cX6_ofJob 68 = .ok (.iload_n 1, 1) := by decide +kernel
theorem dX6_ofJob_69 : decode cX6_ofJob 69 = .ok (.iaload, 1) := by decide +kernel
theorem dX6_ofJob_70 : decode cX6_ofJob 70 = .ok (.ireturn, 1) := by decide +kernel
theorem dX6_ofJob_71 : decode cX6_ofJob 71 = .ok (.aload_n 0, 1) := by decide +kernel
theorem dX6_ofJob_72 : decode cX6_ofJob 72 = .ok (.getfield 49, 3) := by decide +kernel
theorem dX6_ofJob_75 : decode cX6_ofJob 75 = .ok (.iload_n 1, 1) := by decide +kernel
theorem dX6_ofJob_76 : decode cX6_ofJob 76 = .ok (.iaload, 1) := by decide +kernel
theorem dX6_ofJob_77 : decode cX6_ofJob 77 = .ok (.ireturn, 1) := by decide +kernel
theorem dX6_ofJob_78 : decode cX6_ofJob 78 = .ok (.aload_n 0, 1) := by decide +kernel
theorem dX6_ofJob_79 : decode cX6_ofJob 79 = .ok (.getfield 52, 3) := by decide +kernel
theorem dX6_ofJob_82 : decode cX6_ofJob 82 = .ok (.iload_n 1, 1) := by decide +kernel
theorem dX6_ofJob_83 : decode cX6_ofJob 83 = .ok (.iaload, 1) := by decide +kernel
theorem dX6_ofJob_84 : decode cX6_ofJob 84 = .ok (.ireturn, 1) := by decide +kernel
theorem dX6_ofJob_85 : decode cX6_ofJob 85 = .ok (.aload_n 0, 1) := by decide +kernel
theorem dX6_ofJob_86 : decode cX6_ofJob 86 = .ok (.getfield 55, 3) := by decide +kernel
theorem dX6_ofJob_89 : decode cX6_ofJob 89 = .ok (.iload_n 1, 1) := by decide +kernel
theorem dX6_ofJob_90 : decode cX6_ofJob 90 = .ok (.iaload, 1) := by decide +kernel
theorem dX6_ofJob_91 : decode cX6_ofJob 91 = .ok (.iconst 1, 1) := by decide +kernel
theorem dX6_ofJob_92 : decode cX6_ofJob 92 = .ok (.if_icmp .eq 13, 3) := by decide +kernel
theorem dX6_ofJob_95 : decode cX6_ofJob 95 = .ok (.aload_n 0, 1) := by decide +kernel
theorem dX6_ofJob_96 : decode cX6_ofJob 96 = .ok (.getfield 55, 3) := by decide +kernel
theorem dX6_ofJob_99 : decode cX6_ofJob 99 = .ok (.iload_n 1, 1) := by decide +kernel
theorem dX6_ofJob_100 : decode cX6_ofJob 100 = .ok (.iaload, 1) := by decide +kernel
theorem dX6_ofJob_101 : decode cX6_ofJob 101 = .ok (.iconst 2, 1) := by decide +kernel
theorem dX6_ofJob_102 : decode cX6_ofJob 102 = .ok (.if_icmp .ne 12, 3) := by decide +kernel
theorem dX6_ofJob_105 : decode cX6_ofJob 105 = .ok (.aload_n 0, 1) := by decide +kernel
theorem dX6_ofJob_106 : decode cX6_ofJob 106 = .ok (.getfield 58, 3) := by decide +kernel
theorem dX6_ofJob_109 : decode cX6_ofJob 109 = .ok (.iload_n 1, 1) := by decide +kernel
theorem dX6_ofJob_110 : decode cX6_ofJob 110 = .ok (.iaload, 1) := by decide +kernel
theorem dX6_ofJob_111 : decode cX6_ofJob 111 = .ok (.goto 4, 3) := by decide +kernel
theorem dX6_ofJob_114 : decode cX6_ofJob 114 = .ok (.iconst (-1), 1) := by decide +kernel
theorem dX6_ofJob_115 : decode cX6_ofJob 115 = .ok (.ireturn, 1) := by decide +kernel
theorem dX6_where_0 : decode cX6_where 0 = .ok (.aload_n 0, 1) := by decide +kernel
theorem dX6_where_1 : decode cX6_where 1 = .ok (.iload_n 1, 1) := by decide +kernel
theorem dX6_where_2 : decode cX6_where 2 = .ok (.invokevirtual 148, 3) := by decide +kernel
theorem dX6_where_5 : decode cX6_where 5 = .ok (.ifCond .eq 24, 3) := by decide +kernel
theorem dX6_where_8 : decode cX6_where 8 = .ok (.aload_n 0, 1) := by decide +kernel
theorem dX6_where_9 : decode cX6_where 9 = .ok (.iload_n 2, 1) := by decide +kernel
theorem dX6_where_10 : decode cX6_where 10 = .ok (.iconst 0, 1) := by decide +kernel
theorem dX6_where_11 : decode cX6_where 11 = .ok (.aload_n 0, 1) := by decide +kernel
theorem dX6_where_12 : decode cX6_where 12 = .ok (.getfield 52, 3) := by decide +kernel
theorem dX6_where_15 : decode cX6_where 15 = .ok (.iload_n 1, 1) := by decide +kernel
theorem dX6_where_16 : decode cX6_where 16 = .ok (.iaload, 1) := by decide +kernel
theorem dX6_where_17 : decode cX6_where 17 = .ok (.iconst 1, 1) := by decide +kernel
theorem dX6_where_18 : decode cX6_where 18 = .ok (.isub, 1) := by decide +kernel
theorem dX6_where_19 : decode cX6_where 19 = .ok (.invokevirtual 74, 3) := by decide +kernel
theorem dX6_where_22 : decode cX6_where 22 = .ok (.ifCond .eq 7, 3) := by decide +kernel
theorem dX6_where_25 : decode cX6_where 25 = .ok (.iconst 1, 1) := by decide +kernel
theorem dX6_where_26 : decode cX6_where 26 = .ok (.goto 4, 3) := by decide +kernel
theorem dX6_where_29 : decode cX6_where 29 = .ok (.iconst 0, 1) := by decide +kernel
theorem dX6_where_30 : decode cX6_where 30 = .ok (.istore 4, 2) := by decide +kernel
theorem dX6_where_32 : decode cX6_where 32 = .ok (.aload_n 0, 1) := by decide +kernel
theorem dX6_where_33 : decode cX6_where 33 = .ok (.iload 4, 2) := by decide +kernel
theorem dX6_where_35 : decode cX6_where 35 = .ok (.ifCond .ne 7, 3) := by decide +kernel
theorem dX6_where_38 : decode cX6_where 38 = .ok (.iconst 1, 1) := by decide +kernel
theorem dX6_where_39 : decode cX6_where 39 = .ok (.goto 18, 3) := by decide +kernel
theorem dX6_where_42 : decode cX6_where 42 = .ok (.aload_n 0, 1) := by decide +kernel
theorem dX6_where_43 : decode cX6_where 43 = .ok (.iload_n 3, 1) := by decide +kernel
theorem dX6_where_44 : decode cX6_where 44 = .ok (.iconst 0, 1) := by decide +kernel
theorem dX6_where_45 : decode cX6_where 45 = .ok (.iconst 3, 1) := by decide +kernel
theorem dX6_where_46 : decode cX6_where 46 = .ok (.invokevirtual 74, 3) := by decide +kernel
theorem dX6_where_49 : decode cX6_where 49 = .ok (.ifCond .eq 7, 3) := by decide +kernel
theorem dX6_where_52 : decode cX6_where 52 = .ok (.iconst 0, 1) := by decide +kernel
theorem dX6_where_53 : decode cX6_where 53 = .ok (.goto 4, 3) := by decide +kernel
theorem dX6_where_56 : decode cX6_where 56 = .ok (.iconst 2, 1) := by decide +kernel
theorem dX6_where_57 : decode cX6_where 57 = .ok (.invokevirtual 78, 3) := by decide +kernel
theorem dX6_where_60 : decode cX6_where 60 = .ok (.ifCond .eq 5, 3) := by decide +kernel
theorem dX6_where_63 : decode cX6_where 63 = .ok (.iconst (-1), 1) := by decide +kernel
theorem dX6_where_64 : decode cX6_where 64 = .ok (.ireturn, 1) := by decide +kernel
theorem dX6_where_65 : decode cX6_where 65 = .ok (.aload_n 0, 1) := by decide +kernel
theorem dX6_where_66 : decode cX6_where 66 = .ok (.getfield 55, 3) := by decide +kernel
theorem dX6_where_69 : decode cX6_where 69 = .ok (.iload_n 1, 1) := by decide +kernel
theorem dX6_where_70 : decode cX6_where 70 = .ok (.iaload, 1) := by decide +kernel
theorem dX6_where_71 : decode cX6_where 71 = .ok (.iconst 1, 1) := by decide +kernel
theorem dX6_where_72 : decode cX6_where 72 = .ok (.if_icmp .eq 13, 3) := by decide +kernel
theorem dX6_where_75 : decode cX6_where 75 = .ok (.aload_n 0, 1) := by decide +kernel
theorem dX6_where_76 : decode cX6_where 76 = .ok (.getfield 55, 3) := by decide +kernel
theorem dX6_where_79 : decode cX6_where 79 = .ok (.iload_n 1, 1) := by decide +kernel
theorem dX6_where_80 : decode cX6_where 80 = .ok (.iaload, 1) := by decide +kernel
theorem dX6_where_81 : decode cX6_where 81 = .ok (.iconst 2, 1) := by decide +kernel
theorem dX6_where_82 : decode cX6_where 82 = .ok (.if_icmp .ne 17, 3) := by decide +kernel
theorem dX6_where_85 : decode cX6_where 85 = .ok (.aload_n 0, 1) := by decide +kernel
theorem dX6_where_86 : decode cX6_where 86 = .ok (.getfield 61, 3) := by decide +kernel
theorem dX6_where_89 : decode cX6_where 89 = .ok (.bipush 6, 2) := by decide +kernel
theorem dX6_where_91 : decode cX6_where 91 = .ok (.iload_n 1, 1) := by decide +kernel
theorem dX6_where_92 : decode cX6_where 92 = .ok (.imul, 1) := by decide +kernel
theorem dX6_where_93 : decode cX6_where 93 = .ok (.iload_n 2, 1) := by decide +kernel
theorem dX6_where_94 : decode cX6_where 94 = .ok (.iadd, 1) := by decide +kernel
theorem dX6_where_95 : decode cX6_where 95 = .ok (.iaload, 1) := by decide +kernel
theorem dX6_where_96 : decode cX6_where 96 = .ok (.goto 4, 3) := by decide +kernel
theorem dX6_where_99 : decode cX6_where 99 = .ok (.iconst (-1), 1) := by decide +kernel
theorem dX6_where_100 : decode cX6_where 100 = .ok (.istore 5, 2) := by decide +kernel
theorem dX6_where_102 : decode cX6_where 102 = .ok (.iload 5, 2) := by decide +kernel
theorem dX6_where_104 : decode cX6_where 104 = .ok (.ifCond .ge 7, 3) := by decide +kernel
theorem dX6_where_107 : decode cX6_where 107 = .ok (.iconst (-1), 1) := by decide +kernel
theorem dX6_where_108 : decode cX6_where 108 = .ok (.goto 49, 3) := by decide +kernel
theorem dX6_where_111 : decode cX6_where 111 = .ok (.iload_n 3, 1) := by decide +kernel
theorem dX6_where_112 : decode cX6_where 112 = .ok (.ifCond .ne 13, 3) := by decide +kernel
theorem dX6_where_115 : decode cX6_where 115 = .ok (.aload_n 0, 1) := by decide +kernel
theorem dX6_where_116 : decode cX6_where 116 = .ok (.getfield 28, 3) := by decide +kernel
theorem dX6_where_119 : decode cX6_where 119 = .ok (.iload 5, 2) := by decide +kernel
theorem dX6_where_121 : decode cX6_where 121 = .ok (.iaload, 1) := by decide +kernel
theorem dX6_where_122 : decode cX6_where 122 = .ok (.goto 35, 3) := by decide +kernel
theorem dX6_where_125 : decode cX6_where 125 = .ok (.iload_n 3, 1) := by decide +kernel
theorem dX6_where_126 : decode cX6_where 126 = .ok (.iconst 1, 1) := by decide +kernel
theorem dX6_where_127 : decode cX6_where 127 = .ok (.if_icmp .ne 13, 3) := by decide +kernel
theorem dX6_where_130 : decode cX6_where 130 = .ok (.aload_n 0, 1) := by decide +kernel
theorem dX6_where_131 : decode cX6_where 131 = .ok (.getfield 31, 3) := by decide +kernel
theorem dX6_where_134 : decode cX6_where 134 = .ok (.iload 5, 2) := by decide +kernel
theorem dX6_where_136 : decode cX6_where 136 = .ok (.iaload, 1) := by decide +kernel
theorem dX6_where_137 : decode cX6_where 137 = .ok (.goto 20, 3) := by decide +kernel
theorem dX6_where_140 : decode cX6_where 140 = .ok (.iload_n 3, 1) := by decide +kernel
theorem dX6_where_141 : decode cX6_where 141 = .ok (.iconst 2, 1) := by decide +kernel
theorem dX6_where_142 : decode cX6_where 142 = .ok (.if_icmp .ne 13, 3) := by decide +kernel
theorem dX6_where_145 : decode cX6_where 145 = .ok (.aload_n 0, 1) := by decide +kernel
theorem dX6_where_146 : decode cX6_where 146 = .ok (.getfield 34, 3) := by decide +kernel
theorem dX6_where_149 : decode cX6_where 149 = .ok (.iload 5, 2) := by decide +kernel
theorem dX6_where_151 : decode cX6_where 151 = .ok (.iaload, 1) := by decide +kernel
theorem dX6_where_152 : decode cX6_where 152 = .ok (.goto 5, 3) := by decide +kernel
theorem dX6_where_155 : decode cX6_where 155 = .ok (.iload 5, 2) := by decide +kernel
theorem dX6_where_157 : decode cX6_where 157 = .ok (.ireturn, 1) := by decide +kernel
theorem dX6_free_0 : decode cX6_free 0 = .ok (.aload_n 0, 1) := by decide +kernel
theorem dX6_free_1 : decode cX6_free 1 = .ok (.iload_n 1, 1) := by decide +kernel
theorem dX6_free_2 : decode cX6_free 2 = .ok (.ifCond .ge 7, 3) := by decide +kernel
theorem dX6_free_5 : decode cX6_free 5 = .ok (.iconst 1, 1) := by decide +kernel
theorem dX6_free_6 : decode cX6_free 6 = .ok (.goto 4, 3) := by decide +kernel
theorem dX6_free_9 : decode cX6_free 9 = .ok (.iconst 0, 1) := by decide +kernel
theorem dX6_free_10 : decode cX6_free 10 = .ok (.invokevirtual 78, 3) := by decide +kernel
theorem dX6_free_13 : decode cX6_free 13 = .ok (.ifCond .eq 5, 3) := by decide +kernel
theorem dX6_free_16 : decode cX6_free 16 = .ok (.iconst (-1), 1) := by decide +kernel
theorem dX6_free_17 : decode cX6_free 17 = .ok (.ireturn, 1) := by decide +kernel
theorem dX6_free_18 : decode cX6_free 18 = .ok (.iconst 0, 1) := by decide +kernel
theorem dX6_free_19 : decode cX6_free 19 = .ok (.istore_n 2, 1) := by decide +kernel
theorem dX6_free_20 : decode cX6_free 20 = .ok (.iconst 0, 1) := by decide +kernel
theorem dX6_free_21 : decode cX6_free 21 = .ok (.istore_n 3, 1) := by decide +kernel
theorem dX6_free_22 : decode cX6_free 22 = .ok (.iload_n 3, 1) := by decide +kernel
theorem dX6_free_23 : decode cX6_free 23 = .ok (.aload_n 0, 1) := by decide +kernel
theorem dX6_free_24 : decode cX6_free 24 = .ok (.getfield 115, 3) := by decide +kernel
theorem dX6_free_27 : decode cX6_free 27 = .ok (.if_icmp .ge 54, 3) := by decide +kernel
theorem dX6_free_30 : decode cX6_free 30 = .ok (.aload_n 0, 1) := by decide +kernel
theorem dX6_free_31 : decode cX6_free 31 = .ok (.getfield 43, 3) := by decide +kernel
theorem dX6_free_34 : decode cX6_free 34 = .ok (.iload_n 3, 1) := by decide +kernel
theorem dX6_free_35 : decode cX6_free 35 = .ok (.iaload, 1) := by decide +kernel
theorem dX6_free_36 : decode cX6_free 36 = .ok (.ifCond .ne 39, 3) := by decide +kernel
theorem dX6_free_39 : decode cX6_free 39 = .ok (.iload_n 2, 1) := by decide +kernel
theorem dX6_free_40 : decode cX6_free 40 = .ok (.iload_n 1, 1) := by decide +kernel
theorem dX6_free_41 : decode cX6_free 41 = .ok (.if_icmp .ne 31, 3) := by decide +kernel
theorem dX6_free_44 : decode cX6_free 44 = .ok (.sipush 10000, 3) := by decide +kernel
theorem dX6_free_47 : decode cX6_free 47 = .ok (.aload_n 0, 1) := by decide +kernel
theorem dX6_free_48 : decode cX6_free 48 = .ok (.getfield 28, 3) := by decide +kernel
theorem dX6_free_51 : decode cX6_free 51 = .ok (.iload_n 3, 1) := by decide +kernel
theorem dX6_free_52 : decode cX6_free 52 = .ok (.iaload, 1) := by decide +kernel
theorem dX6_free_53 : decode cX6_free 53 = .ok (.imul, 1) := by decide +kernel
theorem dX6_free_54 : decode cX6_free 54 = .ok (.bipush 100, 2) := by decide +kernel
theorem dX6_free_56 : decode cX6_free 56 = .ok (.aload_n 0, 1) := by decide +kernel
theorem dX6_free_57 : decode cX6_free 57 = .ok (.getfield 37, 3) := by decide +kernel
theorem dX6_free_60 : decode cX6_free 60 = .ok (.iload_n 3, 1) := by decide +kernel
theorem dX6_free_61 : decode cX6_free 61 = .ok (.iaload, 1) := by decide +kernel
theorem dX6_free_62 : decode cX6_free 62 = .ok (.imul, 1) := by decide +kernel
theorem dX6_free_63 : decode cX6_free 63 = .ok (.iadd, 1) := by decide +kernel
theorem dX6_free_64 : decode cX6_free 64 = .ok (.aload_n 0, 1) := by decide +kernel
theorem dX6_free_65 : decode cX6_free 65 = .ok (.getfield 40, 3) := by decide +kernel
theorem dX6_free_68 : decode cX6_free 68 = .ok (.iload_n 3, 1) := by decide +kernel
theorem dX6_free_69 : decode cX6_free 69 = .ok (.iaload, 1) := by decide +kernel
theorem dX6_free_70 : decode cX6_free 70 = .ok (.iadd, 1) := by decide +kernel
theorem dX6_free_71 : decode cX6_free 71 = .ok (.ireturn, 1) := by decide +kernel
theorem dX6_free_72 : decode cX6_free 72 = .ok (.iinc 2 1, 3) := by decide +kernel
theorem dX6_free_75 : decode cX6_free 75 = .ok (.iinc 3 1, 3) := by decide +kernel
theorem dX6_free_78 : decode cX6_free 78 = .ok (.goto (-56), 3) := by decide +kernel
theorem dX6_free_81 : decode cX6_free 81 = .ok (.iconst (-1), 1) := by decide +kernel
theorem dX6_free_82 : decode cX6_free 82 = .ok (.ireturn, 1) := by decide +kernel
theorem dX6_minutes_0 : decode cX6_minutes 0 = .ok (.aload_n 0, 1) := by decide +kernel
theorem dX6_minutes_1 : decode cX6_minutes 1 = .ok (.iconst 0, 1) := by decide +kernel
theorem dX6_minutes_2 : decode cX6_minutes 2 = .ok (.invokevirtual 78, 3) := by decide +kernel
theorem dX6_minutes_5 : decode cX6_minutes 5 = .ok (.pop, 1) := by decide +kernel
theorem dX6_minutes_6 : decode cX6_minutes 6 = .ok (.aload_n 0, 1) := by decide +kernel
theorem dX6_minutes_7 : decode cX6_minutes 7 = .ok (.getfield 162, 3) := by decide +kernel
theorem dX6_minutes_10 : decode cX6_minutes 10 = .ok (.ireturn, 1) := by decide +kernel
theorem dX6_cutLength_0 : decode cX6_cutLength 0 = .ok (.aload_n 0, 1) := by decide +kernel
theorem dX6_cutLength_1 : decode cX6_cutLength 1 = .ok (.iconst 0, 1) := by decide +kernel
theorem dX6_cutLength_2 : decode cX6_cutLength 2 = .ok (.invokevirtual 78, 3) := by decide +kernel
theorem dX6_cutLength_5 : decode cX6_cutLength 5 = .ok (.pop, 1) := by decide +kernel
theorem dX6_cutLength_6 : decode cX6_cutLength 6 = .ok (.aload_n 0, 1) := by decide +kernel
theorem dX6_cutLength_7 : decode cX6_cutLength 7 = .ok (.getfield 158, 3) := by decide +kernel
theorem dX6_cutLength_10 : decode cX6_cutLength 10 = .ok (.freturn, 1) := by decide +kernel
theorem dX6_cutAnew_0 : decode cX6_cutAnew 0 = .ok (.aload_n 0, 1) := by decide +kernel
theorem dX6_cutAnew_1 : decode cX6_cutAnew 1 = .ok (.iconst 0, 1) := by decide +kernel
theorem dX6_cutAnew_2 : decode cX6_cutAnew 2 = .ok (.invokevirtual 78, 3) := by decide +kernel
theorem dX6_cutAnew_5 : decode cX6_cutAnew 5 = .ok (.pop, 1) := by decide +kernel
theorem dX6_cutAnew_6 : decode cX6_cutAnew 6 = .ok (.aload_n 0, 1) := by decide +kernel
theorem dX6_cutAnew_7 : decode cX6_cutAnew 7 = .ok (.getfield 158, 3) := by decide +kernel
theorem dX6_cutAnew_10 : decode cX6_cutAnew 10 = .ok (.freturn, 1) := by decide +kernel
theorem dJ9_max_7cf53_0 : decode cJ9_max_7cf53 0 = .ok (.iload_n 0, 1) := by decide +kernel
theorem dJ9_max_7cf53_1 : decode cJ9_max_7cf53 1 = .ok (.iload_n 1, 1) := by decide +kernel
theorem dJ9_max_7cf53_2 : decode cJ9_max_7cf53 2 = .ok (.if_icmp .lt 7, 3) := by decide +kernel
theorem dJ9_max_7cf53_5 : decode cJ9_max_7cf53 5 = .ok (.iload_n 0, 1) := by decide +kernel
theorem dJ9_max_7cf53_6 : decode cJ9_max_7cf53 6 = .ok (.goto 4, 3) := by decide +kernel
theorem dJ9_max_7cf53_9 : decode cJ9_max_7cf53 9 = .ok (.iload_n 1, 1) := by decide +kernel
theorem dJ9_max_7cf53_10 : decode cJ9_max_7cf53 10 = .ok (.ireturn, 1) := by decide +kernel
theorem dJ9_min_7cf53_0 : decode cJ9_min_7cf53 0 = .ok (.iload_n 0, 1) := by decide +kernel
theorem dJ9_min_7cf53_1 : decode cJ9_min_7cf53 1 = .ok (.iload_n 1, 1) := by decide +kernel
theorem dJ9_min_7cf53_2 : decode cJ9_min_7cf53 2 = .ok (.if_icmp .gt 7, 3) := by decide +kernel
theorem dJ9_min_7cf53_5 : decode cJ9_min_7cf53 5 = .ok (.iload_n 0, 1) := by decide +kernel
theorem dJ9_min_7cf53_6 : decode cJ9_min_7cf53 6 = .ok (.goto 4, 3) := by decide +kernel
theorem dJ9_min_7cf53_9 : decode cJ9_min_7cf53 9 = .ok (.iload_n 1, 1) := by decide +kernel
theorem dJ9_min_7cf53_10 : decode cJ9_min_7cf53 10 = .ok (.ireturn, 1) := by decide +kernel
theorem dJxa1e45_init_da8c8_0 : decode cJxa1e45_init_da8c8 0 = .ok (.aload_n 0, 1) := by decide +kernel
theorem dJxa1e45_init_da8c8_1 : decode cJxa1e45_init_da8c8 1 = .ok (.invokespecial 1, 3) := by decide +kernel
theorem dJxa1e45_init_da8c8_4 : decode cJxa1e45_init_da8c8 4 = .ok (.return_, 1) := by decide +kernel
theorem dJxc12de_init_da8c8_0 : decode cJxc12de_init_da8c8 0 = .ok (.aload_n 0, 1) := by decide +kernel
theorem dJxc12de_init_da8c8_1 : decode cJxc12de_init_da8c8 1 = .ok (.invokespecial 1, 3) := by decide +kernel
theorem dJxc12de_init_da8c8_4 : decode cJxc12de_init_da8c8 4 = .ok (.aload_n 0, 1) := by decide +kernel
theorem dJxc12de_init_da8c8_5 : decode cJxc12de_init_da8c8 5 = .ok (.iconst 0, 1) := by decide +kernel
theorem dJxc12de_init_da8c8_6 : decode cJxc12de_init_da8c8 6 = .ok (.putfield 7, 3) := by decide +kernel
theorem dJxc12de_init_da8c8_9 : decode cJxc12de_init_da8c8 9 = .ok (.return_, 1) := by decide +kernel
theorem dJx4a65c_init_da8c8_0 : decode cJx4a65c_init_da8c8 0 = .ok (.aload_n 0, 1) := by decide +kernel
theorem dJx4a65c_init_da8c8_1 : decode cJx4a65c_init_da8c8 1 = .ok (.invokespecial 1, 3) := by decide +kernel
theorem dJx4a65c_init_da8c8_4 : decode cJx4a65c_init_da8c8 4 = .ok (.aload_n 0, 1) := by decide +kernel
theorem dJx4a65c_init_da8c8_5 : decode cJx4a65c_init_da8c8 5 = .ok (.getstatic 39, 3) := by decide +kernel
theorem dJx4a65c_init_da8c8_8 : decode cJx4a65c_init_da8c8 8 = .ok (.putfield 9, 3) := by decide +kernel
theorem dJx4a65c_init_da8c8_11 : decode cJx4a65c_init_da8c8 11 = .ok (.return_, 1) := by decide +kernel
theorem dJx4a65c_grow_92f84_0 : decode cJx4a65c_grow_92f84 0 = .ok (.aload_n 0, 1) := by decide +kernel
theorem dJx4a65c_grow_92f84_1 : decode cJx4a65c_grow_92f84 1 = .ok (.getfield 9, 3) := by decide +kernel
theorem dJx4a65c_grow_92f84_4 : decode cJx4a65c_grow_92f84 4 = .ok (.arraylength, 1) := by decide +kernel
theorem dJx4a65c_grow_92f84_5 : decode cJx4a65c_grow_92f84 5 = .ok (.istore_n 2, 1) := by decide +kernel
theorem dJx4a65c_grow_92f84_6 : decode cJx4a65c_grow_92f84 6 = .ok (.iload_n 2, 1) := by decide +kernel
theorem dJx4a65c_grow_92f84_7 : decode cJx4a65c_grow_92f84 7 = .ok (.ifCond .gt 13, 3) := by decide +kernel
theorem dJx4a65c_grow_92f84_10 : decode cJx4a65c_grow_92f84 10 = .ok (.aload_n 0, 1) := by decide +kernel
theorem dJx4a65c_grow_92f84_11 : decode cJx4a65c_grow_92f84 11 = .ok (.getfield 9, 3) := by decide +kernel
theorem dJx4a65c_grow_92f84_14 : decode cJx4a65c_grow_92f84 14 = .ok (.getstatic 39, 3) := by decide +kernel
theorem dJx4a65c_grow_92f84_17 : decode cJx4a65c_grow_92f84 17 = .ok (.if_acmp .eq 28, 3) := by decide +kernel
theorem dJx4a65c_grow_92f84_20 : decode cJx4a65c_grow_92f84 20 = .ok (.iload_n 2, 1) := by decide +kernel
theorem dJx4a65c_grow_92f84_21 : decode cJx4a65c_grow_92f84 21 = .ok (.iload_n 1, 1) := by decide +kernel
theorem dJx4a65c_grow_92f84_22 : decode cJx4a65c_grow_92f84 22 = .ok (.iload_n 2, 1) := by decide +kernel
theorem dJx4a65c_grow_92f84_23 : decode cJx4a65c_grow_92f84 23 = .ok (.isub, 1) := by decide +kernel
theorem dJx4a65c_grow_92f84_24 : decode cJx4a65c_grow_92f84 24 = .ok (.iload_n 2, 1) := by decide +kernel
theorem dJx4a65c_grow_92f84_25 : decode cJx4a65c_grow_92f84 25 = .ok (.iconst 1, 1) := by decide +kernel
theorem dJx4a65c_grow_92f84_26 : decode cJx4a65c_grow_92f84 26 = .ok (.ishr, 1) := by decide +kernel
theorem dJx4a65c_grow_92f84_27 : decode cJx4a65c_grow_92f84 27 = .ok (.invokestatic 73, 3) := by decide +kernel
theorem dJx4a65c_grow_92f84_30 : decode cJx4a65c_grow_92f84 30 = .ok (.istore_n 3, 1) := by decide +kernel
theorem dJx4a65c_grow_92f84_31 : decode cJx4a65c_grow_92f84 31 = .ok (.aload_n 0, 1) := by decide +kernel
theorem dJx4a65c_grow_92f84_32 : decode cJx4a65c_grow_92f84 32 = .ok (.aload_n 0, 1) := by decide +kernel
theorem dJx4a65c_grow_92f84_33 : decode cJx4a65c_grow_92f84 33 = .ok (.getfield 9, 3) := by decide +kernel
theorem dJx4a65c_grow_92f84_36 : decode cJx4a65c_grow_92f84 36 = .ok (.iload_n 3, 1) := by decide +kernel
theorem dJx4a65c_grow_92f84_37 : decode cJx4a65c_grow_92f84 37 = .ok (.invokestatic 66, 3) := by decide +kernel
theorem dJx4a65c_grow_92f84_40 : decode cJx4a65c_grow_92f84 40 = .ok (.dup_x1, 1) := by decide +kernel
theorem dJx4a65c_grow_92f84_41 : decode cJx4a65c_grow_92f84 41 = .ok (.putfield 9, 3) := by decide +kernel
theorem dJx4a65c_grow_92f84_44 : decode cJx4a65c_grow_92f84 44 = .ok (.areturn, 1) := by decide +kernel
theorem dJx4a65c_grow_92f84_45 : decode cJx4a65c_grow_92f84 45 = .ok (.aload_n 0, 1) := by decide +kernel
theorem dJx4a65c_grow_92f84_46 : decode cJx4a65c_grow_92f84 46 = .ok (.bipush 10, 2) := by decide +kernel
theorem dJx4a65c_grow_92f84_48 : decode cJx4a65c_grow_92f84 48 = .ok (.iload_n 1, 1) := by decide +kernel
theorem dJx4a65c_grow_92f84_49 : decode cJx4a65c_grow_92f84 49 = .ok (.invokestatic 79, 3) := by decide +kernel
theorem dJx4a65c_grow_92f84_52 : decode cJx4a65c_grow_92f84 52 = .ok (.anewarray 7, 3) := by decide +kernel
theorem dJx4a65c_grow_92f84_55 : decode cJx4a65c_grow_92f84 55 = .ok (.dup_x1, 1) := by decide +kernel
theorem dJx4a65c_grow_92f84_56 : decode cJx4a65c_grow_92f84 56 = .ok (.putfield 9, 3) := by decide +kernel
theorem dJx4a65c_grow_92f84_59 : decode cJx4a65c_grow_92f84 59 = .ok (.areturn, 1) := by decide +kernel
theorem dJx4a65c_grow_d5877_0 : decode cJx4a65c_grow_d5877 0 = .ok (.aload_n 0, 1) := by decide +kernel
theorem dJx4a65c_grow_d5877_1 : decode cJx4a65c_grow_d5877 1 = .ok (.aload_n 0, 1) := by decide +kernel
theorem dJx4a65c_grow_d5877_2 : decode cJx4a65c_grow_d5877 2 = .ok (.getfield 48, 3) := by decide +kernel
theorem dJx4a65c_grow_d5877_5 : decode cJx4a65c_grow_d5877 5 = .ok (.iconst 1, 1) := by decide +kernel
theorem dJx4a65c_grow_d5877_6 : decode cJx4a65c_grow_d5877 6 = .ok (.iadd, 1) := by decide +kernel
theorem dJx4a65c_grow_d5877_7 : decode cJx4a65c_grow_d5877 7 = .ok (.invokevirtual 69, 3) := by decide +kernel
theorem dJx4a65c_grow_d5877_10 : decode cJx4a65c_grow_d5877 10 = .ok (.areturn, 1) := by decide +kernel
theorem dJx4a65c_size_8abf5_0 : decode cJx4a65c_size_8abf5 0 = .ok (.aload_n 0, 1) := by decide +kernel
theorem dJx4a65c_size_8abf5_1 : decode cJx4a65c_size_8abf5 1 = .ok (.getfield 48, 3) := by decide +kernel
theorem dJx4a65c_size_8abf5_4 : decode cJx4a65c_size_8abf5 4 = .ok (.ireturn, 1) := by decide +kernel
theorem dJx4a65c_elementData_915e3_0 : decode cJx4a65c_elementData_915e3 0 = .ok (.aload_n 0, 1) := by decide +kernel
theorem dJx4a65c_elementData_915e3_1 : decode cJx4a65c_elementData_915e3 1 = .ok (.getfield 9, 3) := by decide +kernel
theorem dJx4a65c_elementData_915e3_4 : decode cJx4a65c_elementData_915e3 4 = .ok (.iload_n 1, 1) := by decide +kernel
theorem dJx4a65c_elementData_915e3_5 : decode cJx4a65c_elementData_915e3 5 = .ok (.aaload, 1) := by decide +kernel
theorem dJx4a65c_elementData_915e3_6 : decode cJx4a65c_elementData_915e3 6 = .ok (.areturn, 1) := by decide +kernel
theorem dJx4a65c_get_915e3_0 : decode cJx4a65c_get_915e3 0 = .ok (.iload_n 1, 1) := by decide +kernel
theorem dJx4a65c_get_915e3_1 : decode cJx4a65c_get_915e3 1 = .ok (.aload_n 0, 1) := by decide +kernel
theorem dJx4a65c_get_915e3_2 : decode cJx4a65c_get_915e3 2 = .ok (.getfield 48, 3) := by decide +kernel
theorem dJx4a65c_get_915e3_5 : decode cJx4a65c_get_915e3 5 = .ok (.invokestatic 118, 3) := by decide +kernel
theorem dJx4a65c_get_915e3_8 : decode cJx4a65c_get_915e3 8 = .ok (.pop, 1) := by decide +kernel
theorem dJx4a65c_get_915e3_9 : decode cJx4a65c_get_915e3 9 = .ok (.aload_n 0, 1) := by decide +kernel
theorem dJx4a65c_get_915e3_10 : decode cJx4a65c_get_915e3 10 = .ok (.iload_n 1, 1) := by decide +kernel
theorem dJx4a65c_get_915e3_11 : decode cJx4a65c_get_915e3 11 = .ok (.invokevirtual 123, 3) := by decide +kernel
theorem dJx4a65c_get_915e3_14 : decode cJx4a65c_get_915e3 14 = .ok (.areturn, 1) := by decide +kernel
theorem dJx4a65c_add_72be8_0 : decode cJx4a65c_add_72be8 0 = .ok (.iload_n 3, 1) := by decide +kernel
theorem dJx4a65c_add_72be8_1 : decode cJx4a65c_add_72be8 1 = .ok (.aload_n 2, 1) := by decide +kernel
theorem dJx4a65c_add_72be8_2 : decode cJx4a65c_add_72be8 2 = .ok (.arraylength, 1) := by decide +kernel
theorem dJx4a65c_add_72be8_3 : decode cJx4a65c_add_72be8 3 = .ok (.if_icmp .ne 8, 3) := by decide +kernel
theorem dJx4a65c_add_72be8_6 : decode cJx4a65c_add_72be8 6 = .ok (.aload_n 0, 1) := by decide +kernel
theorem dJx4a65c_add_72be8_7 : decode cJx4a65c_add_72be8 7 = .ok (.invokevirtual 129, 3) := by decide +kernel
theorem dJx4a65c_add_72be8_10 : decode cJx4a65c_add_72be8 10 = .ok (.astore_n 2, 1) := by decide +kernel
theorem dJx4a65c_add_72be8_11 : decode cJx4a65c_add_72be8 11 = .ok (.aload_n 2, 1) := by decide +kernel
theorem dJx4a65c_add_72be8_12 : decode cJx4a65c_add_72be8 12 = .ok (.iload_n 3, 1) := by decide +kernel
theorem dJx4a65c_add_72be8_13 : decode cJx4a65c_add_72be8 13 = .ok (.aload_n 1, 1) := by decide +kernel
theorem dJx4a65c_add_72be8_14 : decode cJx4a65c_add_72be8 14 = .ok (.aastore, 1) := by decide +kernel
theorem dJx4a65c_add_72be8_15 : decode cJx4a65c_add_72be8 15 = .ok (.aload_n 0, 1) := by decide +kernel
theorem dJx4a65c_add_72be8_16 : decode cJx4a65c_add_72be8 16 = .ok (.iload_n 3, 1) := by decide +kernel
theorem dJx4a65c_add_72be8_17 : decode cJx4a65c_add_72be8 17 = .ok (.iconst 1, 1) := by decide +kernel
theorem dJx4a65c_add_72be8_18 : decode cJx4a65c_add_72be8 18 = .ok (.iadd, 1) := by decide +kernel
theorem dJx4a65c_add_72be8_19 : decode cJx4a65c_add_72be8 19 = .ok (.putfield 48, 3) := by decide +kernel
theorem dJx4a65c_add_72be8_22 : decode cJx4a65c_add_72be8 22 = .ok (.return_, 1) := by decide +kernel
theorem dJx4a65c_add_9ea2d_0 : decode cJx4a65c_add_9ea2d 0 = .ok (.aload_n 0, 1) := by decide +kernel
theorem dJx4a65c_add_9ea2d_1 : decode cJx4a65c_add_9ea2d 1 = .ok (.dup, 1) := by decide +kernel
theorem dJx4a65c_add_9ea2d_2 : decode cJx4a65c_add_9ea2d 2 = .ok (.getfield 63, 3) := by decide +kernel
theorem dJx4a65c_add_9ea2d_5 : decode cJx4a65c_add_9ea2d 5 = .ok (.iconst 1, 1) := by decide +kernel
theorem dJx4a65c_add_9ea2d_6 : decode cJx4a65c_add_9ea2d 6 = .ok (.iadd, 1) := by decide +kernel
theorem dJx4a65c_add_9ea2d_7 : decode cJx4a65c_add_9ea2d 7 = .ok (.putfield 63, 3) := by decide +kernel
theorem dJx4a65c_add_9ea2d_10 : decode cJx4a65c_add_9ea2d 10 = .ok (.aload_n 0, 1) := by decide +kernel
theorem dJx4a65c_add_9ea2d_11 : decode cJx4a65c_add_9ea2d 11 = .ok (.aload_n 1, 1) := by decide +kernel
theorem dJx4a65c_add_9ea2d_12 : decode cJx4a65c_add_9ea2d 12 = .ok (.aload_n 0, 1) := by decide +kernel
theorem dJx4a65c_add_9ea2d_13 : decode cJx4a65c_add_9ea2d 13 = .ok (.getfield 9, 3) := by decide +kernel
theorem dJx4a65c_add_9ea2d_16 : decode cJx4a65c_add_9ea2d 16 = .ok (.aload_n 0, 1) := by decide +kernel
theorem dJx4a65c_add_9ea2d_17 : decode cJx4a65c_add_9ea2d 17 = .ok (.getfield 48, 3) := by decide +kernel
theorem dJx4a65c_add_9ea2d_20 : decode cJx4a65c_add_9ea2d 20 = .ok (.invokevirtual 131, 3) := by decide +kernel
theorem dJx4a65c_add_9ea2d_23 : decode cJx4a65c_add_9ea2d 23 = .ok (.iconst 1, 1) := by decide +kernel
theorem dJx4a65c_add_9ea2d_24 : decode cJx4a65c_add_9ea2d 24 = .ok (.ireturn, 1) := by decide +kernel
theorem dJx4a65c_clear_da8c8_0 : decode cJx4a65c_clear_da8c8 0 = .ok (.aload_n 0, 1) := by decide +kernel
theorem dJx4a65c_clear_da8c8_1 : decode cJx4a65c_clear_da8c8 1 = .ok (.dup, 1) := by decide +kernel
theorem dJx4a65c_clear_da8c8_2 : decode cJx4a65c_clear_da8c8 2 = .ok (.getfield 63, 3) := by decide +kernel
theorem dJx4a65c_clear_da8c8_5 : decode cJx4a65c_clear_da8c8 5 = .ok (.iconst 1, 1) := by decide +kernel
theorem dJx4a65c_clear_da8c8_6 : decode cJx4a65c_clear_da8c8 6 = .ok (.iadd, 1) := by decide +kernel
theorem dJx4a65c_clear_da8c8_7 : decode cJx4a65c_clear_da8c8 7 = .ok (.putfield 63, 3) := by decide +kernel
theorem dJx4a65c_clear_da8c8_10 : decode cJx4a65c_clear_da8c8 10 = .ok (.aload_n 0, 1) := by decide +kernel
theorem dJx4a65c_clear_da8c8_11 : decode cJx4a65c_clear_da8c8 11 = .ok (.getfield 9, 3) := by decide +kernel
theorem dJx4a65c_clear_da8c8_14 : decode cJx4a65c_clear_da8c8 14 = .ok (.astore_n 1, 1) := by decide +kernel
theorem dJx4a65c_clear_da8c8_15 : decode cJx4a65c_clear_da8c8 15 = .ok (.aload_n 0, 1) := by decide +kernel
theorem dJx4a65c_clear_da8c8_16 : decode cJx4a65c_clear_da8c8 16 = .ok (.getfield 48, 3) := by decide +kernel
theorem dJx4a65c_clear_da8c8_19 : decode cJx4a65c_clear_da8c8 19 = .ok (.istore_n 2, 1) := by decide +kernel
theorem dJx4a65c_clear_da8c8_20 : decode cJx4a65c_clear_da8c8 20 = .ok (.aload_n 0, 1) := by decide +kernel
theorem dJx4a65c_clear_da8c8_21 : decode cJx4a65c_clear_da8c8 21 = .ok (.iconst 0, 1) := by decide +kernel
theorem dJx4a65c_clear_da8c8_22 : decode cJx4a65c_clear_da8c8 22 = .ok (.dup_x1, 1) := by decide +kernel
theorem dJx4a65c_clear_da8c8_23 : decode cJx4a65c_clear_da8c8 23 = .ok (.putfield 48, 3) := by decide +kernel
theorem dJx4a65c_clear_da8c8_26 : decode cJx4a65c_clear_da8c8 26 = .ok (.istore_n 3, 1) := by decide +kernel
theorem dJx4a65c_clear_da8c8_27 : decode cJx4a65c_clear_da8c8 27 = .ok (.iload_n 3, 1) := by decide +kernel
theorem dJx4a65c_clear_da8c8_28 : decode cJx4a65c_clear_da8c8 28 = .ok (.iload_n 2, 1) := by decide +kernel
theorem dJx4a65c_clear_da8c8_29 : decode cJx4a65c_clear_da8c8 29 = .ok (.if_icmp .ge 13, 3) := by decide +kernel
theorem dJx4a65c_clear_da8c8_32 : decode cJx4a65c_clear_da8c8 32 = .ok (.aload_n 1, 1) := by decide +kernel
theorem dJx4a65c_clear_da8c8_33 : decode cJx4a65c_clear_da8c8 33 = .ok (.iload_n 3, 1) := by decide +kernel
theorem dJx4a65c_clear_da8c8_34 : decode cJx4a65c_clear_da8c8 34 = .ok (.aconst_null, 1) := by decide +kernel
theorem dJx4a65c_clear_da8c8_35 : decode cJx4a65c_clear_da8c8 35 = .ok (.aastore, 1) := by decide +kernel
theorem dJx4a65c_clear_da8c8_36 : decode cJx4a65c_clear_da8c8 36 = .ok (.iinc 3 1, 3) := by decide +kernel
theorem dJx4a65c_clear_da8c8_39 : decode cJx4a65c_clear_da8c8 39 = .ok (.goto (-12), 3) := by decide +kernel
theorem dJx4a65c_clear_da8c8_42 : decode cJx4a65c_clear_da8c8 42 = .ok (.return_, 1) := by decide +kernel
theorem dJ7_copyOf_1904c_0 : decode cJ7_copyOf_1904c 0 = .ok (.aload_n 0, 1) := by decide +kernel
theorem dJ7_copyOf_1904c_1 : decode cJ7_copyOf_1904c 1 = .ok (.iload_n 1, 1) := by decide +kernel
theorem dJ7_copyOf_1904c_2 : decode cJ7_copyOf_1904c 2 = .ok (.aload_n 0, 1) := by decide +kernel
theorem dJ7_copyOf_1904c_3 : decode cJ7_copyOf_1904c 3 = .ok (.invokevirtual 86, 3) := by decide +kernel
theorem dJ7_copyOf_1904c_6 : decode cJ7_copyOf_1904c 6 = .ok (.invokestatic 300, 3) := by decide +kernel
theorem dJ7_copyOf_1904c_9 : decode cJ7_copyOf_1904c 9 = .ok (.areturn, 1) := by decide +kernel
theorem dJ7_copyOf_6403c_0 : decode cJ7_copyOf_6403c 0 = .ok (.aload_n 2, 1) := by decide +kernel
theorem dJ7_copyOf_6403c_1 : decode cJ7_copyOf_6403c 1 = .ok (.ldc 110, 2) := by decide +kernel
theorem dJ7_copyOf_6403c_3 : decode cJ7_copyOf_6403c 3 = .ok (.if_acmp .ne 10, 3) := by decide +kernel
theorem dJ7_copyOf_6403c_6 : decode cJ7_copyOf_6403c 6 = .ok (.iload_n 1, 1) := by decide +kernel
theorem dJ7_copyOf_6403c_7 : decode cJ7_copyOf_6403c 7 = .ok (.anewarray 2, 3) := by decide +kernel
theorem dJ7_copyOf_6403c_10 : decode cJ7_copyOf_6403c 10 = .ok (.goto 14, 3) := by decide +kernel
theorem dJ7_copyOf_6403c_13 : decode cJ7_copyOf_6403c 13 = .ok (.aload_n 2, 1) := by decide +kernel
theorem dJ7_copyOf_6403c_14 : decode cJ7_copyOf_6403c 14 = .ok (.invokevirtual 90, 3) := by decide +kernel
theorem dJ7_copyOf_6403c_17 : decode cJ7_copyOf_6403c 17 = .ok (.iload_n 1, 1) := by decide +kernel
theorem dJ7_copyOf_6403c_18 : decode cJ7_copyOf_6403c 18 = .ok (.invokestatic 95, 3) := by decide +kernel
theorem dJ7_copyOf_6403c_21 : decode cJ7_copyOf_6403c 21 = .ok (.checkcast 110, 3) := by decide +kernel
theorem dJ7_copyOf_6403c_24 : decode cJ7_copyOf_6403c 24 = .ok (.astore_n 3, 1) := by decide +kernel
theorem dJ7_copyOf_6403c_25 : decode cJ7_copyOf_6403c 25 = .ok (.aload_n 0, 1) := by decide +kernel
theorem dJ7_copyOf_6403c_26 : decode cJ7_copyOf_6403c 26 = .ok (.iconst 0, 1) := by decide +kernel
theorem dJ7_copyOf_6403c_27 : decode cJ7_copyOf_6403c 27 = .ok (.aload_n 3, 1) := by decide +kernel
theorem dJ7_copyOf_6403c_28 : decode cJ7_copyOf_6403c 28 = .ok (.iconst 0, 1) := by decide +kernel
theorem dJ7_copyOf_6403c_29 : decode cJ7_copyOf_6403c 29 = .ok (.aload_n 0, 1) := by decide +kernel
theorem dJ7_copyOf_6403c_30 : decode cJ7_copyOf_6403c 30 = .ok (.arraylength, 1) := by decide +kernel
theorem dJ7_copyOf_6403c_31 : decode cJ7_copyOf_6403c 31 = .ok (.iload_n 1, 1) := by decide +kernel
theorem dJ7_copyOf_6403c_32 : decode cJ7_copyOf_6403c 32 = .ok (.invokestatic 304, 3) := by decide +kernel
theorem dJ7_copyOf_6403c_35 : decode cJ7_copyOf_6403c 35 = .ok (.invokestatic 150, 3) := by decide +kernel
theorem dJ7_copyOf_6403c_38 : decode cJ7_copyOf_6403c 38 = .ok (.aload_n 3, 1) := by decide +kernel
theorem dJ7_copyOf_6403c_39 : decode cJ7_copyOf_6403c 39 = .ok (.areturn, 1) := by decide +kernel
theorem dJ15_checkIndex_7cf53_0 : decode cJ15_checkIndex_7cf53 0 = .ok (.iload_n 0, 1) := by decide +kernel
theorem dJ15_checkIndex_7cf53_1 : decode cJ15_checkIndex_7cf53 1 = .ok (.iload_n 1, 1) := by decide +kernel
theorem dJ15_checkIndex_7cf53_2 : decode cJ15_checkIndex_7cf53 2 = .ok (.aconst_null, 1) := by decide +kernel
theorem dJ15_checkIndex_7cf53_3 : decode cJ15_checkIndex_7cf53 3 = .ok (.invokestatic 105, 3) := by decide +kernel
theorem dJ15_checkIndex_7cf53_6 : decode cJ15_checkIndex_7cf53 6 = .ok (.ireturn, 1) := by decide +kernel
theorem dJ8_newLength_cabcc_0 : decode cJ8_newLength_cabcc 0 = .ok (.iload_n 0, 1) := by decide +kernel
theorem dJ8_newLength_cabcc_1 : decode cJ8_newLength_cabcc 1 = .ok (.iload_n 1, 1) := by decide +kernel
theorem dJ8_newLength_cabcc_2 : decode cJ8_newLength_cabcc 2 = .ok (.iload_n 2, 1) := by decide +kernel
theorem dJ8_newLength_cabcc_3 : decode cJ8_newLength_cabcc 3 = .ok (.invokestatic 194, 3) := by decide +kernel
theorem dJ8_newLength_cabcc_6 : decode cJ8_newLength_cabcc 6 = .ok (.iadd, 1) := by decide +kernel
theorem dJ8_newLength_cabcc_7 : decode cJ8_newLength_cabcc 7 = .ok (.istore_n 3, 1) := by decide +kernel
theorem dJ8_newLength_cabcc_8 : decode cJ8_newLength_cabcc 8 = .ok (.iconst 0, 1) := by decide +kernel
theorem dJ8_newLength_cabcc_9 : decode cJ8_newLength_cabcc 9 = .ok (.iload_n 3, 1) := by decide +kernel
theorem dJ8_newLength_cabcc_10 : decode cJ8_newLength_cabcc 10 = .ok (.if_icmp .ge 11, 3) := by decide +kernel
theorem dJ8_newLength_cabcc_13 : decode cJ8_newLength_cabcc 13 = .ok (.iload_n 3, 1) := by decide +kernel
theorem dJ8_newLength_cabcc_14 : decode cJ8_newLength_cabcc 14 = .ok (.ldc 200, 2) := by decide +kernel
theorem dJ8_newLength_cabcc_16 : decode cJ8_newLength_cabcc 16 = .ok (.if_icmp .gt 5, 3) := by decide +kernel
theorem dJ8_newLength_cabcc_19 : decode cJ8_newLength_cabcc 19 = .ok (.iload_n 3, 1) := by decide +kernel
theorem dJ8_newLength_cabcc_20 : decode cJ8_newLength_cabcc 20 = .ok (.ireturn, 1) := by decide +kernel
theorem dJ8_newLength_cabcc_21 : decode cJ8_newLength_cabcc 21 = .ok (.iload_n 0, 1) := by decide +kernel
theorem dJ8_newLength_cabcc_22 : decode cJ8_newLength_cabcc 22 = .ok (.iload_n 1, 1) := by decide +kernel
theorem dJ8_newLength_cabcc_23 : decode cJ8_newLength_cabcc 23 = .ok (.invokestatic 201, 3) := by decide +kernel
theorem dJ8_newLength_cabcc_26 : decode cJ8_newLength_cabcc 26 = .ok (.ireturn, 1) := by decide +kernel
theorem dJ8_hugeLength_7cf53_0 : decode cJ8_hugeLength_7cf53 0 = .ok (.iload_n 0, 1) := by decide +kernel
theorem dJ8_hugeLength_7cf53_1 : decode cJ8_hugeLength_7cf53 1 = .ok (.iload_n 1, 1) := by decide +kernel
theorem dJ8_hugeLength_7cf53_2 : decode cJ8_hugeLength_7cf53 2 = .ok (.iadd, 1) := by decide +kernel
theorem dJ8_hugeLength_7cf53_3 : decode cJ8_hugeLength_7cf53 3 = .ok (.istore_n 2, 1) := by decide +kernel
theorem dJ8_hugeLength_7cf53_4 : decode cJ8_hugeLength_7cf53 4 = .ok (.iload_n 2, 1) := by decide +kernel
theorem dJ8_hugeLength_7cf53_5 : decode cJ8_hugeLength_7cf53 5 = .ok (.ifCond .ge 44, 3) := by decide +kernel
theorem dJ8_hugeLength_7cf53_8 : decode cJ8_hugeLength_7cf53 8 = .ok (.new 204, 3) := by decide +kernel
theorem dJ8_hugeLength_7cf53_11 : decode cJ8_hugeLength_7cf53 11 = .ok (.dup, 1) := by decide +kernel
theorem dJ8_hugeLength_7cf53_12 : decode cJ8_hugeLength_7cf53 12 = .ok (.new 89, 3) := by decide +kernel
theorem dJ8_hugeLength_7cf53_15 : decode cJ8_hugeLength_7cf53 15 = .ok (.dup, 1) := by decide +kernel
theorem dJ8_hugeLength_7cf53_16 : decode cJ8_hugeLength_7cf53 16 = .ok (.invokespecial 91, 3) := by decide +kernel
theorem dJ8_hugeLength_7cf53_19 : decode cJ8_hugeLength_7cf53 19 = .ok (.ldc 206, 2) := by decide +kernel
theorem dJ8_hugeLength_7cf53_21 : decode cJ8_hugeLength_7cf53 21 = .ok (.invokevirtual 94, 3) := by decide +kernel
theorem dJ8_hugeLength_7cf53_24 : decode cJ8_hugeLength_7cf53 24 = .ok (.iload_n 0, 1) := by decide +kernel
theorem dJ8_hugeLength_7cf53_25 : decode cJ8_hugeLength_7cf53 25 = .ok (.invokevirtual 98, 3) := by decide +kernel
theorem dJ8_hugeLength_7cf53_28 : decode cJ8_hugeLength_7cf53 28 = .ok (.ldc 208, 2) := by decide +kernel
theorem dJ8_hugeLength_7cf53_30 : decode cJ8_hugeLength_7cf53 30 = .ok (.invokevirtual 94, 3) := by decide +kernel
theorem dJ8_hugeLength_7cf53_33 : decode cJ8_hugeLength_7cf53 33 = .ok (.iload_n 1, 1) := by decide +kernel
theorem dJ8_hugeLength_7cf53_34 : decode cJ8_hugeLength_7cf53 34 = .ok (.invokevirtual 98, 3) := by decide +kernel
theorem dJ8_hugeLength_7cf53_37 : decode cJ8_hugeLength_7cf53 37 = .ok (.ldc 210, 2) := by decide +kernel
theorem dJ8_hugeLength_7cf53_39 : decode cJ8_hugeLength_7cf53 39 = .ok (.invokevirtual 94, 3) := by decide +kernel
theorem dJ8_hugeLength_7cf53_42 : decode cJ8_hugeLength_7cf53 42 = .ok (.invokevirtual 101, 3) := by decide +kernel
theorem dJ8_hugeLength_7cf53_45 : decode cJ8_hugeLength_7cf53 45 = .ok (.invokespecial 212, 3) := by decide +kernel
theorem dJ8_hugeLength_7cf53_48 : decode cJ8_hugeLength_7cf53 48 = .ok (.athrow, 1) := by decide +kernel
theorem dJ8_hugeLength_7cf53_49 : decode cJ8_hugeLength_7cf53 49 = .ok (.iload_n 2, 1) := by decide +kernel
theorem dJ8_hugeLength_7cf53_50 : decode cJ8_hugeLength_7cf53 50 = .ok (.ldc 200, 2) := by decide +kernel
theorem dJ8_hugeLength_7cf53_52 : decode cJ8_hugeLength_7cf53 52 = .ok (.if_icmp .gt 6, 3) := by decide +kernel
theorem dJ8_hugeLength_7cf53_55 : decode cJ8_hugeLength_7cf53 55 = .ok (.ldc 200, 2) := by decide +kernel
theorem dJ8_hugeLength_7cf53_57 : decode cJ8_hugeLength_7cf53 57 = .ok (.ireturn, 1) := by decide +kernel
theorem dJ8_hugeLength_7cf53_58 : decode cJ8_hugeLength_7cf53 58 = .ok (.iload_n 2, 1) := by decide +kernel
theorem dJ8_hugeLength_7cf53_59 : decode cJ8_hugeLength_7cf53 59 = .ok (.ireturn, 1) := by decide +kernel
theorem dJ3_checkIndex_8e157_0 : decode cJ3_checkIndex_8e157 0 = .ok (.iload_n 0, 1) := by decide +kernel
theorem dJ3_checkIndex_8e157_1 : decode cJ3_checkIndex_8e157 1 = .ok (.ifCond .lt 8, 3) := by decide +kernel
theorem dJ3_checkIndex_8e157_4 : decode cJ3_checkIndex_8e157 4 = .ok (.iload_n 0, 1) := by decide +kernel
theorem dJ3_checkIndex_8e157_5 : decode cJ3_checkIndex_8e157 5 = .ok (.iload_n 1, 1) := by decide +kernel
theorem dJ3_checkIndex_8e157_6 : decode cJ3_checkIndex_8e157 6 = .ok (.if_icmp .lt 10, 3) := by decide +kernel
theorem dJ3_checkIndex_8e157_9 : decode cJ3_checkIndex_8e157 9 = .ok (.aload_n 2, 1) := by decide +kernel
theorem dJ3_checkIndex_8e157_10 : decode cJ3_checkIndex_8e157 10 = .ok (.iload_n 0, 1) := by decide +kernel
theorem dJ3_checkIndex_8e157_11 : decode cJ3_checkIndex_8e157 11 = .ok (.iload_n 1, 1) := by decide +kernel
theorem dJ3_checkIndex_8e157_12 : decode cJ3_checkIndex_8e157 12 = .ok (.invokestatic 95, 3) := by decide +kernel
theorem dJ3_checkIndex_8e157_15 : decode cJ3_checkIndex_8e157 15 = .ok (.athrow, 1) := by decide +kernel
theorem dJ3_checkIndex_8e157_16 : decode cJ3_checkIndex_8e157 16 = .ok (.iload_n 0, 1) := by decide +kernel
theorem dJ3_checkIndex_8e157_17 : decode cJ3_checkIndex_8e157 17 = .ok (.ireturn, 1) := by decide +kernel
theorem dL_drawing_0 : decode cL_drawing 0 = .ok (.aload_n 1, 1) := by decide +kernel
theorem dL_drawing_1 : decode cL_drawing 1 = .ok (.iconst 0, 1) := by decide +kernel
theorem dL_drawing_2 : decode cL_drawing 2 = .ok (.aload_n 0, 1) := by decide +kernel
theorem dL_drawing_3 : decode cL_drawing 3 = .ok (.invokevirtual 7, 3) := by decide +kernel
theorem dL_drawing_6 : decode cL_drawing 6 = .ok (.i2l, 1) := by decide +kernel
theorem dL_drawing_7 : decode cL_drawing 7 = .ok (.lastore, 1) := by decide +kernel
theorem dL_drawing_8 : decode cL_drawing 8 = .ok (.goto 6, 3) := by decide +kernel
theorem dL_drawing_11 : decode cL_drawing 11 = .ok (.astore_n 2, 1) := by decide +kernel
theorem dL_drawing_12 : decode cL_drawing 12 = .ok (.iconst 1, 1) := by decide +kernel
theorem dL_drawing_13 : decode cL_drawing 13 = .ok (.ireturn, 1) := by decide +kernel
theorem dL_drawing_14 : decode cL_drawing 14 = .ok (.iconst 0, 1) := by decide +kernel
theorem dL_drawing_15 : decode cL_drawing 15 = .ok (.ireturn, 1) := by decide +kernel
theorem dL_stroke_0 : decode cL_stroke 0 = .ok (.aload 4, 2) := by decide +kernel
theorem dL_stroke_2 : decode cL_stroke 2 = .ok (.iconst 0, 1) := by decide +kernel
theorem dL_stroke_3 : decode cL_stroke 3 = .ok (.aload_n 0, 1) := by decide +kernel
theorem dL_stroke_4 : decode cL_stroke 4 = .ok (.iload_n 1, 1) := by decide +kernel
theorem dL_stroke_5 : decode cL_stroke 5 = .ok (.iload_n 2, 1) := by decide +kernel
theorem dL_stroke_6 : decode cL_stroke 6 = .ok (.iload_n 3, 1) := by decide +kernel
theorem dL_stroke_7 : decode cL_stroke 7 = .ok (.invokevirtual 15, 3) := by decide +kernel
theorem dL_stroke_10 : decode cL_stroke 10 = .ok (.i2l, 1) := by decide +kernel
theorem dL_stroke_11 : decode cL_stroke 11 = .ok (.lastore, 1) := by decide +kernel
theorem dL_stroke_12 : decode cL_stroke 12 = .ok (.goto 15, 3) := by decide +kernel
theorem dL_stroke_15 : decode cL_stroke 15 = .ok (.astore 5, 2) := by decide +kernel
theorem dL_stroke_17 : decode cL_stroke 17 = .ok (.iconst 1, 1) := by decide +kernel
theorem dL_stroke_18 : decode cL_stroke 18 = .ok (.ireturn, 1) := by decide +kernel
theorem dL_stroke_19 : decode cL_stroke 19 = .ok (.astore 5, 2) := by decide +kernel
theorem dL_stroke_21 : decode cL_stroke 21 = .ok (.iconst 2, 1) := by decide +kernel
theorem dL_stroke_22 : decode cL_stroke 22 = .ok (.ireturn, 1) := by decide +kernel
theorem dL_stroke_23 : decode cL_stroke 23 = .ok (.astore 5, 2) := by decide +kernel
theorem dL_stroke_25 : decode cL_stroke 25 = .ok (.iconst 3, 1) := by decide +kernel
theorem dL_stroke_26 : decode cL_stroke 26 = .ok (.ireturn, 1) := by decide +kernel
theorem dL_stroke_27 : decode cL_stroke 27 = .ok (.iconst 0, 1) := by decide +kernel
theorem dL_stroke_28 : decode cL_stroke 28 = .ok (.ireturn, 1) := by decide +kernel
theorem dL_finish_0 : decode cL_finish 0 = .ok (.aload_n 2, 1) := by decide +kernel
theorem dL_finish_1 : decode cL_finish 1 = .ok (.iconst 0, 1) := by decide +kernel
theorem dL_finish_2 : decode cL_finish 2 = .ok (.aload_n 0, 1) := by decide +kernel
theorem dL_finish_3 : decode cL_finish 3 = .ok (.iload_n 1, 1) := by decide +kernel
theorem dL_finish_4 : decode cL_finish 4 = .ok (.invokevirtual 23, 3) := by decide +kernel
theorem dL_finish_7 : decode cL_finish 7 = .ok (.i2l, 1) := by decide +kernel
theorem dL_finish_8 : decode cL_finish 8 = .ok (.lastore, 1) := by decide +kernel
theorem dL_finish_9 : decode cL_finish 9 = .ok (.goto 9, 3) := by decide +kernel
theorem dL_finish_12 : decode cL_finish 12 = .ok (.astore_n 3, 1) := by decide +kernel
theorem dL_finish_13 : decode cL_finish 13 = .ok (.iconst 1, 1) := by decide +kernel
theorem dL_finish_14 : decode cL_finish 14 = .ok (.ireturn, 1) := by decide +kernel
theorem dL_finish_15 : decode cL_finish 15 = .ok (.astore_n 3, 1) := by decide +kernel
theorem dL_finish_16 : decode cL_finish 16 = .ok (.iconst 2, 1) := by decide +kernel
theorem dL_finish_17 : decode cL_finish 17 = .ok (.ireturn, 1) := by decide +kernel
theorem dL_finish_18 : decode cL_finish 18 = .ok (.iconst 0, 1) := by decide +kernel
theorem dL_finish_19 : decode cL_finish 19 = .ok (.ireturn, 1) := by decide +kernel
theorem dL_redraw_0 : decode cL_redraw 0 = .ok (.aload_n 2, 1) := by decide +kernel
theorem dL_redraw_1 : decode cL_redraw 1 = .ok (.iconst 0, 1) := by decide +kernel
theorem dL_redraw_2 : decode cL_redraw 2 = .ok (.aload_n 0, 1) := by decide +kernel
theorem dL_redraw_3 : decode cL_redraw 3 = .ok (.iload_n 1, 1) := by decide +kernel
theorem dL_redraw_4 : decode cL_redraw 4 = .ok (.invokevirtual 27, 3) := by decide +kernel
theorem dL_redraw_7 : decode cL_redraw 7 = .ok (.i2l, 1) := by decide +kernel
theorem dL_redraw_8 : decode cL_redraw 8 = .ok (.lastore, 1) := by decide +kernel
theorem dL_redraw_9 : decode cL_redraw 9 = .ok (.goto 9, 3) := by decide +kernel
theorem dL_redraw_12 : decode cL_redraw 12 = .ok (.astore_n 3, 1) := by decide +kernel
theorem dL_redraw_13 : decode cL_redraw 13 = .ok (.iconst 1, 1) := by decide +kernel
theorem dL_redraw_14 : decode cL_redraw 14 = .ok (.ireturn, 1) := by decide +kernel
theorem dL_redraw_15 : decode cL_redraw 15 = .ok (.astore_n 3, 1) := by decide +kernel
theorem dL_redraw_16 : decode cL_redraw 16 = .ok (.iconst 2, 1) := by decide +kernel
theorem dL_redraw_17 : decode cL_redraw 17 = .ok (.ireturn, 1) := by decide +kernel
theorem dL_redraw_18 : decode cL_redraw 18 = .ok (.iconst 0, 1) := by decide +kernel
theorem dL_redraw_19 : decode cL_redraw 19 = .ok (.ireturn, 1) := by decide +kernel
theorem dL_ofDrawing_0 : decode cL_ofDrawing 0 = .ok (.aload_n 3, 1) := by decide +kernel
theorem dL_ofDrawing_1 : decode cL_ofDrawing 1 = .ok (.iconst 0, 1) := by decide +kernel
theorem dL_ofDrawing_2 : decode cL_ofDrawing 2 = .ok (.aload_n 0, 1) := by decide +kernel
theorem dL_ofDrawing_3 : decode cL_ofDrawing 3 = .ok (.iload_n 1, 1) := by decide +kernel
theorem dL_ofDrawing_4 : decode cL_ofDrawing 4 = .ok (.iload_n 2, 1) := by decide +kernel
theorem dL_ofDrawing_5 : decode cL_ofDrawing 5 = .ok (.invokevirtual 30, 3) := by decide +kernel
theorem dL_ofDrawing_8 : decode cL_ofDrawing 8 = .ok (.i2l, 1) := by decide +kernel
theorem dL_ofDrawing_9 : decode cL_ofDrawing 9 = .ok (.lastore, 1) := by decide +kernel
theorem dL_ofDrawing_10 : decode cL_ofDrawing 10 = .ok (.goto 11, 3) := by decide +kernel
theorem dL_ofDrawing_13 : decode cL_ofDrawing 13 = .ok (.astore 4, 2) := by decide +kernel
theorem dL_ofDrawing_15 : decode cL_ofDrawing 15 = .ok (.iconst 1, 1) := by decide +kernel
theorem dL_ofDrawing_16 : decode cL_ofDrawing 16 = .ok (.ireturn, 1) := by decide +kernel
theorem dL_ofDrawing_17 : decode cL_ofDrawing 17 = .ok (.astore 4, 2) := by decide +kernel
theorem dL_ofDrawing_19 : decode cL_ofDrawing 19 = .ok (.iconst 2, 1) := by decide +kernel
theorem dL_ofDrawing_20 : decode cL_ofDrawing 20 = .ok (.ireturn, 1) := by decide +kernel
theorem dL_ofDrawing_21 : decode cL_ofDrawing 21 = .ok (.iconst 0, 1) := by decide +kernel
theorem dL_ofDrawing_22 : decode cL_ofDrawing 22 = .ok (.ireturn, 1) := by decide +kernel
theorem dL_length_0 : decode cL_length 0 = .ok (.aload_n 2, 1) := by decide +kernel
theorem dL_length_1 : decode cL_length 1 = .ok (.iconst 0, 1) := by decide +kernel
theorem dL_length_2 : decode cL_length 2 = .ok (.aload_n 0, 1) := by decide +kernel
theorem dL_length_3 : decode cL_length 3 = .ok (.iload_n 1, 1) := by decide +kernel
theorem dL_length_4 : decode cL_length 4 = .ok (.invokevirtual 34, 3) := by decide +kernel
theorem dL_length_7 : decode cL_length 7 = .ok (.f2d, 1) := by decide +kernel
theorem dL_length_8 : decode cL_length 8 = .ok (.dastore, 1) := by decide +kernel
theorem dL_length_9 : decode cL_length 9 = .ok (.goto 6, 3) := by decide +kernel
theorem dL_length_12 : decode cL_length 12 = .ok (.astore_n 3, 1) := by decide +kernel
theorem dL_length_13 : decode cL_length 13 = .ok (.iconst 1, 1) := by decide +kernel
theorem dL_length_14 : decode cL_length 14 = .ok (.ireturn, 1) := by decide +kernel
theorem dL_length_15 : decode cL_length 15 = .ok (.iconst 0, 1) := by decide +kernel
theorem dL_length_16 : decode cL_length 16 = .ok (.ireturn, 1) := by decide +kernel
theorem dL_sheet_0 : decode cL_sheet 0 = .ok (.aload_n 3, 1) := by decide +kernel
theorem dL_sheet_1 : decode cL_sheet 1 = .ok (.iconst 0, 1) := by decide +kernel
theorem dL_sheet_2 : decode cL_sheet 2 = .ok (.aload_n 0, 1) := by decide +kernel
theorem dL_sheet_3 : decode cL_sheet 3 = .ok (.iload_n 1, 1) := by decide +kernel
theorem dL_sheet_4 : decode cL_sheet 4 = .ok (.iload_n 2, 1) := by decide +kernel
theorem dL_sheet_5 : decode cL_sheet 5 = .ok (.invokevirtual 38, 3) := by decide +kernel
theorem dL_sheet_8 : decode cL_sheet 8 = .ok (.i2l, 1) := by decide +kernel
theorem dL_sheet_9 : decode cL_sheet 9 = .ok (.lastore, 1) := by decide +kernel
theorem dL_sheet_10 : decode cL_sheet 10 = .ok (.goto 11, 3) := by decide +kernel
theorem dL_sheet_13 : decode cL_sheet 13 = .ok (.astore 4, 2) := by decide +kernel
theorem dL_sheet_15 : decode cL_sheet 15 = .ok (.iconst 1, 1) := by decide +kernel
theorem dL_sheet_16 : decode cL_sheet 16 = .ok (.ireturn, 1) := by decide +kernel
theorem dL_sheet_17 : decode cL_sheet 17 = .ok (.astore 4, 2) := by decide +kernel
theorem dL_sheet_19 : decode cL_sheet 19 = .ok (.iconst 2, 1) := by decide +kernel
theorem dL_sheet_20 : decode cL_sheet 20 = .ok (.ireturn, 1) := by decide +kernel
theorem dL_sheet_21 : decode cL_sheet 21 = .ok (.iconst 0, 1) := by decide +kernel
theorem dL_sheet_22 : decode cL_sheet 22 = .ok (.ireturn, 1) := by decide +kernel
theorem dL_job_0 : decode cL_job 0 = .ok (.aload_n 3, 1) := by decide +kernel
theorem dL_job_1 : decode cL_job 1 = .ok (.iconst 0, 1) := by decide +kernel
theorem dL_job_2 : decode cL_job 2 = .ok (.aload_n 0, 1) := by decide +kernel
theorem dL_job_3 : decode cL_job 3 = .ok (.iload_n 1, 1) := by decide +kernel
theorem dL_job_4 : decode cL_job 4 = .ok (.iload_n 2, 1) := by decide +kernel
theorem dL_job_5 : decode cL_job 5 = .ok (.invokevirtual 41, 3) := by decide +kernel
theorem dL_job_8 : decode cL_job 8 = .ok (.i2l, 1) := by decide +kernel
theorem dL_job_9 : decode cL_job 9 = .ok (.lastore, 1) := by decide +kernel
theorem dL_job_10 : decode cL_job 10 = .ok (.goto 15, 3) := by decide +kernel
theorem dL_job_13 : decode cL_job 13 = .ok (.astore 4, 2) := by decide +kernel
theorem dL_job_15 : decode cL_job 15 = .ok (.iconst 1, 1) := by decide +kernel
theorem dL_job_16 : decode cL_job 16 = .ok (.ireturn, 1) := by decide +kernel
theorem dL_job_17 : decode cL_job 17 = .ok (.astore 4, 2) := by decide +kernel
theorem dL_job_19 : decode cL_job 19 = .ok (.iconst 2, 1) := by decide +kernel
theorem dL_job_20 : decode cL_job 20 = .ok (.ireturn, 1) := by decide +kernel
theorem dL_job_21 : decode cL_job 21 = .ok (.astore 4, 2) := by decide +kernel
theorem dL_job_23 : decode cL_job 23 = .ok (.iconst 3, 1) := by decide +kernel
theorem dL_job_24 : decode cL_job 24 = .ok (.ireturn, 1) := by decide +kernel
theorem dL_job_25 : decode cL_job 25 = .ok (.iconst 0, 1) := by decide +kernel
theorem dL_job_26 : decode cL_job 26 = .ok (.ireturn, 1) := by decide +kernel
theorem dL_cancel_0 : decode cL_cancel 0 = .ok (.aload_n 2, 1) := by decide +kernel
theorem dL_cancel_1 : decode cL_cancel 1 = .ok (.iconst 0, 1) := by decide +kernel
theorem dL_cancel_2 : decode cL_cancel 2 = .ok (.aload_n 0, 1) := by decide +kernel
theorem dL_cancel_3 : decode cL_cancel 3 = .ok (.iload_n 1, 1) := by decide +kernel
theorem dL_cancel_4 : decode cL_cancel 4 = .ok (.invokevirtual 44, 3) := by decide +kernel
theorem dL_cancel_7 : decode cL_cancel 7 = .ok (.i2l, 1) := by decide +kernel
theorem dL_cancel_8 : decode cL_cancel 8 = .ok (.lastore, 1) := by decide +kernel
theorem dL_cancel_9 : decode cL_cancel 9 = .ok (.goto 9, 3) := by decide +kernel
theorem dL_cancel_12 : decode cL_cancel 12 = .ok (.astore_n 3, 1) := by decide +kernel
theorem dL_cancel_13 : decode cL_cancel 13 = .ok (.iconst 1, 1) := by decide +kernel
theorem dL_cancel_14 : decode cL_cancel 14 = .ok (.ireturn, 1) := by decide +kernel
theorem dL_cancel_15 : decode cL_cancel 15 = .ok (.astore_n 3, 1) := by decide +kernel
theorem dL_cancel_16 : decode cL_cancel 16 = .ok (.iconst 2, 1) := by decide +kernel
theorem dL_cancel_17 : decode cL_cancel 17 = .ok (.ireturn, 1) := by decide +kernel
theorem dL_cancel_18 : decode cL_cancel 18 = .ok (.iconst 0, 1) := by decide +kernel
theorem dL_cancel_19 : decode cL_cancel 19 = .ok (.ireturn, 1) := by decide +kernel
theorem dL_cut_0 : decode cL_cut 0 = .ok (.aload_n 2, 1) := by decide +kernel
theorem dL_cut_1 : decode cL_cut 1 = .ok (.iconst 0, 1) := by decide +kernel
theorem dL_cut_2 : decode cL_cut 2 = .ok (.aload_n 0, 1) := by decide +kernel
theorem dL_cut_3 : decode cL_cut 3 = .ok (.iload_n 1, 1) := by decide +kernel
theorem dL_cut_4 : decode cL_cut 4 = .ok (.invokevirtual 47, 3) := by decide +kernel
theorem dL_cut_7 : decode cL_cut 7 = .ok (.i2l, 1) := by decide +kernel
theorem dL_cut_8 : decode cL_cut 8 = .ok (.lastore, 1) := by decide +kernel
theorem dL_cut_9 : decode cL_cut 9 = .ok (.goto 9, 3) := by decide +kernel
theorem dL_cut_12 : decode cL_cut 12 = .ok (.astore_n 3, 1) := by decide +kernel
theorem dL_cut_13 : decode cL_cut 13 = .ok (.iconst 1, 1) := by decide +kernel
theorem dL_cut_14 : decode cL_cut 14 = .ok (.ireturn, 1) := by decide +kernel
theorem dL_cut_15 : decode cL_cut 15 = .ok (.astore_n 3, 1) := by decide +kernel
theorem dL_cut_16 : decode cL_cut 16 = .ok (.iconst 2, 1) := by decide +kernel
theorem dL_cut_17 : decode cL_cut 17 = .ok (.ireturn, 1) := by decide +kernel
theorem dL_cut_18 : decode cL_cut 18 = .ok (.iconst 0, 1) := by decide +kernel
theorem dL_cut_19 : decode cL_cut 19 = .ok (.ireturn, 1) := by decide +kernel
theorem dL_ofJob_0 : decode cL_ofJob 0 = .ok (.aload_n 3, 1) := by decide +kernel
theorem dL_ofJob_1 : decode cL_ofJob 1 = .ok (.iconst 0, 1) := by decide +kernel
theorem dL_ofJob_2 : decode cL_ofJob 2 = .ok (.aload_n 0, 1) := by decide +kernel
theorem dL_ofJob_3 : decode cL_ofJob 3 = .ok (.iload_n 1, 1) := by decide +kernel
theorem dL_ofJob_4 : decode cL_ofJob 4 = .ok (.iload_n 2, 1) := by decide +kernel
theorem dL_ofJob_5 : decode cL_ofJob 5 = .ok (.invokevirtual 50, 3) := by decide +kernel
theorem dL_ofJob_8 : decode cL_ofJob 8 = .ok (.i2l, 1) := by decide +kernel
theorem dL_ofJob_9 : decode cL_ofJob 9 = .ok (.lastore, 1) := by decide +kernel
theorem dL_ofJob_10 : decode cL_ofJob 10 = .ok (.goto 11, 3) := by decide +kernel
theorem dL_ofJob_13 : decode cL_ofJob 13 = .ok (.astore 4, 2) := by decide +kernel
theorem dL_ofJob_15 : decode cL_ofJob 15 = .ok (.iconst 1, 1) := by decide +kernel
theorem dL_ofJob_16 : decode cL_ofJob 16 = .ok (.ireturn, 1) := by decide +kernel
theorem dL_ofJob_17 : decode cL_ofJob 17 = .ok (.astore 4, 2) := by decide +kernel
theorem dL_ofJob_19 : decode cL_ofJob 19 = .ok (.iconst 2, 1) := by decide +kernel
theorem dL_ofJob_20 : decode cL_ofJob 20 = .ok (.ireturn, 1) := by decide +kernel
theorem dL_ofJob_21 : decode cL_ofJob 21 = .ok (.iconst 0, 1) := by decide +kernel
theorem dL_ofJob_22 : decode cL_ofJob 22 = .ok (.ireturn, 1) := by decide +kernel
theorem dL_where_0 : decode cL_where 0 = .ok (.aload 4, 2) := by decide +kernel
theorem dL_where_2 : decode cL_where 2 = .ok (.iconst 0, 1) := by decide +kernel
theorem dL_where_3 : decode cL_where 3 = .ok (.aload_n 0, 1) := by decide +kernel
theorem dL_where_4 : decode cL_where 4 = .ok (.iload_n 1, 1) := by decide +kernel
theorem dL_where_5 : decode cL_where 5 = .ok (.iload_n 2, 1) := by decide +kernel
theorem dL_where_6 : decode cL_where 6 = .ok (.iload_n 3, 1) := by decide +kernel
theorem dL_where_7 : decode cL_where 7 = .ok (.invokevirtual 53, 3) := by decide +kernel
theorem dL_where_10 : decode cL_where 10 = .ok (.i2l, 1) := by decide +kernel
theorem dL_where_11 : decode cL_where 11 = .ok (.lastore, 1) := by decide +kernel
theorem dL_where_12 : decode cL_where 12 = .ok (.goto 11, 3) := by decide +kernel
theorem dL_where_15 : decode cL_where 15 = .ok (.astore 5, 2) := by decide +kernel
theorem dL_where_17 : decode cL_where 17 = .ok (.iconst 1, 1) := by decide +kernel
theorem dL_where_18 : decode cL_where 18 = .ok (.ireturn, 1) := by decide +kernel
theorem dL_where_19 : decode cL_where 19 = .ok (.astore 5, 2) := by decide +kernel
theorem dL_where_21 : decode cL_where 21 = .ok (.iconst 2, 1) := by decide +kernel
theorem dL_where_22 : decode cL_where 22 = .ok (.ireturn, 1) := by decide +kernel
theorem dL_where_23 : decode cL_where 23 = .ok (.iconst 0, 1) := by decide +kernel
theorem dL_where_24 : decode cL_where 24 = .ok (.ireturn, 1) := by decide +kernel
theorem dL_free_0 : decode cL_free 0 = .ok (.aload_n 2, 1) := by decide +kernel
theorem dL_free_1 : decode cL_free 1 = .ok (.iconst 0, 1) := by decide +kernel
theorem dL_free_2 : decode cL_free 2 = .ok (.aload_n 0, 1) := by decide +kernel
theorem dL_free_3 : decode cL_free 3 = .ok (.iload_n 1, 1) := by decide +kernel
theorem dL_free_4 : decode cL_free 4 = .ok (.invokevirtual 56, 3) := by decide +kernel
theorem dL_free_7 : decode cL_free 7 = .ok (.i2l, 1) := by decide +kernel
theorem dL_free_8 : decode cL_free 8 = .ok (.lastore, 1) := by decide +kernel
theorem dL_free_9 : decode cL_free 9 = .ok (.goto 6, 3) := by decide +kernel
theorem dL_free_12 : decode cL_free 12 = .ok (.astore_n 3, 1) := by decide +kernel
theorem dL_free_13 : decode cL_free 13 = .ok (.iconst 1, 1) := by decide +kernel
theorem dL_free_14 : decode cL_free 14 = .ok (.ireturn, 1) := by decide +kernel
theorem dL_free_15 : decode cL_free 15 = .ok (.iconst 0, 1) := by decide +kernel
theorem dL_free_16 : decode cL_free 16 = .ok (.ireturn, 1) := by decide +kernel
theorem dL_law_0 : decode cL_law 0 = .ok (.new 8, 3) := by decide +kernel
theorem dL_law_3 : decode cL_law 3 = .ok (.dup, 1) := by decide +kernel
theorem dL_law_4 : decode cL_law 4 = .ok (.invokespecial 59, 3) := by decide +kernel
theorem dL_law_7 : decode cL_law 7 = .ok (.astore_n 1, 1) := by decide +kernel
theorem dL_law_8 : decode cL_law 8 = .ok (.new 60, 3) := by decide +kernel
theorem dL_law_11 : decode cL_law 11 = .ok (.dup, 1) := by decide +kernel
theorem dL_law_12 : decode cL_law 12 = .ok (.invokespecial 62, 3) := by decide +kernel
theorem dL_law_15 : decode cL_law 15 = .ok (.astore_n 2, 1) := by decide +kernel
theorem dL_law_16 : decode cL_law 16 = .ok (.iconst 1, 1) := by decide +kernel
theorem dL_law_17 : decode cL_law 17 = .ok (.newarray .long, 2) := by decide +kernel
theorem dL_law_19 : decode cL_law 19 = .ok (.astore_n 3, 1) := by decide +kernel
theorem dL_law_20 : decode cL_law 20 = .ok (.iconst 1, 1) := by decide +kernel
theorem dL_law_21 : decode cL_law 21 = .ok (.newarray .double, 2) := by decide +kernel
theorem dL_law_23 : decode cL_law 23 = .ok (.astore 4, 2) := by decide +kernel
theorem dL_law_25 : decode cL_law 25 = .ok (.iconst 0, 1) := by decide +kernel
theorem dL_law_26 : decode cL_law 26 = .ok (.istore 5, 2) := by decide +kernel
theorem dL_law_28 : decode cL_law 28 = .ok (.iload 5, 2) := by decide +kernel
theorem dL_law_30 : decode cL_law 30 = .ok (.aload_n 0, 1) := by decide +kernel
theorem dL_law_31 : decode cL_law 31 = .ok (.arraylength, 1) := by decide +kernel
theorem dL_law_32 : decode cL_law 32 = .ok (.iconst 4, 1) := by decide +kernel
theorem dL_law_33 : decode cL_law 33 = .ok (.isub, 1) := by decide +kernel
theorem dL_law_34 : decode cL_law 34 = .ok (.if_icmp .gt 1029, 3) := by decide +kernel
theorem dL_law_37 : decode cL_law 37 = .ok (.aload_n 0, 1) := by decide +kernel
theorem dL_law_38 : decode cL_law 38 = .ok (.iload 5, 2) := by decide +kernel
theorem dL_law_40 : decode cL_law 40 = .ok (.iaload, 1) := by decide +kernel
theorem dL_law_41 : decode cL_law 41 = .ok (.bipush 15, 2) := by decide +kernel
theorem dL_law_43 : decode cL_law 43 = .ok (.iand, 1) := by decide +kernel
theorem dL_law_44 : decode cL_law 44 = .ok (.tableswitch 1013 0 15 #[80, 124, 204, 260, 316, 384, 462, 530, 598, 654, 710, 778, 858, 914, 927, 970], 80) := by decide +kernel
theorem dL_law_124 : decode cL_law 124 = .ok (.aload_n 1, 1) := by decide +kernel
theorem dL_law_125 : decode cL_law 125 = .ok (.aload_n 3, 1) := by decide +kernel
theorem dL_law_126 : decode cL_law 126 = .ok (.invokestatic 63, 3) := by decide +kernel
theorem dL_law_129 : decode cL_law 129 = .ok (.istore 6, 2) := by decide +kernel
theorem dL_law_131 : decode cL_law 131 = .ok (.aload_n 2, 1) := by decide +kernel
theorem dL_law_132 : decode cL_law 132 = .ok (.invokevirtual 68, 3) := by decide +kernel
theorem dL_law_135 : decode cL_law 135 = .ok (.istore 7, 2) := by decide +kernel
theorem dL_law_137 : decode cL_law 137 = .ok (.aload_n 2, 1) := by decide +kernel
theorem dL_law_138 : decode cL_law 138 = .ok (.invokevirtual 69, 3) := by decide +kernel
theorem dL_law_141 : decode cL_law 141 = .ok (.iload 6, 2) := by decide +kernel
theorem dL_law_143 : decode cL_law 143 = .ok (.if_icmp .eq 5, 3) := by decide +kernel
theorem dL_law_146 : decode cL_law 146 = .ok (.iconst 0, 1) := by decide +kernel
theorem dL_law_147 : decode cL_law 147 = .ok (.ireturn, 1) := by decide +kernel
theorem dL_law_148 : decode cL_law 148 = .ok (.iload 6, 2) := by decide +kernel
theorem dL_law_150 : decode cL_law 150 = .ok (.ifCond .ne 15, 3) := by decide +kernel
theorem dL_law_153 : decode cL_law 153 = .ok (.aload_n 3, 1) := by decide +kernel
theorem dL_law_154 : decode cL_law 154 = .ok (.iconst 0, 1) := by decide +kernel
theorem dL_law_155 : decode cL_law 155 = .ok (.laload, 1) := by decide +kernel
theorem dL_law_156 : decode cL_law 156 = .ok (.iload 7, 2) := by decide +kernel
theorem dL_law_158 : decode cL_law 158 = .ok (.i2l, 1) := by decide +kernel
theorem dL_law_159 : decode cL_law 159 = .ok (.lcmp, 1) := by decide +kernel
theorem dL_law_160 : decode cL_law 160 = .ok (.ifCond .eq 5, 3) := by decide +kernel
theorem dL_law_163 : decode cL_law 163 = .ok (.iconst 0, 1) := by decide +kernel
theorem dL_law_164 : decode cL_law 164 = .ok (.ireturn, 1) := by decide +kernel
theorem dL_law_165 : decode cL_law 165 = .ok (.goto 892, 3) := by decide +kernel
theorem dL_law_168 : decode cL_law 168 = .ok (.aload_n 1, 1) := by decide +kernel
theorem dL_law_169 : decode cL_law 169 = .ok (.aload_n 0, 1) := by decide +kernel
theorem dL_law_170 : decode cL_law 170 = .ok (.iload 5, 2) := by decide +kernel
theorem dL_law_172 : decode cL_law 172 = .ok (.iconst 1, 1) := by decide +kernel
theorem dL_law_173 : decode cL_law 173 = .ok (.iadd, 1) := by decide +kernel
theorem dL_law_174 : decode cL_law 174 = .ok (.iaload, 1) := by decide +kernel
theorem dL_law_175 : decode cL_law 175 = .ok (.aload_n 0, 1) := by decide +kernel
theorem dL_law_176 : decode cL_law 176 = .ok (.iload 5, 2) := by decide +kernel
theorem dL_law_178 : decode cL_law 178 = .ok (.iconst 2, 1) := by decide +kernel
theorem dL_law_179 : decode cL_law 179 = .ok (.iadd, 1) := by decide +kernel
theorem dL_law_180 : decode cL_law 180 = .ok (.iaload, 1) := by decide +kernel
theorem dL_law_181 : decode cL_law 181 = .ok (.aload_n 0, 1) := by decide +kernel
theorem dL_law_182 : decode cL_law 182 = .ok (.iload 5, 2) := by decide +kernel
theorem dL_law_184 : decode cL_law 184 = .ok (.iconst 3, 1) := by decide +kernel
theorem dL_law_185 : decode cL_law 185 = .ok (.iadd, 1) := by decide +kernel
theorem dL_law_186 : decode cL_law 186 = .ok (.iaload, 1) := by decide +kernel
theorem dL_law_187 : decode cL_law 187 = .ok (.aload_n 3, 1) := by decide +kernel
theorem dL_law_188 : decode cL_law 188 = .ok (.invokestatic 72, 3) := by decide +kernel
theorem dL_law_191 : decode cL_law 191 = .ok (.istore 6, 2) := by decide +kernel
theorem dL_law_193 : decode cL_law 193 = .ok (.aload_n 2, 1) := by decide +kernel
theorem dL_law_194 : decode cL_law 194 = .ok (.aload_n 0, 1) := by decide +kernel
theorem dL_law_195 : decode cL_law 195 = .ok (.iload 5, 2) := by decide +kernel
theorem dL_law_197 : decode cL_law 197 = .ok (.iconst 1, 1) := by decide +kernel
theorem dL_law_198 : decode cL_law 198 = .ok (.iadd, 1) := by decide +kernel
theorem dL_law_199 : decode cL_law 199 = .ok (.iaload, 1) := by decide +kernel
theorem dL_law_200 : decode cL_law 200 = .ok (.aload_n 0, 1) := by decide +kernel
theorem dL_law_201 : decode cL_law 201 = .ok (.iload 5, 2) := by decide +kernel
theorem dL_law_203 : decode cL_law 203 = .ok (.iconst 2, 1) := by decide +kernel
theorem dL_law_204 : decode cL_law 204 = .ok (.iadd, 1) := by decide +kernel
theorem dL_law_205 : decode cL_law 205 = .ok (.iaload, 1) := by decide +kernel
theorem dL_law_206 : decode cL_law 206 = .ok (.aload_n 0, 1) := by decide +kernel
theorem dL_law_207 : decode cL_law 207 = .ok (.iload 5, 2) := by decide +kernel
theorem dL_law_209 : decode cL_law 209 = .ok (.iconst 3, 1) := by decide +kernel
theorem dL_law_210 : decode cL_law 210 = .ok (.iadd, 1) := by decide +kernel
theorem dL_law_211 : decode cL_law 211 = .ok (.iaload, 1) := by decide +kernel
theorem dL_law_212 : decode cL_law 212 = .ok (.invokevirtual 75, 3) := by decide +kernel
theorem dL_law_215 : decode cL_law 215 = .ok (.istore 7, 2) := by decide +kernel
theorem dL_law_217 : decode cL_law 217 = .ok (.aload_n 2, 1) := by decide +kernel
theorem dL_law_218 : decode cL_law 218 = .ok (.invokevirtual 69, 3) := by decide +kernel
theorem dL_law_221 : decode cL_law 221 = .ok (.iload 6, 2) := by decide +kernel
theorem dL_law_223 : decode cL_law 223 = .ok (.if_icmp .eq 5, 3) := by decide +kernel
theorem dL_law_226 : decode cL_law 226 = .ok (.iconst 0, 1) := by decide +kernel
theorem dL_law_227 : decode cL_law 227 = .ok (.ireturn, 1) := by decide +kernel
theorem dL_law_228 : decode cL_law 228 = .ok (.iload 6, 2) := by decide +kernel
theorem dL_law_230 : decode cL_law 230 = .ok (.ifCond .ne 15, 3) := by decide +kernel
theorem dL_law_233 : decode cL_law 233 = .ok (.aload_n 3, 1) := by decide +kernel
theorem dL_law_234 : decode cL_law 234 = .ok (.iconst 0, 1) := by decide +kernel
theorem dL_law_235 : decode cL_law 235 = .ok (.laload, 1) := by decide +kernel
theorem dL_law_236 : decode cL_law 236 = .ok (.iload 7, 2) := by decide +kernel
theorem dL_law_238 : decode cL_law 238 = .ok (.i2l, 1) := by decide +kernel
theorem dL_law_239 : decode cL_law 239 = .ok (.lcmp, 1) := by decide +kernel
theorem dL_law_240 : decode cL_law 240 = .ok (.ifCond .eq 5, 3) := by decide +kernel
theorem dL_law_243 : decode cL_law 243 = .ok (.iconst 0, 1) := by decide +kernel
theorem dL_law_244 : decode cL_law 244 = .ok (.ireturn, 1) := by decide +kernel
theorem dL_law_245 : decode cL_law 245 = .ok (.goto 812, 3) := by decide +kernel
theorem dL_law_248 : decode cL_law 248 = .ok (.aload_n 1, 1) := by decide +kernel
theorem dL_law_249 : decode cL_law 249 = .ok (.aload_n 0, 1) := by decide +kernel
theorem dL_law_250 : decode cL_law 250 = .ok (.iload 5, 2) := by decide +kernel
theorem dL_law_252 : decode cL_law 252 = .ok (.iconst 1, 1) := by decide +kernel
theorem dL_law_253 : decode cL_law 253 = .ok (.iadd, 1) := by decide +kernel
theorem dL_law_254 : decode cL_law 254 = .ok (.iaload, 1) := by decide +kernel
theorem dL_law_255 : decode cL_law 255 = .ok (.aload_n 3, 1) := by decide +kernel
theorem dL_law_256 : decode cL_law 256 = .ok (.invokestatic 76, 3) := by decide +kernel
theorem dL_law_259 : decode cL_law 259 = .ok (.istore 6, 2) := by decide +kernel
theorem dL_law_261 : decode cL_law 261 = .ok (.aload_n 2, 1) := by decide +kernel
theorem dL_law_262 : decode cL_law 262 = .ok (.aload_n 0, 1) := by decide +kernel
theorem dL_law_263 : decode cL_law 263 = .ok (.iload 5, 2) := by decide +kernel
theorem dL_law_265 : decode cL_law 265 = .ok (.iconst 1, 1) := by decide +kernel
theorem dL_law_266 : decode cL_law 266 = .ok (.iadd, 1) := by decide +kernel
theorem dL_law_267 : decode cL_law 267 = .ok (.iaload, 1) := by decide +kernel
theorem dL_law_268 : decode cL_law 268 = .ok (.invokevirtual 79, 3) := by decide +kernel
theorem dL_law_271 : decode cL_law 271 = .ok (.istore 7, 2) := by decide +kernel
theorem dL_law_273 : decode cL_law 273 = .ok (.aload_n 2, 1) := by decide +kernel
theorem dL_law_274 : decode cL_law 274 = .ok (.invokevirtual 69, 3) := by decide +kernel
theorem dL_law_277 : decode cL_law 277 = .ok (.iload 6, 2) := by decide +kernel
theorem dL_law_279 : decode cL_law 279 = .ok (.if_icmp .eq 5, 3) := by decide +kernel
theorem dL_law_282 : decode cL_law 282 = .ok (.iconst 0, 1) := by decide +kernel
theorem dL_law_283 : decode cL_law 283 = .ok (.ireturn, 1) := by decide +kernel
theorem dL_law_284 : decode cL_law 284 = .ok (.iload 6, 2) := by decide +kernel
theorem dL_law_286 : decode cL_law 286 = .ok (.ifCond .ne 15, 3) := by decide +kernel
theorem dL_law_289 : decode cL_law 289 = .ok (.aload_n 3, 1) := by decide +kernel
theorem dL_law_290 : decode cL_law 290 = .ok (.iconst 0, 1) := by decide +kernel
theorem dL_law_291 : decode cL_law 291 = .ok (.laload, 1) := by decide +kernel
theorem dL_law_292 : decode cL_law 292 = .ok (.iload 7, 2) := by decide +kernel
theorem dL_law_294 : decode cL_law 294 = .ok (.i2l, 1) := by decide +kernel
theorem dL_law_295 : decode cL_law 295 = .ok (.lcmp, 1) := by decide +kernel
theorem dL_law_296 : decode cL_law 296 = .ok (.ifCond .eq 5, 3) := by decide +kernel
theorem dL_law_299 : decode cL_law 299 = .ok (.iconst 0, 1) := by decide +kernel
theorem dL_law_300 : decode cL_law 300 = .ok (.ireturn, 1) := by decide +kernel
theorem dL_law_301 : decode cL_law 301 = .ok (.goto 756, 3) := by decide +kernel
theorem dL_law_304 : decode cL_law 304 = .ok (.aload_n 1, 1) := by decide +kernel
theorem dL_law_305 : decode cL_law 305 = .ok (.aload_n 0, 1) := by decide +kernel
theorem dL_law_306 : decode cL_law 306 = .ok (.iload 5, 2) := by decide +kernel
theorem dL_law_308 : decode cL_law 308 = .ok (.iconst 1, 1) := by decide +kernel
theorem dL_law_309 : decode cL_law 309 = .ok (.iadd, 1) := by decide +kernel
theorem dL_law_310 : decode cL_law 310 = .ok (.iaload, 1) := by decide +kernel
theorem dL_law_311 : decode cL_law 311 = .ok (.aload_n 3, 1) := by decide +kernel
theorem dL_law_312 : decode cL_law 312 = .ok (.invokestatic 80, 3) := by decide +kernel
theorem dL_law_315 : decode cL_law 315 = .ok (.istore 6, 2) := by decide +kernel
theorem dL_law_317 : decode cL_law 317 = .ok (.aload_n 2, 1) := by decide +kernel
theorem dL_law_318 : decode cL_law 318 = .ok (.aload_n 0, 1) := by decide +kernel
theorem dL_law_319 : decode cL_law 319 = .ok (.iload 5, 2) := by decide +kernel
theorem dL_law_321 : decode cL_law 321 = .ok (.iconst 1, 1) := by decide +kernel
theorem dL_law_322 : decode cL_law 322 = .ok (.iadd, 1) := by decide +kernel
theorem dL_law_323 : decode cL_law 323 = .ok (.iaload, 1) := by decide +kernel
theorem dL_law_324 : decode cL_law 324 = .ok (.invokevirtual 82, 3) := by decide +kernel
theorem dL_law_327 : decode cL_law 327 = .ok (.istore 7, 2) := by decide +kernel
theorem dL_law_329 : decode cL_law 329 = .ok (.aload_n 2, 1) := by decide +kernel
theorem dL_law_330 : decode cL_law 330 = .ok (.invokevirtual 69, 3) := by decide +kernel
theorem dL_law_333 : decode cL_law 333 = .ok (.iload 6, 2) := by decide +kernel
theorem dL_law_335 : decode cL_law 335 = .ok (.if_icmp .eq 5, 3) := by decide +kernel
theorem dL_law_338 : decode cL_law 338 = .ok (.iconst 0, 1) := by decide +kernel
theorem dL_law_339 : decode cL_law 339 = .ok (.ireturn, 1) := by decide +kernel
theorem dL_law_340 : decode cL_law 340 = .ok (.iload 6, 2) := by decide +kernel
theorem dL_law_342 : decode cL_law 342 = .ok (.ifCond .ne 15, 3) := by decide +kernel
theorem dL_law_345 : decode cL_law 345 = .ok (.aload_n 3, 1) := by decide +kernel
theorem dL_law_346 : decode cL_law 346 = .ok (.iconst 0, 1) := by decide +kernel
theorem dL_law_347 : decode cL_law 347 = .ok (.laload, 1) := by decide +kernel
theorem dL_law_348 : decode cL_law 348 = .ok (.iload 7, 2) := by decide +kernel
theorem dL_law_350 : decode cL_law 350 = .ok (.i2l, 1) := by decide +kernel
theorem dL_law_351 : decode cL_law 351 = .ok (.lcmp, 1) := by decide +kernel
theorem dL_law_352 : decode cL_law 352 = .ok (.ifCond .eq 5, 3) := by decide +kernel
theorem dL_law_355 : decode cL_law 355 = .ok (.iconst 0, 1) := by decide +kernel
theorem dL_law_356 : decode cL_law 356 = .ok (.ireturn, 1) := by decide +kernel
theorem dL_law_357 : decode cL_law 357 = .ok (.goto 700, 3) := by decide +kernel
theorem dL_law_360 : decode cL_law 360 = .ok (.aload_n 1, 1) := by decide +kernel
theorem dL_law_361 : decode cL_law 361 = .ok (.aload_n 0, 1) := by decide +kernel
theorem dL_law_362 : decode cL_law 362 = .ok (.iload 5, 2) := by decide +kernel
theorem dL_law_364 : decode cL_law 364 = .ok (.iconst 1, 1) := by decide +kernel
theorem dL_law_365 : decode cL_law 365 = .ok (.iadd, 1) := by decide +kernel
theorem dL_law_366 : decode cL_law 366 = .ok (.iaload, 1) := by decide +kernel
theorem dL_law_367 : decode cL_law 367 = .ok (.aload_n 0, 1) := by decide +kernel
theorem dL_law_368 : decode cL_law 368 = .ok (.iload 5, 2) := by decide +kernel
theorem dL_law_370 : decode cL_law 370 = .ok (.iconst 2, 1) := by decide +kernel
theorem dL_law_371 : decode cL_law 371 = .ok (.iadd, 1) := by decide +kernel
theorem dL_law_372 : decode cL_law 372 = .ok (.iaload, 1) := by decide +kernel
theorem dL_law_373 : decode cL_law 373 = .ok (.aload_n 3, 1) := by decide +kernel
theorem dL_law_374 : decode cL_law 374 = .ok (.invokestatic 83, 3) := by decide +kernel
theorem dL_law_377 : decode cL_law 377 = .ok (.istore 6, 2) := by decide +kernel
theorem dL_law_379 : decode cL_law 379 = .ok (.aload_n 2, 1) := by decide +kernel
theorem dL_law_380 : decode cL_law 380 = .ok (.aload_n 0, 1) := by decide +kernel
theorem dL_law_381 : decode cL_law 381 = .ok (.iload 5, 2) := by decide +kernel
theorem dL_law_383 : decode cL_law 383 = .ok (.iconst 1, 1) := by decide +kernel
theorem dL_law_384 : decode cL_law 384 = .ok (.iadd, 1) := by decide +kernel
theorem dL_law_385 : decode cL_law 385 = .ok (.iaload, 1) := by decide +kernel
theorem dL_law_386 : decode cL_law 386 = .ok (.aload_n 0, 1) := by decide +kernel
theorem dL_law_387 : decode cL_law 387 = .ok (.iload 5, 2) := by decide +kernel
theorem dL_law_389 : decode cL_law 389 = .ok (.iconst 2, 1) := by decide +kernel
theorem dL_law_390 : decode cL_law 390 = .ok (.iadd, 1) := by decide +kernel
theorem dL_law_391 : decode cL_law 391 = .ok (.iaload, 1) := by decide +kernel
theorem dL_law_392 : decode cL_law 392 = .ok (.invokevirtual 86, 3) := by decide +kernel
theorem dL_law_395 : decode cL_law 395 = .ok (.istore 7, 2) := by decide +kernel
theorem dL_law_397 : decode cL_law 397 = .ok (.aload_n 2, 1) := by decide +kernel
theorem dL_law_398 : decode cL_law 398 = .ok (.invokevirtual 69, 3) := by decide +kernel
theorem dL_law_401 : decode cL_law 401 = .ok (.iload 6, 2) := by decide +kernel
theorem dL_law_403 : decode cL_law 403 = .ok (.if_icmp .eq 5, 3) := by decide +kernel
theorem dL_law_406 : decode cL_law 406 = .ok (.iconst 0, 1) := by decide +kernel
theorem dL_law_407 : decode cL_law 407 = .ok (.ireturn, 1) := by decide +kernel
theorem dL_law_408 : decode cL_law 408 = .ok (.iload 6, 2) := by decide +kernel
theorem dL_law_410 : decode cL_law 410 = .ok (.ifCond .ne 15, 3) := by decide +kernel
theorem dL_law_413 : decode cL_law 413 = .ok (.aload_n 3, 1) := by decide +kernel
theorem dL_law_414 : decode cL_law 414 = .ok (.iconst 0, 1) := by decide +kernel
theorem dL_law_415 : decode cL_law 415 = .ok (.laload, 1) := by decide +kernel
theorem dL_law_416 : decode cL_law 416 = .ok (.iload 7, 2) := by decide +kernel
theorem dL_law_418 : decode cL_law 418 = .ok (.i2l, 1) := by decide +kernel
theorem dL_law_419 : decode cL_law 419 = .ok (.lcmp, 1) := by decide +kernel
theorem dL_law_420 : decode cL_law 420 = .ok (.ifCond .eq 5, 3) := by decide +kernel
theorem dL_law_423 : decode cL_law 423 = .ok (.iconst 0, 1) := by decide +kernel
theorem dL_law_424 : decode cL_law 424 = .ok (.ireturn, 1) := by decide +kernel
theorem dL_law_425 : decode cL_law 425 = .ok (.goto 632, 3) := by decide +kernel
theorem dL_law_428 : decode cL_law 428 = .ok (.aload_n 1, 1) := by decide +kernel
theorem dL_law_429 : decode cL_law 429 = .ok (.aload_n 0, 1) := by decide +kernel
theorem dL_law_430 : decode cL_law 430 = .ok (.iload 5, 2) := by decide +kernel
theorem dL_law_432 : decode cL_law 432 = .ok (.iconst 1, 1) := by decide +kernel
theorem dL_law_433 : decode cL_law 433 = .ok (.iadd, 1) := by decide +kernel
theorem dL_law_434 : decode cL_law 434 = .ok (.iaload, 1) := by decide +kernel
theorem dL_law_435 : decode cL_law 435 = .ok (.aload 4, 2) := by decide +kernel
theorem dL_law_437 : decode cL_law 437 = .ok (.invokestatic 87, 3) := by decide +kernel
theorem dL_law_440 : decode cL_law 440 = .ok (.istore 6, 2) := by decide +kernel
theorem dL_law_442 : decode cL_law 442 = .ok (.aload_n 2, 1) := by decide +kernel
theorem dL_law_443 : decode cL_law 443 = .ok (.aload_n 0, 1) := by decide +kernel
theorem dL_law_444 : decode cL_law 444 = .ok (.iload 5, 2) := by decide +kernel
theorem dL_law_446 : decode cL_law 446 = .ok (.iconst 1, 1) := by decide +kernel
theorem dL_law_447 : decode cL_law 447 = .ok (.iadd, 1) := by decide +kernel
theorem dL_law_448 : decode cL_law 448 = .ok (.iaload, 1) := by decide +kernel
theorem dL_law_449 : decode cL_law 449 = .ok (.invokevirtual 90, 3) := by decide +kernel
theorem dL_law_452 : decode cL_law 452 = .ok (.fstore 7, 2) := by decide +kernel
theorem dL_law_454 : decode cL_law 454 = .ok (.aload_n 2, 1) := by decide +kernel
theorem dL_law_455 : decode cL_law 455 = .ok (.invokevirtual 69, 3) := by decide +kernel
theorem dL_law_458 : decode cL_law 458 = .ok (.iload 6, 2) := by decide +kernel
theorem dL_law_460 : decode cL_law 460 = .ok (.if_icmp .eq 5, 3) := by decide +kernel
theorem dL_law_463 : decode cL_law 463 = .ok (.iconst 0, 1) := by decide +kernel
theorem dL_law_464 : decode cL_law 464 = .ok (.ireturn, 1) := by decide +kernel
theorem dL_law_465 : decode cL_law 465 = .ok (.iload 6, 2) := by decide +kernel
theorem dL_law_467 : decode cL_law 467 = .ok (.ifCond .ne 36, 3) := by decide +kernel
theorem dL_law_470 : decode cL_law 470 = .ok (.aload 4, 2) := by decide +kernel
theorem dL_law_472 : decode cL_law 472 = .ok (.iconst 0, 1) := by decide +kernel
theorem dL_law_473 : decode cL_law 473 = .ok (.daload, 1) := by decide +kernel
theorem dL_law_474 : decode cL_law 474 = .ok (.fload 7, 2) := by decide +kernel
theorem dL_law_476 : decode cL_law 476 = .ok (.f2d, 1) := by decide +kernel
theorem dL_law_477 : decode cL_law 477 = .ok (.dcmp .l, 1) := by decide +kernel
theorem dL_law_478 : decode cL_law 478 = .ok (.ifCond .eq 25, 3) := by decide +kernel
theorem dL_law_481 : decode cL_law 481 = .ok (.aload 4, 2) := by decide +kernel
theorem dL_law_483 : decode cL_law 483 = .ok (.iconst 0, 1) := by decide +kernel
theorem dL_law_484 : decode cL_law 484 = .ok (.daload, 1) := by decide +kernel
theorem dL_law_485 : decode cL_law 485 = .ok (.aload 4, 2) := by decide +kernel
theorem dL_law_487 : decode cL_law 487 = .ok (.iconst 0, 1) := by decide +kernel
theorem dL_law_488 : decode cL_law 488 = .ok (.daload, 1) := by decide +kernel
theorem dL_law_489 : decode cL_law 489 = .ok (.dcmp .l, 1) := by decide +kernel
theorem dL_law_490 : decode cL_law 490 = .ok (.ifCond .eq 11, 3) := by decide +kernel
theorem dL_law_493 : decode cL_law 493 = .ok (.fload 7, 2) := by decide +kernel
theorem dL_law_495 : decode cL_law 495 = .ok (.fload 7, 2) := by decide +kernel
theorem dL_law_497 : decode cL_law 497 = .ok (.fcmp .l, 1) := by decide +kernel
theorem dL_law_498 : decode cL_law 498 = .ok (.ifCond .ne 5, 3) := by decide +kernel
theorem dL_law_501 : decode cL_law 501 = .ok (.iconst 0, 1) := by decide +kernel
theorem dL_law_502 : decode cL_law 502 = .ok (.ireturn, 1) := by decide +kernel
theorem dL_law_503 : decode cL_law 503 = .ok (.goto 554, 3) := by decide +kernel
theorem dL_law_506 : decode cL_law 506 = .ok (.aload_n 1, 1) := by decide +kernel
theorem dL_law_507 : decode cL_law 507 = .ok (.aload_n 0, 1) := by decide +kernel
theorem dL_law_508 : decode cL_law 508 = .ok (.iload 5, 2) := by decide +kernel
theorem dL_law_510 : decode cL_law 510 = .ok (.iconst 1, 1) := by decide +kernel
theorem dL_law_511 : decode cL_law 511 = .ok (.iadd, 1) := by decide +kernel
theorem dL_law_512 : decode cL_law 512 = .ok (.iaload, 1) := by decide +kernel
theorem dL_law_513 : decode cL_law 513 = .ok (.aload_n 0, 1) := by decide +kernel
theorem dL_law_514 : decode cL_law 514 = .ok (.iload 5, 2) := by decide +kernel
theorem dL_law_516 : decode cL_law 516 = .ok (.iconst 2, 1) := by decide +kernel
theorem dL_law_517 : decode cL_law 517 = .ok (.iadd, 1) := by decide +kernel
theorem dL_law_518 : decode cL_law 518 = .ok (.iaload, 1) := by decide +kernel
theorem dL_law_519 : decode cL_law 519 = .ok (.aload_n 3, 1) := by decide +kernel
theorem dL_law_520 : decode cL_law 520 = .ok (.invokestatic 91, 3) := by decide +kernel
theorem dL_law_523 : decode cL_law 523 = .ok (.istore 6, 2) := by decide +kernel
theorem dL_law_525 : decode cL_law 525 = .ok (.aload_n 2, 1) := by decide +kernel
theorem dL_law_526 : decode cL_law 526 = .ok (.aload_n 0, 1) := by decide +kernel
theorem dL_law_527 : decode cL_law 527 = .ok (.iload 5, 2) := by decide +kernel
theorem dL_law_529 : decode cL_law 529 = .ok (.iconst 1, 1) := by decide +kernel
theorem dL_law_530 : decode cL_law 530 = .ok (.iadd, 1) := by decide +kernel
theorem dL_law_531 : decode cL_law 531 = .ok (.iaload, 1) := by decide +kernel
theorem dL_law_532 : decode cL_law 532 = .ok (.aload_n 0, 1) := by decide +kernel
theorem dL_law_533 : decode cL_law 533 = .ok (.iload 5, 2) := by decide +kernel
theorem dL_law_535 : decode cL_law 535 = .ok (.iconst 2, 1) := by decide +kernel
theorem dL_law_536 : decode cL_law 536 = .ok (.iadd, 1) := by decide +kernel
theorem dL_law_537 : decode cL_law 537 = .ok (.iaload, 1) := by decide +kernel
theorem dL_law_538 : decode cL_law 538 = .ok (.invokevirtual 93, 3) := by decide +kernel
theorem dL_law_541 : decode cL_law 541 = .ok (.istore 7, 2) := by decide +kernel
theorem dL_law_543 : decode cL_law 543 = .ok (.aload_n 2, 1) := by decide +kernel
theorem dL_law_544 : decode cL_law 544 = .ok (.invokevirtual 69, 3) := by decide +kernel
theorem dL_law_547 : decode cL_law 547 = .ok (.iload 6, 2) := by decide +kernel
theorem dL_law_549 : decode cL_law 549 = .ok (.if_icmp .eq 5, 3) := by decide +kernel
theorem dL_law_552 : decode cL_law 552 = .ok (.iconst 0, 1) := by decide +kernel
theorem dL_law_553 : decode cL_law 553 = .ok (.ireturn, 1) := by decide +kernel
theorem dL_law_554 : decode cL_law 554 = .ok (.iload 6, 2) := by decide +kernel
theorem dL_law_556 : decode cL_law 556 = .ok (.ifCond .ne 15, 3) := by decide +kernel
theorem dL_law_559 : decode cL_law 559 = .ok (.aload_n 3, 1) := by decide +kernel
theorem dL_law_560 : decode cL_law 560 = .ok (.iconst 0, 1) := by decide +kernel
theorem dL_law_561 : decode cL_law 561 = .ok (.laload, 1) := by decide +kernel
theorem dL_law_562 : decode cL_law 562 = .ok (.iload 7, 2) := by decide +kernel
theorem dL_law_564 : decode cL_law 564 = .ok (.i2l, 1) := by decide +kernel
theorem dL_law_565 : decode cL_law 565 = .ok (.lcmp, 1) := by decide +kernel
theorem dL_law_566 : decode cL_law 566 = .ok (.ifCond .eq 5, 3) := by decide +kernel
theorem dL_law_569 : decode cL_law 569 = .ok (.iconst 0, 1) := by decide +kernel
theorem dL_law_570 : decode cL_law 570 = .ok (.ireturn, 1) := by decide +kernel
theorem dL_law_571 : decode cL_law 571 = .ok (.goto 486, 3) := by decide +kernel
theorem dL_law_574 : decode cL_law 574 = .ok (.aload_n 1, 1) := by decide +kernel
theorem dL_law_575 : decode cL_law 575 = .ok (.aload_n 0, 1) := by decide +kernel
theorem dL_law_576 : decode cL_law 576 = .ok (.iload 5, 2) := by decide +kernel
theorem dL_law_578 : decode cL_law 578 = .ok (.iconst 1, 1) := by decide +kernel
theorem dL_law_579 : decode cL_law 579 = .ok (.iadd, 1) := by decide +kernel
theorem dL_law_580 : decode cL_law 580 = .ok (.iaload, 1) := by decide +kernel
theorem dL_law_581 : decode cL_law 581 = .ok (.aload_n 0, 1) := by decide +kernel
theorem dL_law_582 : decode cL_law 582 = .ok (.iload 5, 2) := by decide +kernel
theorem dL_law_584 : decode cL_law 584 = .ok (.iconst 2, 1) := by decide +kernel
theorem dL_law_585 : decode cL_law 585 = .ok (.iadd, 1) := by decide +kernel
theorem dL_law_586 : decode cL_law 586 = .ok (.iaload, 1) := by decide +kernel
theorem dL_law_587 : decode cL_law 587 = .ok (.aload_n 3, 1) := by decide +kernel
theorem dL_law_588 : decode cL_law 588 = .ok (.invokestatic 94, 3) := by decide +kernel
theorem dL_law_591 : decode cL_law 591 = .ok (.istore 6, 2) := by decide +kernel
theorem dL_law_593 : decode cL_law 593 = .ok (.aload_n 2, 1) := by decide +kernel
theorem dL_law_594 : decode cL_law 594 = .ok (.aload_n 0, 1) := by decide +kernel
theorem dL_law_595 : decode cL_law 595 = .ok (.iload 5, 2) := by decide +kernel
theorem dL_law_597 : decode cL_law 597 = .ok (.iconst 1, 1) := by decide +kernel
theorem dL_law_598 : decode cL_law 598 = .ok (.iadd, 1) := by decide +kernel
theorem dL_law_599 : decode cL_law 599 = .ok (.iaload, 1) := by decide +kernel
theorem dL_law_600 : decode cL_law 600 = .ok (.aload_n 0, 1) := by decide +kernel
theorem dL_law_601 : decode cL_law 601 = .ok (.iload 5, 2) := by decide +kernel
theorem dL_law_603 : decode cL_law 603 = .ok (.iconst 2, 1) := by decide +kernel
theorem dL_law_604 : decode cL_law 604 = .ok (.iadd, 1) := by decide +kernel
theorem dL_law_605 : decode cL_law 605 = .ok (.iaload, 1) := by decide +kernel
theorem dL_law_606 : decode cL_law 606 = .ok (.invokevirtual 96, 3) := by decide +kernel
theorem dL_law_609 : decode cL_law 609 = .ok (.istore 7, 2) := by decide +kernel
theorem dL_law_611 : decode cL_law 611 = .ok (.aload_n 2, 1) := by decide +kernel
theorem dL_law_612 : decode cL_law 612 = .ok (.invokevirtual 69, 3) := by decide +kernel
theorem dL_law_615 : decode cL_law 615 = .ok (.iload 6, 2) := by decide +kernel
theorem dL_law_617 : decode cL_law 617 = .ok (.if_icmp .eq 5, 3) := by decide +kernel
theorem dL_law_620 : decode cL_law 620 = .ok (.iconst 0, 1) := by decide +kernel
theorem dL_law_621 : decode cL_law 621 = .ok (.ireturn, 1) := by decide +kernel
theorem dL_law_622 : decode cL_law 622 = .ok (.iload 6, 2) := by decide +kernel
theorem dL_law_624 : decode cL_law 624 = .ok (.ifCond .ne 15, 3) := by decide +kernel
theorem dL_law_627 : decode cL_law 627 = .ok (.aload_n 3, 1) := by decide +kernel
theorem dL_law_628 : decode cL_law 628 = .ok (.iconst 0, 1) := by decide +kernel
theorem dL_law_629 : decode cL_law 629 = .ok (.laload, 1) := by decide +kernel
theorem dL_law_630 : decode cL_law 630 = .ok (.iload 7, 2) := by decide +kernel
theorem dL_law_632 : decode cL_law 632 = .ok (.i2l, 1) := by decide +kernel
theorem dL_law_633 : decode cL_law 633 = .ok (.lcmp, 1) := by decide +kernel
theorem dL_law_634 : decode cL_law 634 = .ok (.ifCond .eq 5, 3) := by decide +kernel
theorem dL_law_637 : decode cL_law 637 = .ok (.iconst 0, 1) := by decide +kernel
theorem dL_law_638 : decode cL_law 638 = .ok (.ireturn, 1) := by decide +kernel
theorem dL_law_639 : decode cL_law 639 = .ok (.goto 418, 3) := by decide +kernel
theorem dL_law_642 : decode cL_law 642 = .ok (.aload_n 1, 1) := by decide +kernel
theorem dL_law_643 : decode cL_law 643 = .ok (.aload_n 0, 1) := by decide +kernel
theorem dL_law_644 : decode cL_law 644 = .ok (.iload 5, 2) := by decide +kernel
theorem dL_law_646 : decode cL_law 646 = .ok (.iconst 1, 1) := by decide +kernel
theorem dL_law_647 : decode cL_law 647 = .ok (.iadd, 1) := by decide +kernel
theorem dL_law_648 : decode cL_law 648 = .ok (.iaload, 1) := by decide +kernel
theorem dL_law_649 : decode cL_law 649 = .ok (.aload_n 3, 1) := by decide +kernel
theorem dL_law_650 : decode cL_law 650 = .ok (.invokestatic 97, 3) := by decide +kernel
theorem dL_law_653 : decode cL_law 653 = .ok (.istore 6, 2) := by decide +kernel
theorem dL_law_655 : decode cL_law 655 = .ok (.aload_n 2, 1) := by decide +kernel
theorem dL_law_656 : decode cL_law 656 = .ok (.aload_n 0, 1) := by decide +kernel
theorem dL_law_657 : decode cL_law 657 = .ok (.iload 5, 2) := by decide +kernel
theorem dL_law_659 : decode cL_law 659 = .ok (.iconst 1, 1) := by decide +kernel
theorem dL_law_660 : decode cL_law 660 = .ok (.iadd, 1) := by decide +kernel
theorem dL_law_661 : decode cL_law 661 = .ok (.iaload, 1) := by decide +kernel
theorem dL_law_662 : decode cL_law 662 = .ok (.invokevirtual 99, 3) := by decide +kernel
theorem dL_law_665 : decode cL_law 665 = .ok (.istore 7, 2) := by decide +kernel
theorem dL_law_667 : decode cL_law 667 = .ok (.aload_n 2, 1) := by decide +kernel
theorem dL_law_668 : decode cL_law 668 = .ok (.invokevirtual 69, 3) := by decide +kernel
theorem dL_law_671 : decode cL_law 671 = .ok (.iload 6, 2) := by decide +kernel
theorem dL_law_673 : decode cL_law 673 = .ok (.if_icmp .eq 5, 3) := by decide +kernel
theorem dL_law_676 : decode cL_law 676 = .ok (.iconst 0, 1) := by decide +kernel
theorem dL_law_677 : decode cL_law 677 = .ok (.ireturn, 1) := by decide +kernel
theorem dL_law_678 : decode cL_law 678 = .ok (.iload 6, 2) := by decide +kernel
theorem dL_law_680 : decode cL_law 680 = .ok (.ifCond .ne 15, 3) := by decide +kernel
theorem dL_law_683 : decode cL_law 683 = .ok (.aload_n 3, 1) := by decide +kernel
theorem dL_law_684 : decode cL_law 684 = .ok (.iconst 0, 1) := by decide +kernel
theorem dL_law_685 : decode cL_law 685 = .ok (.laload, 1) := by decide +kernel
theorem dL_law_686 : decode cL_law 686 = .ok (.iload 7, 2) := by decide +kernel
theorem dL_law_688 : decode cL_law 688 = .ok (.i2l, 1) := by decide +kernel
theorem dL_law_689 : decode cL_law 689 = .ok (.lcmp, 1) := by decide +kernel
theorem dL_law_690 : decode cL_law 690 = .ok (.ifCond .eq 5, 3) := by decide +kernel
theorem dL_law_693 : decode cL_law 693 = .ok (.iconst 0, 1) := by decide +kernel
theorem dL_law_694 : decode cL_law 694 = .ok (.ireturn, 1) := by decide +kernel
theorem dL_law_695 : decode cL_law 695 = .ok (.goto 362, 3) := by decide +kernel
theorem dL_law_698 : decode cL_law 698 = .ok (.aload_n 1, 1) := by decide +kernel
theorem dL_law_699 : decode cL_law 699 = .ok (.aload_n 0, 1) := by decide +kernel
theorem dL_law_700 : decode cL_law 700 = .ok (.iload 5, 2) := by decide +kernel
theorem dL_law_702 : decode cL_law 702 = .ok (.iconst 1, 1) := by decide +kernel
theorem dL_law_703 : decode cL_law 703 = .ok (.iadd, 1) := by decide +kernel
theorem dL_law_704 : decode cL_law 704 = .ok (.iaload, 1) := by decide +kernel
theorem dL_law_705 : decode cL_law 705 = .ok (.aload_n 3, 1) := by decide +kernel
theorem dL_law_706 : decode cL_law 706 = .ok (.invokestatic 100, 3) := by decide +kernel
theorem dL_law_709 : decode cL_law 709 = .ok (.istore 6, 2) := by decide +kernel
theorem dL_law_711 : decode cL_law 711 = .ok (.aload_n 2, 1) := by decide +kernel
theorem dL_law_712 : decode cL_law 712 = .ok (.aload_n 0, 1) := by decide +kernel
theorem dL_law_713 : decode cL_law 713 = .ok (.iload 5, 2) := by decide +kernel
theorem dL_law_715 : decode cL_law 715 = .ok (.iconst 1, 1) := by decide +kernel
theorem dL_law_716 : decode cL_law 716 = .ok (.iadd, 1) := by decide +kernel
theorem dL_law_717 : decode cL_law 717 = .ok (.iaload, 1) := by decide +kernel
theorem dL_law_718 : decode cL_law 718 = .ok (.invokevirtual 102, 3) := by decide +kernel
theorem dL_law_721 : decode cL_law 721 = .ok (.istore 7, 2) := by decide +kernel
theorem dL_law_723 : decode cL_law 723 = .ok (.aload_n 2, 1) := by decide +kernel
theorem dL_law_724 : decode cL_law 724 = .ok (.invokevirtual 69, 3) := by decide +kernel
theorem dL_law_727 : decode cL_law 727 = .ok (.iload 6, 2) := by decide +kernel
theorem dL_law_729 : decode cL_law 729 = .ok (.if_icmp .eq 5, 3) := by decide +kernel
theorem dL_law_732 : decode cL_law 732 = .ok (.iconst 0, 1) := by decide +kernel
theorem dL_law_733 : decode cL_law 733 = .ok (.ireturn, 1) := by decide +kernel
theorem dL_law_734 : decode cL_law 734 = .ok (.iload 6, 2) := by decide +kernel
theorem dL_law_736 : decode cL_law 736 = .ok (.ifCond .ne 15, 3) := by decide +kernel
theorem dL_law_739 : decode cL_law 739 = .ok (.aload_n 3, 1) := by decide +kernel
theorem dL_law_740 : decode cL_law 740 = .ok (.iconst 0, 1) := by decide +kernel
theorem dL_law_741 : decode cL_law 741 = .ok (.laload, 1) := by decide +kernel
theorem dL_law_742 : decode cL_law 742 = .ok (.iload 7, 2) := by decide +kernel
theorem dL_law_744 : decode cL_law 744 = .ok (.i2l, 1) := by decide +kernel
theorem dL_law_745 : decode cL_law 745 = .ok (.lcmp, 1) := by decide +kernel
theorem dL_law_746 : decode cL_law 746 = .ok (.ifCond .eq 5, 3) := by decide +kernel
theorem dL_law_749 : decode cL_law 749 = .ok (.iconst 0, 1) := by decide +kernel
theorem dL_law_750 : decode cL_law 750 = .ok (.ireturn, 1) := by decide +kernel
theorem dL_law_751 : decode cL_law 751 = .ok (.goto 306, 3) := by decide +kernel
theorem dL_law_754 : decode cL_law 754 = .ok (.aload_n 1, 1) := by decide +kernel
theorem dL_law_755 : decode cL_law 755 = .ok (.aload_n 0, 1) := by decide +kernel
theorem dL_law_756 : decode cL_law 756 = .ok (.iload 5, 2) := by decide +kernel
theorem dL_law_758 : decode cL_law 758 = .ok (.iconst 1, 1) := by decide +kernel
theorem dL_law_759 : decode cL_law 759 = .ok (.iadd, 1) := by decide +kernel
theorem dL_law_760 : decode cL_law 760 = .ok (.iaload, 1) := by decide +kernel
theorem dL_law_761 : decode cL_law 761 = .ok (.aload_n 0, 1) := by decide +kernel
theorem dL_law_762 : decode cL_law 762 = .ok (.iload 5, 2) := by decide +kernel
theorem dL_law_764 : decode cL_law 764 = .ok (.iconst 2, 1) := by decide +kernel
theorem dL_law_765 : decode cL_law 765 = .ok (.iadd, 1) := by decide +kernel
theorem dL_law_766 : decode cL_law 766 = .ok (.iaload, 1) := by decide +kernel
theorem dL_law_767 : decode cL_law 767 = .ok (.aload_n 3, 1) := by decide +kernel
theorem dL_law_768 : decode cL_law 768 = .ok (.invokestatic 103, 3) := by decide +kernel
theorem dL_law_771 : decode cL_law 771 = .ok (.istore 6, 2) := by decide +kernel
theorem dL_law_773 : decode cL_law 773 = .ok (.aload_n 2, 1) := by decide +kernel
theorem dL_law_774 : decode cL_law 774 = .ok (.aload_n 0, 1) := by decide +kernel
theorem dL_law_775 : decode cL_law 775 = .ok (.iload 5, 2) := by decide +kernel
theorem dL_law_777 : decode cL_law 777 = .ok (.iconst 1, 1) := by decide +kernel
theorem dL_law_778 : decode cL_law 778 = .ok (.iadd, 1) := by decide +kernel
theorem dL_law_779 : decode cL_law 779 = .ok (.iaload, 1) := by decide +kernel
theorem dL_law_780 : decode cL_law 780 = .ok (.aload_n 0, 1) := by decide +kernel
theorem dL_law_781 : decode cL_law 781 = .ok (.iload 5, 2) := by decide +kernel
theorem dL_law_783 : decode cL_law 783 = .ok (.iconst 2, 1) := by decide +kernel
theorem dL_law_784 : decode cL_law 784 = .ok (.iadd, 1) := by decide +kernel
theorem dL_law_785 : decode cL_law 785 = .ok (.iaload, 1) := by decide +kernel
theorem dL_law_786 : decode cL_law 786 = .ok (.invokevirtual 105, 3) := by decide +kernel
theorem dL_law_789 : decode cL_law 789 = .ok (.istore 7, 2) := by decide +kernel
theorem dL_law_791 : decode cL_law 791 = .ok (.aload_n 2, 1) := by decide +kernel
theorem dL_law_792 : decode cL_law 792 = .ok (.invokevirtual 69, 3) := by decide +kernel
theorem dL_law_795 : decode cL_law 795 = .ok (.iload 6, 2) := by decide +kernel
theorem dL_law_797 : decode cL_law 797 = .ok (.if_icmp .eq 5, 3) := by decide +kernel
theorem dL_law_800 : decode cL_law 800 = .ok (.iconst 0, 1) := by decide +kernel
theorem dL_law_801 : decode cL_law 801 = .ok (.ireturn, 1) := by decide +kernel
theorem dL_law_802 : decode cL_law 802 = .ok (.iload 6, 2) := by decide +kernel
theorem dL_law_804 : decode cL_law 804 = .ok (.ifCond .ne 15, 3) := by decide +kernel
theorem dL_law_807 : decode cL_law 807 = .ok (.aload_n 3, 1) := by decide +kernel
theorem dL_law_808 : decode cL_law 808 = .ok (.iconst 0, 1) := by decide +kernel
theorem dL_law_809 : decode cL_law 809 = .ok (.laload, 1) := by decide +kernel
theorem dL_law_810 : decode cL_law 810 = .ok (.iload 7, 2) := by decide +kernel
theorem dL_law_812 : decode cL_law 812 = .ok (.i2l, 1) := by decide +kernel
theorem dL_law_813 : decode cL_law 813 = .ok (.lcmp, 1) := by decide +kernel
theorem dL_law_814 : decode cL_law 814 = .ok (.ifCond .eq 5, 3) := by decide +kernel
theorem dL_law_817 : decode cL_law 817 = .ok (.iconst 0, 1) := by decide +kernel
theorem dL_law_818 : decode cL_law 818 = .ok (.ireturn, 1) := by decide +kernel
theorem dL_law_819 : decode cL_law 819 = .ok (.goto 238, 3) := by decide +kernel
theorem dL_law_822 : decode cL_law 822 = .ok (.aload_n 1, 1) := by decide +kernel
theorem dL_law_823 : decode cL_law 823 = .ok (.aload_n 0, 1) := by decide +kernel
theorem dL_law_824 : decode cL_law 824 = .ok (.iload 5, 2) := by decide +kernel
theorem dL_law_826 : decode cL_law 826 = .ok (.iconst 1, 1) := by decide +kernel
theorem dL_law_827 : decode cL_law 827 = .ok (.iadd, 1) := by decide +kernel
theorem dL_law_828 : decode cL_law 828 = .ok (.iaload, 1) := by decide +kernel
theorem dL_law_829 : decode cL_law 829 = .ok (.aload_n 0, 1) := by decide +kernel
theorem dL_law_830 : decode cL_law 830 = .ok (.iload 5, 2) := by decide +kernel
theorem dL_law_832 : decode cL_law 832 = .ok (.iconst 2, 1) := by decide +kernel
theorem dL_law_833 : decode cL_law 833 = .ok (.iadd, 1) := by decide +kernel
theorem dL_law_834 : decode cL_law 834 = .ok (.iaload, 1) := by decide +kernel
theorem dL_law_835 : decode cL_law 835 = .ok (.aload_n 0, 1) := by decide +kernel
theorem dL_law_836 : decode cL_law 836 = .ok (.iload 5, 2) := by decide +kernel
theorem dL_law_838 : decode cL_law 838 = .ok (.iconst 3, 1) := by decide +kernel
theorem dL_law_839 : decode cL_law 839 = .ok (.iadd, 1) := by decide +kernel
theorem dL_law_840 : decode cL_law 840 = .ok (.iaload, 1) := by decide +kernel
theorem dL_law_841 : decode cL_law 841 = .ok (.aload_n 3, 1) := by decide +kernel
theorem dL_law_842 : decode cL_law 842 = .ok (.invokestatic 106, 3) := by decide +kernel
theorem dL_law_845 : decode cL_law 845 = .ok (.istore 6, 2) := by decide +kernel
theorem dL_law_847 : decode cL_law 847 = .ok (.aload_n 2, 1) := by decide +kernel
theorem dL_law_848 : decode cL_law 848 = .ok (.aload_n 0, 1) := by decide +kernel
theorem dL_law_849 : decode cL_law 849 = .ok (.iload 5, 2) := by decide +kernel
theorem dL_law_851 : decode cL_law 851 = .ok (.iconst 1, 1) := by decide +kernel
theorem dL_law_852 : decode cL_law 852 = .ok (.iadd, 1) := by decide +kernel
theorem dL_law_853 : decode cL_law 853 = .ok (.iaload, 1) := by decide +kernel
theorem dL_law_854 : decode cL_law 854 = .ok (.aload_n 0, 1) := by decide +kernel
theorem dL_law_855 : decode cL_law 855 = .ok (.iload 5, 2) := by decide +kernel
theorem dL_law_857 : decode cL_law 857 = .ok (.iconst 2, 1) := by decide +kernel
theorem dL_law_858 : decode cL_law 858 = .ok (.iadd, 1) := by decide +kernel
theorem dL_law_859 : decode cL_law 859 = .ok (.iaload, 1) := by decide +kernel
theorem dL_law_860 : decode cL_law 860 = .ok (.aload_n 0, 1) := by decide +kernel
theorem dL_law_861 : decode cL_law 861 = .ok (.iload 5, 2) := by decide +kernel
theorem dL_law_863 : decode cL_law 863 = .ok (.iconst 3, 1) := by decide +kernel
theorem dL_law_864 : decode cL_law 864 = .ok (.iadd, 1) := by decide +kernel
theorem dL_law_865 : decode cL_law 865 = .ok (.iaload, 1) := by decide +kernel
theorem dL_law_866 : decode cL_law 866 = .ok (.invokevirtual 108, 3) := by decide +kernel
theorem dL_law_869 : decode cL_law 869 = .ok (.istore 7, 2) := by decide +kernel
theorem dL_law_871 : decode cL_law 871 = .ok (.aload_n 2, 1) := by decide +kernel
theorem dL_law_872 : decode cL_law 872 = .ok (.invokevirtual 69, 3) := by decide +kernel
theorem dL_law_875 : decode cL_law 875 = .ok (.iload 6, 2) := by decide +kernel
theorem dL_law_877 : decode cL_law 877 = .ok (.if_icmp .eq 5, 3) := by decide +kernel
theorem dL_law_880 : decode cL_law 880 = .ok (.iconst 0, 1) := by decide +kernel
theorem dL_law_881 : decode cL_law 881 = .ok (.ireturn, 1) := by decide +kernel
theorem dL_law_882 : decode cL_law 882 = .ok (.iload 6, 2) := by decide +kernel
theorem dL_law_884 : decode cL_law 884 = .ok (.ifCond .ne 15, 3) := by decide +kernel
theorem dL_law_887 : decode cL_law 887 = .ok (.aload_n 3, 1) := by decide +kernel
theorem dL_law_888 : decode cL_law 888 = .ok (.iconst 0, 1) := by decide +kernel
theorem dL_law_889 : decode cL_law 889 = .ok (.laload, 1) := by decide +kernel
theorem dL_law_890 : decode cL_law 890 = .ok (.iload 7, 2) := by decide +kernel
theorem dL_law_892 : decode cL_law 892 = .ok (.i2l, 1) := by decide +kernel
theorem dL_law_893 : decode cL_law 893 = .ok (.lcmp, 1) := by decide +kernel
theorem dL_law_894 : decode cL_law 894 = .ok (.ifCond .eq 5, 3) := by decide +kernel
theorem dL_law_897 : decode cL_law 897 = .ok (.iconst 0, 1) := by decide +kernel
theorem dL_law_898 : decode cL_law 898 = .ok (.ireturn, 1) := by decide +kernel
theorem dL_law_899 : decode cL_law 899 = .ok (.goto 158, 3) := by decide +kernel
theorem dL_law_902 : decode cL_law 902 = .ok (.aload_n 1, 1) := by decide +kernel
theorem dL_law_903 : decode cL_law 903 = .ok (.aload_n 0, 1) := by decide +kernel
theorem dL_law_904 : decode cL_law 904 = .ok (.iload 5, 2) := by decide +kernel
theorem dL_law_906 : decode cL_law 906 = .ok (.iconst 1, 1) := by decide +kernel
theorem dL_law_907 : decode cL_law 907 = .ok (.iadd, 1) := by decide +kernel
theorem dL_law_908 : decode cL_law 908 = .ok (.iaload, 1) := by decide +kernel
theorem dL_law_909 : decode cL_law 909 = .ok (.aload_n 3, 1) := by decide +kernel
theorem dL_law_910 : decode cL_law 910 = .ok (.invokestatic 109, 3) := by decide +kernel
theorem dL_law_913 : decode cL_law 913 = .ok (.istore 6, 2) := by decide +kernel
theorem dL_law_915 : decode cL_law 915 = .ok (.aload_n 2, 1) := by decide +kernel
theorem dL_law_916 : decode cL_law 916 = .ok (.aload_n 0, 1) := by decide +kernel
theorem dL_law_917 : decode cL_law 917 = .ok (.iload 5, 2) := by decide +kernel
theorem dL_law_919 : decode cL_law 919 = .ok (.iconst 1, 1) := by decide +kernel
theorem dL_law_920 : decode cL_law 920 = .ok (.iadd, 1) := by decide +kernel
theorem dL_law_921 : decode cL_law 921 = .ok (.iaload, 1) := by decide +kernel
theorem dL_law_922 : decode cL_law 922 = .ok (.invokevirtual 111, 3) := by decide +kernel
theorem dL_law_925 : decode cL_law 925 = .ok (.istore 7, 2) := by decide +kernel
theorem dL_law_927 : decode cL_law 927 = .ok (.aload_n 2, 1) := by decide +kernel
theorem dL_law_928 : decode cL_law 928 = .ok (.invokevirtual 69, 3) := by decide +kernel
theorem dL_law_931 : decode cL_law 931 = .ok (.iload 6, 2) := by decide +kernel
theorem dL_law_933 : decode cL_law 933 = .ok (.if_icmp .eq 5, 3) := by decide +kernel
theorem dL_law_936 : decode cL_law 936 = .ok (.iconst 0, 1) := by decide +kernel
theorem dL_law_937 : decode cL_law 937 = .ok (.ireturn, 1) := by decide +kernel
theorem dL_law_938 : decode cL_law 938 = .ok (.iload 6, 2) := by decide +kernel
theorem dL_law_940 : decode cL_law 940 = .ok (.ifCond .ne 15, 3) := by decide +kernel
theorem dL_law_943 : decode cL_law 943 = .ok (.aload_n 3, 1) := by decide +kernel
theorem dL_law_944 : decode cL_law 944 = .ok (.iconst 0, 1) := by decide +kernel
theorem dL_law_945 : decode cL_law 945 = .ok (.laload, 1) := by decide +kernel
theorem dL_law_946 : decode cL_law 946 = .ok (.iload 7, 2) := by decide +kernel
theorem dL_law_948 : decode cL_law 948 = .ok (.i2l, 1) := by decide +kernel
theorem dL_law_949 : decode cL_law 949 = .ok (.lcmp, 1) := by decide +kernel
theorem dL_law_950 : decode cL_law 950 = .ok (.ifCond .eq 5, 3) := by decide +kernel
theorem dL_law_953 : decode cL_law 953 = .ok (.iconst 0, 1) := by decide +kernel
theorem dL_law_954 : decode cL_law 954 = .ok (.ireturn, 1) := by decide +kernel
theorem dL_law_955 : decode cL_law 955 = .ok (.goto 102, 3) := by decide +kernel
theorem dL_law_958 : decode cL_law 958 = .ok (.aload_n 1, 1) := by decide +kernel
theorem dL_law_959 : decode cL_law 959 = .ok (.invokevirtual 112, 3) := by decide +kernel
theorem dL_law_962 : decode cL_law 962 = .ok (.aload_n 2, 1) := by decide +kernel
theorem dL_law_963 : decode cL_law 963 = .ok (.invokevirtual 115, 3) := by decide +kernel
theorem dL_law_966 : decode cL_law 966 = .ok (.if_icmp .eq 91, 3) := by decide +kernel
theorem dL_law_969 : decode cL_law 969 = .ok (.iconst 0, 1) := by decide +kernel
theorem dL_law_970 : decode cL_law 970 = .ok (.ireturn, 1) := by decide +kernel
theorem dL_law_971 : decode cL_law 971 = .ok (.aload_n 1, 1) := by decide +kernel
theorem dL_law_972 : decode cL_law 972 = .ok (.invokevirtual 116, 3) := by decide +kernel
theorem dL_law_975 : decode cL_law 975 = .ok (.f2d, 1) := by decide +kernel
theorem dL_law_976 : decode cL_law 976 = .ok (.dstore 6, 2) := by decide +kernel
theorem dL_law_978 : decode cL_law 978 = .ok (.aload_n 2, 1) := by decide +kernel
theorem dL_law_979 : decode cL_law 979 = .ok (.invokevirtual 120, 3) := by decide +kernel
theorem dL_law_982 : decode cL_law 982 = .ok (.f2d, 1) := by decide +kernel
theorem dL_law_983 : decode cL_law 983 = .ok (.dstore 8, 2) := by decide +kernel
theorem dL_law_985 : decode cL_law 985 = .ok (.dload 6, 2) := by decide +kernel
theorem dL_law_987 : decode cL_law 987 = .ok (.dload 8, 2) := by decide +kernel
theorem dL_law_989 : decode cL_law 989 = .ok (.dcmp .l, 1) := by decide +kernel
theorem dL_law_990 : decode cL_law 990 = .ok (.ifCond .eq 21, 3) := by decide +kernel
theorem dL_law_993 : decode cL_law 993 = .ok (.dload 6, 2) := by decide +kernel
theorem dL_law_995 : decode cL_law 995 = .ok (.dload 6, 2) := by decide +kernel
theorem dL_law_997 : decode cL_law 997 = .ok (.dcmp .l, 1) := by decide +kernel
theorem dL_law_998 : decode cL_law 998 = .ok (.ifCond .eq 11, 3) := by decide +kernel
theorem dL_law_1001 : decode cL_law 1001 = .ok (.dload 8, 2) := by decide +kernel
theorem dL_law_1003 : decode cL_law 1003 = .ok (.dload 8, 2) := by decide +kernel
theorem dL_law_1005 : decode cL_law 1005 = .ok (.dcmp .l, 1) := by decide +kernel
theorem dL_law_1006 : decode cL_law 1006 = .ok (.ifCond .ne 5, 3) := by decide +kernel
theorem dL_law_1009 : decode cL_law 1009 = .ok (.iconst 0, 1) := by decide +kernel
theorem dL_law_1010 : decode cL_law 1010 = .ok (.ireturn, 1) := by decide +kernel
theorem dL_law_1011 : decode cL_law 1011 = .ok (.goto 46, 3) := by decide +kernel
theorem dL_law_1014 : decode cL_law 1014 = .ok (.aload_n 1, 1) := by decide +kernel
theorem dL_law_1015 : decode cL_law 1015 = .ok (.invokevirtual 121, 3) := by decide +kernel
theorem dL_law_1018 : decode cL_law 1018 = .ok (.f2d, 1) := by decide +kernel
theorem dL_law_1019 : decode cL_law 1019 = .ok (.dstore 6, 2) := by decide +kernel
theorem dL_law_1021 : decode cL_law 1021 = .ok (.aload_n 2, 1) := by decide +kernel
theorem dL_law_1022 : decode cL_law 1022 = .ok (.invokevirtual 124, 3) := by decide +kernel
theorem dL_law_1025 : decode cL_law 1025 = .ok (.f2d, 1) := by decide +kernel
theorem dL_law_1026 : decode cL_law 1026 = .ok (.dstore 8, 2) := by decide +kernel
theorem dL_law_1028 : decode cL_law 1028 = .ok (.dload 6, 2) := by decide +kernel
theorem dL_law_1030 : decode cL_law 1030 = .ok (.dload 8, 2) := by decide +kernel
theorem dL_law_1032 : decode cL_law 1032 = .ok (.dcmp .l, 1) := by decide +kernel
theorem dL_law_1033 : decode cL_law 1033 = .ok (.ifCond .eq 21, 3) := by decide +kernel
theorem dL_law_1036 : decode cL_law 1036 = .ok (.dload 6, 2) := by decide +kernel
theorem dL_law_1038 : decode cL_law 1038 = .ok (.dload 6, 2) := by decide +kernel
theorem dL_law_1040 : decode cL_law 1040 = .ok (.dcmp .l, 1) := by decide +kernel
theorem dL_law_1041 : decode cL_law 1041 = .ok (.ifCond .eq 11, 3) := by decide +kernel
theorem dL_law_1044 : decode cL_law 1044 = .ok (.dload 8, 2) := by decide +kernel
theorem dL_law_1046 : decode cL_law 1046 = .ok (.dload 8, 2) := by decide +kernel
theorem dL_law_1048 : decode cL_law 1048 = .ok (.dcmp .l, 1) := by decide +kernel
theorem dL_law_1049 : decode cL_law 1049 = .ok (.ifCond .ne 5, 3) := by decide +kernel
theorem dL_law_1052 : decode cL_law 1052 = .ok (.iconst 0, 1) := by decide +kernel
theorem dL_law_1053 : decode cL_law 1053 = .ok (.ireturn, 1) := by decide +kernel
theorem dL_law_1054 : decode cL_law 1054 = .ok (.goto 3, 3) := by decide +kernel
theorem dL_law_1057 : decode cL_law 1057 = .ok (.iinc 5 4, 3) := by decide +kernel
theorem dL_law_1060 : decode cL_law 1060 = .ok (.goto (-1032), 3) := by decide +kernel
theorem dL_law_1063 : decode cL_law 1063 = .ok (.iconst 1, 1) := by decide +kernel
theorem dL_law_1064 : decode cL_law 1064 = .ok (.ireturn, 1) := by decide +kernel
end
section
/-! TABLES of the abstract machine (made by gen2.py): own classes, methods, pool entries, with the places of their words in lw_tbl -/
def zOwn : List String := [RX0, RX1, RX2, RX3, RX4, RX5, RX6, RJ9, RJxa1e45, RJxc12de, RJx4a65c, RJ7, RJ15, RJ8, RJ3, RL]
abbrev zM_ : Type := MethodName × ByteArray × Nat × Option FieldType × Nat × Nat × List (Nat × Nat × Nat × Nat)
def zML : List zM_ := [
  (yX0_init, cX0_init, 2, none, 0, 1, []),
  (yX0_openAgain, cX0_openAgain, 1, none, 0, 0, []),
  (yX1_init, cX1_init, 3, none, 1, 2, []),
  (yX1_nestOn, cX1_nestOn, 7, none, 1, 1, []),
  (yX1_takeOff, cX1_takeOff, 2, none, 1, 0, []),
  (yX1_sheetsUsed, cX1_sheetsUsed, 3, (some FieldType.int), 1, 0, []),
  (yX1_keepStrokes, cX1_keepStrokes, 1, none, 1, 0, []),
  (yX1_minutesFor, cX1_minutesFor, 4, (some FieldType.int), 1, 1, []),
  (yX1_touchesEarlier, cX1_touchesEarlier, 4, (some FieldType.boolean), 1, 1, []),
  (yX2_init, cX2_init, 1, none, 2, 0, []),
  (yX2_add, cX2_add, 3, none, 2, 2, []),
  (yX2_clear, cX2_clear, 1, none, 2, 0, []),
  (yX2_copy, cX2_copy, 2, none, 2, 1, []),
  (yX2_dropDoubled, cX2_dropDoubled, 5, none, 2, 0, []),
  (yX2_has, cX2_has, 6, (some FieldType.boolean), 2, 2, []),
  (yX2_firstWrongPoint, cX2_firstWrongPoint, 3, (some FieldType.int), 2, 0, []),
  (yX2_wrongOrNoPoint, cX2_wrongOrNoPoint, 2, (some FieldType.int), 2, 1, []),
  (yX2_strokesAt, cX2_strokesAt, 4, (some FieldType.int), 2, 1, []),
  (yX2_wide, cX2_wide, 6, (some FieldType.int), 2, 0, []),
  (yX2_high, cX2_high, 6, (some FieldType.int), 2, 0, []),
  (yX2_sumOfStrokes, cX2_sumOfStrokes, 3, (some FieldType.float), 2, 0, []),
  (yX2_fromOf, cX2_fromOf, 1, (some FieldType.int), 2, 1, []),
  (yX2_toOf, cX2_toOf, 1, (some FieldType.int), 2, 1, []),
  (yX2_xOf, cX2_xOf, 1, (some FieldType.int), 2, 1, []),
  (yX2_yOf, cX2_yOf, 1, (some FieldType.int), 2, 1, []),
  (yX2_distance, cX2_distance, 4, (some FieldType.float), 2, 2, []),
  (yX2_root, cX2_root, 4, (some FieldType.double), 2, 1, []),
  (yX3_init, cX3_init, 2, none, 3, 1, []),
  (yX3_begin, cX3_begin, 7, none, 3, 6, []),
  (yX3_holds, cX3_holds, 3, (some FieldType.boolean), 3, 2, []),
  (yX3_area, cX3_area, 1, (some FieldType.int), 3, 0, []),
  (yX3_touches, cX3_touches, 2, (some FieldType.boolean), 3, 1, []),
  (yX3_release, cX3_release, 2, none, 3, 0, []),
  (yX3_hasAllFree, cX3_hasAllFree, 1, (some FieldType.boolean), 3, 0, []),
  (yX3_isFreeOrNone, cX3_isFreeOrNone, 1, (some FieldType.boolean), 3, 1, []),
  (yX3_endPieces, cX3_endPieces, 1, none, 3, 0, []),
  (yX3_end, cX3_end, 1, none, 3, 1, []),
  (yX3_joinPieces, cX3_joinPieces, 1, none, 3, 0, []),
  (yX4_init, cX4_init, 1, none, 4, 0, []),
  (yX4_bring, cX4_bring, 4, (some FieldType.int), 4, 2, []),
  (yX4_next, cX4_next, 3, (some (FieldType.object "Kerfworks$Piece")), 4, 0, []),
  (yX4_lay, cX4_lay, 5, (some (FieldType.object "Kerfworks$Piece")), 4, 2, []),
  (yX4_piecesOf, cX4_piecesOf, 3, (some FieldType.int), 4, 3, []),
  (yX4_pieceOf, cX4_pieceOf, 7, (some (FieldType.object "Kerfworks$Piece")), 4, 5, []),
  (yX4_bestFor, cX4_bestFor, 6, (some (FieldType.object "Kerfworks$Piece")), 4, 2, []),
  (yX4_undo, cX4_undo, 5, none, 4, 2, []),
  (yX4_freeAt, cX4_freeAt, 5, (some (FieldType.object "Kerfworks$Piece")), 4, 1, []),
  (yX5_init, cX5_init, 1, none, 5, 0, []),
  (yX5_drawing, cX5_drawing, 2, (some FieldType.int), 5, 0, []),
  (yX5_stroke, cX5_stroke, 5, (some FieldType.int), 5, 3, []),
  (yX5_finish, cX5_finish, 4, (some FieldType.int), 5, 1, []),
  (yX5_redraw, cX5_redraw, 5, (some FieldType.int), 5, 1, []),
  (yX5_ofDrawing, cX5_ofDrawing, 4, (some FieldType.int), 5, 2, []),
  (yX5_length, cX5_length, 2, (some FieldType.float), 5, 1, []),
  (yX5_sheet, cX5_sheet, 4, (some FieldType.int), 5, 2, []),
  (yX5_job, cX5_job, 6, (some FieldType.int), 5, 2, []),
  (yX5_cancel, cX5_cancel, 4, (some FieldType.int), 5, 1, []),
  (yX5_cut, cX5_cut, 5, (some FieldType.int), 5, 1, []),
  (yX5_ofJob, cX5_ofJob, 4, (some FieldType.int), 5, 2, []),
  (yX5_where, cX5_where, 6, (some FieldType.int), 5, 3, []),
  (yX5_free, cX5_free, 3, (some FieldType.int), 5, 1, []),
  (yX5_minutes, cX5_minutes, 1, (some FieldType.int), 5, 0, []),
  (yX5_cutLength, cX5_cutLength, 1, (some FieldType.float), 5, 0, []),
  (yX5_cutAnew, cX5_cutAnew, 4, (some FieldType.float), 5, 0, []),
  (yX5_drawingAt, cX5_drawingAt, 2, (some (FieldType.object "Kerfworks$Drawing")), 5, 1, []),
  (yX5_jobAt, cX5_jobAt, 2, (some (FieldType.object "Kerfworks$Job")), 5, 1, []),
  (yX5_isPoint, cX5_isPoint, 1, (some FieldType.boolean), 5, 1, []),
  (yX5_isSide, cX5_isSide, 1, (some FieldType.boolean), 5, 1, []),
  (yX5_addedForCopies, cX5_addedForCopies, 5, (some FieldType.float), 5, 3, []),
  (yX5_tryWaiting, cX5_tryWaiting, 3, none, 5, 0, []),
  (yX5_sheetsUnder, cX5_sheetsUnder, 5, (some FieldType.int), 5, 1, []),
  (yX5_clearSheets, cX5_clearSheets, 5, (some FieldType.int), 5, 1, []),
  (yX6_init, cX6_init, 1, none, 6, 0, []),
  (yX6_thrown, cX6_thrown, 1, (some FieldType.int), 6, 0, []),
  (yX6_holds, cX6_holds, 2, (some FieldType.boolean), 6, 1, []),
  (yX6_in, cX6_in, 4, (some FieldType.boolean), 6, 3, []),
  (yX6_isDrawing, cX6_isDrawing, 2, (some FieldType.boolean), 6, 1, []),
  (yX6_drawing, cX6_drawing, 1, (some FieldType.int), 6, 0, []),
  (yX6_stroke, cX6_stroke, 5, (some FieldType.int), 6, 3, []),
  (yX6_isDoubled, cX6_isDoubled, 7, (some FieldType.boolean), 6, 2, []),
  (yX6_mends, cX6_mends, 4, none, 6, 1, []),
  (yX6_fault, cX6_fault, 3, (some FieldType.int), 6, 1, []),
  (yX6_finish, cX6_finish, 3, (some FieldType.int), 6, 1, []),
  (yX6_size, cX6_size, 8, (some FieldType.int), 6, 2, []),
  (yX6_ofDrawing, cX6_ofDrawing, 3, (some FieldType.int), 6, 2, []),
  (yX6_root, cX6_root, 5, (some FieldType.double), 6, 1, []),
  (yX6_lengthOf, cX6_lengthOf, 6, (some FieldType.float), 6, 1, []),
  (yX6_length, cX6_length, 2, (some FieldType.float), 6, 1, []),
  (yX6_adds, cX6_adds, 8, (some FieldType.int), 6, 7, []),
  (yX6_sheet, cX6_sheet, 5, (some FieldType.int), 6, 2, []),
  (yX6_bestFor, cX6_bestFor, 6, (some FieldType.int), 6, 2, []),
  (yX6_lays, cX6_lays, 8, (some FieldType.int), 6, 2, []),
  (yX6_allFree, cX6_allFree, 4, (some FieldType.boolean), 6, 1, []),
  (yX6_frees, cX6_frees, 4, none, 6, 1, []),
  (yX6_isJob, cX6_isJob, 2, (some FieldType.boolean), 6, 1, []),
  (yX6_takesOff, cX6_takesOff, 4, none, 6, 2, []),
  (yX6_nests, cX6_nests, 8, none, 6, 1, []),
  (yX6_tries, cX6_tries, 2, none, 6, 0, []),
  (yX6_job, cX6_job, 4, (some FieldType.int), 6, 2, []),
  (yX6_cancel, cX6_cancel, 3, (some FieldType.int), 6, 1, []),
  (yX6_shares, cX6_shares, 5, (some FieldType.boolean), 6, 2, []),
  (yX6_redraw, cX6_redraw, 5, (some FieldType.int), 6, 1, []),
  (yX6_touches, cX6_touches, 3, (some FieldType.boolean), 6, 2, []),
  (yX6_cut, cX6_cut, 7, (some FieldType.int), 6, 1, []),
  (yX6_ofJob, cX6_ofJob, 3, (some FieldType.int), 6, 2, []),
  (yX6_where, cX6_where, 6, (some FieldType.int), 6, 3, []),
  (yX6_free, cX6_free, 4, (some FieldType.int), 6, 1, []),
  (yX6_minutes, cX6_minutes, 1, (some FieldType.int), 6, 0, []),
  (yX6_cutLength, cX6_cutLength, 1, (some FieldType.float), 6, 0, []),
  (yX6_cutAnew, cX6_cutAnew, 1, (some FieldType.float), 6, 0, []),
  (yJxa1e45_init_da8c8, cJxa1e45_init_da8c8, 1, none, 8, 0, []),
  (yJxc12de_init_da8c8, cJxc12de_init_da8c8, 1, none, 9, 0, []),
  (yJx4a65c_init_da8c8, cJx4a65c_init_da8c8, 1, none, 10, 0, []),
  (yJx4a65c_grow_92f84, cJx4a65c_grow_92f84, 4, (some (FieldType.array (FieldType.object "java/lang/Object"))), 10, 1, []),
  (yJx4a65c_grow_d5877, cJx4a65c_grow_d5877, 1, (some (FieldType.array (FieldType.object "java/lang/Object"))), 10, 0, []),
  (yJx4a65c_size_8abf5, cJx4a65c_size_8abf5, 1, (some FieldType.int), 10, 0, []),
  (yJx4a65c_elementData_915e3, cJx4a65c_elementData_915e3, 2, (some (FieldType.object "java/lang/Object")), 10, 1, []),
  (yJx4a65c_get_915e3, cJx4a65c_get_915e3, 2, (some (FieldType.object "java/lang/Object")), 10, 1, []),
  (yJx4a65c_add_72be8, cJx4a65c_add_72be8, 4, none, 10, 3, []),
  (yJx4a65c_add_9ea2d, cJx4a65c_add_9ea2d, 2, (some FieldType.boolean), 10, 1, []),
  (yJx4a65c_clear_da8c8, cJx4a65c_clear_da8c8, 4, none, 10, 0, []),
  (yJ7_copyOf_1904c, cJ7_copyOf_1904c, 2, (some (FieldType.array (FieldType.object "java/lang/Object"))), 11, 2, []),
  (yJ7_copyOf_6403c, cJ7_copyOf_6403c, 4, (some (FieldType.array (FieldType.object "java/lang/Object"))), 11, 3, []),
  (yJ15_checkIndex_7cf53, cJ15_checkIndex_7cf53, 2, (some FieldType.int), 12, 2, []),
  (yJ8_newLength_cabcc, cJ8_newLength_cabcc, 4, (some FieldType.int), 13, 3, []),
  (yJ3_checkIndex_8e157, cJ3_checkIndex_8e157, 3, (some FieldType.int), 14, 3, []),
  (yL_drawing, cL_drawing, 3, (some FieldType.int), 15, 2, [(0, 8, 11, 13)]),
  (yL_stroke, cL_stroke, 6, (some FieldType.int), 15, 5, [(0, 12, 15, 19), (0, 12, 19, 21), (0, 12, 23, 13)]),
  (yL_finish, cL_finish, 4, (some FieldType.int), 15, 3, [(0, 9, 12, 19), (0, 9, 15, 13)]),
  (yL_redraw, cL_redraw, 4, (some FieldType.int), 15, 3, [(0, 9, 12, 19), (0, 9, 15, 13)]),
  (yL_ofDrawing, cL_ofDrawing, 5, (some FieldType.int), 15, 4, [(0, 10, 13, 19), (0, 10, 17, 21)]),
  (yL_length, cL_length, 4, (some FieldType.int), 15, 3, [(0, 9, 12, 19)]),
  (yL_sheet, cL_sheet, 5, (some FieldType.int), 15, 4, [(0, 10, 13, 21), (0, 10, 17, 13)]),
  (yL_job, cL_job, 5, (some FieldType.int), 15, 4, [(0, 10, 13, 19), (0, 10, 17, 21), (0, 10, 21, 13)]),
  (yL_cancel, cL_cancel, 4, (some FieldType.int), 15, 3, [(0, 9, 12, 19), (0, 9, 15, 13)]),
  (yL_cut, cL_cut, 4, (some FieldType.int), 15, 3, [(0, 9, 12, 19), (0, 9, 15, 13)]),
  (yL_ofJob, cL_ofJob, 5, (some FieldType.int), 15, 4, [(0, 10, 13, 19), (0, 10, 17, 21)]),
  (yL_where, cL_where, 6, (some FieldType.int), 15, 5, [(0, 12, 15, 19), (0, 12, 19, 21)]),
  (yL_free, cL_free, 4, (some FieldType.int), 15, 3, [(0, 9, 12, 19)]),
  (yL_law, cL_law, 10, (some FieldType.boolean), 15, 1, [])]
def zMd : zM_ := (yX0_init, ⟨#[]⟩, 0, none, 0, 0, [])
def zm (k : Nat) : zM_ := zML.getD k zMd
def znm (k : Nat) := (zm k).1
def zby (k : Nat) := (zm k).2.1
def zml (k : Nat) := (zm k).2.2.1
def zrt (k : Nat) := (zm k).2.2.2.1
def zoc (k : Nat) := (zm k).2.2.2.2.1
def znp (k : Nat) := (zm k).2.2.2.2.2.1
def zhh (k : Nat) := (zm k).2.2.2.2.2.2
def zow (o : Nat) : String := zOwn.getD o ""
/-- calls: (own class, pool index), (kind, method): 0 virtual, 1 static, 2 a constructor, 3 a constructor of a nest mate -/
def zCL : List ((Nat × Nat) × (Nat × Nat)) := [
  ((0, 11), (3, 9)), ((0, 25), (0, 11)), ((1, 20), (2, 112)), ((1, 27), (3, 9)), ((1, 49), (0, 18)), ((1, 53), (0, 19)), ((1, 56), (0, 41)), ((1, 60), (0, 45)),
  ((1, 64), (0, 120)), ((1, 67), (0, 119)), ((1, 72), (0, 115)), ((1, 75), (0, 117)), ((1, 81), (0, 32)), ((1, 87), (0, 12)), ((1, 92), (0, 8)), ((1, 96), (0, 31)),
  ((2, 25), (1, 21)), ((2, 29), (1, 22)), ((2, 32), (0, 14)), ((2, 36), (0, 10)), ((2, 40), (0, 16)), ((2, 49), (0, 17)), ((2, 52), (1, 23)), ((2, 58), (1, 24)),
  ((2, 61), (1, 25)), ((2, 65), (1, 26)), ((3, 35), (0, 37)), ((3, 38), (0, 33)), ((3, 42), (0, 35)), ((3, 48), (1, 34)), ((3, 58), (1, 36)), ((4, 11), (2, 112)),
  ((4, 22), (0, 40)), ((4, 26), (0, 28)), ((4, 35), (0, 115)), ((4, 39), (0, 117)), ((4, 43), (2, 27)), ((4, 46), (0, 119)), ((4, 50), (0, 44)), ((4, 54), (1, 42)),
  ((4, 64), (0, 43)), ((4, 90), (0, 29)), ((4, 94), (0, 30)), ((4, 100), (0, 37)), ((5, 11), (2, 112)), ((5, 24), (3, 38)), ((5, 29), (0, 115)), ((5, 42), (2, 0)),
  ((5, 45), (0, 119)), ((5, 49), (0, 64)), ((5, 53), (1, 66)), ((5, 81), (0, 10)), ((5, 86), (0, 13)), ((5, 89), (0, 15)), ((5, 92), (0, 69)), ((5, 97), (0, 70)),
  ((5, 101), (0, 1)), ((5, 104), (0, 71)), ((5, 108), (0, 18)), ((5, 111), (0, 19)), ((5, 119), (0, 20)), ((5, 123), (1, 67)), ((5, 136), (0, 39)), ((5, 146), (2, 2)),
  ((5, 149), (0, 3)), ((5, 153), (0, 65)), ((5, 160), (0, 4)), ((5, 169), (0, 7)), ((5, 173), (0, 6)), ((5, 186), (1, 68)), ((5, 199), (0, 117)), ((5, 217), (0, 46)),
  ((5, 232), (0, 5)), ((6, 74), (0, 75)), ((6, 78), (0, 74)), ((6, 82), (0, 76)), ((6, 85), (0, 79)), ((6, 89), (0, 80)), ((6, 93), (0, 81)), ((6, 97), (0, 97)),
  ((6, 100), (0, 83)), ((6, 106), (0, 85)), ((6, 111), (0, 86)), ((6, 121), (0, 88)), ((6, 125), (0, 90)), ((6, 129), (0, 92)), ((6, 135), (0, 93)), ((6, 138), (0, 91)),
  ((6, 141), (0, 95)), ((6, 145), (0, 96)), ((6, 148), (0, 94)), ((6, 151), (0, 100)), ((6, 154), (0, 102)), ((9, 1), (2, 110)), ((10, 1), (2, 111)), ((10, 66), (1, 121)),
  ((10, 69), (0, 113)), ((10, 73), (1, 124)), ((10, 118), (1, 123)), ((10, 123), (0, 116)), ((10, 129), (0, 114)), ((10, 131), (0, 118)), ((11, 300), (1, 122)), ((12, 105), (1, 125)),
  ((15, 7), (0, 48)), ((15, 15), (0, 49)), ((15, 23), (0, 50)), ((15, 27), (0, 51)), ((15, 30), (0, 52)), ((15, 34), (0, 53)), ((15, 38), (0, 54)), ((15, 41), (0, 55)),
  ((15, 44), (0, 56)), ((15, 47), (0, 57)), ((15, 50), (0, 58)), ((15, 53), (0, 59)), ((15, 56), (0, 60)), ((15, 59), (2, 47)), ((15, 62), (2, 72)), ((15, 63), (1, 126)),
  ((15, 68), (0, 77)), ((15, 69), (0, 73)), ((15, 72), (1, 127)), ((15, 75), (0, 78)), ((15, 76), (1, 128)), ((15, 79), (0, 82)), ((15, 80), (1, 129)), ((15, 82), (0, 101)),
  ((15, 83), (1, 130)), ((15, 86), (0, 84)), ((15, 87), (1, 131)), ((15, 90), (0, 87)), ((15, 91), (1, 132)), ((15, 93), (0, 89)), ((15, 94), (1, 133)), ((15, 96), (0, 98)),
  ((15, 97), (1, 134)), ((15, 99), (0, 99)), ((15, 100), (1, 135)), ((15, 102), (0, 103)), ((15, 103), (1, 136)), ((15, 105), (0, 104)), ((15, 106), (1, 137)), ((15, 108), (0, 105)),
  ((15, 109), (1, 138)), ((15, 111), (0, 106)), ((15, 112), (0, 61)), ((15, 115), (0, 107)), ((15, 116), (0, 62)), ((15, 120), (0, 108)), ((15, 121), (0, 63)), ((15, 124), (0, 109))]
def zCP : List (List Nat) := [
  [276, 278, 277, 50], [595, 598, 596, 597, 50], [673, 73, 72, 42], [675, 278, 277, 50], [458, 461, 459, 460, 50], [463, 466, 464, 465, 50], [467, 470, 468, 469, 43], [562, 565, 563, 564, 43],
  [567, 570, 568, 569, 42], [571, 311, 309, 310, 42], [588, 150, 148, 149, 42], [589, 154, 152, 153, 42], [607, 610, 608, 609, 59], [739, 742, 740, 741, 50], [727, 730, 729, 17, 60], [731, 734, 732, 733, 59],
  [170, 172, 171, 50], [173, 175, 174, 50], [432, 435, 434, 5, 50], [436, 419, 417, 418, 50], [441, 444, 443, 6, 50], [445, 448, 447, 7, 50], [179, 181, 180, 50], [182, 184, 183, 50],
  [176, 178, 177, 50], [185, 187, 186, 50], [558, 561, 559, 560, 59], [611, 614, 613, 14, 59], [618, 621, 620, 15, 59], [615, 617, 616, 59], [622, 624, 623, 59], [102, 73, 72, 42],
  [493, 496, 495, 11, 43], [554, 557, 555, 556, 59], [475, 150, 148, 149, 42], [476, 154, 152, 153, 42], [498, 500, 499, 59], [553, 311, 309, 310, 42], [471, 474, 473, 9, 43], [486, 488, 487, 43],
  [489, 492, 491, 10, 43], [478, 481, 479, 480, 59], [482, 485, 483, 484, 59], [566, 561, 559, 560, 59], [71, 73, 72, 42], [97, 99, 98, 43], [147, 150, 148, 149, 42], [270, 272, 271, 49],
  [308, 311, 309, 310, 42], [375, 378, 377, 4, 39], [395, 397, 396, 39], [416, 419, 417, 418, 50], [428, 431, 429, 430, 50], [437, 440, 438, 439, 50], [450, 453, 452, 8, 39], [580, 583, 582, 12, 39],
  [591, 594, 592, 593, 49], [599, 602, 601, 13, 39], [632, 461, 459, 460, 50], [633, 466, 464, 465, 50], [166, 169, 167, 168, 50], [649, 651, 650, 39], [654, 657, 655, 656, 43], [668, 670, 669, 60],
  [454, 457, 455, 456, 60], [708, 711, 710, 16, 39], [603, 606, 604, 605, 60], [722, 725, 723, 724, 60], [735, 738, 736, 737, 60], [189, 191, 190, 39], [151, 154, 152, 153, 42], [768, 771, 769, 770, 43],
  [584, 587, 585, 586, 60], [877, 880, 879, 20, 44], [865, 868, 867, 18, 44], [873, 876, 875, 19, 44], [889, 892, 891, 22, 44], [885, 888, 887, 21, 44], [893, 896, 895, 23, 44], [897, 900, 899, 24, 44],
  [905, 908, 907, 26, 44], [946, 949, 948, 34, 44], [942, 945, 944, 33, 44], [917, 920, 919, 29, 44], [913, 916, 915, 28, 44], [929, 932, 931, 32, 44], [925, 928, 927, 31, 44], [909, 912, 911, 27, 44],
  [921, 924, 923, 30, 44], [901, 904, 903, 25, 44], [963, 966, 965, 35, 44], [971, 974, 973, 36, 44], [979, 982, 981, 37, 44], [77, 79, 78, 40], [74, 76, 75, 41], [334, 336, 335, 53],
  [320, 323, 322, 3, 42], [324, 326, 325, 51], [155, 157, 156, 56], [161, 164, 162, 163, 42], [316, 319, 318, 2, 42], [312, 315, 314, 1, 42], [352, 354, 353, 53], [158, 160, 159, 57],
  [196, 199, 197, 198, 39], [371, 374, 372, 373, 39], [423, 426, 424, 425, 39], [575, 578, 576, 577, 39], [628, 631, 629, 630, 39], [638, 641, 639, 640, 39], [645, 648, 646, 647, 39], [661, 664, 662, 663, 39],
  [704, 707, 705, 706, 39], [717, 720, 718, 719, 39], [747, 750, 748, 749, 39], [754, 757, 755, 756, 39], [763, 766, 764, 765, 39], [63, 65, 64, 39], [774, 776, 775, 44], [192, 194, 193, 38],
  [861, 864, 862, 863, 44], [857, 860, 858, 859, 44], [366, 368, 367, 38], [869, 872, 870, 871, 44], [420, 422, 421, 38], [881, 884, 882, 883, 44], [572, 574, 573, 38], [967, 970, 968, 969, 44],
  [625, 627, 626, 38], [933, 936, 934, 935, 44], [635, 637, 636, 38], [937, 940, 938, 939, 44], [642, 644, 643, 38], [951, 954, 952, 953, 44], [658, 660, 659, 38], [955, 958, 956, 957, 44],
  [701, 703, 702, 38], [959, 962, 960, 961, 44], [714, 716, 715, 38], [975, 978, 976, 977, 44], [744, 746, 745, 38], [984, 987, 985, 986, 44], [751, 753, 752, 38], [988, 991, 989, 990, 44],
  [760, 762, 761, 38], [992, 995, 993, 994, 44], [135, 138, 136, 137, 39], [996, 999, 997, 998, 44], [139, 142, 140, 141, 39], [1000, 1003, 1001, 1002, 44], [143, 146, 144, 145, 39], [1004, 1007, 1005, 1006, 44]]
/-- new: (own class, index), number of the class in vwCl -/
def zNL : List ((Nat × Nat) × Nat) := [
  ((0, 9), 3), ((1, 18), 0), ((1, 25), 3), ((4, 9), 0), ((4, 27), 4), ((5, 9), 0), ((5, 22), 5), ((5, 40), 1),
  ((5, 144), 2), ((15, 8), 6), ((15, 60), 7)]
def zNP : List (List Nat) := [
  [274, 275, 50], [672, 70, 42], [674, 275, 50], [101, 70, 42], [477, 497, 59], [69, 70, 42], [95, 96, 43], [268, 269, 49],
  [165, 667, 60], [61, 62, 39], [772, 773, 44]]
/-- fields: (own class, index), (class in vwCl, place) -/
def zFL : List ((Nat × Nat) × (Nat × Nat)) := [
  ((0, 12), (1, 1)), ((0, 18), (1, 2)), ((0, 22), (1, 0)), ((0, 28), (1, 3)), ((1, 9), (2, 2)), ((1, 15), (2, 3)), ((1, 21), (2, 4)), ((1, 28), (2, 5)),
  ((1, 32), (2, 0)), ((1, 36), (2, 1)), ((1, 39), (5, 1)), ((1, 44), (1, 1)), ((1, 71), (1, 3)), ((1, 84), (4, 1)), ((2, 9), (3, 0)), ((2, 15), (3, 1)),
  ((3, 7), (4, 0)), ((3, 13), (4, 7)), ((3, 17), (4, 1)), ((3, 20), (4, 2)), ((3, 23), (4, 3)), ((3, 26), (4, 4)), ((3, 29), (4, 5)), ((3, 32), (4, 6)),
  ((3, 45), (4, 8)), ((3, 52), (4, 9)), ((3, 55), (4, 10)), ((4, 12), (5, 0)), ((4, 18), (5, 2)), ((4, 32), (5, 1)), ((4, 58), (4, 2)), ((4, 61), (4, 3)),
  ((4, 68), (4, 6)), ((4, 71), (4, 8)), ((4, 75), (4, 4)), ((4, 78), (4, 9)), ((4, 81), (4, 5)), ((4, 84), (4, 10)), ((4, 87), (4, 1)), ((4, 97), (4, 7)),
  ((5, 12), (6, 0)), ((5, 16), (6, 1)), ((5, 19), (6, 2)), ((5, 25), (6, 3)), ((5, 67), (1, 2)), ((5, 71), (1, 1)), ((5, 75), (3, 1)), ((5, 114), (1, 3)),
  ((5, 128), (5, 2)), ((5, 131), (5, 1)), ((5, 157), (2, 2)), ((5, 165), (2, 0)), ((5, 176), (6, 4)), ((5, 179), (6, 5)), ((5, 183), (2, 1)), ((5, 190), (1, 0)),
  ((5, 193), (2, 3)), ((5, 196), (2, 4)), ((5, 205), (4, 1)), ((5, 208), (4, 2)), ((5, 211), (4, 3)), ((5, 214), (4, 0)), ((5, 221), (4, 4)), ((5, 223), (4, 5)),
  ((5, 225), (2, 5)), ((6, 7), (7, 0)), ((6, 13), (7, 1)), ((6, 16), (7, 2)), ((6, 19), (7, 3)), ((6, 22), (7, 4)), ((6, 25), (7, 6)), ((6, 28), (7, 7)),
  ((6, 31), (7, 8)), ((6, 34), (7, 9)), ((6, 37), (7, 10)), ((6, 40), (7, 11)), ((6, 43), (7, 12)), ((6, 46), (7, 13)), ((6, 49), (7, 16)), ((6, 52), (7, 17)),
  ((6, 55), (7, 18)), ((6, 58), (7, 19)), ((6, 61), (7, 20)), ((6, 64), (7, 22)), ((6, 67), (7, 25)), ((6, 71), (7, 5)), ((6, 115), (7, 14)), ((6, 118), (7, 15)),
  ((6, 132), (7, 21)), ((6, 158), (7, 24)), ((6, 162), (7, 23)), ((9, 7), (0, 0)), ((10, 9), (0, 1)), ((10, 48), (0, 2)), ((10, 63), (0, 0))]
def zFP : List (String × Nat) := [
  (RX0, 291), (RX0, 294), (RX0, 289), (RX0, 296), (RX1, 680), (RX1, 682), (RX1, 684), (RX1, 686),
  (RX1, 676), (RX1, 678), (RX4, 104), (RX0, 292), (RX0, 297), (RX3, 505), (RX2, 280), (RX2, 281),
  (RX3, 502), (RX3, 522), (RX3, 504), (RX3, 508), (RX3, 511), (RX3, 514), (RX3, 517), (RX3, 520),
  (RX3, 525), (RX3, 527), (RX3, 529), (RX4, 103), (RX4, 107), (RX4, 105), (RX3, 509), (RX3, 512),
  (RX3, 521), (RX3, 524), (RX3, 515), (RX3, 526), (RX3, 518), (RX3, 528), (RX3, 506), (RX3, 523),
  (RX5, 116), (RX5, 117), (RX5, 118), (RX5, 119), (RX0, 295), (RX0, 293), (RX2, 282), (RX0, 298),
  (RX4, 108), (RX4, 106), (RX1, 681), (RX1, 677), (RX5, 120), (RX5, 121), (RX1, 679), (RX0, 290),
  (RX1, 683), (RX1, 685), (RX3, 507), (RX3, 510), (RX3, 513), (RX3, 503), (RX3, 516), (RX3, 519),
  (RX1, 687), (RX6, 778), (RX6, 779), (RX6, 780), (RX6, 781), (RX6, 782), (RX6, 784), (RX6, 785),
  (RX6, 786), (RX6, 787), (RX6, 788), (RX6, 789), (RX6, 790), (RX6, 791), (RX6, 794), (RX6, 795),
  (RX6, 796), (RX6, 797), (RX6, 798), (RX6, 800), (RX6, 803), (RX6, 783), (RX6, 792), (RX6, 793),
  (RX6, 799), (RX6, 802), (RX6, 801), (RJxc12de, 85), (RJx4a65c, 83), (RJx4a65c, 84), (RJx4a65c, 86)]
/-- throws of a new exception with a text: (own class, index of new), (index of the text, index of the constructor), the class -/
def zXL : List ((Nat × Nat × Nat × Nat) × String) := [
  ((5, 33, 35, 37), "java/lang/IllegalStateException"), ((5, 33, 79, 37), "java/lang/IllegalStateException"), ((5, 33, 84, 37), "java/lang/IllegalStateException"), ((5, 33, 95, 37), "java/lang/IllegalStateException"),
  ((5, 33, 134, 37), "java/lang/IllegalStateException"), ((5, 33, 142, 37), "java/lang/IllegalStateException"), ((5, 33, 158, 37), "java/lang/IllegalStateException"), ((5, 33, 163, 37), "java/lang/IllegalStateException"),
  ((5, 57, 59, 61), "java/lang/IndexOutOfBoundsException"), ((5, 57, 194, 61), "java/lang/IndexOutOfBoundsException"), ((5, 57, 215, 61), "java/lang/IndexOutOfBoundsException"), ((5, 57, 228, 61), "java/lang/IndexOutOfBoundsException"),
  ((5, 57, 230, 61), "java/lang/IndexOutOfBoundsException"), ((5, 62, 64, 66), "java/lang/IllegalArgumentException"), ((5, 62, 117, 66), "java/lang/IllegalArgumentException"), ((5, 62, 126, 66), "java/lang/IllegalArgumentException"),
  ((5, 62, 140, 66), "java/lang/IllegalArgumentException")]
def zXP : List (String × List Nat) := [
  ("there are 12 drawings", [200, 48, 241]), ("the drawing is not OPEN, or has 24 strokes", [200, 48, 415]), ("the drawing is not OPEN", [200, 48, 427]), ("the drawing is not FINE", [200, 48, 579]),
  ("there are 8 sheets, or 400 pieces", [200, 48, 653]), ("the drawing is not FINE, or there are 30 jobs", [200, 48, 666]), ("the job is CUT or CANCELLED", [200, 48, 713]), ("the job is not NESTED", [200, 48, 721]),
  ("no such point", [379, 55, 398]), ("no such copy", [379, 55, 758]), ("no such place", [379, 55, 767]), ("no such drawing", [379, 55, 388]),
  ("no such job", [379, 55, 712]), ("both points are one", [399, 58, 408]), ("what is out of range", [399, 58, 634]), ("wide or high is out of range", [399, 58, 652]),
  ("copies is out of range", [399, 58, 665])]
/-- casts: (own class, index), class in vwCl -/
def zKL : List ((Nat × Nat) × Nat) := [
  ((1, 79), 4), ((4, 27), 4), ((5, 40), 1), ((5, 144), 2), ((5, 203), 4)]
def zKP : List Nat := [
  590, 477, 268, 165, 759]
def zDL : List ((Nat × Nat) × Value) := [
  ((1, 91), .float 1092616192), ((2, 69), .double 4611686018427387904), ((6, 104), .double 4611686018427387904), ((6, 110), .float 3212836864), ((6, 157), .float 1092616192), ((13, 200), .int 2147483639)]
def zDP : List Nat := [
  726, 188, 950, 941, 983, 330]
/-- kinds of the fields, class by class: 0 int, 1 float, 2 a reference; with final or not -/
def zTY : List (List (Nat × Bool)) := [[(0, false), (2, false), (0, false)], [(0, true), (2, true), (0, false), (0, false)], [(2, true), (0, true), (0, false), (0, false), (2, true), (2, true)], [(2, true), (0, false)], [(0, true), (0, false), (0, false), (0, false), (0, false), (0, false), (0, false), (2, false), (2, false), (2, false), (2, false)], [(2, true), (0, false), (0, false)], [(2, true), (2, true), (2, true), (2, true), (0, false), (1, false)], [(2, true), (2, true), (2, true), (2, true), (2, true), (0, false), (2, true), (2, true), (2, true), (2, true), (2, true), (2, true), (2, true), (2, true), (0, false), (0, false), (2, true), (2, true), (2, true), (2, true), (2, true), (0, false), (2, true), (0, false), (1, false), (0, false)]]
def zdv (t : Nat) : Value := match t with | 0 => .int 0 | 1 => .float 0 | _ => .null
def zty (ci k : Nat) : Nat × Bool := (zTY.getD ci []).getD k (9, false)
/-- the fields of a new object -/
def znewf (ci : Nat) : List Value := (zTY.getD ci []).map (fun t => zdv t.1)
/-- names of the classes that the law's methods catch, by index -/
def zcn (i : Nat) : String := match i with
  | 13 => "java/lang/IllegalStateException"
  | 19 => "java/lang/IndexOutOfBoundsException"
  | 21 => "java/lang/IllegalArgumentException"
  | _ => ""
/-- Math.max (true), Math.min (false) -/
def zXX : List ((Nat × Nat) × Bool) := [
  ((2, 43), false), ((2, 55), true), ((10, 79), true), ((11, 304), false), ((13, 194), true)]
def zXP2 : List Nat := [
  449, 462, 364, 358, 327]
end
section
/-! THE TABLES HOLD: what each entry needs of the words -/
def zgw : List Cond := lw_tbl.filter goodWord
def zvi (o : Nat) : Nat := match o with
  | 0 => 1 | 1 => 2 | 2 => 3 | 3 => 4 | 4 => 5 | 5 => 6 | 6 => 7 | 10 => 0 | _ => 99
def zhas (w : Cond) (p : Nat) : Bool := decide (lw_tbl[p]? = some w) && goodWord w
theorem zhas_mem {w : Cond} {p : Nat} (h : zhas w p = true) : w ∈ zgw := by
  unfold zhas at h
  rw [Bool.and_eq_true] at h
  exact List.mem_filter.mpr ⟨List.mem_of_getElem? (of_decide_eq_true h.1), h.2⟩
theorem zlk {α β : Type} [BEq α] [LawfulBEq α] : ∀ {l : List (α × β)} {k : α} {v : β}, l.lookup k = some v → (k, v) ∈ l
  | [], _, _, h => by cases h
  | (a, b) :: l, k, v, h => by
    rw [List.lookup_cons] at h
    by_cases c : (k == a) = true
    · rw [c] at h
      have e := eq_of_beq c
      subst e
      have h := Option.some.inj h
      subst h
      exact List.mem_cons_self
    · have c : (k == a) = false := by cases hk : (k == a) with | true => exact absurd hk c | false => rfl
      rw [c] at h
      exact List.mem_cons_of_mem _ (zlk h)
theorem zzip {α β : Type} {l : List α} {r : List β} {x : α} (hl : l.length ≤ r.length) (h : x ∈ l) : ∃ y, (x, y) ∈ l.zip r := by
  obtain ⟨i, hi⟩ := List.getElem?_of_mem h
  have h1 : i < l.length := (List.getElem?_eq_some_iff.mp hi).1
  have h2 : i < r.length := Nat.lt_of_lt_of_le h1 hl
  refine ⟨r[i], List.mem_of_getElem? (i := i) ?_⟩
  rw [List.getElem?_zip_eq_some]
  exact ⟨hi, List.getElem?_eq_some_iff.mpr ⟨h2, rfl⟩⟩
theorem zall {α β γ : Type} [BEq α] [LawfulBEq α] {l : List (α × β)} {r : List γ} {f : (α × β) × γ → Bool} (hl : l.length ≤ r.length) (hf : (l.zip r).all f = true) {k : α} {v : β} (h : l.lookup k = some v) : ∃ c, f ((k, v), c) = true := by
  obtain ⟨c, hc⟩ := zzip hl (zlk h)
  exact ⟨c, List.all_eq_true.mp hf _ hc⟩
def zFc (x : ((Nat × Nat) × (Nat × Nat)) × (String × Nat)) : Bool := match vwCl[x.1.2.1]? with
  | some r => decide (x.1.2.2 < r.2.2) && (zhas (.fieldLink (zow x.1.1.1) x.1.1.2 x.2.1 (r.2.1 x.1.2.2).2.1 (r.2.1 x.1.2.2).2.2.1) x.2.2 && (decide (x.2.1 = (r.2.1 x.1.2.2).1) || zhas (.sameField x.2.1 (r.2.1 x.1.2.2).1 (r.2.1 x.1.2.2).2.1 (r.2.1 x.1.2.2).2.2.1) 87))
  | none => false
set_option maxRecDepth 100000 in
theorem zF_all : (zFL.zip zFP).all zFc = true := by decide +kernel
theorem zF_ok {o i ci k : Nat} (h : zFL.lookup (o, i) = some (ci, k)) : ∃ (r : vw_C) (ref : String), vwCl[ci]? = some r ∧ k < r.2.2 ∧ Cond.fieldLink (zow o) i ref (r.2.1 k).2.1 (r.2.1 k).2.2.1 ∈ zgw ∧ (ref = (r.2.1 k).1 ∨ Cond.sameField ref (r.2.1 k).1 (r.2.1 k).2.1 (r.2.1 k).2.2.1 ∈ zgw) := by
  obtain ⟨c, hc⟩ := zall (by decide +kernel) zF_all h
  unfold zFc at hc
  dsimp only at hc
  cases hr : vwCl[ci]? with
  | none => rw [hr] at hc; cases hc
  | some r =>
    rw [hr] at hc
    simp only [Bool.and_eq_true, Bool.or_eq_true] at hc
    exact ⟨r, c.1, rfl, of_decide_eq_true hc.1, zhas_mem hc.2.1, hc.2.2.imp (fun z => of_decide_eq_true z) zhas_mem⟩
def zNc (x : ((Nat × Nat) × Nat) × List Nat) : Bool := match vwCl[x.1.2]? with
  | some r => zhas (.classLink (zow x.1.1.1) x.1.1.2 r.1) (x.2.getD 0 0) && (zhas (.instantiable r.1 r.2.2) (x.2.getD 1 0) && zhas (.initialized r.1) (x.2.getD 2 0))
  | none => false
set_option maxRecDepth 100000 in
theorem zN_all : (zNL.zip zNP).all zNc = true := by decide +kernel
theorem zN_ok {o i ci : Nat} (h : zNL.lookup (o, i) = some ci) : ∃ r : vw_C, vwCl[ci]? = some r ∧ Cond.classLink (zow o) i r.1 ∈ zgw ∧ Cond.instantiable r.1 r.2.2 ∈ zgw ∧ Cond.initialized r.1 ∈ zgw := by
  obtain ⟨c, hc⟩ := zall (by decide +kernel) zN_all h
  unfold zNc at hc
  dsimp only at hc
  cases hr : vwCl[ci]? with
  | none => rw [hr] at hc; cases hc
  | some r =>
    rw [hr] at hc
    simp only [Bool.and_eq_true] at hc
    exact ⟨r, rfl, zhas_mem hc.1, zhas_mem hc.2.1, zhas_mem hc.2.2⟩
def zKc (x : ((Nat × Nat) × Nat) × Nat) : Bool := match vwCl[x.1.2]? with
  | some r => zhas (.classLink (zow x.1.1.1) x.1.1.2 r.1) x.2
  | none => false
set_option maxRecDepth 100000 in
theorem zK_all : (zKL.zip zKP).all zKc = true := by decide +kernel
theorem zK_ok {o i ci : Nat} (h : zKL.lookup (o, i) = some ci) : ∃ r : vw_C, vwCl[ci]? = some r ∧ Cond.classLink (zow o) i r.1 ∈ zgw := by
  obtain ⟨c, hc⟩ := zall (by decide +kernel) zK_all h
  unfold zKc at hc
  dsimp only at hc
  cases hr : vwCl[ci]? with
  | none => rw [hr] at hc; cases hc
  | some r => rw [hr] at hc; exact ⟨r, rfl, zhas_mem hc⟩
def zDc (x : ((Nat × Nat) × Value) × Nat) : Bool := match x.1.2 with
  | .int v => zhas (.constant (zow x.1.1.1) x.1.1.2 v) x.2
  | .float v => zhas (.constantFloat (zow x.1.1.1) x.1.1.2 v) x.2
  | .double v => zhas (.constantDouble (zow x.1.1.1) x.1.1.2 v) x.2
  | _ => false
set_option maxRecDepth 100000 in
theorem zD_all : (zDL.zip zDP).all zDc = true := by decide +kernel
theorem zD_ok {o i : Nat} {v : Value} (h : zDL.lookup (o, i) = some v) : (∃ x, v = .int x ∧ Cond.constant (zow o) i x ∈ zgw) ∨ (∃ x, v = .float x ∧ Cond.constantFloat (zow o) i x ∈ zgw) ∨ (∃ x, v = .double x ∧ Cond.constantDouble (zow o) i x ∈ zgw) := by
  obtain ⟨c, hc⟩ := zall (by decide +kernel) zD_all h
  unfold zDc at hc
  dsimp only at hc
  cases v with
  | int x => exact Or.inl ⟨x, rfl, zhas_mem hc⟩
  | float x => exact Or.inr (Or.inl ⟨x, rfl, zhas_mem hc⟩)
  | double x => exact Or.inr (Or.inr ⟨x, rfl, zhas_mem hc⟩)
  | _ => cases hc
def zMc (x : ((Nat × Nat) × (Nat × Nat)) × List Nat) : Bool :=
  let y := x.1.2.2
  decide ((parseMethodDescriptor (znm y).desc).map (fun d => d.parameters.length) = some (znp y)) && (decide ((znm y).cls = zow (zoc y)) && (plainName (znm y).cls && (match x.1.2.1 with
  | 0 => zhas (.methodLink (zow x.1.1.1) x.1.1.2 (znm y)) (x.2.getD 0 0) && (zhas (.code (znm y) (zby y) (zml y) (zrt y)) (x.2.getD 1 0) && (zhas (.instanceMethod (znm y)) (x.2.getD 2 0) && (zhas (.selects (znm y).cls (znm y) (znm y)) (x.2.getD 3 0) && (zhas (.initialized (znm y).cls) (x.2.getD 4 0) && (match vwCl[zvi (zoc y)]? with
    | some r => decide (r.1 = (znm y).cls)
    | none => false)))))
  | 1 => zhas (.methodLink (zow x.1.1.1) x.1.1.2 (znm y)) (x.2.getD 0 0) && ((match zhh y with
    | [] => zhas (.code (znm y) (zby y) (zml y) (zrt y)) (x.2.getD 1 0)
    | h => zhas (.codeWith (znm y) (zby y) (zml y) (zrt y) h) (x.2.getD 1 0)) && (zhas (.static (znm y)) (x.2.getD 2 0) && zhas (.initialized (znm y).cls) (x.2.getD 3 0)))
  | 2 => zhas (.methodLink (zow x.1.1.1) x.1.1.2 (znm y)) (x.2.getD 0 0) && (zhas (.code (znm y) (zby y) (zml y) (zrt y)) (x.2.getD 1 0) && (zhas (.instanceMethod (znm y)) (x.2.getD 2 0) && (zhas (.initialized (znm y).cls) (x.2.getD 3 0) && (decide ((znm y).name = "<init>") && decide (zrt y = none)))))
  | 3 => decide (lw_tbl[x.2.getD 0 0]? = some (.methodLinkNest (zow x.1.1.1) x.1.1.2 (znm y) "Kerfworks")) && (zhas (.code (znm y) (zby y) (zml y) (zrt y)) (x.2.getD 1 0) && (zhas (.instanceMethod (znm y)) (x.2.getD 2 0) && (zhas (.initialized (znm y).cls) (x.2.getD 3 0) && (decide ((znm y).name = "<init>") && decide (zrt y = none)))))
  | _ => false)))
/-- the classes of the made objects: their fields' types -/
def zref (ty : FieldType) : Bool := match ty with
  | .object _ => true
  | .array _ => true
  | _ => false
def zTc (ci : Nat) (r : vw_C) (ty0 : Nat → FieldType) : Bool := decide ((znewf ci).length = r.2.2) && ((List.range r.2.2).all fun k => decide ((zty ci k).2 = (r.2.1 k).2.2.2) && ((!(r.2.1 k).2.2.2 || decide ((r.2.1 k).1 = r.1)) && (decide (defaultValue (ty0 k) = vp_V (znewf ci) k) && (match (zty ci k).1 with
  | 0 => decide (ty0 k = .int)
  | 1 => decide (ty0 k = .float)
  | 2 => zref (ty0 k)
  | _ => false))))
def zcl_ (ci : Nat) (r : vw_C) : Prop := (∀ w ∈ u_ws r.1 r.2.1 r.2.2, w ∈ zgw) ∧ ∃ ty0 : Nat → FieldType, (∀ k, k < r.2.2 → parseFieldDescriptor (r.2.1 k).2.2.1 = some (ty0 k)) ∧ (∀ a, a < r.2.2 → ∀ b, b < r.2.2 → a ≠ b → (r.2.1 a).2.1 ≠ (r.2.1 b).2.1) ∧ zTc ci r ty0 = true
theorem zin_all {L : List Cond} (h : L.all (fun w => lw_tbl.contains w && goodWord w) = true) : ∀ w ∈ L, w ∈ zgw := fun w hw => by
  have h1 := List.all_eq_true.mp h w hw
  rw [Bool.and_eq_true] at h1
  exact List.mem_filter.mpr ⟨List.contains_iff_mem.mp h1.1, h1.2⟩
set_option maxRecDepth 100000 in
theorem zcl_ok : ∀ (ci : Nat) (r : vw_C), vwCl[ci]? = some r → zcl_ ci r := by
  intro ci r h
  match ci, h with
  | 0, h => cases h; exact ⟨zin_all (by decide +kernel), tyJx4a65c, tyJx4a65c_ok, nmJx4a65c, by decide +kernel⟩
  | 1, h => cases h; exact ⟨zin_all (by decide +kernel), tyX0, tyX0_ok, nmX0, by decide +kernel⟩
  | 2, h => cases h; exact ⟨zin_all (by decide +kernel), tyX1, tyX1_ok, nmX1, by decide +kernel⟩
  | 3, h => cases h; exact ⟨zin_all (by decide +kernel), tyX2, tyX2_ok, nmX2, by decide +kernel⟩
  | 4, h => cases h; exact ⟨zin_all (by decide +kernel), tyX3, tyX3_ok, nmX3, by decide +kernel⟩
  | 5, h => cases h; exact ⟨zin_all (by decide +kernel), tyX4, tyX4_ok, nmX4, by decide +kernel⟩
  | 6, h => cases h; exact ⟨zin_all (by decide +kernel), tyX5, tyX5_ok, nmX5, by decide +kernel⟩
  | 7, h => cases h; exact ⟨zin_all (by decide +kernel), tyX6, tyX6_ok, nmX6, by decide +kernel⟩
  | k + 8, h => simp [vwCl] at h
theorem zvi_ok {o ci : Nat} {r : vw_C} (h : zvi o = ci) (hr : vwCl[ci]? = some r) : r.1 = zow o := by
  subst h
  match o, hr with
  | 0, hr => cases hr; rfl
  | 1, hr => cases hr; rfl
  | 2, hr => cases hr; rfl
  | 3, hr => cases hr; rfl
  | 4, hr => cases hr; rfl
  | 5, hr => cases hr; rfl
  | 6, hr => cases hr; rfl
  | 7, hr => cases hr
  | 8, hr => cases hr
  | 9, hr => cases hr
  | 10, hr => cases hr; rfl
  | k + 11, hr => cases hr
end
section
/-! the calls' words, twenty entries at a time -/
theorem zchunk {α : Type} {l : List α} {f : α → Bool} (hl : l.length ≤ 160) (h : ∀ k, k < 8 → ((l.drop (20 * k)).take 20).all f = true) : l.all f = true := by
  refine List.all_eq_true.mpr fun x hx => ?_
  obtain ⟨i, hi⟩ := List.getElem?_of_mem hx
  have h1 : i < l.length := (List.getElem?_eq_some_iff.mp hi).1
  refine List.all_eq_true.mp (h (i / 20) (by omega)) x (List.mem_of_getElem? (i := i % 20) ?_)
  rw [List.getElem?_take, if_pos (Nat.mod_lt _ (by decide)), List.getElem?_drop, show 20 * (i / 20) + i % 20 = i by omega]
  exact hi
set_option maxRecDepth 100000 in
theorem zM_0 : (((zCL.zip zCP).drop 0).take 20).all zMc = true := by decide +kernel
set_option maxRecDepth 100000 in
theorem zM_1 : (((zCL.zip zCP).drop 20).take 20).all zMc = true := by decide +kernel
set_option maxRecDepth 100000 in
theorem zM_2 : (((zCL.zip zCP).drop 40).take 20).all zMc = true := by decide +kernel
set_option maxRecDepth 100000 in
theorem zM_3 : (((zCL.zip zCP).drop 60).take 20).all zMc = true := by decide +kernel
set_option maxRecDepth 100000 in
theorem zM_4 : (((zCL.zip zCP).drop 80).take 20).all zMc = true := by decide +kernel
set_option maxRecDepth 100000 in
theorem zM_5 : (((zCL.zip zCP).drop 100).take 20).all zMc = true := by decide +kernel
set_option maxRecDepth 100000 in
theorem zM_6 : (((zCL.zip zCP).drop 120).take 20).all zMc = true := by decide +kernel
set_option maxRecDepth 100000 in
theorem zM_7 : (((zCL.zip zCP).drop 140).take 20).all zMc = true := by decide +kernel
set_option maxRecDepth 100000 in
theorem zM_all : (zCL.zip zCP).all zMc = true := by
  refine zchunk (by decide +kernel) fun k hk => ?_
  match k, hk with
  | 0, _ => exact zM_0
  | 1, _ => exact zM_1
  | 2, _ => exact zM_2
  | 3, _ => exact zM_3
  | 4, _ => exact zM_4
  | 5, _ => exact zM_5
  | 6, _ => exact zM_6
  | 7, _ => exact zM_7
  | k + 8, hk => omega
end
section
/-! THE ABSTRACT MACHINE: a heap of cells by their places (0: the empty array that lists begin with, 1: the script, 2: the mirror of Object[]; these three are kept apart), a count of the room used, and runs as a function. -/
abbrev ZA : Type := (Nat → Int32) ⊕ (Nat → Int64) ⊕ (Nat → UInt32) ⊕ (Nat → UInt64) ⊕ (Nat → Option Nat)
abbrev ZC : Type := (Nat × ZA) ⊕ (Nat × List Value)
abbrev ZS : Type := Nat × List ZC
abbrev ZO : Type := Option Value ⊕ String
abbrev ZX : Type := Nat × (Nat → Int32)
abbrev ZR : Type := ZO × ZS
abbrev ZQ : Type := Nat × List Value × List Value × ZS
def zjk : Value := .retAddr 0
def zmk : Value := .retAddr 1
def zget (st : ZS) (a ci k : Nat) : Option Value := match st.2[a]? with
  | some (.inr o) => if o.1 = ci then o.2[k]? else none
  | _ => none
def zput (st : ZS) (a k : Nat) (v : Value) : ZS := match st.2[a]? with
  | some (.inr o) => (st.1, st.2.set a (.inr (o.1, o.2.set k v)))
  | _ => st
def zarr (st : ZS) (a : Nat) : Option (Nat × ZA) := match st.2[a]? with
  | some (.inl x) => some x
  | _ => none
def zsta (st : ZS) (a : Nat) (x : Nat × ZA) : ZS := (st.1, st.2.set a (.inl x))
def znew (st : ZS) (ci : Nat) : ZS := (st.1 + (znewf ci).length + 1, st.2 ++ [.inr (ci, znewf ci)])
def znwa (st : ZS) (n : Nat) (x : ZA) : ZS := (st.1 + n + 1, st.2 ++ [.inl (n, x)])
def zis (st : ZS) (a ci : Nat) : Bool := (zget st a ci 0).isSome
def zlen (X : ZX) (st : ZS) (a : Nat) : Option Nat := if a = 0 then some 0 else if a = 1 then some X.1 else (zarr st a).map (fun x => x.1)
def zix (i : Int32) (n : Nat) : Option Nat := if i < 0 ∨ n ≤ i.toNatClampNeg then none else some i.toNatClampNeg
def zc1 (v : Value) : Bool := decide (v.category = 1)
def zfits (t : Nat) (v : Value) : Bool := match t, v with
  | 0, .int _ => true
  | 1, .float _ => true
  | 2, .ref _ => true
  | 2, .null => true
  | _, _ => false
def zcnd (c : Jvm.ClassFile.Cond) (x y : Int32) : Bool := match c with
  | .eq => decide (x = y)
  | .ne => decide (¬ x = y)
  | .lt => decide (x < y)
  | .ge => decide (y ≤ x)
  | .gt => decide (y < x)
  | .le => decide (x ≤ y)
def zto (pc : Nat) (off : Int) : Option Nat := if 0 ≤ (pc : Int) + off then some ((pc : Int) + off).toNat else none
def zn32 (x : UInt32) : Bool := decide (x &&& 0x7fffffff ≤ 0x7f800000)
def zn64 (x : UInt64) : Bool := decide (x &&& 0x7fffffffffffffff ≤ 0x7ff0000000000000)
def zOI : List (Nat × Nat) := [(0, 3), (1, 3), (2, 3), (3, 1), (4, 3), (5, 3), (6, 1), (8, 1)]
/-- a part of an object of a made class: which class, of those that an Object[] may hold -/
def zob (st : ZS) (a : Nat) : Bool := zis st a 1 || (zis st a 2 || (zis st a 3 || (zis st a 4 || (zis st a 5 || (zis st a 6 || zis st a 7)))))
def zlok (i : Instr) (len : Nat) : Bool := match i with
  | .bipush _ | .ldc _ | .aload _ | .iload _ | .fload _ | .dload _ | .astore _ | .istore _ | .fstore _ | .dstore _ | .newarray _ => len == 2
  | .sipush _ | .ldc2_w _ | .iinc _ _ | .goto _ | .if_icmp _ _ | .ifCond _ _ | .if_acmp _ _ | .ifnull _ | .ifnonnull _ | .getfield _ | .putfield _ | .getstatic _ | .new _ | .anewarray _ | .checkcast _ | .invokevirtual _ | .invokespecial _ | .invokestatic _ => len == 3
  | .tableswitch _ _ _ _ => true
  | _ => len == 1
def zldi (n pc' : Nat) (L S : List Value) (st : ZS) : Option ZQ := match L[n]? with
  | some (.int x) => some (pc', L, .int x :: S, st)
  | _ => none
def zlda (n pc' : Nat) (L S : List Value) (st : ZS) : Option ZQ := match L[n]? with
  | some (.ref x) => some (pc', L, .ref x :: S, st)
  | some .null => some (pc', L, .null :: S, st)
  | _ => none
def zldf (n pc' : Nat) (L S : List Value) (st : ZS) : Option ZQ := match L[n]? with
  | some (.float x) => some (pc', L, .float x :: S, st)
  | _ => none
def zldd (n pc' : Nat) (L S : List Value) (st : ZS) : Option ZQ := match L[n]? with
  | some (.double x) => if L[n + 1]? = some (.retAddr 1) then some (pc', L, .double x :: S, st) else none
  | _ => none
def zsti (n pc' : Nat) (L S : List Value) (st : ZS) : Option ZQ := match S with
  | .int x :: S => if n < L.length then some (pc', L.set n (.int x), S, st) else none
  | _ => none
def zsta' (n pc' : Nat) (L S : List Value) (st : ZS) : Option ZQ := match S with
  | .ref x :: S => if n < L.length then some (pc', L.set n (.ref x), S, st) else none
  | .null :: S => if n < L.length then some (pc', L.set n .null, S, st) else none
  | _ => none
def zstf (n pc' : Nat) (L S : List Value) (st : ZS) : Option ZQ := match S with
  | .float x :: S => if n < L.length then some (pc', L.set n (.float x), S, st) else none
  | _ => none
def zstd (n pc' : Nat) (L S : List Value) (st : ZS) : Option ZQ := match S with
  | .double x :: S => if n + 1 < L.length then some (pc', (L.set n (.double x)).set (n + 1) (.retAddr 1), S, st) else none
  | _ => none
def zi2 (f : Int32 → Int32 → Option Int32) (pc : Nat) (L S : List Value) (st : ZS) : Option ZQ := match S with
  | .int y :: .int x :: S => (f x y).bind fun z => some (pc + 1, L, .int z :: S, st)
  | _ => none
def zf2 (f : UInt32 → UInt32 → UInt32) (pc : Nat) (L S : List Value) (st : ZS) : Option ZQ := match S with
  | .float y :: .float x :: S => if zn32 (f x y) = true then some (pc + 1, L, .float (f x y) :: S, st) else none
  | _ => none
def zd2 (f : UInt64 → UInt64 → UInt64) (pc : Nat) (L S : List Value) (st : ZS) : Option ZQ := match S with
  | .double y :: .double x :: S => if zn64 (f x y) = true then some (pc + 1, L, .double (f x y) :: S, st) else none
  | _ => none
def zbr (b : Bool) (pc : Nat) (off : Int) (L S : List Value) (st : ZS) : Option ZQ := (zto pc off).bind fun t => some (if b = true then t else pc + 3, L, S, st)
def zel (st : ZS) (f : Nat → Option Nat) (sp n : Nat) : Bool := (List.range n).all fun i => match f (sp + i) with
  | none => true
  | some y => zob st y
def zcpyi (pc : Nat) (L S : List Value) (st : ZS) : Option ZQ := match S with
  | .int n :: .int dp :: .ref b :: .int sp :: .ref a :: S => (match zarr st a, zarr st b with
    | some (n0, .inl f), some (n1, .inl g) => if sp < 0 ∨ dp < 0 ∨ n < 0 ∨ n0 < sp.toNatClampNeg + n.toNatClampNeg ∨ n1 < dp.toNatClampNeg + n.toNatClampNeg ∨ 4 < S.length then none
      else some (pc + 3, L, S, zsta st b (n1, .inl (va_cpy f g sp.toNatClampNeg dp.toNatClampNeg n.toNatClampNeg)))
    | _, _ => none)
  | _ => none
def zcpyr (pc : Nat) (L S : List Value) (st : ZS) : Option ZQ := match S with
  | .int n :: .int dp :: .ref b :: .int sp :: .ref a :: S => (match zarr st a, zarr st b with
    | some (n0, .inr (.inr (.inr (.inr f)))), some (n1, .inr (.inr (.inr (.inr g)))) => if sp < 0 ∨ dp < 0 ∨ n < 0 ∨ n0 < sp.toNatClampNeg + n.toNatClampNeg ∨ n1 < dp.toNatClampNeg + n.toNatClampNeg ∨ 4 < S.length ∨ zel st f sp.toNatClampNeg n.toNatClampNeg = false then none
      else some (pc + 3, L, S, zsta st b (n1, .inr (.inr (.inr (.inr (va_cpy f g sp.toNatClampNeg dp.toNatClampNeg n.toNatClampNeg))))))
    | _, _ => none)
  | _ => none
/-- one instruction that calls nothing, and does not leave the method -/
def zstep (X : ZX) (mi : Nat) (i : Instr) (pc : Nat) (L S : List Value) (st : ZS) : Option ZQ :=
  match i with
  | .aconst_null => some (pc + 1, L, .null :: S, st)
  | .iconst n => some (pc + 1, L, .int (Int32.ofInt n) :: S, st)
  | .bipush n => some (pc + 2, L, .int (Int8.ofInt n).toInt32 :: S, st)
  | .sipush n => some (pc + 3, L, .int (Int16.ofInt n).toInt32 :: S, st)
  | .fconst f => if f = 0 then some (pc + 1, L, .float FP.fconst0 :: S, st) else none
  | .dconst f => if f = 0 then some (pc + 1, L, .double FP.dconst0 :: S, st) else none
  | .ldc idx => if zoc mi = 11 ∧ idx = 110 then some (pc + 2, L, .ref 2 :: S, st) else (zDL.lookup (zoc mi, idx)).bind fun v => if zc1 v = true then some (pc + 2, L, v :: S, st) else none
  | .ldc2_w idx => (zDL.lookup (zoc mi, idx)).bind fun v => if zc1 v = false then some (pc + 3, L, v :: S, st) else none
  | .iload n => zldi n (pc + 2) L S st
  | .iload_n n => zldi n (pc + 1) L S st
  | .aload n => zlda n (pc + 2) L S st
  | .aload_n n => zlda n (pc + 1) L S st
  | .fload n => zldf n (pc + 2) L S st
  | .fload_n n => zldf n (pc + 1) L S st
  | .dload n => zldd n (pc + 2) L S st
  | .dload_n n => zldd n (pc + 1) L S st
  | .istore n => zsti n (pc + 2) L S st
  | .istore_n n => zsti n (pc + 1) L S st
  | .astore n => zsta' n (pc + 2) L S st
  | .astore_n n => zsta' n (pc + 1) L S st
  | .fstore n => zstf n (pc + 2) L S st
  | .fstore_n n => zstf n (pc + 1) L S st
  | .dstore n => zstd n (pc + 2) L S st
  | .dstore_n n => zstd n (pc + 1) L S st
  | .iinc n c => (match L[n]? with
    | some (.int x) => some (pc + 3, L.set n (.int (x + Int32.ofInt c)), S, st)
    | _ => none)
  | .iadd => zi2 (fun x y => some (x + y)) pc L S st
  | .isub => zi2 (fun x y => some (x - y)) pc L S st
  | .imul => zi2 (fun x y => some (x * y)) pc L S st
  | .idiv => zi2 (fun x y => if y = 0 then none else some (x / y)) pc L S st
  | .irem => zi2 (fun x y => if y = 0 then none else some (x - x / y * y)) pc L S st
  | .iand => zi2 (fun x y => some (x &&& y)) pc L S st
  | .ior => zi2 (fun x y => some (x ||| y)) pc L S st
  | .ishl => zi2 (fun x y => some (x <<< (y &&& 31))) pc L S st
  | .ishr => zi2 (fun x y => some (x >>> (y &&& 31))) pc L S st
  | .fadd => zf2 FP.fadd pc L S st
  | .fdiv => zf2 FP.fdiv pc L S st
  | .dadd => zd2 FP.dadd pc L S st
  | .ddiv => zd2 FP.ddiv pc L S st
  | .i2l => (match S with
    | .int x :: S => some (pc + 1, L, .long x.toInt64 :: S, st)
    | _ => none)
  | .i2d => (match S with
    | .int x :: S => some (pc + 1, L, .double (FP.i2d x) :: S, st)
    | _ => none)
  | .f2i => (match S with
    | .float x :: S => some (pc + 1, L, .int (FP.f2i x) :: S, st)
    | _ => none)
  | .f2d => (match S with
    | .float x :: S => if zn64 (FP.f2d x) = true then some (pc + 1, L, .double (FP.f2d x) :: S, st) else none
    | _ => none)
  | .d2f => (match S with
    | .double x :: S => if zn32 (FP.d2f x) = true then some (pc + 1, L, .float (FP.d2f x) :: S, st) else none
    | _ => none)
  | .lcmp => (match S with
    | .long y :: .long x :: S => some (pc + 1, L, .int (lg_cmp x y) :: S, st)
    | _ => none)
  | .fcmp op => (match S with
    | .float y :: .float x :: S => some (pc + 1, L, .int (Op.cmpValue (FP.fcmp x y) op) :: S, st)
    | _ => none)
  | .dcmp op => (match S with
    | .double y :: .double x :: S => some (pc + 1, L, .int (Op.cmpValue (FP.dcmp x y) op) :: S, st)
    | _ => none)
  | .dup => (match S with
    | v :: S => if zc1 v = true then some (pc + 1, L, v :: v :: S, st) else none
    | _ => none)
  | .dup_x1 => (match S with
    | v :: w :: S => if zc1 v = true ∧ zc1 w = true then some (pc + 1, L, v :: w :: v :: S, st) else none
    | _ => none)
  | .dup2 => (match S with
    | v :: w :: S => if zc1 v = true ∧ zc1 w = true then some (pc + 1, L, v :: w :: v :: w :: S, st) else none
    | _ => none)
  | .pop => (match S with
    | v :: S => if zc1 v = true then some (pc + 1, L, S, st) else none
    | _ => none)
  | .goto off => (zto pc off).bind fun t => some (t, L, S, st)
  | .ifCond c off => (match S with
    | .int x :: S => zbr (zcnd c x 0) pc off L S st
    | _ => none)
  | .if_icmp c off => (match S with
    | .int y :: .int x :: S => zbr (zcnd c x y) pc off L S st
    | _ => none)
  | .ifnull off => (match S with
    | .ref _ :: S => zbr false pc off L S st
    | .null :: S => zbr true pc off L S st
    | _ => none)
  | .ifnonnull off => (match S with
    | .ref _ :: S => zbr true pc off L S st
    | .null :: S => zbr false pc off L S st
    | _ => none)
  | .if_acmp c off => (match S with
    | .ref y :: .ref x :: S => if x = y ∨ (x ≠ 1 ∧ x ≠ 2 ∧ y ≠ 1 ∧ y ≠ 2) then zbr (match c with | .eq => decide (x = y) | .ne => decide (¬ x = y)) pc off L S st else none
    | .null :: .ref _ :: S => zbr (match c with | .eq => false | .ne => true) pc off L S st
    | .ref _ :: .null :: S => zbr (match c with | .eq => false | .ne => true) pc off L S st
    | .null :: .null :: S => zbr (match c with | .eq => true | .ne => false) pc off L S st
    | _ => none)
  | .tableswitch dflt lo hi offs => (match S with
    | .int x :: S => if x.toInt < lo ∨ hi < x.toInt then (zto pc dflt).bind fun t => some (t, L, S, st)
      else (offs[(x.toInt - lo).toNat]?).bind fun off => (zto pc off).bind fun t => some (t, L, S, st)
    | _ => none)
  | .getfield idx => (match S with
    | .ref a :: S => (zFL.lookup (zoc mi, idx)).bind fun q => (zget st a q.1 q.2).bind fun v => some (pc + 3, L, v :: S, st)
    | _ => none)
  | .putfield idx => (match S with
    | v :: .ref a :: S => (zFL.lookup (zoc mi, idx)).bind fun q => (zget st a q.1 q.2).bind fun _ =>
      if zfits (zty q.1 q.2).1 v = true ∧ ((zty q.1 q.2).2 = false ∨ ((znm mi).name = "<init>" ∧ zvi (zoc mi) = q.1)) then some (pc + 3, L, S, zput st a q.2 v) else none
    | _ => none)
  | .getstatic idx => if zoc mi = 10 ∧ idx = 39 then some (pc + 3, L, .ref 0 :: S, st) else none
  | .new idx => (zNL.lookup (zoc mi, idx)).bind fun ci => some (pc + 3, L, .ref st.2.length :: S, znew st ci)
  | .newarray t => (match S with
    | .int n :: S => if n < 0 ∨ 1000000 < n.toNatClampNeg then none else (match t with
      | .int => some (pc + 2, L, .ref st.2.length :: S, znwa st n.toNatClampNeg (.inl fun _ => 0))
      | .long => some (pc + 2, L, .ref st.2.length :: S, znwa st n.toNatClampNeg (.inr (.inl fun _ => 0)))
      | .double => some (pc + 2, L, .ref st.2.length :: S, znwa st n.toNatClampNeg (.inr (.inr (.inr (.inl fun _ => 0)))))
      | _ => none)
    | _ => none)
  | .anewarray idx => (match S with
    | .int n :: S => if (zoc mi = 10 ∧ idx = 7) ∨ (zoc mi = 11 ∧ idx = 2) then (if n < 0 ∨ 1000000 < n.toNatClampNeg then none else some (pc + 3, L, .ref st.2.length :: S, znwa st n.toNatClampNeg (.inr (.inr (.inr (.inr fun _ => none)))))) else none
    | _ => none)
  | .arraylength => (match S with
    | .ref a :: S => (zlen X st a).bind fun n => some (pc + 1, L, .int (Int32.ofNat n) :: S, st)
    | _ => none)
  | .iaload => (match S with
    | .int i :: .ref a :: S => if a = 1 then (zix i X.1).bind fun j => some (pc + 1, L, .int (X.2 j) :: S, st) else (match zarr st a with
      | some (n, .inl f) => (zix i n).bind fun j => some (pc + 1, L, .int (f j) :: S, st)
      | _ => none)
    | _ => none)
  | .laload => (match S with
    | .int i :: .ref a :: S => (match zarr st a with
      | some (n, .inr (.inl f)) => (zix i n).bind fun j => some (pc + 1, L, .long (f j) :: S, st)
      | _ => none)
    | _ => none)
  | .daload => (match S with
    | .int i :: .ref a :: S => (match zarr st a with
      | some (n, .inr (.inr (.inr (.inl f)))) => (zix i n).bind fun j => some (pc + 1, L, .double (f j) :: S, st)
      | _ => none)
    | _ => none)
  | .aaload => (match S with
    | .int i :: .ref a :: S => (match zarr st a with
      | some (n, .inr (.inr (.inr (.inr f)))) => (zix i n).bind fun j => some (pc + 1, L, va_rf (f j) :: S, st)
      | _ => none)
    | _ => none)
  | .iastore => (match S with
    | .int x :: .int i :: .ref a :: S => (match zarr st a with
      | some (n, .inl f) => (zix i n).bind fun j => some (pc + 1, L, S, zsta st a (n, .inl (upd f j x)))
      | _ => none)
    | _ => none)
  | .lastore => (match S with
    | .long x :: .int i :: .ref a :: S => (match zarr st a with
      | some (n, .inr (.inl f)) => (zix i n).bind fun j => some (pc + 1, L, S, zsta st a (n, .inr (.inl (vp_updL f j x))))
      | _ => none)
    | _ => none)
  | .dastore => (match S with
    | .double x :: .int i :: .ref a :: S => (match zarr st a with
      | some (n, .inr (.inr (.inr (.inl f)))) => (zix i n).bind fun j => some (pc + 1, L, S, zsta st a (n, .inr (.inr (.inr (.inl (vf_upd f j x))))))
      | _ => none)
    | _ => none)
  | .aastore => (match S with
    | .ref x :: .int i :: .ref a :: S => (match zarr st a with
      | some (n, .inr (.inr (.inr (.inr f)))) => if zob st x = true then (zix i n).bind fun j => some (pc + 1, L, S, zsta st a (n, .inr (.inr (.inr (.inr (va_up f j (some x))))))) else none
      | _ => none)
    | .null :: .int i :: .ref a :: S => (match zarr st a with
      | some (n, .inr (.inr (.inr (.inr f)))) => (zix i n).bind fun j => some (pc + 1, L, S, zsta st a (n, .inr (.inr (.inr (.inr (va_up f j none))))))
      | _ => none)
    | _ => none)
  | .checkcast idx => (match S with
    | .ref a :: S => (zKL.lookup (zoc mi, idx)).bind fun ci => if zis st a ci = true then some (pc + 3, L, .ref a :: S, st) else none
    | .null :: S => some (pc + 3, L, .null :: S, st)
    | _ => none)
  | .invokespecial idx => (match S with
    | .ref _ :: S => if zOI.contains (zoc mi, idx) = true ∧ S.length ≤ 4 then some (pc + 3, L, S, st) else none
    | _ => none)
  | .invokestatic idx => if zoc mi = 2 ∧ idx = 19 then zcpyi pc L S st else if zoc mi = 11 ∧ idx = 150 then zcpyr pc L S st else (match S with
    | .int y :: .int x :: S => (zXX.lookup (zoc mi, idx)).bind fun b => if S.length ≤ 4 then some (pc + 3, L, .int (if b = true then (if x < y then y else x) else (if y < x then y else x)) :: S, st) else none
    | _ => none)
  | .invokevirtual idx => (match S with
    | .ref a :: S => if zoc mi = 11 ∧ idx = 86 ∧ S.length ≤ 4 then (match zarr st a with
      | some (_, .inr (.inr (.inr (.inr _)))) => some (pc + 3, L, .ref 2 :: S, st)
      | _ => none) else none
    | _ => none)
  | _ => none
/-- a throw of a new exception with a text, from its 'new' on -/
def zthr (mi ik pc : Nat) : Option String := match decode (zby mi) (pc + 3), decode (zby mi) (pc + 4), decode (zby mi) (pc + 6), decode (zby mi) (pc + 9) with
  | .ok (.dup, 1), .ok (.ldc it, 2), .ok (.invokespecial ic, 3), .ok (.athrow, 1) => zXL.lookup (zoc mi, ik, it, ic)
  | _, _, _, _ => none
def zfin (d mi : Nat) (i : Instr) (pc : Nat) (S : List Value) (st : ZS) : Option ZR :=
  match i with
  | .return_ => (match S, zrt mi with
    | [], none => some (.inl none, st)
    | _, _ => none)
  | .ireturn => (match S, zrt mi with
    | [.int v], some .int => some (.inl (some (.int v)), st)
    | [.int v], some .boolean => if v &&& 1 = v then some (.inl (some (.int v)), st) else none
    | _, _ => none)
  | .freturn => (match S, zrt mi with
    | [.float v], some .float => some (.inl (some (.float v)), st)
    | _, _ => none)
  | .dreturn => (match S, zrt mi with
    | [.double v], some .double => some (.inl (some (.double v)), st)
    | _, _ => none)
  | .areturn => (match S, zrt mi with
    | [.ref v], some (.object _) => some (.inl (some (.ref v)), st)
    | [.ref v], some (.array _) => some (.inl (some (.ref v)), st)
    | [.null], some (.object _) => some (.inl (some .null), st)
    | [.null], some (.array _) => some (.inl (some .null), st)
    | _, _ => none)
  | .new ik => if zhh mi = [] ∧ (5 ≤ d ∧ S.length ≤ 4) then (zthr mi ik pc).bind fun E => some (.inr E, (st.1 + 7, st.2)) else none
  | _ => none
/-- where a thrown exception goes on: (method, place of the call, class), (place of the handler, its cell of the locals, the place behind that store) -/
def zhnd (mi pc : Nat) (E : String) : Option (Nat × Nat × Nat) := ((zhh mi).find? fun h => decide (h.1 ≤ pc) && (decide (pc < h.2.1) && decide (zcn h.2.2.2 = E))).bind fun h => match decode (zby mi) h.2.2.1 with
  | .ok (.astore_n k, 1) => some (h.2.2.1, k, h.2.2.1 + 1)
  | .ok (.astore k, 2) => some (h.2.2.1, k, h.2.2.1 + 2)
  | _ => none
def zcal (mi : Nat) (i : Instr) (S : List Value) (st : ZS) : Option (Nat × List Value × List Value) :=
  match i with
  | .invokevirtual idx => (match zCL.lookup (zoc mi, idx) with
    | some (0, y) => (match S.drop (znp y) with
      | .ref a :: S2 => if zis st a (zvi (zoc y)) = true ∧ S2.length ≤ 4 then some (y, .ref a :: (S.take (znp y)).reverse, S2) else none
      | _ => none)
    | _ => none)
  | .invokespecial idx => (match zCL.lookup (zoc mi, idx) with
    | some (2, y) => (match S.drop (znp y) with
      | .ref a :: S2 => if S2.length ≤ 4 then some (y, .ref a :: (S.take (znp y)).reverse, S2) else none
      | _ => none)
    | some (3, y) => (match S.drop (znp y) with
      | .ref a :: S2 => if S2.length ≤ 4 then some (y, .ref a :: (S.take (znp y)).reverse, S2) else none
      | _ => none)
    | _ => none)
  | .invokestatic idx => (match zCL.lookup (zoc mi, idx) with
    | some (1, y) => if znp y ≤ S.length ∧ (S.drop (znp y)).length ≤ 4 then some (y, (S.take (znp y)).reverse, S.drop (znp y)) else none
    | _ => none)
  | _ => none
/-- a method's run from a place on -/
def arun (X : ZX) (d : Nat) (call : Nat → List Value → ZS → Option ZR) (mi : Nat) : Nat → Nat → List Value → List Value → ZS → Option ZR
  | 0, _, _, _, _ => none
  | k + 1, pc, L, S, st =>
    match decode (zby mi) pc with
    | .error _ => none
    | .ok il => if zlok il.1 il.2 = false then none else
      match zstep X mi il.1 pc L S st with
      | some q => arun X d call mi k q.1 q.2.1 q.2.2.1 q.2.2.2
      | none => match zfin d mi il.1 pc S st with
        | some r => some r
        | none => match zcal mi il.1 S st with
          | none => none
          | some c => match call c.1 c.2.1 st with
            | none => none
            | some (.inl v, st') => arun X d call mi k (pc + 3) L (v.toList ++ c.2.2) st'
            | some (.inr E, st') => match zhnd mi pc E with
              | some h => if h.2.1 < L.length then arun X d call mi k h.2.2 (L.set h.2.1 zjk) [] st' else none
              | none => if zhh mi = [] then some (.inr E, st') else none
def zini (y : Nat) (args : List Value) : List Value := args ++ List.replicate (zml y - args.length) zjk
/-- a call, with d calls open at most below it -/
def acall (X : ZX) (n : Nat) : Nat → Nat → List Value → ZS → Option ZR
  | 0, _, _, _ => none
  | d + 1, y, args, st => if (args.length ≤ zml y ∧ zml y ≤ 12) ∧ args.all zc1 = true then arun X d (acall X n d) y n 0 (zini y args) [] st else none
def AW (X : ZX) (d mi pc : Nat) (L S : List Value) (st : ZS) (P : ZO → ZS → Prop) : Prop := ∃ (n k : Nat) (r : ZR), arun X d (acall X n d) mi k pc L S st = some r ∧ P r.1 r.2
def AC (X : ZX) (d y : Nat) (args : List Value) (st : ZS) (P : ZO → ZS → Prop) : Prop := ∃ (n : Nat) (r : ZR), acall X n d y args st = some r ∧ P r.1 r.2
end
section
/-! RUNS: more fuel changes nothing; the equations of AW and AC, a kind of instruction each -/
def abod (X : ZX) (d : Nat) (call : Nat → List Value → ZS → Option ZR) (mi : Nat) (rc : Nat → List Value → List Value → ZS → Option ZR) (pc : Nat) (L S : List Value) (st : ZS) : Option ZR :=
    match decode (zby mi) pc with
    | .error _ => none
    | .ok il => if zlok il.1 il.2 = false then none else
      match zstep X mi il.1 pc L S st with
      | some q => rc q.1 q.2.1 q.2.2.1 q.2.2.2
      | none => match zfin d mi il.1 pc S st with
        | some r => some r
        | none => match zcal mi il.1 S st with
          | none => none
          | some c => match call c.1 c.2.1 st with
            | none => none
            | some (.inl v, st') => rc (pc + 3) L (v.toList ++ c.2.2) st'
            | some (.inr E, st') => match zhnd mi pc E with
              | some h => if h.2.1 < L.length then rc h.2.2 (L.set h.2.1 zjk) [] st' else none
              | none => if zhh mi = [] then some (.inr E, st') else none
theorem arun_s (X : ZX) (d : Nat) (call : Nat → List Value → ZS → Option ZR) (mi k pc : Nat) (L S : List Value) (st : ZS) : arun X d call mi (k + 1) pc L S st = abod X d call mi (arun X d call mi k) pc L S st := rfl
theorem abod_mono {X : ZX} {d : Nat} {c1 c2 : Nat → List Value → ZS → Option ZR} {mi : Nat} {r1 r2 : Nat → List Value → List Value → ZS → Option ZR} (hc : ∀ y a s r, c1 y a s = some r → c2 y a s = some r) (hr : ∀ pc L S st r, r1 pc L S st = some r → r2 pc L S st = some r) {pc : Nat} {L S : List Value} {st : ZS} {r : ZR} (h : abod X d c1 mi r1 pc L S st = some r) : abod X d c2 mi r2 pc L S st = some r := by
  unfold abod at h ⊢
  cases hd : decode (zby mi) pc with
  | error e => rw [hd] at h; cases h
  | ok il =>
    rw [hd] at h
    dsimp only at h ⊢
    by_cases hl : zlok il.1 il.2 = false
    · rw [if_pos hl] at h; cases h
    · rw [if_neg hl] at h ⊢
      cases hs : zstep X mi il.1 pc L S st with
      | some q => rw [hs] at h; exact hr _ _ _ _ _ h
      | none =>
        rw [hs] at h
        dsimp only at h ⊢
        cases hf : zfin d mi il.1 pc S st with
        | some q => rw [hf] at h; exact h
        | none =>
          rw [hf] at h
          dsimp only at h ⊢
          cases hz : zcal mi il.1 S st with
          | none => rw [hz] at h; cases h
          | some c =>
            rw [hz] at h
            dsimp only at h ⊢
            cases hq : c1 c.1 c.2.1 st with
            | none => rw [hq] at h; cases h
            | some w =>
              rw [hq] at h
              rw [hc _ _ _ _ hq]
              obtain ⟨o, st'⟩ := w
              cases o with
              | inl v => exact hr _ _ _ _ _ h
              | inr E =>
                dsimp only at h ⊢
                cases hh : zhnd mi pc E with
                | none => rw [hh] at h; exact h
                | some g =>
                  rw [hh] at h
                  dsimp only at h ⊢
                  by_cases hg : g.2.1 < L.length
                  · rw [if_pos hg] at h ⊢; exact hr _ _ _ _ _ h
                  · rw [if_neg hg] at h; cases h
theorem arun_mono {X : ZX} {d : Nat} {c1 c2 : Nat → List Value → ZS → Option ZR} {mi : Nat} (hc : ∀ y a s r, c1 y a s = some r → c2 y a s = some r) : ∀ (k k' pc : Nat) (L S : List Value) (st : ZS) (r : ZR), k ≤ k' → arun X d c1 mi k pc L S st = some r → arun X d c2 mi k' pc L S st = some r := by
  intro k
  induction k with
  | zero => intro k' pc L S st r _ h; cases h
  | succ k ih =>
    intro k' pc L S st r hk h
    obtain ⟨k2, rfl⟩ : ∃ z, k' = z + 1 := ⟨k' - 1, by omega⟩
    rw [arun_s] at h ⊢
    exact abod_mono hc (fun pc L S st r h => ih k2 pc L S st r (by omega) h) h
theorem acall_mono {X : ZX} {n n' : Nat} (hn : n ≤ n') : ∀ (d y : Nat) (a : List Value) (s : ZS) (r : ZR), acall X n d y a s = some r → acall X n' d y a s = some r := by
  intro d
  induction d with
  | zero => intro y a s r h; cases h
  | succ d ih =>
    intro y a s r h
    unfold acall at h ⊢
    by_cases c : (a.length ≤ zml y ∧ zml y ≤ 12) ∧ a.all zc1 = true
    · rw [if_pos c] at h ⊢
      exact arun_mono ih n n' 0 _ _ _ _ hn h
    · rw [if_neg c] at h; cases h
def zwith {α : Type} (o : Option α) (f : α → Prop) : Prop := match o with
  | none => False
  | some v => f v
theorem zwith_some {α : Type} (v : α) (f : α → Prop) : zwith (some v) f = f v := rfl
theorem zwith_none {α : Type} (f : α → Prop) : zwith none f = False := rfl
def zif (b : Prop) (p : Prop) : Prop := b ∧ p
theorem zif_true (p : Prop) : zif True p = p := propext ⟨fun h => h.2, fun h => ⟨trivial, h⟩⟩
theorem zif_of {b p : Prop} (hb : b) : zif b p = p := propext ⟨fun h => h.2, fun h => ⟨hb, h⟩⟩
section ZAW
variable {X : ZX} {d mi pc len : Nat} {i : Instr} {L S : List Value} {st : ZS} {P Q : ZO → ZS → Prop}
theorem zAW_step {q : ZQ} (hd : decode (zby mi) pc = .ok (i, len)) (hl : zlok i len = true) (hs : zstep X mi i pc L S st = some q) : AW X d mi pc L S st P = AW X d mi q.1 q.2.1 q.2.2.1 q.2.2.2 P := by
  have e : ∀ n k, arun X d (acall X n d) mi (k + 1) pc L S st = arun X d (acall X n d) mi k q.1 q.2.1 q.2.2.1 q.2.2.2 := by
    intro n k
    rw [arun_s]
    unfold abod
    rw [hd]
    dsimp only
    rw [if_neg (by rw [hl]; decide), hs]
  refine propext ⟨?_, ?_⟩
  · rintro ⟨n, k, r, h, hp⟩
    cases k with
    | zero => cases h
    | succ k => exact ⟨n, k, r, by rw [← e]; exact h, hp⟩
  · rintro ⟨n, k, r, h, hp⟩
    exact ⟨n, k + 1, r, by rw [e]; exact h, hp⟩
theorem zAW_ret {w : ZR} (hd : decode (zby mi) pc = .ok (i, len)) (hl : zlok i len = true) (hs : zstep X mi i pc L S st = none) (hf : zfin d mi i pc S st = some w) : AW X d mi pc L S st P = P w.1 w.2 := by
  have e : ∀ n k, arun X d (acall X n d) mi (k + 1) pc L S st = some w := by
    intro n k
    rw [arun_s]
    unfold abod
    rw [hd]
    dsimp only
    rw [if_neg (by rw [hl]; decide), hs, hf]
  refine propext ⟨?_, ?_⟩
  · rintro ⟨n, k, r, h, hp⟩
    cases k with
    | zero => cases h
    | succ k => rw [e] at h; cases h; exact hp
  · intro hp
    exact ⟨0, 1, w, e 0 0, hp⟩
theorem zAW_stuck (hd : decode (zby mi) pc = .ok (i, len)) (hs : zstep X mi i pc L S st = none) (hf : zfin d mi i pc S st = none) (hc : zcal mi i S st = none) : AW X d mi pc L S st P = False := by
  refine propext ⟨?_, fun h => h.elim⟩
  rintro ⟨n, k, r, h, hp⟩
  cases k with
  | zero => cases h
  | succ k =>
    rw [arun_s] at h
    unfold abod at h
    rw [hd] at h
    dsimp only at h
    by_cases hl : zlok i len = false
    · rw [if_pos hl] at h; cases h
    · rw [if_neg hl, hs, hf, hc] at h; cases h
theorem zAW_opt {α : Type} {o : Option α} {f : α → ZQ} (hd : decode (zby mi) pc = .ok (i, len)) (hl : zlok i len = true) (hs : zstep X mi i pc L S st = o.bind fun v => some (f v)) (hf : zfin d mi i pc S st = none) (hc : zcal mi i S st = none) : AW X d mi pc L S st P = zwith o fun v => AW X d mi (f v).1 (f v).2.1 (f v).2.2.1 (f v).2.2.2 P := by
  cases o with
  | none => rw [zAW_stuck hd hs hf hc]; rfl
  | some v => rw [zAW_step hd hl hs]; rfl
theorem zAW_if {c : Prop} [Decidable c] {q : ZQ} (hd : decode (zby mi) pc = .ok (i, len)) (hl : zlok i len = true) (hs : zstep X mi i pc L S st = if c then some q else none) (hf : zfin d mi i pc S st = none) (hc : zcal mi i S st = none) : AW X d mi pc L S st P = zif c (AW X d mi q.1 q.2.1 q.2.2.1 q.2.2.2 P) := by
  by_cases h : c
  · rw [if_pos h] at hs
    rw [zAW_step hd hl hs, zif_of h]
  · rw [if_neg h] at hs
    rw [zAW_stuck hd hs hf hc]
    exact propext ⟨fun z => z.elim, fun z => absurd z.1 h⟩
theorem zAW_br {c : Prop} [Decidable c] {b : Bool} {t : Nat} {L1 S1 : List Value} (hd : decode (zby mi) pc = .ok (i, len)) (hl : zlok i len = true) (hb : b = decide c) (hs : zstep X mi i pc L S st = some (if b = true then t else pc + 3, L1, S1, st)) : AW X d mi pc L S st P = if c then AW X d mi t L1 S1 st P else AW X d mi (pc + 3) L1 S1 st P := by
  subst hb
  rw [zAW_step hd hl hs]
  by_cases h : c
  · simp only [h, decide_true, if_true]
  · simp only [h, decide_false, if_false, Bool.false_eq_true]
def zaft (X : ZX) (d mi pc : Nat) (L S : List Value) (P : ZO → ZS → Prop) : ZO → ZS → Prop := fun o st' => match o with
  | .inl v => AW X d mi (pc + 3) L (v.toList ++ S) st' P
  | .inr E => match zhnd mi pc E with
    | some h => h.2.1 < L.length ∧ AW X d mi h.2.2 (L.set h.2.1 zjk) [] st' P
    | none => zhh mi = [] ∧ P (.inr E) st'
theorem zAW_call {c : Nat × List Value × List Value} (hd : decode (zby mi) pc = .ok (i, len)) (hl : zlok i len = true) (hs : zstep X mi i pc L S st = none) (hf : zfin d mi i pc S st = none) (hc : zcal mi i S st = some c) : AW X d mi pc L S st P = AC X d c.1 c.2.1 st (zaft X d mi pc L c.2.2 P) := by
  have e : ∀ n k, arun X d (acall X n d) mi (k + 1) pc L S st = match acall X n d c.1 c.2.1 st with
      | none => none
      | some (.inl v, st') => arun X d (acall X n d) mi k (pc + 3) L (v.toList ++ c.2.2) st'
      | some (.inr E, st') => match zhnd mi pc E with
        | some h => if h.2.1 < L.length then arun X d (acall X n d) mi k h.2.2 (L.set h.2.1 zjk) [] st' else none
        | none => if zhh mi = [] then some (.inr E, st') else none := by
    intro n k
    rw [arun_s]
    unfold abod
    rw [hd]
    dsimp only
    rw [if_neg (by rw [hl]; decide), hs, hf, hc]
  refine propext ⟨?_, ?_⟩
  · rintro ⟨n, k, r, h, hp⟩
    cases k with
    | zero => cases h
    | succ k =>
      rw [e] at h
      cases hq : acall X n d c.1 c.2.1 st with
      | none => rw [hq] at h; cases h
      | some w =>
        rw [hq] at h
        refine ⟨n, w, hq, ?_⟩
        obtain ⟨o, st'⟩ := w
        cases o with
        | inl v => exact ⟨n, k, r, h, hp⟩
        | inr E =>
          unfold zaft
          dsimp only at h ⊢
          cases hh : zhnd mi pc E with
          | none =>
            rw [hh] at h
            dsimp only at h ⊢
            by_cases hz : zhh mi = []
            · rw [if_pos hz] at h; cases h; exact ⟨hz, hp⟩
            · rw [if_neg hz] at h; cases h
          | some g =>
            rw [hh] at h
            dsimp only at h ⊢
            by_cases hg : g.2.1 < L.length
            · rw [if_pos hg] at h; exact ⟨hg, n, k, r, h, hp⟩
            · rw [if_neg hg] at h; cases h
  · rintro ⟨n, w, hq, hw⟩
    obtain ⟨o, st'⟩ := w
    cases o with
    | inl v =>
      obtain ⟨n2, k, r, h, hp⟩ := hw
      refine ⟨max n n2, k + 1, r, ?_, hp⟩
      rw [e, acall_mono (Nat.le_max_left n n2) _ _ _ _ _ hq]
      exact arun_mono (fun y a s r h => acall_mono (Nat.le_max_right n n2) _ _ _ _ _ h) k k _ _ _ _ _ (Nat.le_refl k) h
    | inr E =>
      unfold zaft at hw
      dsimp only at hw
      cases hh : zhnd mi pc E with
      | none =>
        rw [hh] at hw
        refine ⟨n, 1, (.inr E, st'), ?_, hw.2⟩
        rw [e, hq]
        dsimp only
        rw [hh]
        dsimp only
        rw [if_pos hw.1]
      | some g =>
        rw [hh] at hw
        obtain ⟨hg, n2, k, r, h, hp⟩ := hw
        refine ⟨max n n2, k + 1, r, ?_, hp⟩
        rw [e, acall_mono (Nat.le_max_left n n2) _ _ _ _ _ hq]
        dsimp only
        rw [hh]
        dsimp only
        rw [if_pos hg]
        exact arun_mono (fun y a s r h => acall_mono (Nat.le_max_right n n2) _ _ _ _ _ h) k k _ _ _ _ _ (Nat.le_refl k) h
theorem zAW_callif {c : Prop} [Decidable c] {w : Nat × List Value × List Value} (hd : decode (zby mi) pc = .ok (i, len)) (hl : zlok i len = true) (hs : zstep X mi i pc L S st = none) (hf : zfin d mi i pc S st = none) (hc : zcal mi i S st = if c then some w else none) : AW X d mi pc L S st P = zif c (AC X d w.1 w.2.1 st (zaft X d mi pc L w.2.2 P)) := by
  by_cases h : c
  · rw [if_pos h] at hc
    rw [zAW_call hd hl hs hf hc, zif_of h]
  · rw [if_neg h] at hc
    rw [zAW_stuck hd hs hf hc]
    exact propext ⟨fun z => z.elim, fun z => absurd z.1 h⟩
theorem AC_eq {y : Nat} {args : List Value} (h : (args.length ≤ zml y ∧ zml y ≤ 12) ∧ args.all zc1 = true) : AC X (d + 1) y args st P = AW X d y 0 (zini y args) [] st P := by
  have e : ∀ n, acall X n (d + 1) y args st = arun X d (acall X n d) y n 0 (zini y args) [] st := fun n => by
    show (if _ then _ else _) = _
    rw [if_pos h]
  refine propext ⟨?_, ?_⟩
  · rintro ⟨n, r, hq, hp⟩
    exact ⟨n, n, r, by rw [← e]; exact hq, hp⟩
  · rintro ⟨n, k, r, hq, hp⟩
    refine ⟨max n k, r, ?_, hp⟩
    rw [e]
    exact arun_mono (fun y a s r h => acall_mono (Nat.le_max_left n k) _ _ _ _ _ h) k _ _ _ _ _ _ (Nat.le_max_right n k) hq
theorem AW_imp (h : AW X d mi pc L S st P) (hpq : ∀ o s, P o s → Q o s) : AW X d mi pc L S st Q := by
  obtain ⟨n, k, r, a, b⟩ := h
  exact ⟨n, k, r, a, hpq _ _ b⟩
theorem AC_imp {y : Nat} {args : List Value} (h : AC X d y args st P) (hpq : ∀ o s, P o s → Q o s) : AC X d y args st Q := by
  obtain ⟨n, r, a, b⟩ := h
  exact ⟨n, r, a, hpq _ _ b⟩
end ZAW
end
section
/-! WHAT THE REAL HEAP HOLDS of an abstract one -/
def zcv (ad : Nat → Nat) (v : Value) : Value := match v with
  | .ref k => .ref (ad k)
  | v => v
def zce (tc : Nat → ClassId) (ad : Nat → Nat) (c : ZC) : va_E := match c with
  | .inl (n, .inl f) => .inl (tc 0, n, .inl f)
  | .inl (n, .inr (.inl f)) => .inl (tc 1, n, .inr (.inl f))
  | .inl (n, .inr (.inr (.inl f))) => .inl (tc 4, n, .inr (.inr (.inl f)))
  | .inl (n, .inr (.inr (.inr (.inl f)))) => .inl (tc 2, n, .inr (.inr (.inr (.inl f))))
  | .inl (n, .inr (.inr (.inr (.inr f)))) => .inl (tc 3, n, .inr (.inr (.inr (.inr fun i => (f i).map ad))))
  | .inr (c, fs) => .inr (c, fs.map (zcv ad))
def zws (tc : Nat → ClassId) (ad : Nat → Nat) (h : List ZC) : va_W := (h.drop 3).mapIdx fun k c => (ad (k + 3), zce tc ad c)
def zvok (n : Nat) (v : Value) : Prop := ∀ k : Nat, v = .ref k → k < n
def zcok (n : Nat) (c : ZC) : Prop := match c with
  | .inl (_, .inr (.inr (.inr (.inr f)))) => ∀ i k : Nat, f i = some k → k < n
  | .inl (_, .inr (.inr (.inl _))) => False
  | .inl _ => True
  | .inr o => ∀ v ∈ o.2, zvok n v
def zhok (h : List ZC) : Prop := ∀ c ∈ h, zcok h.length c
def zspc (h : List ZC) : Prop := 3 ≤ h.length ∧ ∀ a, a < 3 → h[a]? = some (.inr (999, []))
theorem zws_at {tc : Nat → ClassId} {ad : Nat → Nat} {h : List ZC} {a : Nat} {c : ZC} (ha : 3 ≤ a) (hc : h[a]? = some c) : (zws tc ad h)[a - 3]? = some (ad a, zce tc ad c) := by
  unfold zws
  rw [List.getElem?_mapIdx, List.getElem?_drop, show 3 + (a - 3) = a by omega, hc, show a - 3 + 3 = a by omega]
  rfl
theorem zws_of {tc : Nat → ClassId} {ad : Nat → Nat} {h : List ZC} {k : Nat} {q : Nat × va_E} (hq : (zws tc ad h)[k]? = some q) : ∃ c, h[k + 3]? = some c ∧ q = (ad (k + 3), zce tc ad c) := by
  unfold zws at hq
  rw [List.getElem?_mapIdx, List.getElem?_drop, show 3 + k = k + 3 by omega] at hq
  cases hc : h[k + 3]? with
  | none => rw [hc] at hq; cases hq
  | some c => rw [hc] at hq; exact ⟨c, rfl, (Option.some.inj hq).symm⟩
theorem zws_set {tc : Nat → ClassId} {ad : Nat → Nat} {h : List ZC} {a : Nat} (c : ZC) (ha : 3 ≤ a) (hl : a < h.length) : zws tc ad (h.set a c) = (zws tc ad h).set (a - 3) (ad a, zce tc ad c) := by
  refine List.ext_getElem? fun k => ?_
  have e1 : (zws tc ad (h.set a c))[k]? = ((h.set a c)[k + 3]?).map fun c => (ad (k + 3), zce tc ad c) := by
    unfold zws
    rw [List.getElem?_mapIdx, List.getElem?_drop, show 3 + k = k + 3 by omega]
  have e2 : (zws tc ad h)[k]? = (h[k + 3]?).map fun c => (ad (k + 3), zce tc ad c) := by
    unfold zws
    rw [List.getElem?_mapIdx, List.getElem?_drop, show 3 + k = k + 3 by omega]
  have el : (zws tc ad h).length = h.length - 3 := by simp [zws]
  rw [e1, List.getElem?_set, List.getElem?_set]
  by_cases hk : a = k + 3
  · subst hk
    rw [if_pos rfl, if_pos hl, if_pos (by omega), if_pos (by omega)]
    rfl
  · rw [if_neg hk, if_neg (by omega), e2]
theorem zws_push {tc : Nat → ClassId} {ad : Nat → Nat} {h : List ZC} (c : ZC) (hl : 3 ≤ h.length) : zws tc ad (h ++ [c]) = zws tc ad h ++ [(ad h.length, zce tc ad c)] := by
  unfold zws
  rw [List.drop_append_of_le_length hl, List.mapIdx_append]
  simp only [List.length_drop, List.mapIdx_cons, List.mapIdx_nil, Nat.zero_add]
  rw [show h.length - 3 + 3 = h.length by omega]
theorem zcv_ad {ad ad' : Nat → Nat} {n : Nat} {v : Value} (hv : zvok n v) (h : ∀ k, k < n → ad' k = ad k) : zcv ad' v = zcv ad v := by
  cases v with
  | ref k => simp only [zcv, h k (hv k rfl)]
  | _ => rfl
theorem zce_ad {tc : Nat → ClassId} {ad ad' : Nat → Nat} {n : Nat} {c : ZC} (hc : zcok n c) (h : ∀ k, k < n → ad' k = ad k) : zce tc ad' c = zce tc ad c := by
  match c, hc with
  | .inl (n, .inl f), _ => rfl
  | .inl (n, .inr (.inl f)), _ => rfl
  | .inl (n, .inr (.inr (.inl f))), _ => rfl
  | .inl (n, .inr (.inr (.inr (.inl f)))), _ => rfl
  | .inl (n, .inr (.inr (.inr (.inr f)))), hc =>
    simp only [zce]
    have e : (fun i => (f i).map ad') = fun i => (f i).map ad := by
      funext i
      cases hi : f i with
      | none => rfl
      | some k => simp only [Option.map_some, h k (hc i k hi)]
    rw [e]
  | .inr (c, fs), hc =>
    simp only [zce]
    rw [List.map_congr_left fun v hv => zcv_ad (hc v hv) h]
theorem zws_ad {tc : Nat → ClassId} {ad ad' : Nat → Nat} {h : List ZC} (hc : zhok h) (he : ∀ k, k < h.length → ad' k = ad k) : zws tc ad' h = zws tc ad h := by
  refine List.ext_getElem? fun k => ?_
  unfold zws
  rw [List.getElem?_mapIdx, List.getElem?_mapIdx]
  cases hk : (h.drop 3)[k]? with
  | none => rfl
  | some c =>
    rw [List.getElem?_drop] at hk
    have hl : 3 + k < h.length := (List.getElem?_eq_some_iff.mp hk).1
    simp only [Option.map_some]
    rw [he (k + 3) (by omega), zce_ad (hc c (List.mem_of_getElem? hk)) he]
theorem zvok_mono {n n' : Nat} {v : Value} (h : zvok n v) (hn : n ≤ n') : zvok n' v := fun k e => Nat.lt_of_lt_of_le (h k e) hn
theorem zcok_mono {n n' : Nat} {c : ZC} (h : zcok n c) (hn : n ≤ n') : zcok n' c := by
  match c, h with
  | .inl (n, .inl f), _ => trivial
  | .inl (n, .inr (.inl f)), _ => trivial
  | .inl (n, .inr (.inr (.inl f))), h => exact h
  | .inl (n, .inr (.inr (.inr (.inl f)))), _ => trivial
  | .inl (n, .inr (.inr (.inr (.inr f)))), h => exact fun i k e => Nat.lt_of_lt_of_le (h i k e) hn
  | .inr o, h => exact fun v hv => zvok_mono (h v hv) hn
theorem zhok_set {h : List ZC} {a : Nat} {c : ZC} (hh : zhok h) (hc : zcok h.length c) : zhok (h.set a c) := by
  intro x hx
  rw [List.length_set]
  rcases List.mem_or_eq_of_mem_set hx with q | q
  · exact hh x q
  · rw [q]; exact hc
theorem zhok_push {h : List ZC} {c : ZC} (hh : zhok h) (hc : zcok (h.length + 1) c) : zhok (h ++ [c]) := by
  intro x hx
  rw [List.length_append]
  rcases List.mem_append.mp hx with q | q
  · exact zcok_mono (hh x q) (Nat.le_add_right _ _)
  · rw [List.mem_singleton.mp q]; exact hc
theorem zspc_set {h : List ZC} {a : Nat} {c : ZC} (hh : zspc h) (ha : 3 ≤ a) : zspc (h.set a c) := by
  refine ⟨by rw [List.length_set]; exact hh.1, fun k hk => ?_⟩
  rw [List.getElem?_set_ne (by omega)]
  exact hh.2 k hk
theorem zspc_push {h : List ZC} {c : ZC} (hh : zspc h) : zspc (h ++ [c]) := by
  refine ⟨by rw [List.length_append]; exact Nat.le_trans hh.1 (Nat.le_add_right _ _), fun k hk => ?_⟩
  rw [List.getElem?_append_left (Nat.lt_of_lt_of_le hk hh.1)]
  exact hh.2 k hk
/-! locals -/
def zvalB (L : List Value) (i : Nat) (v : Value) : Bool := match v with
  | .retAddr _ => false
  | .long _ => decide (L[i + 1]? = some (.retAddr 1))
  | .double _ => decide (L[i + 1]? = some (.retAddr 1))
  | _ => true
def zlv (ad : Nat → Nat) (L : List Value) : List (Nat × Value) := (List.range L.length).filterMap fun i => match L[i]? with
  | some v => if zvalB L i v = true then some (i, zcv ad v) else none
  | none => none
theorem zlv_mem {ad : Nat → Nat} {L : List Value} {q : Nat × Value} : q ∈ zlv ad L ↔ ∃ v, L[q.1]? = some v ∧ zvalB L q.1 v = true ∧ q.2 = zcv ad v := by
  unfold zlv
  rw [List.mem_filterMap]
  refine ⟨?_, ?_⟩
  · rintro ⟨i, hi, h⟩
    cases hv : L[i]? with
    | none => rw [hv] at h; cases h
    | some v =>
      rw [hv] at h
      dsimp only at h
      by_cases c : zvalB L i v = true
      · rw [if_pos c] at h
        have e := Option.some.inj h
        subst e
        exact ⟨v, hv, c, rfl⟩
      · rw [if_neg c] at h; cases h
  · rintro ⟨v, h1, h2, h3⟩
    refine ⟨q.1, List.mem_range.mpr (List.getElem?_eq_some_iff.mp h1).1, ?_⟩
    rw [h1]
    dsimp only
    rw [if_pos h2, ← h3]
def ZL (ad : Nat → Nat) (nL : Nat) (L : List Value) (ls : Array Slot) : Prop := L.length = nL ∧ lv_has ls nL (zlv ad L)
theorem ZL.at {ad : Nat → Nat} {nL : Nat} {L : List Value} {ls : Array Slot} (h : ZL ad nL L ls) {i : Nat} {v : Value} (hv : L[i]? = some v) (hz : zvalB L i v = true) : ls[i]? = some (.val (zcv ad v)) :=
  h.2.2.2 (i, zcv ad v) (zlv_mem.mpr ⟨v, hv, hz, rfl⟩)
theorem zcv_cat {ad : Nat → Nat} {v : Value} : (zcv ad v).category = v.category := by cases v <;> rfl
theorem ZL.st1 {ad : Nat → Nat} {nL : Nat} {L : List Value} {ls ls' : Array Slot} {i : Nat} {v w : Value} (h : ZL ad nL L ls) (hw : w = zcv ad v) (hc : ∀ k, v ≠ .retAddr k) (hi : i < nL) (hl : lv_has ls' nL ((i, w) :: (zlv ad L).filter (fun q => !(q.1 == i) && !(q.1 + 1 == i && q.2.category == 2)))) : ZL ad nL (L.set i v) ls' := by
  refine ⟨by rw [List.length_set]; exact h.1, hl.1, hl.2.1, ?_⟩
  rintro ⟨j, x⟩ hq
  obtain ⟨y, h1, h2, h3⟩ := zlv_mem.mp hq
  dsimp only at h1 h2 h3
  refine hl.2.2 (j, x) ?_
  by_cases e : i = j
  · subst e
    rw [List.getElem?_set_self (by rw [h.1]; exact hi)] at h1
    cases h1
    rw [h3, ← hw]
    exact List.mem_cons_self
  · rw [List.getElem?_set_ne e] at h1
    refine List.mem_cons_of_mem _ (List.mem_filter.mpr ⟨zlv_mem.mpr ⟨y, h1, ?_, h3⟩, ?_⟩)
    · have hk : (L.set i v)[j + 1]? = some (.retAddr 1) → L[j + 1]? = some (.retAddr 1) := by
        intro z
        by_cases e2 : i = j + 1
        · subst e2
          rw [List.getElem?_set_self (by rw [h.1]; exact hi)] at z
          exact absurd (Option.some.inj z) (hc 1)
        · rw [List.getElem?_set_ne e2] at z; exact z
      cases y <;> simp_all [zvalB]
    · have hne : ¬ j = i := fun z => e z.symm
      by_cases e2 : j + 1 = i
      · have : y.category ≠ 2 := by
          intro c2
          have hz : (L.set i v)[j + 1]? = some (.retAddr 1) := by
            cases y <;> simp_all [zvalB, Value.category]
          rw [← e2, List.getElem?_set_self (by rw [h.1, e2]; exact hi)] at hz
          exact hc 1 (Option.some.inj hz)
        have : x.category ≠ 2 := by rw [h3, zcv_cat]; exact this
        simp [hne, this]
      · simp [hne, e2]
theorem ZL.st2 {ad : Nat → Nat} {nL : Nat} {L : List Value} {ls ls' : Array Slot} {i : Nat} {v w : Value} (h : ZL ad nL L ls) (hw : w = zcv ad v) (hc : ∀ k, v ≠ .retAddr k) (hi : i + 1 < nL) (hl : lv_has ls' nL ((i, w) :: (zlv ad L).filter (fun q => !(q.1 == i) && (!(q.1 == i + 1) && !(q.1 + 1 == i && q.2.category == 2))))) : ZL ad nL ((L.set i v).set (i + 1) (.retAddr 1)) ls' := by
  refine ⟨by rw [List.length_set, List.length_set]; exact h.1, hl.1, hl.2.1, ?_⟩
  rintro ⟨j, x⟩ hq
  obtain ⟨y, h1, h2, h3⟩ := zlv_mem.mp hq
  dsimp only at h1 h2 h3
  refine hl.2.2 (j, x) ?_
  have hn : ¬ i + 1 = j := by
    intro e
    subst e
    rw [List.getElem?_set_self (by rw [List.length_set, h.1]; exact hi)] at h1
    cases h1
    simp [zvalB] at h2
  rw [List.getElem?_set_ne hn] at h1
  by_cases e : i = j
  · subst e
    rw [List.getElem?_set_self (by rw [h.1]; omega)] at h1
    cases h1
    rw [h3, ← hw]
    exact List.mem_cons_self
  · rw [List.getElem?_set_ne e] at h1
    refine List.mem_cons_of_mem _ (List.mem_filter.mpr ⟨zlv_mem.mpr ⟨y, h1, ?_, h3⟩, ?_⟩)
    · have hk : ((L.set i v).set (i + 1) (.retAddr 1))[j + 1]? = some (.retAddr 1) → L[j + 1]? = some (.retAddr 1) := by
        intro z
        rw [List.getElem?_set_ne (by omega)] at z
        by_cases e2 : i = j + 1
        · subst e2
          rw [List.getElem?_set_self (by rw [h.1]; omega)] at z
          exact absurd (Option.some.inj z) (hc 1)
        · rw [List.getElem?_set_ne e2] at z; exact z
      cases y <;> simp_all [zvalB]
    · have hne : ¬ j = i := fun z => e z.symm
      have hne1 : ¬ j = i + 1 := fun z => hn z.symm
      by_cases e2 : j + 1 = i
      · have : y.category ≠ 2 := by
          intro c2
          have hz : ((L.set i v).set (i + 1) (.retAddr 1))[j + 1]? = some (.retAddr 1) := by
            cases y <;> simp_all [zvalB, Value.category]
          rw [List.getElem?_set_ne (by omega), ← e2, List.getElem?_set_self (by rw [h.1]; omega)] at hz
          exact hc 1 (Option.some.inj hz)
        have : x.category ≠ 2 := by rw [h3, zcv_cat]; exact this
        simp [hne, hne1, this]
      · simp [hne, hne1, e2]
theorem ZL.ad {ad ad' : Nat → Nat} {nL n : Nat} {L : List Value} {ls : Array Slot} (h : ZL ad nL L ls) (hv : ∀ v ∈ L, zvok n v) (he : ∀ k, k < n → ad' k = ad k) : ZL ad' nL L ls := by
  refine ⟨h.1, h.2.1, h.2.2.1, ?_⟩
  rintro ⟨j, x⟩ hq
  obtain ⟨y, h1, h2, h3⟩ := zlv_mem.mp hq
  refine h.2.2.2 (j, x) (zlv_mem.mpr ⟨y, h1, h2, ?_⟩)
  rw [h3, zcv_ad (hv y (List.mem_of_getElem? h1)) he]
/-- a cell of the locals that is no longer looked at -/
theorem ZL.junk {ad : Nat → Nat} {nL : Nat} {L : List Value} {ls ls' : Array Slot} {i : Nat} {w : Value} (h : ZL ad nL L ls) (hi : i < nL) (hl : lv_has ls' nL ((i, w) :: (zlv ad L).filter (fun q => !(q.1 == i) && !(q.1 + 1 == i && q.2.category == 2)))) : ZL ad nL (L.set i (.retAddr 0)) ls' := by
  refine ⟨by rw [List.length_set]; exact h.1, hl.1, hl.2.1, ?_⟩
  rintro ⟨j, x⟩ hq
  obtain ⟨y, h1, h2, h3⟩ := zlv_mem.mp hq
  dsimp only at h1 h2 h3
  refine hl.2.2 (j, x) ?_
  by_cases e : i = j
  · subst e
    rw [List.getElem?_set_self (by rw [h.1]; exact hi)] at h1
    cases h1
    simp [zvalB] at h2
  · rw [List.getElem?_set_ne e] at h1
    refine List.mem_cons_of_mem _ (List.mem_filter.mpr ⟨zlv_mem.mpr ⟨y, h1, ?_, h3⟩, ?_⟩)
    · have hk : (L.set i (.retAddr 0))[j + 1]? = some (.retAddr 1) → L[j + 1]? = some (.retAddr 1) := by
        intro z
        by_cases e2 : i = j + 1
        · subst e2
          rw [List.getElem?_set_self (by rw [h.1]; exact hi)] at z
          cases z
        · rw [List.getElem?_set_ne e2] at z; exact z
      cases y <;> simp_all [zvalB]
    · have hne : ¬ j = i := fun z => e z.symm
      by_cases e2 : j + 1 = i
      · have : y.category ≠ 2 := by
          intro c2
          have hz : (L.set i (.retAddr 0))[j + 1]? = some (.retAddr 1) := by
            cases y <;> simp_all [zvalB, Value.category]
          rw [← e2, List.getElem?_set_self (by rw [h.1, e2]; exact hi)] at hz
          cases hz
        have : x.category ≠ 2 := by rw [h3, zcv_cat]; exact this
        simp [hne, this]
      · simp [hne, e2]
end
section
/-! A POINT OF A WALK, as the abstract machine has it; the instructions that leave the heap alone -/
def ztys (tc : Nat → ClassId) : List (ClassId × FieldType) := [(tc 0, .int), (tc 1, .long), (tc 2, .double), (tc 3, .object "java/lang/Object")]
/-- the texts of the exceptions -/
def zSL : List (String × Nat × String) := (zXL.zip zXP).map fun q => (zow q.1.1.1, q.1.1.2.2.1, q.2.1)
/-- classes whose objects lists hold; the constructors of nest mates; the classes thrown -/
def zKC : List String := [RX0, RX1, RX2, RX3, RX4, RX5, RX6]
def zNW : List (String × Nat × MethodName) := (zCL.filter fun x => x.2.1 == 3).map fun x => (zow x.1.1, x.1.2, znm x.2.2)
def zEX : List String := ["java/lang/IndexOutOfBoundsException", "java/lang/IllegalArgumentException", "java/lang/IllegalStateException"]
def zDE : List MethodName := lw_tbl.filterMap fun w => match w with
  | .declares x => some x
  | _ => none
def ZCv (s : State) (mr : Nat) : Prop := va_Mi "[Ljava/lang/Object;" mr s ∧ va_Dc s ∧ va_AO "java/lang/Object" s ∧ (∀ w ∈ zSL, ∃ sa, vk_R w.1 w.2.1 w.2.2 sa s) ∧ (∀ C ∈ zKC, va_Nw (.castable C "java/lang/Object") s) ∧ (∀ w ∈ zNW, va_Nw (.methodLinkNest w.1 w.2.1 w.2.2 "Kerfworks") s) ∧ (∀ E ∈ zEX, va_Nw (.castable E E) s) ∧ (∀ E ∈ zEX, ∀ F ∈ zEX, E ≠ F → va_Nc E F s) ∧ ∀ x ∈ zDE, va_Nw (.declares x) s
def ZCh (s : State) (A : Nat → Prop) (H : Heap) (ad0 : Nat → Nat) (X : ZX) : Prop :=
  (va_Z "java/util/ArrayList" "DEFAULTCAPACITY_EMPTY_ELEMENTDATA" "[Ljava/lang/Object;" (.ref (ad0 0)) A s H ∧ va_T (.object "java/lang/Object") (ad0 0) 0 (fun _ => .null) A s H) ∧ (va_X (ad0 1) X.1 X.2 s H ∧ ad0 1 < H.size ∧ ¬ A (ad0 1)) ∧ vx_Zq Bundle.tN "UNASSIGNED_STACK" Bundle.steD A s H ∧ vx_Zq Bundle.tN "SUPPRESSED_SENTINEL" Bundle.listD A s H
/-- what stays the same all through a method's body -/
def ZEv (p : Program) (l : Launch) (s : State) (m : MethodId) (args : Array Value) (meth : Method) (c : Code) (G : va_G) (tc : Nat → ClassId) (A : Nat → Prop) (ad0 : Nat → Nat) (X : ZX) (mi : Nat) : Prop :=
  (p.tables.exec = Jvm.exec ∧ c.code = zby mi ∧ c.maxLocals = zml mi ∧ s.vm.findClass (zow (zoc mi)) = some m.cls ∧ ∀ w ∈ zgw, w.before args s = true) ∧
  (va_K G vwCl (ztys tc) s ∧ (∀ q : Nat, s.heap.size ≤ q → A q) ∧ meth.locks = false ∧ l.stackTraces = false ∧ meth.sig.returnType = zrt mi ∧ ((znm mi).name = "<init>" → meth.name = "<init>")) ∧ ZCh s A s.heap ad0 X ∧ ZCv s (ad0 2)
def ZPt (G : va_G) (tc : Nat → ClassId) (A : Nat → Prop) (s : State) (ad0 : Nat → Nat) (n0 u0 nL : Nat) (ad : Nat → Nat) (st : ZS) (L S : List Value) (H : Heap) (locs : List Loc) (ls : Array Slot) : Prop :=
  (va_P G vwCl (zws tc ad st.2) H ∧ va_D A (zws tc ad st.2) ∧ va_S A s.heap H locs) ∧ (zhok st.2 ∧ zspc st.2) ∧ (ZL ad nL L ls ∧ (∀ v ∈ L, zvok st.2.length v) ∧ ∀ v ∈ S, zvok st.2.length v) ∧ ((∀ k, k < n0 → ad k = ad0 k) ∧ n0 ≤ st.2.length ∧ 3 ≤ n0 ∧ u0 ≤ st.1)
def ZW (p : Program) (l : Launch) (e : Env) (R : Room) (s : State) (m : MethodId) (args : Array Value) (below : List Frame) (meth : Method) (c : Code) (G : va_G) (tc : Nat → ClassId) (A : Nat → Prop) (ad0 : Nat → Nat) (n0 u0 mi : Nat) (Q : State → Prop) (pc : Nat) (L S : List Value) (st : ZS) : Prop :=
  ∀ (ad : Nat → Nat) (H : Heap) (locs : List Loc) (ls : Array Slot), ZPt G tc A s ad0 n0 u0 (zml mi) ad st L S H locs ls → W p l e R s m args below meth c H locs (st.1 - u0) (st.1 - u0) Q (F0 m pc ls (S.map (zcv ad)))
theorem zvok_int {n : Nat} {x : Int32} : zvok n (.int x) := fun _ h => by cases h
theorem zvok_long {n : Nat} {x : Int64} : zvok n (.long x) := fun _ h => by cases h
theorem zvok_float {n : Nat} {x : UInt32} : zvok n (.float x) := fun _ h => by cases h
theorem zvok_double {n : Nat} {x : UInt64} : zvok n (.double x) := fun _ h => by cases h
theorem zvok_null {n : Nat} : zvok n .null := fun _ h => by cases h
theorem zvok_ref {n a : Nat} (h : a < n) : zvok n (.ref a) := fun _ e => by cases e; exact h
theorem zvok_junk {n k : Nat} : zvok n (.retAddr k) := fun _ h => by cases h
theorem zall_cons {n : Nat} {v : Value} {S : List Value} (h1 : zvok n v) (h2 : ∀ v ∈ S, zvok n v) : ∀ w ∈ v :: S, zvok n w := List.forall_mem_cons.mpr ⟨h1, h2⟩
theorem zall_tl {n : Nat} {v : Value} {S : List Value} (h : ∀ w ∈ v :: S, zvok n w) : ∀ w ∈ S, zvok n w := (List.forall_mem_cons.mp h).2
theorem zall_hd {n : Nat} {v : Value} {S : List Value} (h : ∀ w ∈ v :: S, zvok n w) : zvok n v := (List.forall_mem_cons.mp h).1
theorem zall_set {n i : Nat} {v : Value} {L : List Value} (h1 : zvok n v) (h : ∀ w ∈ L, zvok n w) : ∀ w ∈ L.set i v, zvok n w := fun w hw => by
  rcases List.mem_or_eq_of_mem_set hw with q | q
  · exact h w q
  · rw [q]; exact h1
theorem zto_of {pc t : Nat} {off : Int} (h : zto pc off = some t) : (pc : Int) + off = (t : Int) := by
  unfold zto at h
  by_cases c : 0 ≤ (pc : Int) + off
  · rw [if_pos c] at h; cases h; exact (Int.toNat_of_nonneg c).symm
  · rw [if_neg c] at h; cases h
section ZI
variable {p : Program} {l : Launch} {e : Env} {R : Room} {s : State} {m : MethodId} {args : Array Value} {below : List Frame} {meth : Method} {c : Code} {G : va_G} {tc : Nat → ClassId} {A : Nat → Prop} {ad0 : Nat → Nat} {n0 u0 mi : Nat} {Q : State → Prop} {X : ZX} {pc : Nat} {L S : List Value} {st : ZS} {q : ZQ}
theorem ZPt.stk {ad : Nat → Nat} {S' : List Value} {H : Heap} {locs : List Loc} {ls : Array Slot} (h : ZPt G tc A s ad0 n0 u0 (zml mi) ad st L S H locs ls) (hS : ∀ v ∈ S', zvok st.2.length v) : ZPt G tc A s ad0 n0 u0 (zml mi) ad st L S' H locs ls := ⟨h.1, h.2.1, ⟨h.2.2.1.1, h.2.2.1.2.1, hS⟩, h.2.2.2⟩
theorem ZPt.lcl {ad : Nat → Nat} {L' S' : List Value} {H : Heap} {locs : List Loc} {ls ls' : Array Slot} (h : ZPt G tc A s ad0 n0 u0 (zml mi) ad st L S H locs ls) (hl : ZL ad (zml mi) L' ls') (hL : ∀ v ∈ L', zvok st.2.length v) (hS : ∀ v ∈ S', zvok st.2.length v) : ZPt G tc A s ad0 n0 u0 (zml mi) ad st L' S' H locs ls' := ⟨h.1, h.2.1, ⟨hl, hL, hS⟩, h.2.2.2⟩
theorem ZPt.sok {ad : Nat → Nat} {H : Heap} {locs : List Loc} {ls : Array Slot} (h : ZPt G tc A s ad0 n0 u0 (zml mi) ad st L S H locs ls) : ∀ v ∈ S, zvok st.2.length v := h.2.2.1.2.2
theorem ZPt.lok {ad : Nat → Nat} {H : Heap} {locs : List Loc} {ls : Array Slot} (h : ZPt G tc A s ad0 n0 u0 (zml mi) ad st L S H locs ls) : ∀ v ∈ L, zvok st.2.length v := h.2.2.1.2.1
theorem ZPt.zl {ad : Nat → Nat} {H : Heap} {locs : List Loc} {ls : Array Slot} (h : ZPt G tc A s ad0 n0 u0 (zml mi) ad st L S H locs ls) : ZL ad (zml mi) L ls := h.2.2.1.1
/-- a push of a number -/
theorem zw_push {v : Value} {pc' : Nat} (hv : ∀ n, zvok n v) (row : ∀ (ad : Nat → Nat) (H : Heap) (locs : List Loc) (cells slots : Nat) (ls : Array Slot) (rest : List Value), W p l e R s m args below meth c H locs cells slots Q (F0 m pc' ls (zcv ad v :: rest)) → W p l e R s m args below meth c H locs cells slots Q (F0 m pc ls rest)) (k : ZW p l e R s m args below meth c G tc A ad0 n0 u0 mi Q pc' L (v :: S) st) : ZW p l e R s m args below meth c G tc A ad0 n0 u0 mi Q pc L S st :=
  fun ad H locs ls h => row ad H locs _ _ ls _ (k ad H locs ls (h.stk (zall_cons (hv _) h.sok)))
theorem zldi_inv {n pc' : Nat} (h : zldi n pc' L S st = some q) : ∃ x, L[n]? = some (.int x) ∧ q = (pc', L, .int x :: S, st) := by
  unfold zldi at h; split at h
  · rename_i x hx; exact ⟨x, hx, (Option.some.inj h).symm⟩
  · cases h
theorem zldf_inv {n pc' : Nat} (h : zldf n pc' L S st = some q) : ∃ x, L[n]? = some (.float x) ∧ q = (pc', L, .float x :: S, st) := by
  unfold zldf at h; split at h
  · rename_i x hx; exact ⟨x, hx, (Option.some.inj h).symm⟩
  · cases h
theorem zldd_inv {n pc' : Nat} (h : zldd n pc' L S st = some q) : ∃ x, L[n]? = some (.double x) ∧ L[n + 1]? = some (.retAddr 1) ∧ q = (pc', L, .double x :: S, st) := by
  unfold zldd at h; split at h
  · rename_i x hx
    by_cases c : L[n + 1]? = some (.retAddr 1)
    · rw [if_pos c] at h; exact ⟨x, hx, c, (Option.some.inj h).symm⟩
    · rw [if_neg c] at h; cases h
  · cases h
theorem zlda_inv {n pc' : Nat} (h : zlda n pc' L S st = some q) : (∃ x, L[n]? = some (.ref x) ∧ q = (pc', L, .ref x :: S, st)) ∨ (L[n]? = some .null ∧ q = (pc', L, .null :: S, st)) := by
  unfold zlda at h; split at h
  · rename_i x hx; exact Or.inl ⟨x, hx, (Option.some.inj h).symm⟩
  · rename_i hx; exact Or.inr ⟨hx, (Option.some.inj h).symm⟩
  · cases h
theorem zw_ldi {n pc' : Nat} (hs : zldi n pc' L S st = some q) (k : ZW p l e R s m args below meth c G tc A ad0 n0 u0 mi Q q.1 q.2.1 q.2.2.1 q.2.2.2) (row : ∀ (H : Heap) (locs : List Loc) (cells slots : Nat) (ls : Array Slot) (rest : List Value) (x : Int32), ls[n]? = some (.val (.int x)) → W p l e R s m args below meth c H locs cells slots Q (F0 m pc' ls (.int x :: rest)) → W p l e R s m args below meth c H locs cells slots Q (F0 m pc ls rest)) : ZW p l e R s m args below meth c G tc A ad0 n0 u0 mi Q pc L S st := by
  obtain ⟨x, h1, rfl⟩ := zldi_inv hs
  intro ad H locs ls h
  exact row H locs _ _ ls _ x (h.zl.at h1 rfl) (k ad H locs ls (h.stk (zall_cons zvok_int h.sok)))
theorem zw_ldf {n pc' : Nat} (hs : zldf n pc' L S st = some q) (k : ZW p l e R s m args below meth c G tc A ad0 n0 u0 mi Q q.1 q.2.1 q.2.2.1 q.2.2.2) (row : ∀ (H : Heap) (locs : List Loc) (cells slots : Nat) (ls : Array Slot) (rest : List Value) (x : UInt32), ls[n]? = some (.val (.float x)) → W p l e R s m args below meth c H locs cells slots Q (F0 m pc' ls (.float x :: rest)) → W p l e R s m args below meth c H locs cells slots Q (F0 m pc ls rest)) : ZW p l e R s m args below meth c G tc A ad0 n0 u0 mi Q pc L S st := by
  obtain ⟨x, h1, rfl⟩ := zldf_inv hs
  intro ad H locs ls h
  exact row H locs _ _ ls _ x (h.zl.at h1 rfl) (k ad H locs ls (h.stk (zall_cons zvok_float h.sok)))
theorem zw_ldd {n pc' : Nat} (hs : zldd n pc' L S st = some q) (k : ZW p l e R s m args below meth c G tc A ad0 n0 u0 mi Q q.1 q.2.1 q.2.2.1 q.2.2.2) (row : ∀ (H : Heap) (locs : List Loc) (cells slots : Nat) (ls : Array Slot) (rest : List Value) (x : UInt64), ls[n]? = some (.val (.double x)) → W p l e R s m args below meth c H locs cells slots Q (F0 m pc' ls (.double x :: rest)) → W p l e R s m args below meth c H locs cells slots Q (F0 m pc ls rest)) : ZW p l e R s m args below meth c G tc A ad0 n0 u0 mi Q pc L S st := by
  obtain ⟨x, h1, h2, rfl⟩ := zldd_inv hs
  intro ad H locs ls h
  exact row H locs _ _ ls _ x (h.zl.at h1 (by simp [zvalB, h2])) (k ad H locs ls (h.stk (zall_cons zvok_double h.sok)))
theorem zw_lda {n pc' : Nat} (hs : zlda n pc' L S st = some q) (k : ZW p l e R s m args below meth c G tc A ad0 n0 u0 mi Q q.1 q.2.1 q.2.2.1 q.2.2.2) (row : ∀ (H : Heap) (locs : List Loc) (cells slots : Nat) (ls : Array Slot) (rest : List Value) (x : Nat), ls[n]? = some (.val (.ref x)) → W p l e R s m args below meth c H locs cells slots Q (F0 m pc' ls (.ref x :: rest)) → W p l e R s m args below meth c H locs cells slots Q (F0 m pc ls rest))
    (rowN : ∀ (H : Heap) (locs : List Loc) (cells slots : Nat) (ls : Array Slot) (rest : List Value), ls[n]? = some (.val .null) → W p l e R s m args below meth c H locs cells slots Q (F0 m pc' ls (.null :: rest)) → W p l e R s m args below meth c H locs cells slots Q (F0 m pc ls rest)) : ZW p l e R s m args below meth c G tc A ad0 n0 u0 mi Q pc L S st := by
  rcases zlda_inv hs with ⟨x, h1, rfl⟩ | ⟨h1, rfl⟩
  · intro ad H locs ls h
    exact row H locs _ _ ls _ (ad x) (h.zl.at h1 rfl) (k ad H locs ls (h.stk (zall_cons (h.lok _ (List.mem_of_getElem? h1)) h.sok)))
  · intro ad H locs ls h
    exact rowN H locs _ _ ls _ (h.zl.at h1 rfl) (k ad H locs ls (h.stk (zall_cons zvok_null h.sok)))
theorem zsti_inv {n pc' : Nat} (h : zsti n pc' L S st = some q) : ∃ x S', S = .int x :: S' ∧ n < L.length ∧ q = (pc', L.set n (.int x), S', st) := by
  unfold zsti at h; split at h
  · rename_i x S'
    by_cases c : n < L.length
    · rw [if_pos c] at h; exact ⟨x, S', rfl, c, (Option.some.inj h).symm⟩
    · rw [if_neg c] at h; cases h
  · cases h
theorem zstf_inv {n pc' : Nat} (h : zstf n pc' L S st = some q) : ∃ x S', S = .float x :: S' ∧ n < L.length ∧ q = (pc', L.set n (.float x), S', st) := by
  unfold zstf at h; split at h
  · rename_i x S'
    by_cases c : n < L.length
    · rw [if_pos c] at h; exact ⟨x, S', rfl, c, (Option.some.inj h).symm⟩
    · rw [if_neg c] at h; cases h
  · cases h
theorem zstd_inv {n pc' : Nat} (h : zstd n pc' L S st = some q) : ∃ x S', S = .double x :: S' ∧ n + 1 < L.length ∧ q = (pc', (L.set n (.double x)).set (n + 1) (.retAddr 1), S', st) := by
  unfold zstd at h; split at h
  · rename_i x S'
    by_cases c : n + 1 < L.length
    · rw [if_pos c] at h; exact ⟨x, S', rfl, c, (Option.some.inj h).symm⟩
    · rw [if_neg c] at h; cases h
  · cases h
theorem zsta_inv {n pc' : Nat} (h : zsta' n pc' L S st = some q) : (∃ x S', S = .ref x :: S' ∧ n < L.length ∧ q = (pc', L.set n (.ref x), S', st)) ∨ (∃ S', S = .null :: S' ∧ n < L.length ∧ q = (pc', L.set n .null, S', st)) := by
  unfold zsta' at h; split at h
  · rename_i x S'
    by_cases c : n < L.length
    · rw [if_pos c] at h; exact Or.inl ⟨x, S', rfl, c, (Option.some.inj h).symm⟩
    · rw [if_neg c] at h; cases h
  · rename_i S'
    by_cases c : n < L.length
    · rw [if_pos c] at h; exact Or.inr ⟨S', rfl, c, (Option.some.inj h).symm⟩
    · rw [if_neg c] at h; cases h
  · cases h
theorem zw_sti {n pc' : Nat} (hs : zsti n pc' L S st = some q) (k : ZW p l e R s m args below meth c G tc A ad0 n0 u0 mi Q q.1 q.2.1 q.2.2.1 q.2.2.2) (row : ∀ (H : Heap) (locs : List Loc) (cells slots : Nat) (ls : Array Slot) (rest : List Value) (x : Int32) (lv : List (Nat × Value)), lv_has ls (zml mi) lv → n < zml mi → (∀ ls' : Array Slot, lv_has ls' (zml mi) ((n, .int x) :: lv.filter (fun q => !(q.1 == n) && !(q.1 + 1 == n && q.2.category == 2))) → W p l e R s m args below meth c H locs cells slots Q (F0 m pc' ls' rest)) → W p l e R s m args below meth c H locs cells slots Q (F0 m pc ls (.int x :: rest))) : ZW p l e R s m args below meth c G tc A ad0 n0 u0 mi Q pc L S st := by
  obtain ⟨x, S', rfl, hn, rfl⟩ := zsti_inv hs
  intro ad H locs ls h
  have hn' : n < zml mi := by rw [← h.zl.1]; exact hn
  exact row H locs _ _ ls _ x _ h.zl.2 hn' fun ls' hl => k ad H locs ls' (h.lcl (h.zl.st1 (v := .int x) rfl (fun k e => by cases e) hn' hl) (zall_set zvok_int h.lok) (zall_tl h.sok))
theorem zw_stf {n pc' : Nat} (hs : zstf n pc' L S st = some q) (k : ZW p l e R s m args below meth c G tc A ad0 n0 u0 mi Q q.1 q.2.1 q.2.2.1 q.2.2.2) (row : ∀ (H : Heap) (locs : List Loc) (cells slots : Nat) (ls : Array Slot) (rest : List Value) (x : UInt32) (lv : List (Nat × Value)), lv_has ls (zml mi) lv → n < zml mi → (∀ ls' : Array Slot, lv_has ls' (zml mi) ((n, .float x) :: lv.filter (fun q => !(q.1 == n) && !(q.1 + 1 == n && q.2.category == 2))) → W p l e R s m args below meth c H locs cells slots Q (F0 m pc' ls' rest)) → W p l e R s m args below meth c H locs cells slots Q (F0 m pc ls (.float x :: rest))) : ZW p l e R s m args below meth c G tc A ad0 n0 u0 mi Q pc L S st := by
  obtain ⟨x, S', rfl, hn, rfl⟩ := zstf_inv hs
  intro ad H locs ls h
  have hn' : n < zml mi := by rw [← h.zl.1]; exact hn
  exact row H locs _ _ ls _ x _ h.zl.2 hn' fun ls' hl => k ad H locs ls' (h.lcl (h.zl.st1 (v := .float x) rfl (fun k e => by cases e) hn' hl) (zall_set zvok_float h.lok) (zall_tl h.sok))
theorem zw_std {n pc' : Nat} (hs : zstd n pc' L S st = some q) (k : ZW p l e R s m args below meth c G tc A ad0 n0 u0 mi Q q.1 q.2.1 q.2.2.1 q.2.2.2) (row : ∀ (H : Heap) (locs : List Loc) (cells slots : Nat) (ls : Array Slot) (rest : List Value) (x : UInt64) (lv : List (Nat × Value)), lv_has ls (zml mi) lv → n + 1 < zml mi → (∀ ls' : Array Slot, lv_has ls' (zml mi) ((n, .double x) :: lv.filter (fun q => !(q.1 == n) && (!(q.1 == n + 1) && !(q.1 + 1 == n && q.2.category == 2)))) → W p l e R s m args below meth c H locs cells slots Q (F0 m pc' ls' rest)) → W p l e R s m args below meth c H locs cells slots Q (F0 m pc ls (.double x :: rest))) : ZW p l e R s m args below meth c G tc A ad0 n0 u0 mi Q pc L S st := by
  obtain ⟨x, S', rfl, hn, rfl⟩ := zstd_inv hs
  intro ad H locs ls h
  have hn' : n + 1 < zml mi := by rw [← h.zl.1]; exact hn
  exact row H locs _ _ ls _ x _ h.zl.2 hn' fun ls' hl => k ad H locs ls' (h.lcl (h.zl.st2 (v := .double x) rfl (fun k e => by cases e) hn' hl) (zall_set zvok_junk (zall_set zvok_double h.lok)) (zall_tl h.sok))
theorem zw_sta {n pc' : Nat} (hs : zsta' n pc' L S st = some q) (k : ZW p l e R s m args below meth c G tc A ad0 n0 u0 mi Q q.1 q.2.1 q.2.2.1 q.2.2.2) (row : ∀ (H : Heap) (locs : List Loc) (cells slots : Nat) (ls : Array Slot) (rest : List Value) (x : Nat) (lv : List (Nat × Value)), lv_has ls (zml mi) lv → n < zml mi → (∀ ls' : Array Slot, lv_has ls' (zml mi) ((n, .ref x) :: lv.filter (fun q => !(q.1 == n) && !(q.1 + 1 == n && q.2.category == 2))) → W p l e R s m args below meth c H locs cells slots Q (F0 m pc' ls' rest)) → W p l e R s m args below meth c H locs cells slots Q (F0 m pc ls (.ref x :: rest)))
    (rowN : ∀ (H : Heap) (locs : List Loc) (cells slots : Nat) (ls : Array Slot) (rest : List Value) (lv : List (Nat × Value)), lv_has ls (zml mi) lv → n < zml mi → (∀ ls' : Array Slot, lv_has ls' (zml mi) ((n, .null) :: lv.filter (fun q => !(q.1 == n) && !(q.1 + 1 == n && q.2.category == 2))) → W p l e R s m args below meth c H locs cells slots Q (F0 m pc' ls' rest)) → W p l e R s m args below meth c H locs cells slots Q (F0 m pc ls (.null :: rest))) : ZW p l e R s m args below meth c G tc A ad0 n0 u0 mi Q pc L S st := by
  rcases zsta_inv hs with ⟨x, S', rfl, hn, rfl⟩ | ⟨S', rfl, hn, rfl⟩
  · intro ad H locs ls h
    have hn' : n < zml mi := by rw [← h.zl.1]; exact hn
    exact row H locs _ _ ls _ (ad x) _ h.zl.2 hn' fun ls' hl => k ad H locs ls' (h.lcl (h.zl.st1 (v := .ref x) rfl (fun k e => by cases e) hn' hl) (zall_set (zall_hd h.sok) h.lok) (zall_tl h.sok))
  · intro ad H locs ls h
    have hn' : n < zml mi := by rw [← h.zl.1]; exact hn
    exact rowN H locs _ _ ls _ _ h.zl.2 hn' fun ls' hl => k ad H locs ls' (h.lcl (h.zl.st1 (v := .null) rfl (fun k e => by cases e) hn' hl) (zall_set zvok_null h.lok) (zall_tl h.sok))
theorem zi2_inv {f : Int32 → Int32 → Option Int32} (h : zi2 f pc L S st = some q) : ∃ x y z S', S = .int y :: .int x :: S' ∧ f x y = some z ∧ q = (pc + 1, L, .int z :: S', st) := by
  unfold zi2 at h; split at h
  · rename_i y x S'
    cases hf : f x y with
    | none => rw [hf] at h; cases h
    | some z => rw [hf] at h; exact ⟨x, y, z, S', rfl, hf, (Option.some.inj h).symm⟩
  · cases h
theorem zw_i2 {f : Int32 → Int32 → Option Int32} (hs : zi2 f pc L S st = some q) (k : ZW p l e R s m args below meth c G tc A ad0 n0 u0 mi Q q.1 q.2.1 q.2.2.1 q.2.2.2) (row : ∀ (H : Heap) (locs : List Loc) (cells slots : Nat) (ls : Array Slot) (rest : List Value) (x y z : Int32), f x y = some z → W p l e R s m args below meth c H locs cells slots Q (F0 m (pc + 1) ls (.int z :: rest)) → W p l e R s m args below meth c H locs cells slots Q (F0 m pc ls (.int y :: .int x :: rest))) : ZW p l e R s m args below meth c G tc A ad0 n0 u0 mi Q pc L S st := by
  obtain ⟨x, y, z, S', rfl, hf, rfl⟩ := zi2_inv hs
  intro ad H locs ls h
  exact row H locs _ _ ls _ x y z hf (k ad H locs ls (h.stk (zall_cons zvok_int (zall_tl (zall_tl h.sok)))))
theorem zf2_inv {f : UInt32 → UInt32 → UInt32} (h : zf2 f pc L S st = some q) : ∃ x y S', S = .float y :: .float x :: S' ∧ vf_n32 (f x y) ∧ q = (pc + 1, L, .float (f x y) :: S', st) := by
  unfold zf2 at h; split at h
  · rename_i y x S'
    by_cases c : zn32 (f x y) = true
    · rw [if_pos c] at h; exact ⟨x, y, S', rfl, by (first | unfold vf_n32 | unfold vf_n64); exact of_decide_eq_true c, (Option.some.inj h).symm⟩
    · rw [if_neg c] at h; cases h
  · cases h
theorem zw_f2 {f : UInt32 → UInt32 → UInt32} (hs : zf2 f pc L S st = some q) (k : ZW p l e R s m args below meth c G tc A ad0 n0 u0 mi Q q.1 q.2.1 q.2.2.1 q.2.2.2) (row : ∀ (H : Heap) (locs : List Loc) (cells slots : Nat) (ls : Array Slot) (rest : List Value) (x y : UInt32), vf_n32 (f x y) → W p l e R s m args below meth c H locs cells slots Q (F0 m (pc + 1) ls (.float (f x y) :: rest)) → W p l e R s m args below meth c H locs cells slots Q (F0 m pc ls (.float y :: .float x :: rest))) : ZW p l e R s m args below meth c G tc A ad0 n0 u0 mi Q pc L S st := by
  obtain ⟨x, y, S', rfl, hf, rfl⟩ := zf2_inv hs
  intro ad H locs ls h
  exact row H locs _ _ ls _ x y hf (k ad H locs ls (h.stk (zall_cons zvok_float (zall_tl (zall_tl h.sok)))))
theorem zd2_inv {f : UInt64 → UInt64 → UInt64} (h : zd2 f pc L S st = some q) : ∃ x y S', S = .double y :: .double x :: S' ∧ vf_n64 (f x y) ∧ q = (pc + 1, L, .double (f x y) :: S', st) := by
  unfold zd2 at h; split at h
  · rename_i y x S'
    by_cases c : zn64 (f x y) = true
    · rw [if_pos c] at h; exact ⟨x, y, S', rfl, by (first | unfold vf_n32 | unfold vf_n64); exact of_decide_eq_true c, (Option.some.inj h).symm⟩
    · rw [if_neg c] at h; cases h
  · cases h
theorem zw_d2 {f : UInt64 → UInt64 → UInt64} (hs : zd2 f pc L S st = some q) (k : ZW p l e R s m args below meth c G tc A ad0 n0 u0 mi Q q.1 q.2.1 q.2.2.1 q.2.2.2) (row : ∀ (H : Heap) (locs : List Loc) (cells slots : Nat) (ls : Array Slot) (rest : List Value) (x y : UInt64), vf_n64 (f x y) → W p l e R s m args below meth c H locs cells slots Q (F0 m (pc + 1) ls (.double (f x y) :: rest)) → W p l e R s m args below meth c H locs cells slots Q (F0 m pc ls (.double y :: .double x :: rest))) : ZW p l e R s m args below meth c G tc A ad0 n0 u0 mi Q pc L S st := by
  obtain ⟨x, y, S', rfl, hf, rfl⟩ := zd2_inv hs
  intro ad H locs ls h
  exact row H locs _ _ ls _ x y hf (k ad H locs ls (h.stk (zall_cons zvok_double (zall_tl (zall_tl h.sok)))))
theorem zbr_inv {b : Bool} {off : Int} (h : zbr b pc off L S st = some q) : ∃ t : Nat, (pc : Int) + off = (t : Int) ∧ q = (if b = true then t else pc + 3, L, S, st) := by
  unfold zbr at h
  cases ht : zto pc off with
  | none => rw [ht] at h; cases h
  | some t => rw [ht] at h; exact ⟨t, zto_of ht, (Option.some.inj h).symm⟩
theorem zw_br {b : Bool} {off : Int} {S0 : List Value} (hs : zbr b pc off L S st = some q) (k : ZW p l e R s m args below meth c G tc A ad0 n0 u0 mi Q q.1 q.2.1 q.2.2.1 q.2.2.2) (hp : ∀ n, (∀ v ∈ S0, zvok n v) → ∀ v ∈ S, zvok n v)
    (row : ∀ (ad : Nat → Nat) (H : Heap) (locs : List Loc) (cells slots : Nat) (ls : Array Slot) (t : Nat), (pc : Int) + off = (t : Int) → (b = true → W p l e R s m args below meth c H locs cells slots Q (F0 m t ls (S.map (zcv ad)))) → (b = false → W p l e R s m args below meth c H locs cells slots Q (F0 m (pc + 3) ls (S.map (zcv ad)))) → ZPt G tc A s ad0 n0 u0 (zml mi) ad st L S0 H locs ls → W p l e R s m args below meth c H locs cells slots Q (F0 m pc ls (S0.map (zcv ad)))) : ZW p l e R s m args below meth c G tc A ad0 n0 u0 mi Q pc L S0 st := by
  obtain ⟨t, ht, rfl⟩ := zbr_inv hs
  intro ad H locs ls h
  have h' := h.stk (hp _ h.sok)
  cases b with
  | true => exact row ad H locs _ _ ls t ht (fun _ => k ad H locs ls h') (fun z => by cases z) h
  | false => exact row ad H locs _ _ ls t ht (fun z => by cases z) (fun _ => k ad H locs ls h') h
end ZI
end
section
/-! instructions that read or write the heap -/
theorem zget_inv {st : ZS} {a ci k : Nat} {v : Value} (h : zget st a ci k = some v) : ∃ fs, st.2[a]? = some (.inr (ci, fs)) ∧ fs[k]? = some v := by
  unfold zget at h
  split at h
  · rename_i o ho
    by_cases c : o.1 = ci
    · rw [if_pos c] at h
      subst c
      exact ⟨o.2, ho, h⟩
    · rw [if_neg c] at h; cases h
  · cases h
theorem zput_eq {st : ZS} {a k ci : Nat} {fs : List Value} {v : Value} (h : st.2[a]? = some (.inr (ci, fs))) : zput st a k v = (st.1, st.2.set a (.inr (ci, fs.set k v))) := by
  unfold zput
  rw [h]
theorem zarr_inv {st : ZS} {a : Nat} {x : Nat × ZA} (h : zarr st a = some x) : st.2[a]? = some (.inl x) := by
  unfold zarr at h
  split at h
  · rename_i y hy
    cases h; exact hy
  · cases h
theorem zge3 {h : List ZC} {a ci k : Nat} {fs : List Value} {v : Value} (hz : zspc h) (h1 : h[a]? = some (.inr (ci, fs))) (h2 : fs[k]? = some v) : 3 ≤ a := by
  by_cases c : a < 3
  · have e := (hz.2 a c).symm.trans h1
    cases e
    cases h2
  · omega
theorem zge3a {h : List ZC} {a : Nat} {x : Nat × ZA} (hz : zspc h) (h1 : h[a]? = some (.inl x)) : 3 ≤ a := by
  by_cases c : a < 3
  · have e := (hz.2 a c).symm.trans h1
    cases e
  · omega
theorem zix_inv {i : Int32} {n j : Nat} (h : zix i n = some j) : vp_in i n ∧ j = i.toNatClampNeg := by
  unfold zix at h
  by_cases c : i < 0 ∨ n ≤ i.toNatClampNeg
  · rw [if_pos c] at h; cases h
  · rw [if_neg c] at h; exact ⟨c, (Option.some.inj h).symm⟩
def ztm (t : Nat) (ty : FieldType) : Bool := match t with
  | 0 => decide (ty = .int)
  | 1 => decide (ty = .float)
  | 2 => zref ty
  | _ => false
theorem zfits_ok {t : Nat} {v : Value} {ty : FieldType} {ad : Nat → Nat} (h : zfits t v = true) (ht : ztm t ty = true) : narrow ty (zcv ad v) = zcv ad v ∧ fits ty (zcv ad v) = true := by
  match t, v, h with
  | 0, .int x, _ => have e := of_decide_eq_true ht; subst e; exact ⟨rfl, rfl⟩
  | 1, .float x, _ => have e := of_decide_eq_true ht; subst e; exact ⟨rfl, rfl⟩
  | 2, .ref x, _ => cases ty <;> first | (cases ht; done) | exact ⟨rfl, rfl⟩
  | 2, .null, _ => cases ty <;> first | (cases ht; done) | exact ⟨rfl, rfl⟩
section ZH
variable {p : Program} {l : Launch} {e : Env} {R : Room} {s : State} {m : MethodId} {args : Array Value} {below : List Frame} {meth : Method} {c : Code} {G : va_G} {tc : Nat → ClassId} {A : Nat → Prop} {ad0 : Nat → Nat} {n0 u0 mi : Nat} {Q : State → Prop} {X : ZX} {pc : Nat} {L S : List Value} {st : ZS} {q : ZQ}
/-- the same place with another cell at a -/
theorem ZPt.wr {ad : Nat → Nat} {H H1 : Heap} {locs locs1 : List Loc} {ls : Array Slot} {a : Nat} {cell : ZC} {S' : List Value} (h : ZPt G tc A s ad0 n0 u0 (zml mi) ad st L S H locs ls) (ha : 3 ≤ a) (hl : a < st.2.length) (hc : zcok st.2.length cell) (hS : ∀ v ∈ S', zvok st.2.length v)
    (hP : va_P G vwCl ((zws tc ad st.2).set (a - 3) (ad a, zce tc ad cell)) H1) (hD : va_D A ((zws tc ad st.2).set (a - 3) (ad a, zce tc ad cell))) (hH : va_S A s.heap H1 locs1) : ZPt G tc A s ad0 n0 u0 (zml mi) ad (st.1, st.2.set a cell) L S' H1 locs1 ls := by
  rw [← zws_set cell ha hl] at hP hD
  refine ⟨⟨hP, hD, hH⟩, ⟨zhok_set h.2.1.1 hc, zspc_set h.2.1.2 ha⟩, ⟨h.zl, ?_, ?_⟩, ?_⟩
  · intro v hv; rw [List.length_set]; exact h.lok v hv
  · intro v hv; rw [List.length_set]; exact hS v hv
  · obtain ⟨g1, g2, g3, g4⟩ := h.2.2.2
    exact ⟨g1, by rw [List.length_set]; exact g2, g3, g4⟩
theorem zk_getfield {idx : Nat} (F : ZEv p l s m args meth c G tc A ad0 X mi) (hd : decode (zby mi) pc = .ok (.getfield idx, 3)) (hs : zstep X mi (.getfield idx) pc L S st = some q) (k : ZW p l e R s m args below meth c G tc A ad0 n0 u0 mi Q q.1 q.2.1 q.2.2.1 q.2.2.2) : ZW p l e R s m args below meth c G tc A ad0 n0 u0 mi Q pc L S st := by
  obtain ⟨⟨hx, hb, hml, hown, hts⟩, ⟨hK, hA, hlk, hst, hrt, hin⟩, hco⟩ := F
  simp only [zstep] at hs
  split at hs
  · rename_i a S'
    cases hf : zFL.lookup (zoc mi, idx) with
    | none => rw [hf] at hs; cases hs
    | some ck =>
      rw [hf] at hs
      obtain ⟨ci, kk⟩ := ck
      simp only [Option.bind_some] at hs
      cases hg : zget st a ci kk with
      | none => rw [hg] at hs; cases hs
      | some v =>
        rw [hg] at hs
        cases hs
        obtain ⟨fs, hfs, hv⟩ := zget_inv hg
        obtain ⟨r, ref, hr, hk, hl, hsm⟩ := zF_ok hf
        intro ad H locs ls h
        have ha := zge3 h.2.1.2 hfs hv
        have hvk : zvok st.2.length v := h.2.1.1 _ (List.mem_of_getElem? hfs) v (List.mem_of_getElem? hv)
        exact va_get (D := G) (cl := vwCl) (tys := ztys tc) (C := r.1) (T := r.2.1) (N := r.2.2) (v := zcv ad v) hx hb hts (zcl_ok ci r hr).1 hown hK h.1.1 (a - 3) (zws_at ha hfs) hr kk hk (hts _ hl) (fun x hx9 => by
          rcases hsm with e | e
          · rw [e]; exact hx9
          · exact u_same (hts _ e) x hx9) (by rw [List.getElem?_map, hv]; rfl) hd (k ad H locs ls (h.stk (zall_cons hvk (zall_tl h.sok))))
  · cases hs
theorem zk_putfield {idx : Nat} (F : ZEv p l s m args meth c G tc A ad0 X mi) (hd : decode (zby mi) pc = .ok (.putfield idx, 3)) (hs : zstep X mi (.putfield idx) pc L S st = some q) (k : ZW p l e R s m args below meth c G tc A ad0 n0 u0 mi Q q.1 q.2.1 q.2.2.1 q.2.2.2) : ZW p l e R s m args below meth c G tc A ad0 n0 u0 mi Q pc L S st := by
  obtain ⟨⟨hx, hb, hml, hown, hts⟩, ⟨hK, hA, hlk, hst, hrt, hin⟩, hco⟩ := F
  simp only [zstep] at hs
  split at hs
  · rename_i w a S'
    cases hf : zFL.lookup (zoc mi, idx) with
    | none => rw [hf] at hs; cases hs
    | some ck =>
      rw [hf] at hs
      obtain ⟨ci, kk⟩ := ck
      simp only [Option.bind_some] at hs
      cases hg : zget st a ci kk with
      | none => rw [hg] at hs; cases hs
      | some v =>
        rw [hg] at hs
        simp only [Option.bind_some] at hs
        split at hs
        · rename_i hc
          cases hs
          obtain ⟨fs, hfs, hv⟩ := zget_inv hg
          obtain ⟨r, ref, hr, hk, hl, hsm⟩ := zF_ok hf
          obtain ⟨hus, ty0, hty, hnm, htc⟩ := zcl_ok ci r hr
          unfold zTc at htc
          rw [Bool.and_eq_true] at htc
          have ht := List.all_eq_true.mp htc.2 kk (List.mem_range.mpr hk)
          simp only [Bool.and_eq_true] at ht
          obtain ⟨t1, t2, t3, t4⟩ := ht
          intro ad H locs ls h
          have ha := zge3 h.2.1.2 hfs hv
          have hal : a < st.2.length := (List.getElem?_eq_some_iff.mp hfs).1
          have hkl : kk < fs.length := (List.getElem?_eq_some_iff.mp hv).1
          obtain ⟨n1, n2⟩ := zfits_ok (ad := ad) (ty := ty0 kk) hc.1 t4
          have hsame : ∀ x, s.fieldFound? (r.2.1 kk).1 (r.2.1 kk).2.1 (r.2.1 kk).2.2.1 = some x → s.fieldFound? ref (r.2.1 kk).2.1 (r.2.1 kk).2.2.1 = some x := fun x hx9 => by
            rcases hsm with e | e
            · rw [e]; exact hx9
            · exact u_same (hts _ e) x hx9
          have hgo : ∀ (H1 : Heap) (locs1 : List Loc), va_P G vwCl ((zws tc ad st.2).set (a - 3) (ad a, .inr (ci, (fs.map (zcv ad)).set kk (zcv ad w)))) H1 → va_D A ((zws tc ad st.2).set (a - 3) (ad a, .inr (ci, (fs.map (zcv ad)).set kk (zcv ad w)))) → va_S A s.heap H1 locs1 → W p l e R s m args below meth c H1 locs1 (st.1 - u0) (st.1 - u0) Q (F0 m (pc + 3) ls (S'.map (zcv ad))) := by
            intro H1 locs1 p1 d1 s1
            rw [← List.map_set] at p1 d1
            have hwk : zvok st.2.length w := zall_hd h.sok
            have hck : zcok st.2.length (.inr (ci, fs.set kk w)) := by
              intro x hx9
              rcases List.mem_or_eq_of_mem_set hx9 with e | e
              · exact h.2.1.1 _ (List.mem_of_getElem? hfs) x e
              · rw [e]; exact hwk
            have hz := h.wr (S' := S') ha hal hck (zall_tl (zall_tl h.sok)) p1 d1 s1
            have k2 := k ad H1 locs1 ls
            rw [zput_eq hfs] at k2
            exact k2 hz
          by_cases hfin : (r.2.1 kk).2.2.2 = true
          · have hi : (znm mi).name = "<init>" ∧ zvi (zoc mi) = ci := by
              rcases hc.2 with e | e
              · rw [of_decide_eq_true t1] at e; rw [e] at hfin; cases hfin
              · exact e
            have hdl : (r.2.1 kk).1 = zow (zoc mi) := by
              rw [Bool.or_eq_true] at t2
              rcases t2 with e | e
              · rw [hfin] at e; cases e
              · rw [of_decide_eq_true e, zvi_ok hi.2 hr]
            exact va_putF (D := G) (cl := vwCl) (tys := ztys tc) (C := r.1) (T := r.2.1) (N := r.2.2) (v := zcv ad w) hx hb hts hus ty0 hty hnm hown hK h.1.1 h.1.2.1 h.1.2.2 (a - 3) (zws_at ha hfs) hr kk hk (hts _ hl) hsame hfin (hin hi.1) hdl (hty kk hk) n1 n2 (by rw [List.length_map]; exact hkl) hd hgo
          · have hfin : (r.2.1 kk).2.2.2 = false := by cases hq : (r.2.1 kk).2.2.2 with | true => exact absurd hq hfin | false => rfl
            exact va_put (D := G) (cl := vwCl) (tys := ztys tc) (C := r.1) (T := r.2.1) (N := r.2.2) (v := zcv ad w) hx hb hts hus ty0 hty hnm hown hK h.1.1 h.1.2.1 h.1.2.2 (a - 3) (zws_at ha hfs) hr kk hk (hts _ hl) hsame hfin (hty kk hk) n1 n2 (by rw [List.length_map]; exact hkl) hd hgo
        · cases hs
  · cases hs
theorem zk_iaload (F : ZEv p l s m args meth c G tc A ad0 X mi) (hn1 : 1 < n0) (hd : decode (zby mi) pc = .ok (.iaload, 1)) (hs : zstep X mi .iaload pc L S st = some q) (k : ZW p l e R s m args below meth c G tc A ad0 n0 u0 mi Q q.1 q.2.1 q.2.2.1 q.2.2.2) : ZW p l e R s m args below meth c G tc A ad0 n0 u0 mi Q pc L S st := by
  obtain ⟨⟨hx, hb, hml, hown, hts⟩, ⟨hK, hA, hlk, hst, hrt, hin⟩, ⟨⟨hc1, ⟨hX, hbl, hbA⟩, hc3⟩, hcv⟩⟩ := F
  simp only [zstep] at hs
  split at hs
  · rename_i i a S'
    split at hs
    · rename_i e1
      subst e1
      cases hj : zix i X.1 with
      | none => rw [hj] at hs; cases hs
      | some j =>
        rw [hj] at hs
        cases hs
        obtain ⟨hv, rfl⟩ := zix_inv hj
        intro ad H locs ls h
        have ea : ad 1 = ad0 1 := h.2.2.2.1 1 hn1
        have k2 := k ad H locs ls (h.stk (zall_cons zvok_int (zall_tl (zall_tl h.sok))))
        show W p l e R s m args below meth c H locs (st.1 - u0) (st.1 - u0) Q (F0 m pc ls (.int i :: .ref (ad 1) :: S'.map (zcv ad)))
        rw [ea]
        exact va_sld hx hb hX hbl hbA h.1.2.2 hv hd k2
    · split at hs
      · rename_i n f hq
        cases hj : zix i n with
        | none => rw [hj] at hs; cases hs
        | some j =>
          rw [hj] at hs
          cases hs
          obtain ⟨hv, rfl⟩ := zix_inv hj
          intro ad H locs ls h
          have hc := zarr_inv hq
          exact va_iald (D := G) (cl := vwCl) (tys := ztys tc) hx hb hK h.1.1 (a - 3) 0 (zws_at (zge3a h.2.1.2 hc) hc) rfl hv hd (k ad H locs ls (h.stk (zall_cons zvok_int (zall_tl (zall_tl h.sok)))))
      · cases hs
  · cases hs
theorem zk_laload (F : ZEv p l s m args meth c G tc A ad0 X mi) (hd : decode (zby mi) pc = .ok (.laload, 1)) (hs : zstep X mi .laload pc L S st = some q) (k : ZW p l e R s m args below meth c G tc A ad0 n0 u0 mi Q q.1 q.2.1 q.2.2.1 q.2.2.2) : ZW p l e R s m args below meth c G tc A ad0 n0 u0 mi Q pc L S st := by
  obtain ⟨⟨hx, hb, hml, hown, hts⟩, ⟨hK, hA, hlk, hst, hrt, hin⟩, hco⟩ := F
  simp only [zstep] at hs
  split at hs
  · rename_i i a S'
    split at hs
    · rename_i n f hq
      cases hj : zix i n with
      | none => rw [hj] at hs; cases hs
      | some j =>
        rw [hj] at hs
        cases hs
        obtain ⟨hv, rfl⟩ := zix_inv hj
        intro ad H locs ls h
        have hc := zarr_inv hq
        exact va_lald (D := G) (cl := vwCl) (tys := ztys tc) hx hb hK h.1.1 (a - 3) 1 (zws_at (zge3a h.2.1.2 hc) hc) rfl hv hd (k ad H locs ls (h.stk (zall_cons zvok_long (zall_tl (zall_tl h.sok)))))
    · cases hs
  · cases hs
theorem zk_daload (F : ZEv p l s m args meth c G tc A ad0 X mi) (hd : decode (zby mi) pc = .ok (.daload, 1)) (hs : zstep X mi .daload pc L S st = some q) (k : ZW p l e R s m args below meth c G tc A ad0 n0 u0 mi Q q.1 q.2.1 q.2.2.1 q.2.2.2) : ZW p l e R s m args below meth c G tc A ad0 n0 u0 mi Q pc L S st := by
  obtain ⟨⟨hx, hb, hml, hown, hts⟩, ⟨hK, hA, hlk, hst, hrt, hin⟩, hco⟩ := F
  simp only [zstep] at hs
  split at hs
  · rename_i i a S'
    split at hs
    · rename_i n f hq
      cases hj : zix i n with
      | none => rw [hj] at hs; cases hs
      | some j =>
        rw [hj] at hs
        cases hs
        obtain ⟨hv, rfl⟩ := zix_inv hj
        intro ad H locs ls h
        have hc := zarr_inv hq
        exact va_dald (D := G) (cl := vwCl) (tys := ztys tc) hx hb hK h.1.1 (a - 3) 2 (zws_at (zge3a h.2.1.2 hc) hc) rfl hv hd (k ad H locs ls (h.stk (zall_cons zvok_double (zall_tl (zall_tl h.sok)))))
    · cases hs
  · cases hs
theorem zcv_rf {ad : Nat → Nat} {r : Option Nat} : zcv ad (va_rf r) = va_rf (r.map ad) := by cases r <;> rfl
theorem zk_aaload (F : ZEv p l s m args meth c G tc A ad0 X mi) (hd : decode (zby mi) pc = .ok (.aaload, 1)) (hs : zstep X mi .aaload pc L S st = some q) (k : ZW p l e R s m args below meth c G tc A ad0 n0 u0 mi Q q.1 q.2.1 q.2.2.1 q.2.2.2) : ZW p l e R s m args below meth c G tc A ad0 n0 u0 mi Q pc L S st := by
  obtain ⟨⟨hx, hb, hml, hown, hts⟩, ⟨hK, hA, hlk, hst, hrt, hin⟩, hco⟩ := F
  simp only [zstep] at hs
  split at hs
  · rename_i i a S'
    split at hs
    · rename_i n f hq
      cases hj : zix i n with
      | none => rw [hj] at hs; cases hs
      | some j =>
        rw [hj] at hs
        cases hs
        obtain ⟨hv, rfl⟩ := zix_inv hj
        intro ad H locs ls h
        have hc := zarr_inv hq
        have hk : zvok st.2.length (va_rf (f i.toNatClampNeg)) := by
          intro y e
          cases hy : f i.toNatClampNeg with
          | none => rw [hy] at e; cases e
          | some w =>
            rw [hy] at e
            cases e
            exact h.2.1.1 _ (List.mem_of_getElem? hc) _ _ hy
        have k2 := k ad H locs ls (h.stk (zall_cons hk (zall_tl (zall_tl h.sok))))
        rw [List.map_cons, zcv_rf] at k2
        exact va_aldq (D := G) (cl := vwCl) (tys := ztys tc) (f := fun i => (f i).map ad) hx hb hK h.1.1 (a - 3) 3 (zws_at (zge3a h.2.1.2 hc) hc) rfl hv hd k2
    · cases hs
  · cases hs
theorem zk_iastore (F : ZEv p l s m args meth c G tc A ad0 X mi) (hd : decode (zby mi) pc = .ok (.iastore, 1)) (hs : zstep X mi .iastore pc L S st = some q) (k : ZW p l e R s m args below meth c G tc A ad0 n0 u0 mi Q q.1 q.2.1 q.2.2.1 q.2.2.2) : ZW p l e R s m args below meth c G tc A ad0 n0 u0 mi Q pc L S st := by
  obtain ⟨⟨hx, hb, hml, hown, hts⟩, ⟨hK, hA, hlk, hst, hrt, hin⟩, hco⟩ := F
  simp only [zstep] at hs
  split at hs
  · rename_i x i a S'
    split at hs
    · rename_i n f hq
      cases hj : zix i n with
      | none => rw [hj] at hs; cases hs
      | some j =>
        rw [hj] at hs
        cases hs
        obtain ⟨hv, rfl⟩ := zix_inv hj
        intro ad H locs ls h
        have hc := zarr_inv hq
        have ha := zge3a h.2.1.2 hc
        exact va_iast (D := G) (cl := vwCl) (tys := ztys tc) hx hb hK h.1.1 h.1.2.1 h.1.2.2 (a - 3) 0 (zws_at ha hc) rfl hv hd fun H1 locs1 p1 d1 s1 => k ad H1 locs1 ls (h.wr (cell := .inl (n, .inl (upd f i.toNatClampNeg x))) ha (List.getElem?_eq_some_iff.mp hc).1 trivial (zall_tl (zall_tl (zall_tl h.sok))) p1 d1 s1)
    · cases hs
  · cases hs
theorem zk_lastore (F : ZEv p l s m args meth c G tc A ad0 X mi) (hd : decode (zby mi) pc = .ok (.lastore, 1)) (hs : zstep X mi .lastore pc L S st = some q) (k : ZW p l e R s m args below meth c G tc A ad0 n0 u0 mi Q q.1 q.2.1 q.2.2.1 q.2.2.2) : ZW p l e R s m args below meth c G tc A ad0 n0 u0 mi Q pc L S st := by
  obtain ⟨⟨hx, hb, hml, hown, hts⟩, ⟨hK, hA, hlk, hst, hrt, hin⟩, hco⟩ := F
  simp only [zstep] at hs
  split at hs
  · rename_i x i a S'
    split at hs
    · rename_i n f hq
      cases hj : zix i n with
      | none => rw [hj] at hs; cases hs
      | some j =>
        rw [hj] at hs
        cases hs
        obtain ⟨hv, rfl⟩ := zix_inv hj
        intro ad H locs ls h
        have hc := zarr_inv hq
        have ha := zge3a h.2.1.2 hc
        exact va_last (D := G) (cl := vwCl) (tys := ztys tc) hx hb hK h.1.1 h.1.2.1 h.1.2.2 (a - 3) 1 (zws_at ha hc) rfl hv hd fun H1 locs1 p1 d1 s1 => k ad H1 locs1 ls (h.wr (cell := .inl (n, .inr (.inl (vp_updL f i.toNatClampNeg x)))) ha (List.getElem?_eq_some_iff.mp hc).1 trivial (zall_tl (zall_tl (zall_tl h.sok))) p1 d1 s1)
    · cases hs
  · cases hs
theorem zk_dastore (F : ZEv p l s m args meth c G tc A ad0 X mi) (hd : decode (zby mi) pc = .ok (.dastore, 1)) (hs : zstep X mi .dastore pc L S st = some q) (k : ZW p l e R s m args below meth c G tc A ad0 n0 u0 mi Q q.1 q.2.1 q.2.2.1 q.2.2.2) : ZW p l e R s m args below meth c G tc A ad0 n0 u0 mi Q pc L S st := by
  obtain ⟨⟨hx, hb, hml, hown, hts⟩, ⟨hK, hA, hlk, hst, hrt, hin⟩, hco⟩ := F
  simp only [zstep] at hs
  split at hs
  · rename_i x i a S'
    split at hs
    · rename_i n f hq
      cases hj : zix i n with
      | none => rw [hj] at hs; cases hs
      | some j =>
        rw [hj] at hs
        cases hs
        obtain ⟨hv, rfl⟩ := zix_inv hj
        intro ad H locs ls h
        have hc := zarr_inv hq
        have ha := zge3a h.2.1.2 hc
        exact va_dast (D := G) (cl := vwCl) (tys := ztys tc) hx hb hK h.1.1 h.1.2.1 h.1.2.2 (a - 3) 2 (zws_at ha hc) rfl hv hd fun H1 locs1 p1 d1 s1 => k ad H1 locs1 ls (h.wr (cell := .inl (n, .inr (.inr (.inr (.inl (vf_upd f i.toNatClampNeg x)))))) ha (List.getElem?_eq_some_iff.mp hc).1 trivial (zall_tl (zall_tl (zall_tl h.sok))) p1 d1 s1)
    · cases hs
  · cases hs
end ZH
end
section
/-! more instructions: stores of references, making, casts, the JDK's natives, the stack -/
theorem zgw_at {w : Cond} (p : Nat) (h : zhas w p = true) : w ∈ zgw := zhas_mem h
theorem zw_int : Cond.arrayClass .int ∈ zgw := zgw_at 288 (by decide +kernel)
theorem zw_long : Cond.arrayClass .long ∈ zgw := zgw_at 1008 (by decide +kernel)
theorem zw_dbl : Cond.arrayClass .double ∈ zgw := zgw_at 1009 (by decide +kernel)
theorem zcas_ok : ∀ (ci : Nat) (r : vw_C), vwCl[ci]? = some r → ci ≠ 0 → r.1 ∈ zKC := by
  intro ci r h h0
  match ci, h, h0 with
  | 0, _, h0 => exact absurd rfl h0
  | 1, h, _ => cases h; exact List.mem_of_getElem? (i := 0) rfl
  | 2, h, _ => cases h; exact List.mem_of_getElem? (i := 1) rfl
  | 3, h, _ => cases h; exact List.mem_of_getElem? (i := 2) rfl
  | 4, h, _ => cases h; exact List.mem_of_getElem? (i := 3) rfl
  | 5, h, _ => cases h; exact List.mem_of_getElem? (i := 4) rfl
  | 6, h, _ => cases h; exact List.mem_of_getElem? (i := 5) rfl
  | 7, h, _ => cases h; exact List.mem_of_getElem? (i := 6) rfl
  | k + 8, h, _ => simp [vwCl] at h
theorem zup_map {ad : Nat → Nat} {f : Nat → Option Nat} {j : Nat} {r : Option Nat} : (fun i => (va_up f j r i).map ad) = va_up (fun i => (f i).map ad) j (r.map ad) := by
  funext i
  unfold va_up
  by_cases c : i = j
  · rw [if_pos c, if_pos c]
  · rw [if_neg c, if_neg c]
theorem zis_inv {st : ZS} {a ci : Nat} (h : zis st a ci = true) : ∃ fs v, st.2[a]? = some (.inr (ci, fs)) ∧ fs[0]? = some v := by
  unfold zis at h
  cases hg : zget st a ci 0 with
  | none => rw [hg] at h; cases h
  | some v =>
    obtain ⟨fs, h1, h2⟩ := zget_inv hg
    exact ⟨fs, v, h1, h2⟩
theorem zob_inv {st : ZS} {a : Nat} (h : zob st a = true) : ∃ ci fs v r, st.2[a]? = some (.inr (ci, fs)) ∧ fs[0]? = some v ∧ vwCl[ci]? = some r ∧ ci ≠ 0 := by
  unfold zob at h
  simp only [Bool.or_eq_true] at h
  rcases h with h | h | h | h | h | h | h
  · obtain ⟨fs, v, h1, h2⟩ := zis_inv h; exact ⟨1, fs, v, _, h1, h2, rfl, by decide⟩
  · obtain ⟨fs, v, h1, h2⟩ := zis_inv h; exact ⟨2, fs, v, _, h1, h2, rfl, by decide⟩
  · obtain ⟨fs, v, h1, h2⟩ := zis_inv h; exact ⟨3, fs, v, _, h1, h2, rfl, by decide⟩
  · obtain ⟨fs, v, h1, h2⟩ := zis_inv h; exact ⟨4, fs, v, _, h1, h2, rfl, by decide⟩
  · obtain ⟨fs, v, h1, h2⟩ := zis_inv h; exact ⟨5, fs, v, _, h1, h2, rfl, by decide⟩
  · obtain ⟨fs, v, h1, h2⟩ := zis_inv h; exact ⟨6, fs, v, _, h1, h2, rfl, by decide⟩
  · obtain ⟨fs, v, h1, h2⟩ := zis_inv h; exact ⟨7, fs, v, _, h1, h2, rfl, by decide⟩
theorem zfresh {ad : Nat → Nat} {n a : Nat} : ∀ k, k < n → va_up ad n a k = ad k := fun k hk => by
  unfold va_up
  rw [if_neg (by omega)]
theorem zself {ad : Nat → Nat} {n a : Nat} : va_up ad n a n = a := by unfold va_up; rw [if_pos rfl]
section ZJ
variable {p : Program} {l : Launch} {e : Env} {R : Room} {s : State} {m : MethodId} {args : Array Value} {below : List Frame} {meth : Method} {c : Code} {G : va_G} {tc : Nat → ClassId} {A : Nat → Prop} {ad0 : Nat → Nat} {n0 u0 mi : Nat} {Q : State → Prop} {X : ZX} {pc : Nat} {L S : List Value} {st : ZS} {q : ZQ}
theorem zk_aastore (F : ZEv p l s m args meth c G tc A ad0 X mi) (hd : decode (zby mi) pc = .ok (.aastore, 1)) (hs : zstep X mi .aastore pc L S st = some q) (k : ZW p l e R s m args below meth c G tc A ad0 n0 u0 mi Q q.1 q.2.1 q.2.2.1 q.2.2.2) : ZW p l e R s m args below meth c G tc A ad0 n0 u0 mi Q pc L S st := by
  obtain ⟨⟨hx, hb, hml, hown, hts⟩, ⟨hK, hA, hlk, hst, hrt, hin⟩, hco⟩ := F
  simp only [zstep] at hs
  split at hs
  · rename_i x i a S'
    split at hs
    · rename_i n f hq
      split at hs
      · rename_i ho
        cases hj : zix i n with
        | none => rw [hj] at hs; cases hs
        | some j =>
          rw [hj] at hs
          cases hs
          obtain ⟨hv, rfl⟩ := zix_inv hj
          obtain ⟨ci, fs, v0, r, h1, h2, hr, h0⟩ := zob_inv ho
          intro ad H locs ls h
          have hc := zarr_inv hq
          have ha := zge3a h.2.1.2 hc
          have hxl : x < st.2.length := zall_hd h.sok x rfl
          have hok : zcok st.2.length (.inl (n, .inr (.inr (.inr (.inr (va_up f i.toNatClampNeg (some x))))))) := by
            intro p y e
            unfold va_up at e
            by_cases c : p = i.toNatClampNeg
            · rw [if_pos c] at e; cases e; exact hxl
            · rw [if_neg c] at e; exact h.2.1.1 _ (List.mem_of_getElem? hc) _ _ e
          refine va_astqO (D := G) (cl := vwCl) (tys := ztys tc) (E := "java/lang/Object") (f := fun i => (f i).map ad) hx hb hK h.1.1 h.1.2.1 h.1.2.2 (a - 3) 3 (x - 3) ci (zws_at ha hc) rfl (hco.2.2.2.2.2.1 _ (zcas_ok ci r hr h0)) (zws_at (zge3 h.2.1.2 h1 h2) h1) hr hv hd fun H1 locs1 p1 d1 s1 => ?_
          have e : zce tc ad (.inl (n, .inr (.inr (.inr (.inr (va_up f i.toNatClampNeg (some x))))))) = .inl (tc 3, n, .inr (.inr (.inr (.inr (va_up (fun i => (f i).map ad) i.toNatClampNeg (some (ad x))))))) := by
            simp only [zce]
            rw [zup_map]
            rfl
          rw [← e] at p1 d1
          exact k ad H1 locs1 ls (h.wr ha (List.getElem?_eq_some_iff.mp hc).1 hok (zall_tl (zall_tl (zall_tl h.sok))) p1 d1 s1)
      · cases hs
    · cases hs
  · rename_i i a S'
    split at hs
    · rename_i n f hq
      cases hj : zix i n with
      | none => rw [hj] at hs; cases hs
      | some j =>
        rw [hj] at hs
        cases hs
        obtain ⟨hv, rfl⟩ := zix_inv hj
        intro ad H locs ls h
        have hc := zarr_inv hq
        have ha := zge3a h.2.1.2 hc
        have hok : zcok st.2.length (.inl (n, .inr (.inr (.inr (.inr (va_up f i.toNatClampNeg none)))))) := by
          intro p y e
          unfold va_up at e
          by_cases c : p = i.toNatClampNeg
          · rw [if_pos c] at e; cases e
          · rw [if_neg c] at e; exact h.2.1.1 _ (List.mem_of_getElem? hc) _ _ e
        refine va_astqN (D := G) (cl := vwCl) (tys := ztys tc) (C := "java/lang/Object") (f := fun i => (f i).map ad) hx hb hK h.1.1 h.1.2.1 h.1.2.2 (a - 3) 3 (zws_at ha hc) rfl hv hd fun H1 locs1 p1 d1 s1 => ?_
        have e : zce tc ad (.inl (n, .inr (.inr (.inr (.inr (va_up f i.toNatClampNeg none)))))) = .inl (tc 3, n, .inr (.inr (.inr (.inr (va_up (fun i => (f i).map ad) i.toNatClampNeg none))))) := by
          simp only [zce]
          rw [zup_map]
          rfl
        rw [← e] at p1 d1
        exact k ad H1 locs1 ls (h.wr ha (List.getElem?_eq_some_iff.mp hc).1 hok (zall_tl (zall_tl (zall_tl h.sok))) p1 d1 s1)
    · cases hs
  · cases hs
/-- the place behind a making -/
theorem ZPt.al {ad : Nat → Nat} {H H1 : Heap} {locs : List Loc} {ls : Array Slot} {u' a : Nat} {cell : ZC} {S' : List Value} (h : ZPt G tc A s ad0 n0 u0 (zml mi) ad st L S H locs ls) (hu : st.1 ≤ u') (hc : zcok (st.2.length + 1) cell) (hS : ∀ v ∈ S', zvok st.2.length v)
    (hP : va_P G vwCl (zws tc ad st.2 ++ [(a, zce tc (va_up ad st.2.length a) cell)]) H1) (hD : va_D A (zws tc ad st.2 ++ [(a, zce tc (va_up ad st.2.length a) cell)])) (hH : va_S A s.heap H1 locs) : ZPt G tc A s ad0 n0 u0 (zml mi) (va_up ad st.2.length a) (u', st.2 ++ [cell]) L (.ref st.2.length :: S') H1 locs ls ∧ (Value.ref st.2.length :: S').map (zcv (va_up ad st.2.length a)) = .ref a :: S'.map (zcv ad) := by
  have e : zws tc (va_up ad st.2.length a) (st.2 ++ [cell]) = zws tc ad st.2 ++ [(a, zce tc (va_up ad st.2.length a) cell)] := by
    rw [zws_push cell h.2.1.2.1, zws_ad h.2.1.1 zfresh, zself]
  obtain ⟨g1, g2, g3, g4⟩ := h.2.2.2
  refine ⟨⟨⟨by rw [e]; exact hP, by rw [e]; exact hD, hH⟩, ⟨zhok_push h.2.1.1 hc, zspc_push h.2.1.2⟩, ⟨h.zl.ad h.lok zfresh, ?_, ?_⟩, ⟨fun k hk => ?_, ?_, g3, Nat.le_trans g4 hu⟩⟩, ?_⟩
  · intro v hv; rw [List.length_append]; exact zvok_mono (h.lok v hv) (Nat.le_add_right _ _)
  · rw [List.length_append]
    exact zall_cons (zvok_ref (Nat.lt_succ_self _)) fun v hv => zvok_mono (hS v hv) (Nat.le_add_right _ _)
  · rw [zfresh k (Nat.lt_of_lt_of_le hk g2)]; exact g1 k hk
  · rw [List.length_append]; exact Nat.le_trans g2 (Nat.le_add_right _ _)
  · rw [List.map_cons, List.map_congr_left fun v hv => zcv_ad (hS v hv) zfresh]
    show Value.ref (va_up ad st.2.length a st.2.length) :: _ = _
    rw [zself]
theorem znewf_ok {ci n : Nat} {ad : Nat → Nat} : (znewf ci).map (zcv ad) = znewf ci ∧ ∀ v ∈ znewf ci, zvok n v := by
  have h : ∀ t : Nat, zcv ad (zdv t) = zdv t ∧ zvok n (zdv t) := by
    intro t
    match t with
    | 0 => exact ⟨rfl, zvok_int⟩
    | 1 => exact ⟨rfl, zvok_float⟩
    | t + 2 => exact ⟨rfl, zvok_null⟩
  unfold znewf
  refine ⟨?_, ?_⟩
  · rw [List.map_map]
    exact List.map_congr_left fun t _ => (h t.1).1
  · intro v hv
    obtain ⟨t, -, rfl⟩ := List.mem_map.mp hv
    exact (h t.1).2
theorem zk_new {idx : Nat} (F : ZEv p l s m args meth c G tc A ad0 X mi) (hR : q.2.2.2.1 - u0 ≤ R.cells ∧ q.2.2.2.1 - u0 ≤ R.slots) (hd : decode (zby mi) pc = .ok (.new idx, 3)) (hs : zstep X mi (.new idx) pc L S st = some q) (k : ZW p l e R s m args below meth c G tc A ad0 n0 u0 mi Q q.1 q.2.1 q.2.2.1 q.2.2.2) : ZW p l e R s m args below meth c G tc A ad0 n0 u0 mi Q pc L S st := by
  obtain ⟨⟨hx, hb, hml, hown, hts⟩, ⟨hK, hA, hlk, hst, hrt, hin⟩, hco⟩ := F
  simp only [zstep] at hs
  cases hf : zNL.lookup (zoc mi, idx) with
  | none => rw [hf] at hs; cases hs
  | some ci =>
    rw [hf] at hs
    cases hs
    obtain ⟨r, hr, w1, w2, w3⟩ := zN_ok hf
    obtain ⟨hus, ty0, hty, hnm, htc⟩ := zcl_ok ci r hr
    unfold zTc at htc
    rw [Bool.and_eq_true] at htc
    have hlen : (znewf ci).length = r.2.2 := of_decide_eq_true htc.1
    intro ad H locs ls h
    have hu : u0 ≤ st.1 := h.2.2.2.2.2.2
    have hR1 : st.1 + (znewf ci).length + 1 - u0 ≤ R.cells := hR.1
    have hR2 : st.1 + (znewf ci).length + 1 - u0 ≤ R.slots := hR.2
    refine va_new (D := G) (cl := vwCl) (tys := ztys tc) (C := r.1) (T := r.2.1) (N := r.2.2) (fs := znewf ci) hx hb hts hus ty0 hty hown (hts _ w1) (hts _ w2) (hts _ w3) hK h.1.1 h.1.2.1 h.1.2.2 hA hr (fun j hj => ?_) (by omega) (by omega) hd fun a H1 p1 d1 s1 => ?_
    · have ht := List.all_eq_true.mp htc.2 j (List.mem_range.mpr hj)
      simp only [Bool.and_eq_true] at ht
      exact of_decide_eq_true ht.2.2.1
    · have e : zce tc (va_up ad st.2.length a) (.inr (ci, znewf ci)) = .inr (ci, znewf ci) := by
        simp only [zce]
        rw [(znewf_ok (n := 0)).1]
      rw [← e] at p1 d1
      obtain ⟨z1, z2⟩ := h.al (u' := st.1 + (znewf ci).length + 1) (cell := .inr (ci, znewf ci)) (by omega) (fun v hv => (znewf_ok (ad := ad)).2 v hv) h.sok p1 d1 s1
      have k2 := k _ H1 locs ls z1
      rw [z2] at k2
      exact W.widen (k := st.1 + (znewf ci).length + 1 - u0) (n := st.1 + (znewf ci).length + 1 - u0) (by omega) (by omega) k2
theorem zK_ra {ty ty' : FieldType} {j : Nat} {cA cB : ClassId} {tys : List (ClassId × FieldType)} (hK : va_K G vwCl (tys ++ [(cA, ty)]) s) (hK0 : va_K G vwCl tys s) (ht : tys[j]? = some (cB, ty)) : cA = cB := by
  have h1 := (hK.2 tys.length (cA, ty) (by simp)).2
  have h2 := (hK0.2 j (cB, ty) ht).2
  cases ty with
  | object C =>
    obtain ⟨_, _, _, _, _, a⟩ := h1
    obtain ⟨_, _, _, _, _, b⟩ := h2
    exact Option.some.inj (a.symm.trans b)
  | _ => exact Option.some.inj (h1.symm.trans h2)
theorem zk_newarray {t : ArrayType} (F : ZEv p l s m args meth c G tc A ad0 X mi) (hR : q.2.2.2.1 - u0 ≤ R.cells ∧ q.2.2.2.1 - u0 ≤ R.slots) (hd : decode (zby mi) pc = .ok (.newarray t, 2)) (hs : zstep X mi (.newarray t) pc L S st = some q) (k : ZW p l e R s m args below meth c G tc A ad0 n0 u0 mi Q q.1 q.2.1 q.2.2.1 q.2.2.2) : ZW p l e R s m args below meth c G tc A ad0 n0 u0 mi Q pc L S st := by
  obtain ⟨⟨hx, hb, hml, hown, hts⟩, ⟨hK, hA, hlk, hst, hrt, hin⟩, hco⟩ := F
  simp only [zstep] at hs
  split at hs
  · rename_i n S'
    split at hs
    · cases hs
    · rename_i hn
      have hn0 : ¬ n < 0 := fun z => hn (Or.inl z)
      have hn1 : n.toNatClampNeg ≤ 1000000 := Nat.le_of_not_lt fun z => hn (Or.inr z)
      split at hs
      · cases hs
        intro ad H locs ls h
        have hu : u0 ≤ st.1 := h.2.2.2.2.2.2
        have hR1 : st.1 + n.toNatClampNeg + 1 - u0 ≤ R.cells := hR.1
        have hR2 : st.1 + n.toNatClampNeg + 1 - u0 ≤ R.slots := hR.2
        refine va_newa (D := G) (cl := vwCl) (tys := ztys tc) (atype := .int) (ty := .int) (a0 := (n.toNatClampNeg, .inl fun _ => 0)) hx hb (hts _ zw_int) rfl hK h.1.1 h.1.2.1 h.1.2.2 hA (fun _ => rfl) hn0 rfl (by simp only [componentBytes]; omega) (by omega) (by omega) hd fun a cA H1 hK1 p1 d1 s1 => ?_
        have ec := zK_ra (ty' := .int) (j := 0) hK1 hK rfl
        subst ec
        obtain ⟨z1, z2⟩ := h.al (u' := st.1 + n.toNatClampNeg + 1) (cell := .inl (n.toNatClampNeg, .inl fun _ => 0)) (by omega) trivial (zall_tl h.sok) p1 d1 s1
        have k2 := k _ H1 locs ls z1
        rw [z2] at k2
        exact W.widen (k := st.1 + n.toNatClampNeg + 1 - u0) (n := st.1 + n.toNatClampNeg + 1 - u0) (by omega) (by omega) k2
      · cases hs
        intro ad H locs ls h
        have hu : u0 ≤ st.1 := h.2.2.2.2.2.2
        have hR1 : st.1 + n.toNatClampNeg + 1 - u0 ≤ R.cells := hR.1
        have hR2 : st.1 + n.toNatClampNeg + 1 - u0 ≤ R.slots := hR.2
        refine va_newa (D := G) (cl := vwCl) (tys := ztys tc) (atype := .long) (ty := .long) (a0 := (n.toNatClampNeg, .inr (.inl fun _ => 0))) hx hb (hts _ zw_long) rfl hK h.1.1 h.1.2.1 h.1.2.2 hA (fun _ => rfl) hn0 rfl (by simp only [componentBytes]; omega) (by omega) (by omega) hd fun a cA H1 hK1 p1 d1 s1 => ?_
        have ec := zK_ra (ty' := .long) (j := 1) hK1 hK rfl
        subst ec
        obtain ⟨z1, z2⟩ := h.al (u' := st.1 + n.toNatClampNeg + 1) (cell := .inl (n.toNatClampNeg, .inr (.inl fun _ => 0))) (by omega) trivial (zall_tl h.sok) p1 d1 s1
        have k2 := k _ H1 locs ls z1
        rw [z2] at k2
        exact W.widen (k := st.1 + n.toNatClampNeg + 1 - u0) (n := st.1 + n.toNatClampNeg + 1 - u0) (by omega) (by omega) k2
      · cases hs
        intro ad H locs ls h
        have hu : u0 ≤ st.1 := h.2.2.2.2.2.2
        have hR1 : st.1 + n.toNatClampNeg + 1 - u0 ≤ R.cells := hR.1
        have hR2 : st.1 + n.toNatClampNeg + 1 - u0 ≤ R.slots := hR.2
        refine va_newa (D := G) (cl := vwCl) (tys := ztys tc) (atype := .double) (ty := .double) (a0 := (n.toNatClampNeg, .inr (.inr (.inr (.inl fun _ => 0))))) hx hb (hts _ zw_dbl) rfl hK h.1.1 h.1.2.1 h.1.2.2 hA (fun _ => rfl) hn0 rfl (by simp only [componentBytes]; omega) (by omega) (by omega) hd fun a cA H1 hK1 p1 d1 s1 => ?_
        have ec := zK_ra (ty' := .double) (j := 2) hK1 hK rfl
        subst ec
        obtain ⟨z1, z2⟩ := h.al (u' := st.1 + n.toNatClampNeg + 1) (cell := .inl (n.toNatClampNeg, .inr (.inr (.inr (.inl fun _ => 0))))) (by omega) trivial (zall_tl h.sok) p1 d1 s1
        have k2 := k _ H1 locs ls z1
        rw [z2] at k2
        exact W.widen (k := st.1 + n.toNatClampNeg + 1 - u0) (n := st.1 + n.toNatClampNeg + 1 - u0) (by omega) (by omega) k2
      · cases hs
  · cases hs
theorem zk_checkcast {idx : Nat} (F : ZEv p l s m args meth c G tc A ad0 X mi) (hd : decode (zby mi) pc = .ok (.checkcast idx, 3)) (hs : zstep X mi (.checkcast idx) pc L S st = some q) (k : ZW p l e R s m args below meth c G tc A ad0 n0 u0 mi Q q.1 q.2.1 q.2.2.1 q.2.2.2) : ZW p l e R s m args below meth c G tc A ad0 n0 u0 mi Q pc L S st := by
  obtain ⟨⟨hx, hb, hml, hown, hts⟩, ⟨hK, hA, hlk, hst, hrt, hin⟩, hco⟩ := F
  simp only [zstep] at hs
  split at hs
  · rename_i a S'
    cases hf : zKL.lookup (zoc mi, idx) with
    | none => rw [hf] at hs; cases hs
    | some ci =>
      rw [hf] at hs
      simp only [Option.bind_some] at hs
      split at hs
      · rename_i hi
        cases hs
        obtain ⟨fs, v, h1, h2⟩ := zis_inv hi
        obtain ⟨r, hr, hl⟩ := zK_ok hf
        intro ad H locs ls h
        exact va_castS (cC := G.1 ci) hx hb hown (hts _ hl) (hK.1 ci r hr).2 (va_recv hK h.1.1 hr (zws_at (zge3 h.2.1.2 h1 h2) h1)) hd (k ad H locs ls h)
      · cases hs
  · rename_i S'
    cases hs
    intro ad H locs ls h
    exact lv_castN hx hb hd (k ad H locs ls h)
  · cases hs
end ZJ
end
section
/-! the rest of the instructions -/
theorem zw_ao1 : Cond.classLink (zow 10) 7 "java/lang/Object" ∈ zgw := zgw_at 365 (by decide +kernel)
theorem zw_ao2 : Cond.classLink (zow 11) 2 "java/lang/Object" ∈ zgw := zgw_at 357 (by decide +kernel)
theorem zw_oc : Cond.classLink (zow 11) 110 "[Ljava/lang/Object;" ∈ zgw := zgw_at 355 (by decide +kernel)
theorem zw_gs : Cond.fieldLink (zow 10) 39 "java/util/ArrayList" "DEFAULTCAPACITY_EMPTY_ELEMENTDATA" "[Ljava/lang/Object;" ∈ zgw := zgw_at 81 (by decide +kernel)
theorem zw_gc1 : Cond.methodLink (zow 11) 86 ⟨"java/lang/Object", "getClass", "()Ljava/lang/Class;"⟩ ∈ zgw := zgw_at 337 (by decide +kernel)
theorem zw_gc2 : Cond.instanceMethod ⟨"java/lang/Object", "getClass", "()Ljava/lang/Class;"⟩ ∈ zgw := zgw_at 338 (by decide +kernel)
theorem zw_gc3 : Cond.native ⟨"java/lang/Object", "getClass", "()Ljava/lang/Class;"⟩ ∈ zgw := zgw_at 351 (by decide +kernel)
theorem zw_gc4 : Cond.selects "[Ljava/lang/Object;" ⟨"java/lang/Object", "getClass", "()Ljava/lang/Class;"⟩ ⟨"java/lang/Object", "getClass", "()Ljava/lang/Class;"⟩ ∈ zgw := zgw_at 1025 (by decide +kernel)
theorem zw_ac1 : Cond.methodLink (zow 11) 150 arraycopyName ∈ zgw := zgw_at 361 (by decide +kernel)
theorem zw_ac2 : Cond.methodLink (zow 2) 19 arraycopyName ∈ zgw := zgw_at 743 (by decide +kernel)
theorem zw_ac3 : Cond.native arraycopyName ∈ zgw := zgw_at 363 (by decide +kernel)
theorem zw_ac4 : Cond.static arraycopyName ∈ zgw := zgw_at 362 (by decide +kernel)
theorem zw_ac5 : Cond.initialized "java/lang/System" ∈ zgw := zgw_at 54 (by decide +kernel)
theorem zw_m1 : Cond.static Lib.Math.max.name ∈ zgw ∧ Cond.code Lib.Math.max.name Lib.Math.max.code 2 (some .int) ∈ zgw := ⟨zgw_at 328 (by decide +kernel), zgw_at 329 (by decide +kernel)⟩
theorem zw_m2 : Cond.static Lib.Math.min.name ∈ zgw ∧ Cond.code Lib.Math.min.name Lib.Math.min.code 2 (some .int) ∈ zgw := ⟨zgw_at 359 (by decide +kernel), zgw_at 360 (by decide +kernel)⟩
theorem zw_m3 : Cond.initialized "java/lang/Math" ∈ zgw := zgw_at 52 (by decide +kernel)
def zXc (x : ((Nat × Nat) × Bool) × Nat) : Bool := match x.1.2 with
  | true => zhas (.methodLink (zow x.1.1.1) x.1.1.2 Lib.Math.max.name) x.2
  | false => zhas (.methodLink (zow x.1.1.1) x.1.1.2 Lib.Math.min.name) x.2
theorem zX_all : (zXX.zip zXP2).all zXc = true := by decide +kernel
theorem zw_oi : Cond.instanceMethod Lib.objectInit ∈ zgw ∧ Cond.code Lib.objectInit ⟨#[0xb1]⟩ 1 none ∈ zgw := ⟨zgw_at 67 (by decide +kernel), zgw_at 68 (by decide +kernel)⟩
def zOIP : List Nat := [273, 671, 279, 501, 100, 66, 777, 80]
theorem zO_all : (zOI.zip zOIP).all (fun x => zhas (.methodLink (zow x.1.1) x.1.2 Lib.objectInit) x.2) = true := by decide +kernel
theorem zO_ok {o i : Nat} (h : zOI.contains (o, i) = true) : Cond.methodLink (zow o) i Lib.objectInit ∈ zgw := by
  obtain ⟨c, hc⟩ := zzip (r := zOIP) (by decide +kernel) (List.contains_iff_mem.mp h)
  exact zhas_mem (List.all_eq_true.mp zO_all _ hc)
theorem zcat2 {v : Value} : v.category ≤ 2 := by cases v <;> simp [Value.category]
theorem zsum {S : List Value} (h : S.length ≤ 4) : (S.map fun v => v.category).sum ≤ 8 := by
  have hs : ∀ S : List Value, (S.map fun v => v.category).sum ≤ 2 * S.length := by
    intro S
    induction S with
    | nil => simp
    | cons v S ih =>
      have := zcat2 (v := v)
      simp only [List.map_cons, List.sum_cons, List.length_cons]
      omega
  have := hs S
  omega
theorem zobj_nm : "[" ++ (FieldType.object "java/lang/Object").toString = "[Ljava/lang/Object;" := by decide +kernel
section ZK
variable {p : Program} {l : Launch} {e : Env} {R : Room} {s : State} {m : MethodId} {args : Array Value} {below : List Frame} {meth : Method} {c : Code} {G : va_G} {tc : Nat → ClassId} {A : Nat → Prop} {ad0 : Nat → Nat} {n0 u0 mi : Nat} {Q : State → Prop} {X : ZX} {pc : Nat} {L S : List Value} {st : ZS} {q : ZQ}
theorem zk_getstatic {idx : Nat} (F : ZEv p l s m args meth c G tc A ad0 X mi) (hd : decode (zby mi) pc = .ok (.getstatic idx, 3)) (hs : zstep X mi (.getstatic idx) pc L S st = some q) (k : ZW p l e R s m args below meth c G tc A ad0 n0 u0 mi Q q.1 q.2.1 q.2.2.1 q.2.2.2) : ZW p l e R s m args below meth c G tc A ad0 n0 u0 mi Q pc L S st := by
  obtain ⟨⟨hx, hb, hml, hown, hts⟩, ⟨hK, hA, hlk, hst, hrt, hin⟩, ⟨⟨hZ, hT⟩, -⟩, -⟩ := F
  simp only [zstep] at hs
  split at hs
  · rename_i e
    cases hs
    rw [e.1] at hown
    rw [e.2] at hd
    intro ad H locs ls h
    have e0 : ad 0 = ad0 0 := h.2.2.2.1 0 (by have := h.2.2.2.2.2.1; omega)
    have k2 := k ad H locs ls (h.stk (zall_cons (zvok_ref (by have := h.2.1.2.1; omega)) h.sok))
    rw [List.map_cons, show zcv ad (.ref 0) = .ref (ad0 0) by simp only [zcv, e0]] at k2
    exact va_gets hx hb hZ h.1.2.2 hown (hts _ zw_gs) (fun x hx9 => hx9) hd k2
  · cases hs
theorem zk_anewarray {idx : Nat} (F : ZEv p l s m args meth c G tc A ad0 X mi) (hR : q.2.2.2.1 - u0 ≤ R.cells ∧ q.2.2.2.1 - u0 ≤ R.slots) (hd : decode (zby mi) pc = .ok (.anewarray idx, 3)) (hs : zstep X mi (.anewarray idx) pc L S st = some q) (k : ZW p l e R s m args below meth c G tc A ad0 n0 u0 mi Q q.1 q.2.1 q.2.2.1 q.2.2.2) : ZW p l e R s m args below meth c G tc A ad0 n0 u0 mi Q pc L S st := by
  obtain ⟨⟨hx, hb, hml, hown, hts⟩, ⟨hK, hA, hlk, hst, hrt, hin⟩, hch, hcv⟩ := F
  simp only [zstep] at hs
  split at hs
  · rename_i n S'
    split at hs
    · rename_i hoc
      split at hs
      · cases hs
      · rename_i hn
        cases hs
        have hn0 : ¬ n < 0 := fun z => hn (Or.inl z)
        have hn1 : n.toNatClampNeg ≤ 1000000 := Nat.le_of_not_lt fun z => hn (Or.inr z)
        have hcl : (Cond.classLink (zow (zoc mi)) idx "java/lang/Object").before args s = true := by
          rcases hoc with e | e
          · rw [e.1, e.2]; exact hts _ zw_ao1
          · rw [e.1, e.2]; exact hts _ zw_ao2
        intro ad H locs ls h
        have hu : u0 ≤ st.1 := h.2.2.2.2.2.2
        have hR1 : st.1 + n.toNatClampNeg + 1 - u0 ≤ R.cells := hR.1
        have hR2 : st.1 + n.toNatClampNeg + 1 - u0 ≤ R.slots := hR.2
        refine va_newq (D := G) (cl := vwCl) (tys := ztys tc) (C := "java/lang/Object") hx hb hown hcl hcv.2.2.1 hK h.1.1 h.1.2.1 h.1.2.2 hA hn0 rfl (by omega) (by omega) (by omega) hd fun a cA H1 hK1 p1 d1 s1 => ?_
        have ec := zK_ra (ty' := .int) (j := 3) hK1 hK rfl
        subst ec
        obtain ⟨z1, z2⟩ := h.al (u' := st.1 + n.toNatClampNeg + 1) (cell := .inl (n.toNatClampNeg, .inr (.inr (.inr (.inr fun _ => none))))) (by omega) (fun i k e => by cases e) (zall_tl h.sok) p1 d1 s1
        have k2 := k _ H1 locs ls z1
        rw [z2] at k2
        exact W.widen (k := st.1 + n.toNatClampNeg + 1 - u0) (n := st.1 + n.toNatClampNeg + 1 - u0) (by omega) (by omega) k2
    · cases hs
  · cases hs
theorem zk_arraylength (F : ZEv p l s m args meth c G tc A ad0 X mi) (hd : decode (zby mi) pc = .ok (.arraylength, 1)) (hs : zstep X mi .arraylength pc L S st = some q) (k : ZW p l e R s m args below meth c G tc A ad0 n0 u0 mi Q q.1 q.2.1 q.2.2.1 q.2.2.2) : ZW p l e R s m args below meth c G tc A ad0 n0 u0 mi Q pc L S st := by
  obtain ⟨⟨hx, hb, hml, hown, hts⟩, ⟨hK, hA, hlk, hst, hrt, hin⟩, ⟨⟨hZ, hT⟩, ⟨hX, hbl, hbA⟩, -⟩, hcv⟩ := F
  simp only [zstep] at hs
  split at hs
  · rename_i a S'
    cases hn : zlen X st a with
    | none => rw [hn] at hs; cases hs
    | some n =>
      rw [hn] at hs
      cases hs
      intro ad H locs ls h
      have hn0 := h.2.2.2.2.2.1
      have k2 := k ad H locs ls (h.stk (zall_cons zvok_int (zall_tl h.sok)))
      unfold zlen at hn
      split at hn
      · rename_i e
        subst e
        cases hn
        show W p l e R s m args below meth c H locs (st.1 - u0) (st.1 - u0) Q (F0 m pc ls (.ref (ad 0) :: S'.map (zcv ad)))
        rw [h.2.2.2.1 0 (by omega)]
        exact va_tlen hx hb hT h.1.2.2 rfl hd k2
      · split at hn
        · rename_i e
          subst e
          cases hn
          show W p l e R s m args below meth c H locs (st.1 - u0) (st.1 - u0) Q (F0 m pc ls (.ref (ad 1) :: S'.map (zcv ad)))
          rw [h.2.2.2.1 1 (by omega)]
          exact va_slen hx hb hX hbl hbA h.1.2.2 hd k2
        · cases hq : zarr st a with
          | none => rw [hq] at hn; cases hn
          | some x =>
            rw [hq] at hn
            cases hn
            have hc := zarr_inv hq
            have hw := zws_at (tc := tc) (ad := ad) (zge3a h.2.1.2 hc) hc
            have hok := h.2.1.1 _ (List.mem_of_getElem? hc)
            match x, hc, hw, hok, k2 with
            | (n, .inl f), hc, hw, _, k2 => exact va_alen (D := G) (cl := vwCl) (tys := ztys tc) hx hb hK h.1.1 (a - 3) 0 hw (ty := .int) rfl rfl hd k2
            | (n, .inr (.inl f)), hc, hw, _, k2 => exact va_alen (D := G) (cl := vwCl) (tys := ztys tc) hx hb hK h.1.1 (a - 3) 1 hw (ty := .long) rfl rfl hd k2
            | (n, .inr (.inr (.inl f))), hc, hw, hok, k2 => exact hok.elim
            | (n, .inr (.inr (.inr (.inl f)))), hc, hw, _, k2 => exact va_alen (D := G) (cl := vwCl) (tys := ztys tc) hx hb hK h.1.1 (a - 3) 2 hw (ty := .double) rfl rfl hd k2
            | (n, .inr (.inr (.inr (.inr f)))), hc, hw, _, k2 => exact va_alen (D := G) (cl := vwCl) (tys := ztys tc) hx hb hK h.1.1 (a - 3) 3 hw (ty := .object "java/lang/Object") rfl rfl hd k2
  · cases hs
theorem zk_ldc {idx : Nat} (F : ZEv p l s m args meth c G tc A ad0 X mi) (hd : decode (zby mi) pc = .ok (.ldc idx, 2)) (hs : zstep X mi (.ldc idx) pc L S st = some q) (k : ZW p l e R s m args below meth c G tc A ad0 n0 u0 mi Q q.1 q.2.1 q.2.2.1 q.2.2.2) : ZW p l e R s m args below meth c G tc A ad0 n0 u0 mi Q pc L S st := by
  obtain ⟨⟨hx, hb, hml, hown, hts⟩, ⟨hK, hA, hlk, hst, hrt, hin⟩, hch, hcv⟩ := F
  simp only [zstep] at hs
  split at hs
  · rename_i e
    cases hs
    rw [e.1] at hown
    rw [e.2] at hd
    intro ad H locs ls h
    have e0 : ad 2 = ad0 2 := h.2.2.2.1 2 (by have := h.2.2.2.2.2.1; omega)
    have k2 := k ad H locs ls (h.stk (zall_cons (zvok_ref (by have := h.2.1.2.1; omega)) h.sok))
    rw [List.map_cons, show zcv ad (.ref 2) = .ref (ad0 2) by simp only [zcv, e0]] at k2
    exact va_ldcM hx hb hown (hts _ zw_oc) hcv.1 hd k2
  · cases hv : zDL.lookup (zoc mi, idx) with
    | none => rw [hv] at hs; cases hs
    | some v =>
      rw [hv] at hs
      simp only [Option.bind_some] at hs
      rcases zD_ok hv with ⟨x, rfl, hw⟩ | ⟨x, rfl, hw⟩ | ⟨x, rfl, hw⟩
      · cases hs; exact zw_push (v := .int x) (fun n => zvok_int) (fun ad H locs cells slots ls rest k => lv_ldc hx hb hown (hts _ hw) hd k) k
      · cases hs; exact zw_push (v := .float x) (fun n => zvok_float) (fun ad H locs cells slots ls rest k => lv_ldcf hx hb hown (hts _ hw) hd k) k
      · cases hs
theorem zk_invokevirtual {idx : Nat} (F : ZEv p l s m args meth c G tc A ad0 X mi) (hR : 1 ≤ R.frames ∧ 40 ≤ R.locals) (hd : decode (zby mi) pc = .ok (.invokevirtual idx, 3)) (hs : zstep X mi (.invokevirtual idx) pc L S st = some q) (k : ZW p l e R s m args below meth c G tc A ad0 n0 u0 mi Q q.1 q.2.1 q.2.2.1 q.2.2.2) : ZW p l e R s m args below meth c G tc A ad0 n0 u0 mi Q pc L S st := by
  obtain ⟨⟨hx, hb, hml, hown, hts⟩, ⟨hK, hA, hlk, hst, hrt, hin⟩, hch, hcv⟩ := F
  simp only [zstep] at hs
  split at hs
  · rename_i a S'
    split at hs
    · rename_i e
      split at hs
      · rename_i n f hq
        cases hs
        rw [e.1] at hown
        rw [e.2.1] at hd
        intro ad H locs ls h
        have hc := zarr_inv hq
        have hw := zws_at (tc := tc) (ad := ad) (zge3a h.2.1.2 hc) hc
        have e0 : ad 2 = ad0 2 := h.2.2.2.1 2 (by have := h.2.2.2.2.2.1; omega)
        have k2 := k ad H locs ls (h.stk (zall_cons (zvok_ref (by have := h.2.1.2.1; omega)) (zall_tl h.sok)))
        rw [List.map_cons, show zcv ad (.ref 2) = .ref (ad0 2) by simp only [zcv, e0]] at k2
        have hat : H[ad a]? = some (vp_cell (tc 3) (n, .inr (.inr (.inr (.inr fun i => (f i).map ad))))) := h.1.1 _ _ hw
        have hra := (hK.2 3 (tc 3, .object "java/lang/Object") rfl).2
        obtain ⟨_, _, _, _, _, hfc⟩ := hra
        rw [zobj_nm] at hfc
        have hsum : ((S'.map (zcv ad)).map fun v => v.category).sum ≤ 8 := zsum (by rw [List.length_map]; exact e.2.2)
        exact va_getC (C := "[Ljava/lang/Object;") hx hb (by rw [hml]; exact h.zl.2.1.symm) hown (hts _ zw_gc1) hcv.2.1.use (hts _ zw_gc4) (hts _ zw_gc2) (hts _ zw_gc3) hcv.1 ⟨_, hat, rfl, hfc⟩ hR.1 (by omega) hd k2
      · cases hs
    · cases hs
  · cases hs
theorem zk_invokespecial {idx : Nat} (F : ZEv p l s m args meth c G tc A ad0 X mi) (hR : 1 ≤ R.frames ∧ 40 ≤ R.locals) (hd : decode (zby mi) pc = .ok (.invokespecial idx, 3)) (hs : zstep X mi (.invokespecial idx) pc L S st = some q) (k : ZW p l e R s m args below meth c G tc A ad0 n0 u0 mi Q q.1 q.2.1 q.2.2.1 q.2.2.2) : ZW p l e R s m args below meth c G tc A ad0 n0 u0 mi Q pc L S st := by
  obtain ⟨⟨hx, hb, hml, hown, hts⟩, ⟨hK, hA, hlk, hst, hrt, hin⟩, hch, hcv⟩ := F
  simp only [zstep] at hs
  split at hs
  · rename_i a S'
    split at hs
    · rename_i e
      cases hs
      intro ad H locs ls h
      have hsum : ((S'.map (zcv ad)).map fun v => v.category).sum ≤ 8 := by
        refine zsum ?_
        rw [List.length_map]
        exact e.2
      have h0 : (F0 m pc ls (.ref (ad a) :: S'.map (zcv ad))).monitorRoom = 0 := rfl
      refine W.objInit hx hb hown (hts _ (zO_ok e.1)) (hts _ zw_oi.1) (hts _ zw_oi.2) (g := F0 m pc ls (.ref (ad a) :: S'.map (zcv ad))) rfl (by rw [hml]; exact h.zl.2.1) rfl hd hR.1 (by rw [h0]; omega) ?_
      exact k ad H locs ls (h.stk (zall_tl h.sok))
    · cases hs
  · cases hs
end ZK
end
section
/-! ===== BEGIN a constructor that throws (launches without stack traces) ===== -/
section VXIA
variable {p : Program} {l : Launch} {e : Env} {R : Room} {s : State} {m : MethodId} {args : Array Value} {below : List Frame} {meth : Method} {c : Code} {T : State} {locs : List Loc} {cells slots : Nat}
theorem vx_callI (X : Stand p l e R s m args below meth c T locs cells slots) (hexec : p.tables.exec = Jvm.exec) {own : String} {index : Nat} {y : MethodName} {bytes : ByteArray} {maxL : Nat}
    (hown : s.vm.findClass own = some m.cls) (hy1 : y.name = "<init>") (hlink : (Cond.methodLink own index y).before args s = true) (hinst : (Cond.instanceMethod y).before args s = true)
    (hcode : (Cond.code y bytes maxL none).before args s = true) (hy : y.cls ≠ "java/lang/invoke/MethodHandle" ∧ y.cls ≠ "java/lang/invoke/VarHandle")
    {W9 : Nat} {Pre : Pt → Array Value → Prop} {Post : Pt → Array Value → Option Value → Pt → Prop} {PostX : Pt → Array Value → Addr → Pt → Prop} (hK : vx_Back l R p e below s args y 3 W9 Pre Post PostX)
    {g : JFrame} (hg : g.method = m) (hsize : g.locals.size = c.maxLocals) {a : Addr} {argsL rest : List Value} (hlen : ∀ sig, parseMethodDescriptor y.desc = some sig → argsL.length = sig.parameters.length)
    (hstack : g.stack = argsL.reverse ++ .ref a :: rest) (hW : 2 * g.monitorRoom + (rest.map fun v => v.category).sum ≤ W9) (hdg : decode c.code g.pc = .ok (.invokespecial index, 3))
    (hpre : ∀ vm₁, s.WarmedH vm₁ → Pre ⟨T.setVm vm₁, locs, cells, slots⟩ (Value.ref a :: argsL).toArray) :
    (∃ (v : Option Value) (vm₁ : Vm) (B : Pt), s.WarmedH vm₁ ∧ Stand p l e R s m args below meth c B.U B.locs B.cells B.slots ∧ Post ⟨T.setVm vm₁, locs, cells, slots⟩ (Value.ref a :: argsL).toArray v B ∧
      ∀ target, Steps p.tables e below (B.U.setTop { g with pc := g.pc + 3, stack := v.toList ++ rest }) target → Steps p.tables e below (T.setTop g) target) ∨
    (∃ (q : Addr) (vm₁ : Vm) (B : Pt), s.WarmedH vm₁ ∧ Stand p l e R s m args below meth c B.U B.locs B.cells B.slots ∧ PostX ⟨T.setVm vm₁, locs, cells, slots⟩ (Value.ref a :: argsL).toArray q B ∧
      Steps p.tables e below (T.setTop g) ((B.U.setTop { g with stack := rest }).pushFrame (.throwing q))) := by
  subst hg
  have hpl : e.platform.magicAccessors = ({} : Platform).magicAccessors := by rw [X.admits.platform]
  obtain ⟨mk, methM, cM, kP, vm₁, hnamed, hmethM, hcodeM, -, hlocalsM, -, hkP, -, hW₁, hstep₁⟩ := Steps.initColdArgs (e := e) X.here hexec X.warmed hpl hown hy1 hy hlink hinst hcode (f := g) rfl hlen hstack hdg
  have X₁ := X.noted hW₁
  rcases hK g.method meth c ⟨T.setVm vm₁, locs, cells, slots⟩ { g with stack := rest } (.invokespecial index) mk (Value.ref a :: argsL).toArray X₁ rfl hsize hdg hW (X₁.named hnamed) (hpre vm₁ X₁.warmed) with ⟨v, B, X', hpost, hsteps⟩ | ⟨q, B, X', hpost, hsteps⟩
  · exact Or.inl ⟨v, vm₁, B, X₁.warmed, X', hpost, fun target h => hstep₁ _ fun acts => by rw [doInvoke_state]; exact hsteps.trans h⟩
  · exact Or.inr ⟨q, vm₁, B, X₁.warmed, X', hpost, hstep₁ _ fun acts => by rw [doInvoke_state]; exact hsteps⟩
end VXIA
section VXIB
variable {p : Program} {l : Launch} {e : Env} {R : Room} {s : State} {m : MethodId} {args : Array Value} {below : List Frame} {meth : Method} {c : Code} {H : Heap} {locs : List Loc} {cells slots : Nat}
variable {y : MethodName} {bytes cc : ByteArray} {maxL nL mc ms n index : Nat} {ret : Option FieldType} {ws : List Cond} {rm : Room} {Pc : Array Value → State → Prop} {Qc : Array Value → State → Outcome → State → Prop} {XC : String → State → State → Prop} {free : Addr → Prop} {Ts : List Cond} {own C : String} {b : Addr} {As rest : List Value} {g : JFrame}
theorem vx_runI (S : CallFix p m c cc nL s args Ts own) (hM : vx_Met l y ws rm Pc Qc XC mc ms free) (cw : CallB R s args own index y bytes maxL none ws rm mc ms n ∧ y.name = "<init>" ∧ (Cond.instanceMethod y).before args s = true) (hp : PreS s H Pc (.ref b :: As))
    (hg : g.method = m) (hn : As.length = n) (hsize : g.locals.size = nL) (hstack : g.stack = As.reverse ++ .ref b :: rest) (hW : 2 * g.monitorRoom + (rest.map fun v => v.category).sum ≤ 8) (hdg : decode cc g.pc = .ok (.invokespecial index, 3)) (hf : cells + mc ≤ R.cells ∧ slots + ms ≤ R.slots) :
    vx_Run p l e R s m args below meth c H locs cells slots mc ms g rest (Qc (Value.ref b :: As).toArray) XC free := by
  have hK : vx_Back l R p e below s args y 3 8 (PreOf R mc ms Pc) (PostOf Qc mc ms free) (vx_Post XC mc ms free) := vx_callBack cw.1 hM hp.1
  obtain ⟨⟨-, -, -, -, -, -, hcode, -, hy, hlen, hl⟩, hy1, hin⟩ := cw
  obtain ⟨hx, hb, hml, ho, -⟩ := S
  have hPc := hp.2
  intro T hT X
  rcases vx_callI X hx (bytes := bytes) (maxL := maxL) ho hy1 hl hin hcode hy hK hg (hsize.trans hml.symm) (a := b) (argsL := As) (rest := rest) (fun sig h => hn.trans (hlen sig h)) hstack hW (by rw [hb]; exact hdg)
    (fun vm₁ hW₁ => ⟨hf.1, hf.2, hPc (T.setVm vm₁) hT hW₁⟩) with ⟨v, vm₁, ⟨U', l2, c2, s2⟩, hW₁, X', ⟨g', mk, t, L, e1, e2, hq, h1, hL, h2, h3⟩, st⟩ | ⟨q, vm₁, ⟨U', l2, c2, s2⟩, hW₁, X', ⟨g', mk, t, L, E, ce, e1, e2, hq, hce, hcv, hcl, h1, hL, h2, h3⟩, st⟩
  · dsimp only [Pt.U, Pt.locs, Pt.cells, Pt.slots] at X' e1 e2 h1 h2 h3 st
    subst h1; subst h2; subst h3
    exact Or.inl ⟨v, (T.setVm vm₁).calling g' mk (Value.ref b :: As).toArray, t, U', L, hT, X', hL, e1, e2, hq, st⟩
  · dsimp only [Pt.U, Pt.locs, Pt.cells, Pt.slots] at X' e1 e2 h1 h2 h3 st hcl
    subst h1; subst h2; subst h3
    exact Or.inr ⟨q, (T.setVm vm₁).calling g' mk (Value.ref b :: As).toArray, t, U', L, E, ce, hT, X', hL, e1, e2, hq, hce, hcv, vx_cls hW₁ hcl, st⟩
end VXIB
/-! ===== END ===== -/
/-! ===== BEGIN a private constructor of a nest mate that throws ===== -/
section VXIC
variable {p : Program} {l : Launch} {e : Env} {R : Room} {s : State} {m : MethodId} {args : Array Value} {below : List Frame} {meth : Method} {c : Code} {T : State} {locs : List Loc} {cells slots : Nat}
theorem vx_callIN (X : Stand p l e R s m args below meth c T locs cells slots) (hexec : p.tables.exec = Jvm.exec) {own : String} {index : Nat} {host : String} {y : MethodName} {bytes : ByteArray} {maxL : Nat}
    (hown : s.vm.findClass own = some m.cls) (hy1 : y.name = "<init>") (hlink : (Cond.methodLinkNest own index y host).before args s = true) (hinst : (Cond.instanceMethod y).before args s = true)
    (hcode : (Cond.code y bytes maxL none).before args s = true) (hy : y.cls ≠ "java/lang/invoke/MethodHandle" ∧ y.cls ≠ "java/lang/invoke/VarHandle")
    {W9 : Nat} {Pre : Pt → Array Value → Prop} {Post : Pt → Array Value → Option Value → Pt → Prop} {PostX : Pt → Array Value → Addr → Pt → Prop} (hK : vx_Back l R p e below s args y 3 W9 Pre Post PostX)
    {g : JFrame} (hg : g.method = m) (hsize : g.locals.size = c.maxLocals) {a : Addr} {argsL rest : List Value} (hlen : ∀ sig, parseMethodDescriptor y.desc = some sig → argsL.length = sig.parameters.length)
    (hstack : g.stack = argsL.reverse ++ .ref a :: rest) (hW : 2 * g.monitorRoom + (rest.map fun v => v.category).sum ≤ W9) (hdg : decode c.code g.pc = .ok (.invokespecial index, 3))
    (hpre : ∀ vm₁, s.WarmedH vm₁ → Pre ⟨T.setVm vm₁, locs, cells, slots⟩ (Value.ref a :: argsL).toArray) :
    (∃ (v : Option Value) (vm₁ : Vm) (B : Pt), s.WarmedH vm₁ ∧ Stand p l e R s m args below meth c B.U B.locs B.cells B.slots ∧ Post ⟨T.setVm vm₁, locs, cells, slots⟩ (Value.ref a :: argsL).toArray v B ∧
      ∀ target, Steps p.tables e below (B.U.setTop { g with pc := g.pc + 3, stack := v.toList ++ rest }) target → Steps p.tables e below (T.setTop g) target) ∨
    (∃ (q : Addr) (vm₁ : Vm) (B : Pt), s.WarmedH vm₁ ∧ Stand p l e R s m args below meth c B.U B.locs B.cells B.slots ∧ PostX ⟨T.setVm vm₁, locs, cells, slots⟩ (Value.ref a :: argsL).toArray q B ∧
      Steps p.tables e below (T.setTop g) ((B.U.setTop { g with stack := rest }).pushFrame (.throwing q))) := by
  subst hg
  have hpl : e.platform.magicAccessors = ({} : Platform).magicAccessors := by rw [X.admits.platform]
  obtain ⟨mk, methM, cM, kP, vm₁, hnamed, hmethM, hcodeM, -, hlocalsM, -, hkP, -, hW₁, hstep₁⟩ := Steps.initColdArgsNest (e := e) X.here hexec X.warmed hpl hown hy1 hy hlink hinst hcode (f := g) rfl hlen hstack hdg
  have X₁ := X.noted hW₁
  rcases hK g.method meth c ⟨T.setVm vm₁, locs, cells, slots⟩ { g with stack := rest } (.invokespecial index) mk (Value.ref a :: argsL).toArray X₁ rfl hsize hdg hW (X₁.named hnamed) (hpre vm₁ X₁.warmed) with ⟨v, B, X', hpost, hsteps⟩ | ⟨q, B, X', hpost, hsteps⟩
  · exact Or.inl ⟨v, vm₁, B, X₁.warmed, X', hpost, fun target h => hstep₁ _ fun acts => by rw [doInvoke_state]; exact hsteps.trans h⟩
  · exact Or.inr ⟨q, vm₁, B, X₁.warmed, X', hpost, hstep₁ _ fun acts => by rw [doInvoke_state]; exact hsteps⟩
end VXIC
section VXID
variable {p : Program} {l : Launch} {e : Env} {R : Room} {s : State} {m : MethodId} {args : Array Value} {below : List Frame} {meth : Method} {c : Code} {H : Heap} {locs : List Loc} {cells slots : Nat}
theorem vx_runIN {y : MethodName} {bytes cc : ByteArray} {maxL nL mc ms n index : Nat} {ws : List Cond} {rm : Room} {Pc : Array Value → State → Prop} {Qc : Array Value → State → Outcome → State → Prop} {XC : String → State → State → Prop} {free : Addr → Prop} {Ts : List Cond} {own host : String} {b : Addr} {As rest : List Value} {g : JFrame}
    (S : CallFix p m c cc nL s args Ts own) (hM : vx_Met l y ws rm Pc Qc XC mc ms free) (cw : va_CN R s args own index y host bytes maxL none ws rm mc ms n ∧ y.name = "<init>" ∧ (Cond.instanceMethod y).before args s = true) (hp : PreS s H Pc (.ref b :: As))
    (hg : g.method = m) (hn : As.length = n) (hsize : g.locals.size = nL) (hstack : g.stack = As.reverse ++ .ref b :: rest) (hW : 2 * g.monitorRoom + (rest.map fun v => v.category).sum ≤ 8) (hdg : decode cc g.pc = .ok (.invokespecial index, 3)) (hf : cells + mc ≤ R.cells ∧ slots + ms ≤ R.slots) :
    vx_Run p l e R s m args below meth c H locs cells slots mc ms g rest (Qc (Value.ref b :: As).toArray) XC free := by
  obtain ⟨⟨⟨hrc, hrs, hfr, hlo, hws, hcw⟩, hcode, hini, hy, hlen, hl⟩, hx1, hx2⟩ := cw
  have hK : vx_Back l R p e below s args y 3 8 (PreOf R mc ms Pc) (PostOf Qc mc ms free) (vx_Post XC mc ms free) := vx_back (bytes := bytes) (maxL := maxL) (ret := none) hM hp.1 hrc hrs hfr hlo hws hcw (fun a' U hW => word_at hW (Or.inl (by first | rfl | simp [Cond.onTables, Cond.keeps, Cond.steady])) hini)
  obtain ⟨hx, hb, hml, ho, -⟩ := S
  have hPc := hp.2
  intro T hT X
  rcases vx_callIN X hx (bytes := bytes) (maxL := maxL) ho hx1 hl hx2 hcode hy hK hg (hsize.trans hml.symm) (a := b) (argsL := As) (rest := rest) (fun sig h => hn.trans (hlen sig h)) hstack hW (by rw [hb]; exact hdg)
    (fun vm₁ hW₁ => ⟨hf.1, hf.2, hPc (T.setVm vm₁) hT hW₁⟩) with ⟨v, vm₁, ⟨U', l2, c2, s2⟩, hW₁, X', ⟨g', mk, t, L, e1, e2, hq, h1, hL, h2, h3⟩, st⟩ | ⟨q, vm₁, ⟨U', l2, c2, s2⟩, hW₁, X', ⟨g', mk, t, L, E, ce, e1, e2, hq, hce, hcv, hcl, h1, hL, h2, h3⟩, st⟩
  · dsimp only [Pt.U, Pt.locs, Pt.cells, Pt.slots] at X' e1 e2 h1 h2 h3 st
    subst h1; subst h2; subst h3
    exact Or.inl ⟨v, (T.setVm vm₁).calling g' mk (Value.ref b :: As).toArray, t, U', L, hT, X', hL, e1, e2, hq, st⟩
  · dsimp only [Pt.U, Pt.locs, Pt.cells, Pt.slots] at X' e1 e2 h1 h2 h3 st hcl
    subst h1; subst h2; subst h3
    exact Or.inr ⟨q, (T.setVm vm₁).calling g' mk (Value.ref b :: As).toArray, t, U', L, E, ce, hT, X', hL, e1, e2, hq, hce, hcv, vx_cls hW₁ hcl, st⟩
end VXID
/-! ===== END ===== -/
end
section
/-! copies, Math, the plain stack, branches; and every instruction in one theorem -/
theorem zcpy_map {ad : Nat → Nat} {f g : Nat → Option Nat} {sp dp n : Nat} : (fun i => (va_cpy f g sp dp n i).map ad) = va_cpy (fun i => (f i).map ad) (fun i => (g i).map ad) sp dp n := by
  funext i
  unfold va_cpy
  by_cases c : dp ≤ i ∧ i < dp + n
  · rw [if_pos c, if_pos c]
  · rw [if_neg c, if_neg c]
section ZL1
variable {p : Program} {l : Launch} {e : Env} {R : Room} {s : State} {m : MethodId} {args : Array Value} {below : List Frame} {meth : Method} {c : Code} {G : va_G} {tc : Nat → ClassId} {A : Nat → Prop} {ad0 : Nat → Nat} {n0 u0 mi : Nat} {Q : State → Prop} {X : ZX} {pc : Nat} {L S : List Value} {st : ZS} {q : ZQ}
theorem zk_invokestatic {idx : Nat} (F : ZEv p l s m args meth c G tc A ad0 X mi) (hR : 1 ≤ R.frames ∧ 40 ≤ R.locals) (hR2 : q.2.2.2.1 - u0 ≤ R.cells ∧ q.2.2.2.1 - u0 ≤ R.slots) (hd : decode (zby mi) pc = .ok (.invokestatic idx, 3)) (hs : zstep X mi (.invokestatic idx) pc L S st = some q) (k : ZW p l e R s m args below meth c G tc A ad0 n0 u0 mi Q q.1 q.2.1 q.2.2.1 q.2.2.2) : ZW p l e R s m args below meth c G tc A ad0 n0 u0 mi Q pc L S st := by
  obtain ⟨⟨hx, hb, hml, hown, hts⟩, ⟨hK, hA, hlk, hst, hrt, hin⟩, hch, hcv⟩ := F
  simp only [zstep] at hs
  split at hs
  · rename_i eo
    rw [eo.1] at hown
    rw [eo.2] at hd
    unfold zcpyi at hs
    split at hs
    · rename_i n dp b sp a S'
      split at hs
      · rename_i n0' f n1' g hf hg
        split at hs
        · cases hs
        · rename_i hc
          cases hs
          simp only [not_or, Nat.not_lt] at hc
          obtain ⟨h1, h2, h3, h4, h5, h6⟩ := hc
          intro ad H locs ls h
          have ca := zarr_inv hf
          have cb := zarr_inv hg
          have hsum : ((S'.map (zcv ad)).map fun v => v.category).sum ≤ 8 := zsum (by rw [List.length_map]; exact h6)
          have hnf : nativeFrameWords "java/lang/System" "arraycopy" 5 = 7 := by decide +kernel
          exact va_copyi (D := G) (cl := vwCl) (tys := ztys tc) (ty := .int) hx hb (by rw [hml]; exact h.zl.2.1.symm) hown (hts _ zw_ac2) (hts _ zw_ac3) (hts _ zw_ac4) (hts _ zw_ac5) hK h.1.1 h.1.2.1 h.1.2.2 (a - 3) (b - 3) 0 0 (zws_at (zge3a h.2.1.2 ca) ca) (zws_at (zge3a h.2.1.2 cb) cb) rfl rfl rfl h1 h2 h3 h4 h5 (fun _ _ => rfl) hR.1 (by rw [hnf]; omega) hd fun H1 locs1 p1 d1 s1 =>
            k ad H1 locs1 ls (h.wr (cell := .inl (n1', .inl (va_cpy f g sp.toNatClampNeg dp.toNatClampNeg n.toNatClampNeg))) (zge3a h.2.1.2 cb) (List.getElem?_eq_some_iff.mp cb).1 trivial (zall_tl (zall_tl (zall_tl (zall_tl (zall_tl h.sok))))) p1 d1 s1)
      · cases hs
    · cases hs
  · split at hs
    · rename_i eo
      rw [eo.1] at hown
      rw [eo.2] at hd
      unfold zcpyr at hs
      split at hs
      · rename_i n dp b sp a S'
        split at hs
        · rename_i n0' f n1' g hf hg
          split at hs
          · cases hs
          · rename_i hc
            cases hs
            simp only [not_or, Nat.not_lt] at hc
            obtain ⟨h1, h2, h3, h4, h5, h6, h7⟩ := hc
            intro ad H locs ls h
            have ca := zarr_inv hf
            have cb := zarr_inv hg
            have hsum : ((S'.map (zcv ad)).map fun v => v.category).sum ≤ 8 := zsum (by rw [List.length_map]; exact h6)
            have hnf : nativeFrameWords "java/lang/System" "arraycopy" 5 = 7 := by decide +kernel
            have hok : zcok st.2.length (.inl (n1', .inr (.inr (.inr (.inr (va_cpy f g sp.toNatClampNeg dp.toNatClampNeg n.toNatClampNeg)))))) := by
              intro i y e
              unfold va_cpy at e
              split at e
              · exact h.2.1.1 _ (List.mem_of_getElem? ca) _ _ e
              · exact h.2.1.1 _ (List.mem_of_getElem? cb) _ _ e
            refine va_copyM (D := G) (cl := vwCl) (tys := ztys tc) (E0 := "java/lang/Object") (E1 := "java/lang/Object") (f := fun i => (f i).map ad) (g := fun i => (g i).map ad) hx hb (by rw [hml]; exact h.zl.2.1.symm) hown (hts _ zw_ac1) (hts _ zw_ac3) (hts _ zw_ac4) (hts _ zw_ac5) hK h.1.1 h.1.2.1 h.1.2.2 (a - 3) (b - 3) 3 3 (zws_at (zge3a h.2.1.2 ca) ca) (zws_at (zge3a h.2.1.2 cb) cb) rfl rfl h1 h2 h3 h4 h5 (fun i hi y hy => ?_) hR.1 (by rw [hnf]; omega) hd fun H1 locs1 p1 d1 s1 => ?_
            · have hz : zel st f sp.toNatClampNeg n.toNatClampNeg = true := by
                cases hq : zel st f sp.toNatClampNeg n.toNatClampNeg with
                | true => rfl
                | false => exact absurd hq h7
              have hi2 := List.all_eq_true.mp hz i (List.mem_range.mpr hi)
              cases hw : f (sp.toNatClampNeg + i) with
              | none => rw [hw] at hy; cases hy
              | some w =>
                rw [hw] at hy hi2
                cases hy
                obtain ⟨ci, fs, v0, r, g1, g2, hr, g0⟩ := zob_inv hi2
                refine va_rAny hK h.1.1 (zws_at (zge3 h.2.1.2 g1 g2) g1) hr fun comp c0 q1 q2 => ?_
                obtain ⟨c3, t3, w1, w2, w3⟩ := Cond.castable_spec (hcv.2.2.2.2.1 _ (zcas_ok ci r hr g0))
                cases q1.symm.trans w2
                cases q2.symm.trans w1
                exact w3
            · have e : zce tc ad (.inl (n1', .inr (.inr (.inr (.inr (va_cpy f g sp.toNatClampNeg dp.toNatClampNeg n.toNatClampNeg)))))) = .inl (tc 3, n1', .inr (.inr (.inr (.inr (va_cpy (fun i => (f i).map ad) (fun i => (g i).map ad) sp.toNatClampNeg dp.toNatClampNeg n.toNatClampNeg))))) := by
                simp only [zce]
                rw [zcpy_map]
              rw [← e] at p1 d1
              exact k ad H1 locs1 ls (h.wr (zge3a h.2.1.2 cb) (List.getElem?_eq_some_iff.mp cb).1 hok (zall_tl (zall_tl (zall_tl (zall_tl (zall_tl h.sok))))) p1 d1 s1)
        · cases hs
      · cases hs
    · split at hs
      · rename_i y x S'
        cases hb0 : zXX.lookup (zoc mi, idx) with
        | none => rw [hb0] at hs; cases hs
        | some b =>
          rw [hb0] at hs
          simp only [Option.bind_some] at hs
          split at hs
          · rename_i h6
            cases hs
            obtain ⟨cp, hcp⟩ := zall (by decide +kernel) zX_all hb0
            intro ad H locs ls h
            have hsum : ((S'.map (zcv ad)).map fun v => v.category).sum ≤ 8 := zsum (by rw [List.length_map]; exact h6)
            have k2 := k ad H locs ls (h.stk (zall_cons zvok_int (zall_tl (zall_tl h.sok))))
            have hr1 : st.1 - u0 ≤ R.cells := hR2.1
            have hr2 : st.1 - u0 ≤ R.slots := hR2.2
            cases b with
            | true => exact va_mmax hx hb (by rw [hml]; exact h.zl.2.1.symm) hown (hts _ (zhas_mem hcp)) (hts _ zw_m1.1) (hts _ zw_m3) (hts _ zw_m1.2) hR.1 (by omega) hr1 hr2 hd k2
            | false => exact va_mmin hx hb (by rw [hml]; exact h.zl.2.1.symm) hown (hts _ (zhas_mem hcp)) (hts _ zw_m2.1) (hts _ zw_m3) (hts _ zw_m2.2) hR.1 (by omega) hr1 hr2 hd k2
          · cases hs
      · cases hs
theorem zk_ldc2w {idx : Nat} (F : ZEv p l s m args meth c G tc A ad0 X mi) (hd : decode (zby mi) pc = .ok (.ldc2_w idx, 3)) (hs : zstep X mi (.ldc2_w idx) pc L S st = some q) (k : ZW p l e R s m args below meth c G tc A ad0 n0 u0 mi Q q.1 q.2.1 q.2.2.1 q.2.2.2) : ZW p l e R s m args below meth c G tc A ad0 n0 u0 mi Q pc L S st := by
  obtain ⟨⟨hx, hb, hml, hown, hts⟩, ⟨hK, hA, hlk, hst, hrt, hin⟩, hch, hcv⟩ := F
  simp only [zstep] at hs
  cases hv : zDL.lookup (zoc mi, idx) with
  | none => rw [hv] at hs; cases hs
  | some v =>
    rw [hv] at hs
    simp only [Option.bind_some] at hs
    rcases zD_ok hv with ⟨x, rfl, hw⟩ | ⟨x, rfl, hw⟩ | ⟨x, rfl, hw⟩
    · cases hs
    · cases hs
    · cases hs; exact zw_push (v := .double x) (fun n => zvok_double) (fun ad H locs cells slots ls rest k => lv_ldc2d hx hb hown (hts _ hw) hd k) k
theorem zc1_of {v : Value} (h : zc1 v = true) : v.category = 1 := of_decide_eq_true h
theorem zcv1 {ad : Nat → Nat} {v : Value} (h : zc1 v = true) : (zcv ad v).category = 1 := by rw [zcv_cat]; exact of_decide_eq_true h
theorem zk_dup (F : ZEv p l s m args meth c G tc A ad0 X mi) (hd : decode (zby mi) pc = .ok (.dup, 1)) (hs : zstep X mi .dup pc L S st = some q) (k : ZW p l e R s m args below meth c G tc A ad0 n0 u0 mi Q q.1 q.2.1 q.2.2.1 q.2.2.2) : ZW p l e R s m args below meth c G tc A ad0 n0 u0 mi Q pc L S st := by
  obtain ⟨⟨hx, hb, hml, hown, hts⟩, -⟩ := F
  simp only [zstep] at hs
  split at hs
  · split at hs
    · rename_i h1
      cases hs
      intro ad H locs ls h
      exact lv_dup hx hb hd (zcv1 h1) (k ad H locs ls (h.stk (zall_cons (zall_hd h.sok) h.sok)))
    · cases hs
  · cases hs
theorem zk_dup_x1 (F : ZEv p l s m args meth c G tc A ad0 X mi) (hd : decode (zby mi) pc = .ok (.dup_x1, 1)) (hs : zstep X mi .dup_x1 pc L S st = some q) (k : ZW p l e R s m args below meth c G tc A ad0 n0 u0 mi Q q.1 q.2.1 q.2.2.1 q.2.2.2) : ZW p l e R s m args below meth c G tc A ad0 n0 u0 mi Q pc L S st := by
  obtain ⟨⟨hx, hb, hml, hown, hts⟩, -⟩ := F
  simp only [zstep] at hs
  split at hs
  · split at hs
    · rename_i h1
      cases hs
      intro ad H locs ls h
      exact lv_dup_x1 hx hb hd (zcv1 h1.1) (zcv1 h1.2) (k ad H locs ls (h.stk (zall_cons (zall_hd h.sok) (zall_cons (zall_hd (zall_tl h.sok)) (zall_cons (zall_hd h.sok) (zall_tl (zall_tl h.sok)))))))
    · cases hs
  · cases hs
theorem zk_dup2 (F : ZEv p l s m args meth c G tc A ad0 X mi) (hd : decode (zby mi) pc = .ok (.dup2, 1)) (hs : zstep X mi .dup2 pc L S st = some q) (k : ZW p l e R s m args below meth c G tc A ad0 n0 u0 mi Q q.1 q.2.1 q.2.2.1 q.2.2.2) : ZW p l e R s m args below meth c G tc A ad0 n0 u0 mi Q pc L S st := by
  obtain ⟨⟨hx, hb, hml, hown, hts⟩, -⟩ := F
  simp only [zstep] at hs
  split at hs
  · split at hs
    · rename_i h1
      cases hs
      intro ad H locs ls h
      exact lv_dup2_11 hx hb hd (zcv1 h1.1) (zcv1 h1.2) (k ad H locs ls (h.stk (zall_cons (zall_hd h.sok) (zall_cons (zall_hd (zall_tl h.sok)) h.sok))))
    · cases hs
  · cases hs
theorem zk_pop (F : ZEv p l s m args meth c G tc A ad0 X mi) (hd : decode (zby mi) pc = .ok (.pop, 1)) (hs : zstep X mi .pop pc L S st = some q) (k : ZW p l e R s m args below meth c G tc A ad0 n0 u0 mi Q q.1 q.2.1 q.2.2.1 q.2.2.2) : ZW p l e R s m args below meth c G tc A ad0 n0 u0 mi Q pc L S st := by
  obtain ⟨⟨hx, hb, hml, hown, hts⟩, -⟩ := F
  simp only [zstep] at hs
  split at hs
  · split at hs
    · rename_i h1
      cases hs
      intro ad H locs ls h
      exact lv_pop hx hb hd (zcv1 h1) (k ad H locs ls (h.stk (zall_tl h.sok)))
    · cases hs
  · cases hs
theorem zk_un {i : Instr} {v w : Value} {S' : List Value} (hS : S = v :: S') (hq : q = (pc + 1, L, w :: S', st)) (hw : ∀ n, zvok n w) (k : ZW p l e R s m args below meth c G tc A ad0 n0 u0 mi Q q.1 q.2.1 q.2.2.1 q.2.2.2) (row : ∀ (H : Heap) (locs : List Loc) (cells slots : Nat) (ls : Array Slot) (rest : List Value) (ad : Nat → Nat), W p l e R s m args below meth c H locs cells slots Q (F0 m (pc + 1) ls (zcv ad w :: rest)) → W p l e R s m args below meth c H locs cells slots Q (F0 m pc ls (zcv ad v :: rest))) : ZW p l e R s m args below meth c G tc A ad0 n0 u0 mi Q pc L S st := by
  subst hS; subst hq
  intro ad H locs ls h
  exact row H locs _ _ ls _ ad (k ad H locs ls (h.stk (zall_cons (hw _) (zall_tl h.sok))))
theorem zk_bi {i : Instr} {v v2 w : Value} {S' : List Value} (hS : S = v :: v2 :: S') (hq : q = (pc + 1, L, w :: S', st)) (hw : ∀ n, zvok n w) (k : ZW p l e R s m args below meth c G tc A ad0 n0 u0 mi Q q.1 q.2.1 q.2.2.1 q.2.2.2) (row : ∀ (H : Heap) (locs : List Loc) (cells slots : Nat) (ls : Array Slot) (rest : List Value) (ad : Nat → Nat), W p l e R s m args below meth c H locs cells slots Q (F0 m (pc + 1) ls (zcv ad w :: rest)) → W p l e R s m args below meth c H locs cells slots Q (F0 m pc ls (zcv ad v :: zcv ad v2 :: rest))) : ZW p l e R s m args below meth c G tc A ad0 n0 u0 mi Q pc L S st := by
  subst hS; subst hq
  intro ad H locs ls h
  exact row H locs _ _ ls _ ad (k ad H locs ls (h.stk (zall_cons (hw _) (zall_tl (zall_tl h.sok)))))
theorem zk_goto {off : Int} (F : ZEv p l s m args meth c G tc A ad0 X mi) (hd : decode (zby mi) pc = .ok (.goto off, 3)) (hs : zstep X mi (.goto off) pc L S st = some q) (k : ZW p l e R s m args below meth c G tc A ad0 n0 u0 mi Q q.1 q.2.1 q.2.2.1 q.2.2.2) : ZW p l e R s m args below meth c G tc A ad0 n0 u0 mi Q pc L S st := by
  obtain ⟨⟨hx, hb, hml, hown, hts⟩, -⟩ := F
  simp only [zstep] at hs
  cases ht : zto pc off with
  | none => rw [ht] at hs; cases hs
  | some t =>
    rw [ht] at hs
    cases hs
    intro ad H locs ls h
    exact lv_goto hx hb hd (zto_of ht) (k ad H locs ls h)
theorem zk_ifCond {cn : Jvm.ClassFile.Cond} {off : Int} (F : ZEv p l s m args meth c G tc A ad0 X mi) (hd : decode (zby mi) pc = .ok (.ifCond cn off, 3)) (hs : zstep X mi (.ifCond cn off) pc L S st = some q) (k : ZW p l e R s m args below meth c G tc A ad0 n0 u0 mi Q q.1 q.2.1 q.2.2.1 q.2.2.2) : ZW p l e R s m args below meth c G tc A ad0 n0 u0 mi Q pc L S st := by
  obtain ⟨⟨hx, hb, hml, hown, hts⟩, -⟩ := F
  simp only [zstep] at hs
  split at hs
  · rename_i x S'
    refine zw_br hs k (fun n h => zall_tl h) fun ad H locs cells slots ls t ht kt kf _ => ?_
    cases cn with
    | eq => exact lv_if_eq hx hb hd ht (fun e => kt (decide_eq_true e)) fun e => kf (decide_eq_false e)
    | ne => exact lv_if_ne hx hb hd ht (fun e => kt (decide_eq_true e)) fun e => kf (decide_eq_false (fun z => z e))
    | lt => exact lv_if_lt hx hb hd ht (fun e => kt (decide_eq_true e)) fun e => kf (decide_eq_false e)
    | ge => exact lv_if_ge hx hb hd ht (fun e => kt (decide_eq_true e)) fun e => kf (decide_eq_false e)
    | gt => exact lv_if_gt hx hb hd ht (fun e => kt (decide_eq_true e)) fun e => kf (decide_eq_false e)
    | le => exact lv_if_le hx hb hd ht (fun e => kt (decide_eq_true e)) fun e => kf (decide_eq_false e)
  · cases hs
theorem zk_if_icmp {cn : Jvm.ClassFile.Cond} {off : Int} (F : ZEv p l s m args meth c G tc A ad0 X mi) (hd : decode (zby mi) pc = .ok (.if_icmp cn off, 3)) (hs : zstep X mi (.if_icmp cn off) pc L S st = some q) (k : ZW p l e R s m args below meth c G tc A ad0 n0 u0 mi Q q.1 q.2.1 q.2.2.1 q.2.2.2) : ZW p l e R s m args below meth c G tc A ad0 n0 u0 mi Q pc L S st := by
  obtain ⟨⟨hx, hb, hml, hown, hts⟩, -⟩ := F
  simp only [zstep] at hs
  split at hs
  · rename_i y x S'
    refine zw_br hs k (fun n h => zall_tl (zall_tl h)) fun ad H locs cells slots ls t ht kt kf _ => ?_
    cases cn with
    | eq => exact lv_icmp_eq hx hb hd ht (fun e => kt (decide_eq_true e)) fun e => kf (decide_eq_false e)
    | ne => exact lv_icmp_ne hx hb hd ht (fun e => kt (decide_eq_true e)) fun e => kf (decide_eq_false (fun z => z e))
    | lt => exact lv_icmp_lt hx hb hd ht (fun e => kt (decide_eq_true e)) fun e => kf (decide_eq_false e)
    | ge => exact lv_icmp_ge hx hb hd ht (fun e => kt (decide_eq_true e)) fun e => kf (decide_eq_false e)
    | gt => exact lv_icmp_gt hx hb hd ht (fun e => kt (decide_eq_true e)) fun e => kf (decide_eq_false e)
    | le => exact lv_icmp_le hx hb hd ht (fun e => kt (decide_eq_true e)) fun e => kf (decide_eq_false e)
  · cases hs
theorem zk_ifnull {off : Int} (F : ZEv p l s m args meth c G tc A ad0 X mi) (hd : decode (zby mi) pc = .ok (.ifnull off, 3)) (hs : zstep X mi (.ifnull off) pc L S st = some q) (k : ZW p l e R s m args below meth c G tc A ad0 n0 u0 mi Q q.1 q.2.1 q.2.2.1 q.2.2.2) : ZW p l e R s m args below meth c G tc A ad0 n0 u0 mi Q pc L S st := by
  obtain ⟨⟨hx, hb, hml, hown, hts⟩, -⟩ := F
  simp only [zstep] at hs
  split at hs
  · exact zw_br hs k (fun n h => zall_tl h) fun ad H locs cells slots ls t ht kt kf _ => lv_ifnull hx hb hd (kf rfl)
  · exact zw_br hs k (fun n h => zall_tl h) fun ad H locs cells slots ls t ht kt kf _ => lv_ifnullN hx hb hd ht (kt rfl)
  · cases hs
theorem zk_ifnonnull {off : Int} (F : ZEv p l s m args meth c G tc A ad0 X mi) (hd : decode (zby mi) pc = .ok (.ifnonnull off, 3)) (hs : zstep X mi (.ifnonnull off) pc L S st = some q) (k : ZW p l e R s m args below meth c G tc A ad0 n0 u0 mi Q q.1 q.2.1 q.2.2.1 q.2.2.2) : ZW p l e R s m args below meth c G tc A ad0 n0 u0 mi Q pc L S st := by
  obtain ⟨⟨hx, hb, hml, hown, hts⟩, -⟩ := F
  simp only [zstep] at hs
  split at hs
  · exact zw_br hs k (fun n h => zall_tl h) fun ad H locs cells slots ls t ht kt kf _ => lv_ifnonnull hx hb hd ht (kt rfl)
  · exact zw_br hs k (fun n h => zall_tl h) fun ad H locs cells slots ls t ht kt kf _ => lv_ifnonnullN hx hb hd (kf rfl)
  · cases hs
/-- places are apart in the real heap, but for the two that are never compared -/
theorem ZPt.inj {ad : Nat → Nat} {H : Heap} {locs : List Loc} {ls : Array Slot} (F : ZEv p l s m args meth c G tc A ad0 X mi) (h : ZPt G tc A s ad0 n0 u0 (zml mi) ad st L S H locs ls) {x y : Nat} (hx : x < st.2.length) (hy : y < st.2.length) (hz : x ≠ 1 ∧ x ≠ 2 ∧ y ≠ 1 ∧ y ≠ 2) (e : ad x = ad y) : x = y := by
  obtain ⟨-, -, ⟨⟨hZ, hT⟩, -⟩, -⟩ := F
  have hn0 := h.2.2.2.2.2.1
  have e0 : ad 0 = ad0 0 := h.2.2.2.1 0 (by omega)
  have hin : ∀ k, 3 ≤ k → k < st.2.length → ∃ c, (zws tc ad st.2)[k - 3]? = some (ad k, c) := fun k h1 h2 => ⟨_, zws_at h1 (List.getElem?_eq_getElem h2)⟩
  have h0 : ∀ k, 3 ≤ k → k < st.2.length → ad k ≠ ad 0 := by
    intro k h1 h2 z
    obtain ⟨c, hc⟩ := hin k h1 h2
    have ha : A (ad k) := h.1.2.1.2 _ _ hc
    rw [z, e0] at ha
    exact hT.out ha
  rcases Nat.lt_or_ge x 3 with a | a
  · have ex : x = 0 := by omega
    subst ex
    rcases Nat.lt_or_ge y 3 with b | b
    · omega
    · exact absurd e.symm (h0 y b hy)
  · rcases Nat.lt_or_ge y 3 with b | b
    · have ey : y = 0 := by omega
      subst ey
      exact absurd e (h0 x a hx)
    · obtain ⟨c1, g1⟩ := hin x a hx
      obtain ⟨c2, g2⟩ := hin y b hy
      have := h.1.2.1.1 _ _ _ _ g1 g2 e
      omega
theorem zk_if_acmp {cn : Jvm.ClassFile.ACond} {off : Int} (F : ZEv p l s m args meth c G tc A ad0 X mi) (hd : decode (zby mi) pc = .ok (.if_acmp cn off, 3)) (hs : zstep X mi (.if_acmp cn off) pc L S st = some q) (k : ZW p l e R s m args below meth c G tc A ad0 n0 u0 mi Q q.1 q.2.1 q.2.2.1 q.2.2.2) : ZW p l e R s m args below meth c G tc A ad0 n0 u0 mi Q pc L S st := by
  have F' := F
  obtain ⟨⟨hx, hb, hml, hown, hts⟩, -⟩ := F
  simp only [zstep] at hs
  split at hs
  · rename_i y x S'
    split at hs
    · rename_i hc
      refine zw_br hs k (fun n h => zall_tl (zall_tl h)) fun ad H locs cells slots ls t ht kt kf h => ?_
      have hxy : ad x = ad y → x = y := fun e => by
        rcases hc with z | z
        · exact z
        · exact h.inj F' (zall_hd (zall_tl h.sok) x rfl) (zall_hd h.sok y rfl) z e
      cases cn with
      | eq => exact lv_acmp_eq (rx := some (ad x)) (ry := some (ad y)) hx hb hd ht (fun e => kt (decide_eq_true (hxy (Option.some.inj e)))) fun e => kf (decide_eq_false fun z => e (by rw [z]))
      | ne => exact lv_acmp_ne (rx := some (ad x)) (ry := some (ad y)) hx hb hd ht (fun e => kt (decide_eq_true fun z => e (by rw [z]))) fun e => kf (decide_eq_false fun z => z (hxy (Option.some.inj e)))
    · cases hs
  · rename_i x S'
    refine zw_br hs k (fun n h => zall_tl (zall_tl h)) fun ad H locs cells slots ls t ht kt kf h => ?_
    cases cn with
    | eq => exact lv_acmp_eq (rx := some (ad x)) (ry := none) hx hb hd ht (fun e => by cases e) fun e => kf rfl
    | ne => exact lv_acmp_ne (rx := some (ad x)) (ry := none) hx hb hd ht (fun e => kt rfl) fun e => by cases e
  · rename_i x S'
    refine zw_br hs k (fun n h => zall_tl (zall_tl h)) fun ad H locs cells slots ls t ht kt kf h => ?_
    cases cn with
    | eq => exact lv_acmp_eq (rx := none) (ry := some (ad x)) hx hb hd ht (fun e => by cases e) fun e => kf rfl
    | ne => exact lv_acmp_ne (rx := none) (ry := some (ad x)) hx hb hd ht (fun e => kt rfl) fun e => by cases e
  · rename_i S'
    refine zw_br hs k (fun n h => zall_tl (zall_tl h)) fun ad H locs cells slots ls t ht kt kf h => ?_
    cases cn with
    | eq => exact lv_acmp_eq (rx := none) (ry := none) hx hb hd ht (fun e => kt rfl) fun e => absurd rfl e
    | ne => exact lv_acmp_ne (rx := none) (ry := none) hx hb hd ht (fun e => absurd rfl e) fun e => kf rfl
  · cases hs
theorem zk_tableswitch {dflt lo hi : Int} {offs : Array Int} {len : Nat} (F : ZEv p l s m args meth c G tc A ad0 X mi) (hd : decode (zby mi) pc = .ok (.tableswitch dflt lo hi offs, len)) (hs : zstep X mi (.tableswitch dflt lo hi offs) pc L S st = some q) (k : ZW p l e R s m args below meth c G tc A ad0 n0 u0 mi Q q.1 q.2.1 q.2.2.1 q.2.2.2) : ZW p l e R s m args below meth c G tc A ad0 n0 u0 mi Q pc L S st := by
  obtain ⟨⟨hx, hb, hml, hown, hts⟩, -⟩ := F
  simp only [zstep] at hs
  split at hs
  · rename_i x S'
    split at hs
    · rename_i hc
      cases ht : zto pc dflt with
      | none => rw [ht] at hs; cases hs
      | some t =>
        rw [ht] at hs
        cases hs
        intro ad H locs ls h
        exact lv_tableOut hx hb hd hc (zto_of ht) (k ad H locs ls (h.stk (zall_tl h.sok)))
    · rename_i hc
      cases ho : offs[(x.toInt - lo).toNat]? with
      | none => rw [ho] at hs; cases hs
      | some off =>
        rw [ho] at hs
        simp only [Option.bind_some] at hs
        cases ht : zto pc off with
        | none => rw [ht] at hs; cases hs
        | some t =>
          rw [ht] at hs
          cases hs
          intro ad H locs ls h
          exact lv_tableIn hx hb hd (fun z => hc (Or.inl z)) (fun z => hc (Or.inr z)) ho (zto_of ht) (k ad H locs ls (h.stk (zall_tl h.sok)))
  · cases hs
theorem zk_iinc {n : Nat} {cst : Int} (F : ZEv p l s m args meth c G tc A ad0 X mi) (hd : decode (zby mi) pc = .ok (.iinc n cst, 3)) (hs : zstep X mi (.iinc n cst) pc L S st = some q) (k : ZW p l e R s m args below meth c G tc A ad0 n0 u0 mi Q q.1 q.2.1 q.2.2.1 q.2.2.2) : ZW p l e R s m args below meth c G tc A ad0 n0 u0 mi Q pc L S st := by
  obtain ⟨⟨hx, hb, hml, hown, hts⟩, -⟩ := F
  simp only [zstep] at hs
  split at hs
  · rename_i x hl
    cases hs
    intro ad H locs ls h
    obtain ⟨kk, hk⟩ := List.getElem?_of_mem (zlv_mem.mpr ⟨.int x, hl, rfl, rfl⟩ : (n, zcv ad (.int x)) ∈ zlv ad L)
    have hn : n < zml mi := by rw [← h.zl.1]; exact (List.getElem?_eq_some_iff.mp hl).1
    exact lv_iinc (k := kk) (x := x) hx hb hd h.zl.2 hk rfl hn rfl fun ls' hl' => k ad H locs ls' (h.lcl (h.zl.st1 (v := .int (x + Int32.ofInt cst)) rfl (fun k e => by cases e) hn hl') (zall_set zvok_int h.lok) h.sok)
  · cases hs
end ZL1
end
section
/-! every instruction in one theorem -/
theorem zn64_of {x : UInt64} (h : zn64 x = true) : vf_n64 x := by unfold vf_n64; exact of_decide_eq_true h
theorem zn32_of {x : UInt32} (h : zn32 x = true) : vf_n32 x := by unfold vf_n32; exact of_decide_eq_true h
section ZM1
variable {p : Program} {l : Launch} {e : Env} {R : Room} {s : State} {m : MethodId} {args : Array Value} {below : List Frame} {meth : Method} {c : Code} {G : va_G} {tc : Nat → ClassId} {A : Nat → Prop} {ad0 : Nat → Nat} {n0 u0 mi : Nat} {Q : State → Prop} {X : ZX} {pc : Nat} {L S : List Value} {st : ZS} {q : ZQ}
set_option maxHeartbeats 4000000 in
theorem zstep_ok {i : Instr} {len : Nat} (F : ZEv p l s m args meth c G tc A ad0 X mi) (hF : 1 ≤ R.frames ∧ 40 ≤ R.locals) (hn1 : 1 < n0) (hR : q.2.2.2.1 - u0 ≤ R.cells ∧ q.2.2.2.1 - u0 ≤ R.slots) (hd : decode (zby mi) pc = .ok (i, len)) (hl : zlok i len = true) (hs : zstep X mi i pc L S st = some q) (k : ZW p l e R s m args below meth c G tc A ad0 n0 u0 mi Q q.1 q.2.1 q.2.2.1 q.2.2.2) : ZW p l e R s m args below meth c G tc A ad0 n0 u0 mi Q pc L S st := by
  have F' := F
  obtain ⟨⟨hx, hb, hml, hown, hts⟩, -⟩ := F'
  cases i with
  | getfield idx => have e := eq_of_beq hl; subst e; exact zk_getfield F hd hs k
  | putfield idx => have e := eq_of_beq hl; subst e; exact zk_putfield F hd hs k
  | laload => have e := eq_of_beq hl; subst e; exact zk_laload F hd hs k
  | daload => have e := eq_of_beq hl; subst e; exact zk_daload F hd hs k
  | aaload => have e := eq_of_beq hl; subst e; exact zk_aaload F hd hs k
  | iastore => have e := eq_of_beq hl; subst e; exact zk_iastore F hd hs k
  | lastore => have e := eq_of_beq hl; subst e; exact zk_lastore F hd hs k
  | dastore => have e := eq_of_beq hl; subst e; exact zk_dastore F hd hs k
  | aastore => have e := eq_of_beq hl; subst e; exact zk_aastore F hd hs k
  | checkcast idx => have e := eq_of_beq hl; subst e; exact zk_checkcast F hd hs k
  | getstatic idx => have e := eq_of_beq hl; subst e; exact zk_getstatic F hd hs k
  | arraylength => have e := eq_of_beq hl; subst e; exact zk_arraylength F hd hs k
  | ldc idx => have e := eq_of_beq hl; subst e; exact zk_ldc F hd hs k
  | ldc2_w idx => have e := eq_of_beq hl; subst e; exact zk_ldc2w F hd hs k
  | dup => have e := eq_of_beq hl; subst e; exact zk_dup F hd hs k
  | dup_x1 => have e := eq_of_beq hl; subst e; exact zk_dup_x1 F hd hs k
  | dup2 => have e := eq_of_beq hl; subst e; exact zk_dup2 F hd hs k
  | pop => have e := eq_of_beq hl; subst e; exact zk_pop F hd hs k
  | goto off => have e := eq_of_beq hl; subst e; exact zk_goto F hd hs k
  | ifCond cn off => have e := eq_of_beq hl; subst e; exact zk_ifCond F hd hs k
  | if_icmp cn off => have e := eq_of_beq hl; subst e; exact zk_if_icmp F hd hs k
  | ifnull off => have e := eq_of_beq hl; subst e; exact zk_ifnull F hd hs k
  | ifnonnull off => have e := eq_of_beq hl; subst e; exact zk_ifnonnull F hd hs k
  | if_acmp cn off => have e := eq_of_beq hl; subst e; exact zk_if_acmp F hd hs k
  | iinc n cst => have e := eq_of_beq hl; subst e; exact zk_iinc F hd hs k
  | iaload => have e := eq_of_beq hl; subst e; exact zk_iaload F hn1 hd hs k
  | new idx => have e := eq_of_beq hl; subst e; exact zk_new F hR hd hs k
  | newarray t => have e := eq_of_beq hl; subst e; exact zk_newarray F hR hd hs k
  | anewarray idx => have e := eq_of_beq hl; subst e; exact zk_anewarray F hR hd hs k
  | invokevirtual idx => have e := eq_of_beq hl; subst e; exact zk_invokevirtual F hF hd hs k
  | invokespecial idx => have e := eq_of_beq hl; subst e; exact zk_invokespecial F hF hd hs k
  | invokestatic idx => have e := eq_of_beq hl; subst e; exact zk_invokestatic F hF hR hd hs k
  | tableswitch dflt lo hi offs => exact zk_tableswitch F hd hs k
  | aconst_null => have e := eq_of_beq hl; subst e; cases hs; exact zw_push (v := .null) (fun n => zvok_null) (fun ad H locs cells slots ls rest k => lv_null hx hb hd k) k
  | iconst n => have e := eq_of_beq hl; subst e; cases hs; exact zw_push (v := .int (Int32.ofInt n)) (fun n => zvok_int) (fun ad H locs cells slots ls rest k => lv_iconst hx hb hd rfl k) k
  | bipush n => have e := eq_of_beq hl; subst e; cases hs; exact zw_push (v := .int (Int8.ofInt n).toInt32) (fun n => zvok_int) (fun ad H locs cells slots ls rest k => lv_bipush hx hb hd rfl k) k
  | sipush n => have e := eq_of_beq hl; subst e; cases hs; exact zw_push (v := .int (Int16.ofInt n).toInt32) (fun n => zvok_int) (fun ad H locs cells slots ls rest k => lv_sipush hx hb hd rfl k) k
  | fconst f => 
    have e := eq_of_beq hl
    subst e
    simp only [zstep] at hs
    split at hs
    · rename_i e
      subst e
      cases hs; exact zw_push (v := .float FP.fconst0) (fun n => zvok_float) (fun ad H locs cells slots ls rest k => lv_fconst0 hx hb hd k) k
    · cases hs
  | dconst f => 
    have e := eq_of_beq hl
    subst e
    simp only [zstep] at hs
    split at hs
    · rename_i e
      subst e
      cases hs; exact zw_push (v := .double FP.dconst0) (fun n => zvok_double) (fun ad H locs cells slots ls rest k => lv_dconst0 hx hb hd k) k
    · cases hs
  | iload n => have e := eq_of_beq hl; subst e; exact zw_ldi (n := n) hs k fun H locs cells slots ls rest x hl k => lv_iload hx hb hd hl k
  | iload_n n => have e := eq_of_beq hl; subst e; exact zw_ldi (n := n) hs k fun H locs cells slots ls rest x hl k => lv_iload_n hx hb hd rfl hl k
  | fload n => have e := eq_of_beq hl; subst e; exact zw_ldf (n := n) hs k fun H locs cells slots ls rest x hl k => lv_fload hx hb hd hl k
  | fload_n n => have e := eq_of_beq hl; subst e; exact zw_ldf (n := n) hs k fun H locs cells slots ls rest x hl k => lv_fload_n hx hb hd rfl hl k
  | dload n => have e := eq_of_beq hl; subst e; exact zw_ldd (n := n) hs k fun H locs cells slots ls rest x hl k => lv_dload hx hb hd hl k
  | dload_n n => have e := eq_of_beq hl; subst e; exact zw_ldd (n := n) hs k fun H locs cells slots ls rest x hl k => lv_dload_n hx hb hd rfl hl k
  | aload n => have e := eq_of_beq hl; subst e; exact zw_lda (n := n) hs k (fun H locs cells slots ls rest x hl k => lv_aload hx hb hd hl k) fun H locs cells slots ls rest hl k => lv_aloadN hx hb hd hl k
  | aload_n n => have e := eq_of_beq hl; subst e; exact zw_lda (n := n) hs k (fun H locs cells slots ls rest x hl k => lv_aload_n hx hb hd rfl hl k) fun H locs cells slots ls rest hl k => lv_aload_nN hx hb hd rfl hl k
  | istore n => have e := eq_of_beq hl; subst e; exact zw_sti (n := n) hs k fun H locs cells slots ls rest x lv h hn kk => lv_istore hx hb hd h hn rfl kk
  | istore_n n => have e := eq_of_beq hl; subst e; exact zw_sti (n := n) hs k fun H locs cells slots ls rest x lv h hn kk => lv_istore_n hx hb hd rfl h hn rfl kk
  | fstore n => have e := eq_of_beq hl; subst e; exact zw_stf (n := n) hs k fun H locs cells slots ls rest x lv h hn kk => lv_fstore hx hb hd h hn rfl kk
  | fstore_n n => have e := eq_of_beq hl; subst e; exact zw_stf (n := n) hs k fun H locs cells slots ls rest x lv h hn kk => lv_fstore_n hx hb hd rfl h hn rfl kk
  | dstore n => have e := eq_of_beq hl; subst e; exact zw_std (n := n) hs k fun H locs cells slots ls rest x lv h hn kk => lv_dstore hx hb hd h hn rfl kk
  | dstore_n n => have e := eq_of_beq hl; subst e; exact zw_std (n := n) hs k fun H locs cells slots ls rest x lv h hn kk => lv_dstore_n hx hb hd rfl h hn rfl kk
  | astore n => have e := eq_of_beq hl; subst e; exact zw_sta (n := n) hs k (fun H locs cells slots ls rest x lv h hn kk => lv_astore hx hb hd h hn rfl kk) fun H locs cells slots ls rest lv h hn kk => lv_astoreN hx hb hd h hn rfl kk
  | astore_n n => have e := eq_of_beq hl; subst e; exact zw_sta (n := n) hs k (fun H locs cells slots ls rest x lv h hn kk => lv_astore_n hx hb hd rfl h hn rfl kk) fun H locs cells slots ls rest lv h hn kk => lv_astore_nN hx hb hd rfl h hn rfl kk
  | iadd => have e := eq_of_beq hl; subst e; simp only [zstep] at hs; exact zw_i2 hs k fun H locs cells slots ls rest x y z hz k => by cases hz; exact lv_iadd hx hb hd k
  | isub => have e := eq_of_beq hl; subst e; simp only [zstep] at hs; exact zw_i2 hs k fun H locs cells slots ls rest x y z hz k => by cases hz; exact lv_isub hx hb hd k
  | imul => have e := eq_of_beq hl; subst e; simp only [zstep] at hs; exact zw_i2 hs k fun H locs cells slots ls rest x y z hz k => by cases hz; exact lv_imul hx hb hd k
  | iand => have e := eq_of_beq hl; subst e; simp only [zstep] at hs; exact zw_i2 hs k fun H locs cells slots ls rest x y z hz k => by cases hz; exact lv_iand hx hb hd k
  | ior => have e := eq_of_beq hl; subst e; simp only [zstep] at hs; exact zw_i2 hs k fun H locs cells slots ls rest x y z hz k => by cases hz; exact lv_ior hx hb hd k
  | ishl => have e := eq_of_beq hl; subst e; simp only [zstep] at hs; exact zw_i2 hs k fun H locs cells slots ls rest x y z hz k => by cases hz; exact lv_ishl hx hb hd k
  | ishr => have e := eq_of_beq hl; subst e; simp only [zstep] at hs; exact zw_i2 hs k fun H locs cells slots ls rest x y z hz k => by cases hz; exact lv_ishr hx hb hd k
  | idiv =>
    have e := eq_of_beq hl
    subst e
    simp only [zstep] at hs
    refine zw_i2 hs k fun H locs cells slots ls rest x y z hz k => ?_
    split at hz
    · cases hz
    · rename_i h0
      cases hz; exact lv_idiv hx hb hd h0 k
  | irem =>
    have e := eq_of_beq hl
    subst e
    simp only [zstep] at hs
    refine zw_i2 hs k fun H locs cells slots ls rest x y z hz k => ?_
    split at hz
    · cases hz
    · rename_i h0
      cases hz; exact lv_irem hx hb hd h0 k
  | fadd => have e := eq_of_beq hl; subst e; exact zw_f2 hs k fun H locs cells slots ls rest x y hz k => lv_fadd hx hb hd hz k
  | fdiv => have e := eq_of_beq hl; subst e; exact zw_f2 hs k fun H locs cells slots ls rest x y hz k => lv_fdiv hx hb hd hz k
  | dadd => have e := eq_of_beq hl; subst e; exact zw_d2 hs k fun H locs cells slots ls rest x y hz k => lv_dadd hx hb hd hz k
  | ddiv => have e := eq_of_beq hl; subst e; exact zw_d2 hs k fun H locs cells slots ls rest x y hz k => lv_ddiv hx hb hd hz k
  | i2l =>
    have e := eq_of_beq hl
    subst e
    simp only [zstep] at hs
    split at hs
    · rename_i x S'
      cases hs; exact zk_un (i := .i2l) rfl rfl (fun n => zvok_long) k fun H locs cells slots ls rest ad k => lv_i2l hx hb hd rfl k
    · cases hs
  | i2d =>
    have e := eq_of_beq hl
    subst e
    simp only [zstep] at hs
    split at hs
    · rename_i x S'
      cases hs; exact zk_un (i := .i2d) rfl rfl (fun n => zvok_double) k fun H locs cells slots ls rest ad k => lv_i2d hx hb hd k
    · cases hs
  | f2i =>
    have e := eq_of_beq hl
    subst e
    simp only [zstep] at hs
    split at hs
    · rename_i x S'
      cases hs; exact zk_un (i := .f2i) rfl rfl (fun n => zvok_int) k fun H locs cells slots ls rest ad k => lv_f2i hx hb hd k
    · cases hs
  | f2d =>
    have e := eq_of_beq hl
    subst e
    simp only [zstep] at hs
    split at hs
    · rename_i x S'
      split at hs
      · rename_i hz
        cases hs; exact zk_un (i := .f2d) rfl rfl (fun n => zvok_double) k fun H locs cells slots ls rest ad k => lv_f2d hx hb hd (zn64_of hz) k
      · cases hs
    · cases hs
  | d2f =>
    have e := eq_of_beq hl
    subst e
    simp only [zstep] at hs
    split at hs
    · rename_i x S'
      split at hs
      · rename_i hz
        cases hs; exact zk_un (i := .d2f) rfl rfl (fun n => zvok_float) k fun H locs cells slots ls rest ad k => lv_d2f hx hb hd (zn32_of hz) k
      · cases hs
    · cases hs
  | lcmp =>
    have e := eq_of_beq hl
    subst e
    simp only [zstep] at hs
    split at hs
    · rename_i y x S'
      cases hs; exact zk_bi (i := .lcmp) rfl rfl (fun n => zvok_int) k fun H locs cells slots ls rest ad k => W.lcmp hx hb hd k
    · cases hs
  | fcmp op =>
    have e := eq_of_beq hl
    subst e
    simp only [zstep] at hs
    split at hs
    · rename_i y x S'
      cases hs; exact zk_bi (i := .lcmp) rfl rfl (fun n => zvok_int) k fun H locs cells slots ls rest ad k => lv_fcmp hx hb hd k
    · cases hs
  | dcmp op =>
    have e := eq_of_beq hl
    subst e
    simp only [zstep] at hs
    split at hs
    · rename_i y x S'
      cases hs; exact zk_bi (i := .lcmp) rfl rfl (fun n => zvok_int) k fun H locs cells slots ls rest ad k => lv_dcmp hx hb hd k
    · cases hs
  | _ => exact absurd hs (by intro z; simp [zstep] at z)
end ZM1
theorem zput_u {st : ZS} {a k : Nat} {v : Value} : (zput st a k v).1 = st.1 := by
  unfold zput
  split <;> rfl
def zuq (st : ZS) (o : Option ZQ) : Prop := ∀ q, o = some q → st.1 ≤ q.2.2.2.1
theorem zuq_n {st : ZS} : zuq st none := fun q h => by cases h
theorem zuq_s {st : ZS} {a : Nat} {b c : List Value} : zuq st (some (a, b, c, st)) := fun q h => by cases h; exact Nat.le_refl _
theorem zuq_w {st : ZS} {a : Nat} {b c : List Value} {x : Nat} {y : Nat × ZA} : zuq st (some (a, b, c, zsta st x y)) := fun q h => by cases h; exact Nat.le_refl _
theorem zuq_p {st : ZS} {a : Nat} {b c : List Value} {x k : Nat} {v : Value} : zuq st (some (a, b, c, zput st x k v)) := fun q h => by cases h; exact Nat.le_of_eq zput_u.symm
theorem zuq_o {st : ZS} {a : Nat} {b c : List Value} {x : Nat} : zuq st (some (a, b, c, znew st x)) := fun q h => by cases h; show st.1 ≤ st.1 + _ + 1; omega
theorem zuq_a {st : ZS} {a : Nat} {b c : List Value} {x : Nat} {y : ZA} : zuq st (some (a, b, c, znwa st x y)) := fun q h => by cases h; show st.1 ≤ st.1 + _ + 1; omega
theorem zuq_b {st : ZS} {α : Type} {o : Option α} {f : α → Option ZQ} (h : ∀ v, zuq st (f v)) : zuq st (o.bind f) := by
  cases o with
  | none => exact zuq_n
  | some v => exact h v
theorem zuq_i {st : ZS} {c : Prop} [Decidable c] {x y : Option ZQ} (h1 : zuq st x) (h2 : zuq st y) : zuq st (if c then x else y) := by
  by_cases h : c
  · rw [if_pos h]; exact h1
  · rw [if_neg h]; exact h2
set_option maxHeartbeats 4000000 in
theorem zstep_uq {X : ZX} {mi pc : Nat} {i : Instr} {L S : List Value} {st : ZS} : zuq st (zstep X mi i pc L S st) := by
  cases i <;> simp only [zstep, zldi, zlda, zldf, zldd, zsti, zsta', zstf, zstd, zi2, zf2, zd2, zbr, zcpyi, zcpyr] <;>
    repeat' first
      | exact zuq_n
      | exact zuq_s
      | exact zuq_w
      | exact zuq_p
      | exact zuq_o
      | exact zuq_a
      | refine zuq_b fun v => ?_
      | refine zuq_i ?_ ?_
      | split
end
section
/-! RUNS ARE SOUND: what the abstract machine answers, the real one does -/
def zrm (d n : Nat) : Room := { frames := d + 1, cells := n, slots := n, locals := 31 * d + 100 }
def zcw (y : Nat) : Cond := match zhh y with
  | [] => .code (znm y) (zby y) (zml y) (zrt y)
  | h => .codeWith (znm y) (zby y) (zml y) (zrt y) h
def zwo (y : Nat) : List Cond := zcw y :: zgw
def ZPre (G : va_G) (tc : Nat → ClassId) (ad : Nat → Nat) (X : ZX) (st : ZS) (A : Nat → Prop) (U : State) : Prop := va_P G vwCl (zws tc ad st.2) U.heap ∧ va_K G vwCl (ztys tc) U ∧ va_D (fun _ => True) (zws tc ad st.2) ∧ ZCh U A U.heap ad X ∧ ZCv U (ad 2)
def ZPo (G : va_G) (tc : Nat → ClassId) (ad ad' : Nat → Nat) (st st' : ZS) (A : Nat → Prop) (t : State) : Prop := (∀ k, k < st.2.length → ad' k = ad k) ∧ va_P G vwCl (zws tc ad' st'.2) t.heap ∧ va_D A (zws tc ad' st'.2) ∧ (zhok st'.2 ∧ zspc st'.2) ∧ st.2.length ≤ st'.2.length
def zQ (G : va_G) (tc : Nat → ClassId) (ad : Nat → Nat) (st : ZS) (r : ZR) (A : Nat → Prop) : Array Value → State → Outcome → State → Prop := fun _ st0 o t => (∃ (v : Option Value) (ad' : Nat → Nat), r.1 = .inl v ∧ o = .returned (v.map (zcv ad')) ∧ (∀ w, v = some w → zvok r.2.2.length w) ∧ ZPo G tc ad ad' st r.2 A t) ∧ va_F A st0 t
def zXo (G : va_G) (tc : Nat → ClassId) (ad : Nat → Nat) (st : ZS) (r : ZR) (A : Nat → Prop) : String → State → State → Prop := fun E st0 t => (∃ ad', r.1 = .inr E ∧ ZPo G tc ad ad' st r.2 A t) ∧ va_F A st0 t
def ZCt (l : Launch) (G : va_G) (tc : Nat → ClassId) (X : ZX) (d y : Nat) (args : List Value) (st : ZS) (r : ZR) : Prop := ∀ (ad : Nat → Nat) (sz : Nat), zhok st.2 → zspc st.2 → (∀ v ∈ args, zvok st.2.length v) →
  vx_Met l (znm y) (zwo y) (zrm d (r.2.1 - st.1)) (va_Pc (args.map (zcv ad)) (fun U => U.heap.size = sz ∧ ZPre G tc ad X st (va_A (zws tc ad st.2) sz) U)) (zQ G tc ad st r (va_A (zws tc ad st.2) sz)) (zXo G tc ad st r (va_A (zws tc ad st.2) sz)) (r.2.1 - st.1) (r.2.1 - st.1) (va_A (zws tc ad st.2) sz)
theorem ZCv.warm {s U : State} {mr : Nat} (hW : s.WarmedH U.vm) (h : ZCv s mr) : ZCv U mr := by
  obtain ⟨h1, h2, h3, h4, h5, h6, h7, h8, h9⟩ := h
  exact ⟨h1.moved hW.alike, h2.moved hW.alike, h3.moved hW.alike, fun w hw => (h4 w hw).imp fun sa h => h.warm hW, fun C hC => (h5 C hC).warmC hW, fun w hw => (h6 w hw).warmM hW, fun E hE => (h7 E hE).warmC hW, fun E hE F hF n => (h8 E hE F hF n).moved hW.alike, fun x hx => (h9 x hx).warmD hW⟩
theorem ZCh.moved {u U : State} {A : Nat → Prop} {H : Heap} {ad : Nat → Nat} {X : ZX} (hvm : u.vm.Alike U.vm) (h : ZCh u A H ad X) : ZCh U A H ad X :=
  ⟨⟨h.1.1.moved hvm, h.1.2.moved hvm⟩, ⟨h.2.1.1.moved hvm, h.2.1.2⟩, h.2.2.1.moved hvm, h.2.2.2.moved hvm⟩
theorem ZCh.kept {u : State} {A : Nat → Prop} {H H1 : Heap} {ad : Nat → Nat} {X : ZX} (h : ZCh u A H ad X) (hz : H.size ≤ H1.size) (hq : ∀ a : Nat, a < H.size → ¬ A a → H1[a]? = H[a]?) : ZCh u A H1 ad X :=
  ⟨⟨h.1.1.kept hq, h.1.2.kept hq⟩, ⟨h.2.1.1.kept (hq _ h.2.1.2.1 h.2.1.2.2), Nat.lt_of_lt_of_le h.2.1.2.1 hz, h.2.1.2.2⟩, h.2.2.1.kept hq, h.2.2.2.kept hq⟩
theorem ZCh.narrow {u : State} {A B : Nat → Prop} {H : Heap} {ad : Nat → Nat} {X : ZX} (h : ZCh u A H ad X) (hAB : ∀ q, B q → A q) : ZCh u B H ad X :=
  ⟨⟨h.1.1.narrow hAB, h.1.2.narrow hAB⟩, ⟨h.2.1.1, h.2.1.2.1, fun z => h.2.1.2.2 (hAB _ z)⟩, h.2.2.1.narrow hAB, h.2.2.2.narrow hAB⟩
theorem ZCh.ad {u : State} {A : Nat → Prop} {H : Heap} {ad ad' : Nat → Nat} {X : ZX} (h : ZCh u A H ad X) (e0 : ad' 0 = ad 0) (e1 : ad' 1 = ad 1) : ZCh u A H ad' X := by
  unfold ZCh at h ⊢
  rw [e0, e1]
  exact h
theorem ZPre.blind {G : va_G} {tc : Nat → ClassId} {ad : Nat → Nat} {X : ZX} {st : ZS} {A : Nat → Prop} {sz : Nat} {av : List Value} : FrameBlind (va_Pc av (fun U => U.heap.size = sz ∧ ZPre G tc ad X st A U)) := by
  intro a U g mk h
  obtain ⟨h0, h1, h2, h3, h4, h5, h6⟩ := h
  exact ⟨h0, h1, h2, va_K.moved (u := U) (U := U.calling g mk a) (Vm.Alike.refl U.vm) h3, h4, ZCh.moved (u := U) (U := U.calling g mk a) (Vm.Alike.refl U.vm) h5, ZCv.warm (s := U) (U := U.calling g mk a) (State.WarmedH.refl U) h6⟩
def ZWx (p : Program) (l : Launch) (e : Env) (R : Room) (s : State) (m : MethodId) (args : Array Value) (below : List Frame) (meth : Method) (c : Code) (G : va_G) (tc : Nat → ClassId) (A : Nat → Prop) (ad0 : Nat → Nat) (n0 u0 mi : Nat) (Q : State → Prop) (pc : Nat) (L : List Value) (st : ZS) (E : String) : Prop :=
  ∀ (ad : Nat → Nat) (H : Heap) (locs : List Loc) (ls : Array Slot) (q : Addr) (ce : Cell) (rest : List Value), ZPt G tc A s ad0 n0 u0 (zml mi) ad st L [] H locs ls → H[q]? = some ce → ce.vm = .none → s.vm.findClass E = some ce.cls → vx_W p l e R s m args below meth c H locs (st.1 - u0) (st.1 - u0) Q (F0 m pc ls rest) q
section ZN1
variable {p : Program} {l : Launch} {e : Env} {R : Room} {s : State} {m : MethodId} {args : Array Value} {below : List Frame} {meth : Method} {c : Code} {G : va_G} {tc : Nat → ClassId} {A : Nat → Prop} {ad0 : Nat → Nat} {n0 u0 mi : Nat} {Q : State → Prop} {X : ZX} {pc : Nat} {L S : List Value} {st : ZS} {q : ZQ}
theorem zfreeA {ad : Nat → Nat} {H : Heap} {locs : List Loc} {ls : Array Slot} (F : ZEv p l s m args meth c G tc A ad0 X mi) (h : ZPt G tc A s ad0 n0 u0 (zml mi) ad st L S H locs ls) : ∀ q, va_A (zws tc ad st.2) H.size q → A q := by
  obtain ⟨-, ⟨-, hA, -⟩, -⟩ := F
  rintro q (⟨k, ee, hk⟩ | hk)
  · exact h.1.2.1.2 k (q, ee) hk
  · exact hA q (Nat.le_trans h.1.2.2.1 hk)
/-- behind a call -/
theorem z_aft {ad : Nat → Nat} {H : Heap} {locs : List Loc} {ls : Array Slot} {r : ZR} {rest stk : List Value} {a' : Array Value} (F : ZEv p l s m args meth c G tc A ad0 X mi) (h : ZPt G tc A s ad0 n0 u0 (zml mi) ad st L S H locs ls) (hrest : ∀ v ∈ rest, zvok st.2.length v) (hu : st.1 ≤ r.2.1)
    (hr : vx_Run p l e R s m args below meth c H locs (st.1 - u0) (st.1 - u0) (r.2.1 - st.1) (r.2.1 - st.1) (F0 m pc ls stk) (rest.map (zcv ad)) (zQ G tc ad st r (va_A (zws tc ad st.2) H.size) a') (zXo G tc ad st r (va_A (zws tc ad st.2) H.size)) (va_A (zws tc ad st.2) H.size))
    (hk : ∀ v, r.1 = .inl v → ZW p l e R s m args below meth c G tc A ad0 n0 u0 mi Q (pc + 3) L (v.toList ++ rest) r.2)
    (hx : ∀ E, r.1 = .inr E → ZWx p l e R s m args below meth c G tc A ad0 n0 u0 mi Q pc L r.2 E) : W p l e R s m args below meth c H locs (st.1 - u0) (st.1 - u0) Q (F0 m pc ls stk) := by
  have hfr := zfreeA F h
  obtain ⟨g1, g2, g3, g4⟩ := h.2.2.2
  have hsum : st.1 - u0 + (r.2.1 - st.1) = r.2.1 - u0 := by omega
  have hpt : ∀ (ad' : Nat → Nat) (t : State) (locs1 : List Loc) (S' : List Value), ZPo G tc ad ad' st r.2 (va_A (zws tc ad st.2) H.size) t → va_S A s.heap t.heap locs1 → (∀ v ∈ S', zvok r.2.2.length v) → ZPt G tc A s ad0 n0 u0 (zml mi) ad' r.2 L S' t.heap locs1 ls := by
    intro ad' t locs1 S' hpo hS hS'
    obtain ⟨q1, q2, q3, ⟨q4, q5⟩, q6⟩ := hpo
    exact ⟨⟨q2, q3.weaken fun k q _ hq => hfr _ hq, hS⟩, ⟨q4, q5⟩, ⟨h.zl.ad h.lok q1, fun v hv => zvok_mono (h.lok v hv) q6, hS'⟩, ⟨fun k hk => by rw [q1 k (Nat.lt_of_lt_of_le hk g2)]; exact g1 k hk, Nat.le_trans g2 q6, g3, Nat.le_trans g4 hu⟩⟩
  intro T hT X'
  rcases hr T hT X' with ⟨v, st₀, t, T', L', h0, X'', hL, e1, e2, hq, stp⟩ | ⟨q9, st₀, t, T', L', E, ce, h0, X'', hL, e1, e2, hq, hce, hcv, hcl, stp⟩
  · obtain ⟨⟨v0, ad', hr1, ho, hv, hpo⟩, hF⟩ := hq
    cases ho
    obtain ⟨k1, k2, k3⟩ := vx_keep h0 e1 h.1.2.2 (fun q _ hq => hfr q hq) hfr hL hF
    rw [e1] at k3
    have hS' : ∀ w ∈ v0.toList ++ rest, zvok r.2.2.length w := by
      intro w hw
      rcases List.mem_append.mp hw with z | z
      · cases v0 with
        | none => simp at z
        | some w0 => simp only [Option.toList_some, List.mem_singleton] at z; exact hv w (by rw [z])
      · exact zvok_mono (hrest w z) hpo.2.2.2.2
    have k9 := hk v0 hr1 ad' t.heap (locs ++ L') ls (hpt ad' t _ _ hpo k3 hS')
    rw [hsum] at X''
    obtain ⟨t2, a1, b1⟩ := k9 T' e1 X''
    refine ⟨t2, stp t2 ?_, b1⟩
    have ev : (v0.toList ++ rest).map (zcv ad') = (v0.map (zcv ad')).toList ++ rest.map (zcv ad) := by
      rw [List.map_append, List.map_congr_left fun v hv => zcv_ad (hrest v hv) hpo.1]
      cases v0 <;> rfl
    rw [ev] at a1
    exact a1
  · obtain ⟨⟨ad', hr1, hpo⟩, hF⟩ := hq
    obtain ⟨k1, k2, k3⟩ := vx_keep h0 e1 h.1.2.2 (fun q _ hq => hfr q hq) hfr hL hF
    rw [e1] at k3
    rw [hsum] at X''
    obtain ⟨t2, a1, b1⟩ := hx E hr1 ad' t.heap (locs ++ L') ls q9 ce (rest.map (zcv ad)) (hpt ad' t _ [] hpo k3 (fun v hv => absurd hv List.not_mem_nil)) hce hcv hcl T' e1 X''
    exact ⟨t2, stp.trans a1, b1⟩
/-- what a call needs -/
theorem z_pre {ad : Nat → Nat} {H : Heap} {locs : List Loc} {ls : Array Slot} {U : State} (F : ZEv p l s m args meth c G tc A ad0 X mi) (h : ZPt G tc A s ad0 n0 u0 (zml mi) ad st L S H locs ls) (hU : U.heap = H) (hW : s.WarmedH U.vm) : U.heap.size = H.size ∧ ZPre G tc ad X st (va_A (zws tc ad st.2) H.size) U := by
  have hfr := zfreeA F h
  obtain ⟨-, ⟨hK, -⟩, hch, hcv⟩ := F
  obtain ⟨g1, g2, g3, g4⟩ := h.2.2.2
  subst hU
  refine ⟨rfl, h.1.1, va_K.moved hW.alike hK, h.1.2.1.weaken (fun _ _ _ _ => trivial), ?_, ?_⟩
  · exact (((hch.kept h.1.2.2.1 h.1.2.2.2.1).narrow hfr).ad (g1 0 (by omega)) (g1 1 (by omega))).moved hW.alike
  · rw [g1 2 (by omega)]
    exact hcv.warm hW
theorem z_good {y : Nat} (hy : zcw y ∈ zgw) : ∀ w ∈ zwo y, w ∈ zgw ∧ ((w.onTables && w.keeps) = true ∨ ∃ ty, w = .arrayClass ty) := by
  have hg : ∀ w ∈ zgw, w ∈ zgw ∧ ((w.onTables && w.keeps) = true ∨ ∃ ty, w = .arrayClass ty) := fun w hw => ⟨hw, good_of_word (List.mem_filter.mp hw).2⟩
  intro w hw
  rcases List.mem_cons.mp hw with e | e
  · rw [e]; exact hg _ hy
  · exact hg w e
end ZN1
end
section
/-! calls: the four kinds, from the tables -/
theorem zst_split {S : List Value} {n : Nat} {v : Value} {S2 : List Value} (h : S.drop n = v :: S2) : S = S.take n ++ v :: S2 ∧ (S.take n).length = n := by
  refine ⟨by rw [← h, List.take_append_drop], ?_⟩
  rw [List.length_take]
  have : n < S.length := by
    rcases Nat.lt_or_ge n S.length with q | q
    · exact q
    · rw [List.drop_eq_nil_of_le q] at h; cases h
  omega
theorem zow_ne : ∀ o : Nat, zow o ≠ "java/lang/invoke/MethodHandle" ∧ zow o ≠ "java/lang/invoke/VarHandle" := by
  intro o
  rcases Nat.lt_or_ge o 16 with h | h
  · exact (show ∀ o, o < 16 → zow o ≠ "java/lang/invoke/MethodHandle" ∧ zow o ≠ "java/lang/invoke/VarHandle" by decide +kernel) o h
  · have e : zow o = "" := by
      unfold zow
      rw [List.getD_eq_getElem?_getD, List.getElem?_eq_none (by exact h)]
      rfl
    rw [e]
    decide
theorem znmh {y : Nat} (h : (znm y).cls = zow (zoc y)) : (znm y).cls ≠ "java/lang/invoke/MethodHandle" ∧ (znm y).cls ≠ "java/lang/invoke/VarHandle" := by
  rw [h]
  exact zow_ne _
theorem zC0_all : zCL.all (fun x => x.2.1 == 1 || decide (zhh x.2.2 = [])) = true := by decide +kernel
theorem zC0_ok {o i k y : Nat} (h : zCL.lookup (o, i) = some (k, y)) (hk : k ≠ 1) : zhh y = [] := by
  have h1 := List.all_eq_true.mp zC0_all _ (zlk h)
  rw [Bool.or_eq_true] at h1
  rcases h1 with e | e
  · exact absurd (eq_of_beq e) hk
  · exact of_decide_eq_true e
theorem zcw_of {y : Nat} (h : zhh y = []) : zcw y = .code (znm y) (zby y) (zml y) (zrt y) := by
  unfold zcw
  rw [h]
theorem zcw_ne {y : Nat} (h : zhh y ≠ []) : zcw y = .codeWith (znm y) (zby y) (zml y) (zrt y) (zhh y) := by
  unfold zcw
  split
  · rename_i e; exact absurd e h
  · rename_i hh e; rfl
section ZO1
variable {p : Program} {l : Launch} {e : Env} {R : Room} {s : State} {m : MethodId} {args : Array Value} {below : List Frame} {meth : Method} {c : Code} {G : va_G} {tc : Nat → ClassId} {A : Nat → Prop} {ad0 : Nat → Nat} {n0 u0 mi : Nat} {Q : State → Prop} {X : ZX} {pc : Nat} {L S : List Value} {st : ZS} {q : ZQ}
theorem zcall_ok {i : Instr} {y d len : Nat} {as rest : List Value} {r : ZR} {ad : Nat → Nat} {H : Heap} {locs : List Loc} {ls : Array Slot} (F : ZEv p l s m args meth c G tc A ad0 X mi) (hRf : R.frames = d + 2) (hRl : 31 * (d + 1) + 100 ≤ R.locals) (hml12 : zml y ≤ 12) (hc : zcal mi i S st = some (y, as, rest)) (hct : ZCt l G tc X d y as st r) (hd : decode (zby mi) pc = .ok (i, len)) (hl : zlok i len = true) (h : ZPt G tc A s ad0 n0 u0 (zml mi) ad st L S H locs ls) (hu : st.1 ≤ r.2.1) (hR : r.2.1 - u0 ≤ R.cells ∧ r.2.1 - u0 ≤ R.slots) :
    (∀ v ∈ rest, zvok st.2.length v) ∧ ∃ a', vx_Run p l e R s m args below meth c H locs (st.1 - u0) (st.1 - u0) (r.2.1 - st.1) (r.2.1 - st.1) (F0 m pc ls (S.map (zcv ad))) (rest.map (zcv ad)) (zQ G tc ad st r (va_A (zws tc ad st.2) H.size) a') (zXo G tc ad st r (va_A (zws tc ad st.2) H.size)) (va_A (zws tc ad st.2) H.size) := by
  have F' := F
  obtain ⟨⟨hx, hb, hml, hown, hts⟩, ⟨hK, hA, hlk, hst, hrt, hin⟩, hch, hcv⟩ := F
  have hu0 : u0 ≤ st.1 := h.2.2.2.2.2.2
  have hf : st.1 - u0 + (r.2.1 - st.1) ≤ R.cells ∧ st.1 - u0 + (r.2.1 - st.1) ≤ R.slots := ⟨by omega, by omega⟩
  have hsz : ls.size = zml mi := h.zl.2.1
  have hroom : (zrm d (r.2.1 - st.1)).frames + 1 ≤ R.frames ∧ 8 + (zml y + 11) + (zrm d (r.2.1 - st.1)).locals ≤ R.locals := by
    rw [hRf]
    exact ⟨Nat.le_refl _, by show 8 + (zml y + 11) + (31 * d + 100) ≤ R.locals; omega⟩
  have hsum : ∀ S2 : List Value, S2.length ≤ 4 → 2 * (F0 m pc ls (S.map (zcv ad))).monitorRoom + ((S2.map (zcv ad)).map fun v => v.category).sum ≤ 8 := by
    intro S2 h4
    have h0 : (F0 m pc ls (S.map (zcv ad))).monitorRoom = 0 := rfl
    have := zsum (S := S2.map (zcv ad)) (by rw [List.length_map]; exact h4)
    rw [h0]
    omega
  cases i with
  | invokevirtual idx =>
    have e := eq_of_beq hl
    subst e
    simp only [zcal] at hc
    split at hc
    · rename_i y' hcl
      split at hc
      · rename_i a S2 hS
        split at hc
        · rename_i hq
          cases hc
          obtain ⟨hS1, hSn⟩ := zst_split hS
          obtain ⟨cp, hcp⟩ := zall (by decide +kernel) zM_all hcl
          simp only [zMc, Bool.and_eq_true] at hcp
          obtain ⟨hdesc, hcls, hpl, w1, w2, w3, w4, w5, w6⟩ := hcp
          obtain ⟨fs, v0, q1, q2⟩ := zis_inv hq.1
          have ha := zge3 h.2.1.2 q1 q2
          cases hr : vwCl[zvi (zoc y)]? with
          | none => rw [hr] at w6; cases w6
          | some rr =>
            rw [hr] at w6
            have hrn : rr.1 = (znm y).cls := of_decide_eq_true w6
            have hsok : ∀ v ∈ S, zvok st.2.length v := h.sok
            rw [hS1] at hsok
            have hrest : ∀ v ∈ rest, zvok st.2.length v := fun v hv => hsok v (List.mem_append_right _ (List.mem_cons_of_mem _ hv))
            have hargs : ∀ v ∈ Value.ref a :: (S.take (znp y)).reverse, zvok st.2.length v := by
              intro v hv
              rcases List.mem_cons.mp hv with e | e
              · exact hsok v (List.mem_append_right _ (by rw [e]; exact List.mem_cons_self))
              · exact hsok v (List.mem_append_left _ (List.mem_reverse.mp e))
            refine ⟨hrest, (Value.ref (ad a) :: ((S.take (znp y)).reverse).map (zcv ad)).toArray, ?_⟩
            have hcw : zcw y = .code (znm y) (zby y) (zml y) (zrt y) := zcw_of (zC0_ok hcl (by decide))
            have hgz : zcw y ∈ zgw := by rw [hcw]; exact zhas_mem w2
            have hrv := va_recv hK h.1.1 hr (zws_at ha q1)
            rw [hrn] at hrv
            refine vx_runV (As := ((S.take (znp y)).reverse).map (zcv ad)) (b := ad a) (n := znp y) (y := znm y) (bytes := zby y) (maxL := zml y) (ret := zrt y) (ws := zwo y) (rm := zrm d (r.2.1 - st.1)) (Ts := zgw) (C := (znm y).cls) (own := zow (zoc mi)) ⟨hx, hb, hml, hown, hts⟩ (hct ad H.size h.2.1.1 h.2.1.2 hargs) ⟨⟨rfl, rfl, hroom.1, hroom.2, pay_in hts (z_good hgz), ?_, hts _ (zhas_mem w2), hts _ (zhas_mem w5), znmh (of_decide_eq_true hcls), fun sig hs => ?_, hts _ (zhas_mem w1)⟩, hts _ (zhas_mem w3), hts _ (zhas_mem w4)⟩ ⟨ZPre.blind, hrv, fun U hU hW => ⟨rfl, z_pre F' h hU hW⟩⟩ rfl ?_ hsz ?_ (hsum rest hq.2) hd hf
            · rw [← hcw]; exact List.mem_cons_self
            · have h9 := of_decide_eq_true hdesc
              rw [hs] at h9
              exact (Option.some.inj h9).symm
            · rw [List.length_map, List.length_reverse, hSn]
            · show S.map (zcv ad) = _
              rw [← List.map_reverse, List.reverse_reverse]
              conv => lhs; rw [hS1]
              rw [List.map_append]
              rfl
        · cases hc
      · cases hc
    · cases hc
  | invokespecial idx =>
    have e := eq_of_beq hl
    subst e
    simp only [zcal] at hc
    split at hc
    · rename_i y' hcl
      split at hc
      · rename_i a S2 hS
        split at hc
        · rename_i hq
          cases hc
          obtain ⟨hS1, hSn⟩ := zst_split hS
          obtain ⟨cp, hcp⟩ := zall (by decide +kernel) zM_all hcl
          simp only [zMc, Bool.and_eq_true] at hcp
          obtain ⟨hdesc, hcls, hpl, w1, w2, w3, w4, w5, w6⟩ := hcp
          have hsok : ∀ v ∈ S, zvok st.2.length v := h.sok
          rw [hS1] at hsok
          have hrest : ∀ v ∈ rest, zvok st.2.length v := fun v hv => hsok v (List.mem_append_right _ (List.mem_cons_of_mem _ hv))
          have hargs : ∀ v ∈ Value.ref a :: (S.take (znp y)).reverse, zvok st.2.length v := by
            intro v hv
            rcases List.mem_cons.mp hv with e | e
            · exact hsok v (List.mem_append_right _ (by rw [e]; exact List.mem_cons_self))
            · exact hsok v (List.mem_append_left _ (List.mem_reverse.mp e))
          refine ⟨hrest, (Value.ref (ad a) :: ((S.take (znp y)).reverse).map (zcv ad)).toArray, ?_⟩
          have hcw : zcw y = .code (znm y) (zby y) (zml y) (zrt y) := zcw_of (zC0_ok hcl (by decide))
          rw [of_decide_eq_true w6] at hcw w2
          have hgz : zcw y ∈ zgw := by rw [hcw]; exact zhas_mem w2
          refine vx_runI (As := ((S.take (znp y)).reverse).map (zcv ad)) (b := ad a) (n := znp y) (y := znm y) (bytes := zby y) (maxL := zml y) (ws := zwo y) (rm := zrm d (r.2.1 - st.1)) (Ts := zgw) (own := zow (zoc mi)) ⟨hx, hb, hml, hown, hts⟩ (hct ad H.size h.2.1.1 h.2.1.2 hargs) ⟨⟨rfl, rfl, hroom.1, hroom.2, pay_in hts (z_good hgz), ?_, hts _ (zhas_mem w2), hts _ (zhas_mem w4), znmh (of_decide_eq_true hcls), fun sig hs => ?_, hts _ (zhas_mem w1)⟩, of_decide_eq_true w5, hts _ (zhas_mem w3)⟩ ⟨ZPre.blind, fun U hU hW => ⟨rfl, z_pre F' h hU hW⟩⟩ rfl ?_ hsz ?_ (hsum rest hq) hd hf
          · rw [← hcw]; exact List.mem_cons_self
          · have h9 := of_decide_eq_true hdesc
            rw [hs] at h9
            exact (Option.some.inj h9).symm
          · rw [List.length_map, List.length_reverse, hSn]
          · show S.map (zcv ad) = _
            rw [← List.map_reverse, List.reverse_reverse]
            conv => lhs; rw [hS1]
            rw [List.map_append]
            rfl
        · cases hc
      · cases hc
    · rename_i y' hcl
      split at hc
      · rename_i a S2 hS
        split at hc
        · rename_i hq
          cases hc
          obtain ⟨hS1, hSn⟩ := zst_split hS
          obtain ⟨cp, hcp⟩ := zall (by decide +kernel) zM_all hcl
          simp only [zMc, Bool.and_eq_true] at hcp
          obtain ⟨hdesc, hcls, hpl, w1, w2, w3, w4, w5, w6⟩ := hcp
          have hsok : ∀ v ∈ S, zvok st.2.length v := h.sok
          rw [hS1] at hsok
          have hrest : ∀ v ∈ rest, zvok st.2.length v := fun v hv => hsok v (List.mem_append_right _ (List.mem_cons_of_mem _ hv))
          have hargs : ∀ v ∈ Value.ref a :: (S.take (znp y)).reverse, zvok st.2.length v := by
            intro v hv
            rcases List.mem_cons.mp hv with e | e
            · exact hsok v (List.mem_append_right _ (by rw [e]; exact List.mem_cons_self))
            · exact hsok v (List.mem_append_left _ (List.mem_reverse.mp e))
          refine ⟨hrest, (Value.ref (ad a) :: ((S.take (znp y)).reverse).map (zcv ad)).toArray, ?_⟩
          have hcw : zcw y = .code (znm y) (zby y) (zml y) (zrt y) := zcw_of (zC0_ok hcl (by decide))
          rw [of_decide_eq_true w6] at hcw w2
          have hgz : zcw y ∈ zgw := by rw [hcw]; exact zhas_mem w2
          have hnw : va_Nw (.methodLinkNest (zow (zoc mi)) idx (znm y) "Kerfworks") s := hcv.2.2.2.2.2.1 (zow (zoc mi), idx, znm y) (List.mem_map.mpr ⟨((zoc mi, idx), (3, y)), List.mem_filter.mpr ⟨zlk hcl, rfl⟩, rfl⟩)
          refine vx_runIN (host := "Kerfworks") (As := ((S.take (znp y)).reverse).map (zcv ad)) (b := ad a) (n := znp y) (y := znm y) (bytes := zby y) (maxL := zml y) (ws := zwo y) (rm := zrm d (r.2.1 - st.1)) (Ts := zgw) (own := zow (zoc mi)) ⟨hx, hb, hml, hown, hts⟩ (hct ad H.size h.2.1.1 h.2.1.2 hargs) ⟨⟨⟨rfl, rfl, hroom.1, hroom.2, pay_in hts (z_good hgz), ?_⟩, hts _ (zhas_mem w2), hts _ (zhas_mem w4), znmh (of_decide_eq_true hcls), fun sig hs => ?_, hnw.use rfl⟩, of_decide_eq_true w5, hts _ (zhas_mem w3)⟩ ⟨ZPre.blind, fun U hU hW => ⟨rfl, z_pre F' h hU hW⟩⟩ rfl ?_ hsz ?_ (hsum rest hq) hd hf
          · rw [← hcw]; exact List.mem_cons_self
          · have h9 := of_decide_eq_true hdesc
            rw [hs] at h9
            exact (Option.some.inj h9).symm
          · rw [List.length_map, List.length_reverse, hSn]
          · show S.map (zcv ad) = _
            rw [← List.map_reverse, List.reverse_reverse]
            conv => lhs; rw [hS1]
            rw [List.map_append]
            rfl
        · cases hc
      · cases hc
    · cases hc
  | invokestatic idx =>
    have e := eq_of_beq hl
    subst e
    simp only [zcal] at hc
    split at hc
    · rename_i y' hcl
      split at hc
      · rename_i hq
        cases hc
        obtain ⟨cp, hcp⟩ := zall (by decide +kernel) zM_all hcl
        simp only [zMc, Bool.and_eq_true] at hcp
        obtain ⟨hdesc, hcls, hpl, w1, w2, w3, w4⟩ := hcp
        have hsok : ∀ v ∈ S, zvok st.2.length v := h.sok
        have hrest : ∀ v ∈ S.drop (znp y), zvok st.2.length v := fun v hv => hsok v (List.mem_of_mem_drop hv)
        have hargs : ∀ v ∈ (S.take (znp y)).reverse, zvok st.2.length v := fun v hv => hsok v (List.mem_of_mem_take (List.mem_reverse.mp hv))
        refine ⟨hrest, (((S.take (znp y)).reverse).map (zcv ad)).toArray, ?_⟩
        have hsig : ∀ sig, parseMethodDescriptor (znm y).desc = some sig → znp y = sig.parameters.length := fun sig hs => by
          have h9 := of_decide_eq_true hdesc
          rw [hs] at h9
          exact (Option.some.inj h9).symm
        have hlen : (((S.take (znp y)).reverse).map (zcv ad)).length = znp y := by
          rw [List.length_map, List.length_reverse, List.length_take]
          omega
        have hstk : (F0 m pc ls (S.map (zcv ad))).stack = (((S.take (znp y)).reverse).map (zcv ad)).reverse ++ (S.drop (znp y)).map (zcv ad) := by
          show S.map (zcv ad) = _
          rw [← List.map_reverse, List.reverse_reverse, ← List.map_append, List.take_append_drop]
        have hpre : PreS s H (va_Pc (((S.take (znp y)).reverse).map (zcv ad)) (fun U => U.heap.size = H.size ∧ ZPre G tc ad X st (va_A (zws tc ad st.2) H.size) U)) (((S.take (znp y)).reverse).map (zcv ad)) := ⟨ZPre.blind, fun U hU hW => ⟨rfl, z_pre F' h hU hW⟩⟩
        by_cases hh : zhh y = []
        · rw [hh] at w2
          have hcw : zcw y = .code (znm y) (zby y) (zml y) (zrt y) := zcw_of hh
          have hgz : zcw y ∈ zgw := by rw [hcw]; exact zhas_mem w2
          exact vx_runS (n := znp y) (y := znm y) (bytes := zby y) (maxL := zml y) (ret := zrt y) (ws := zwo y) (rm := zrm d (r.2.1 - st.1)) (Ts := zgw) (own := zow (zoc mi)) ⟨hx, hb, hml, hown, hts⟩ (hct ad H.size h.2.1.1 h.2.1.2 hargs) ⟨⟨rfl, rfl, hroom.1, hroom.2, pay_in hts (z_good hgz), by rw [← hcw]; exact List.mem_cons_self, hts _ (zhas_mem w2), hts _ (zhas_mem w4), znmh (of_decide_eq_true hcls), hsig, hts _ (zhas_mem w1)⟩, hts _ (zhas_mem w3)⟩ hpre rfl hlen hsz hstk (hsum _ hq.2) hd hf
        · have w2 : zhas (.codeWith (znm y) (zby y) (zml y) (zrt y) (zhh y)) (cp.getD 1 0) = true := by
            revert w2
            split
            · rename_i e; exact absurd e hh
            · exact id
          have hcw : zcw y = .codeWith (znm y) (zby y) (zml y) (zrt y) (zhh y) := zcw_ne hh
          have hgz : zcw y ∈ zgw := by rw [hcw]; exact zhas_mem w2
          exact vx_runSX (hh := zhh y) (n := znp y) (y := znm y) (bytes := zby y) (maxL := zml y) (ret := zrt y) (ws := zwo y) (rm := zrm d (r.2.1 - st.1)) (Ts := zgw) (own := zow (zoc mi)) ⟨hx, hb, hml, hown, hts⟩ (hct ad H.size h.2.1.1 h.2.1.2 hargs) ⟨⟨rfl, rfl, hroom.1, hroom.2, pay_in hts (z_good hgz), by rw [← hcw]; exact List.mem_cons_self⟩, hts _ (zhas_mem w2), hts _ (zhas_mem w4), znmh (of_decide_eq_true hcls), hsig, hts _ (zhas_mem w1), hts _ (zhas_mem w3)⟩ hpre rfl hlen hsz hstk (hsum _ hq.2) hd hf
      · cases hc
    · cases hc
  | _ => exact absurd hc (by intro z; simp [zcal] at z)
end ZO1
end
section
/-! a whole run of a method -/
theorem zfin_u {d mi pc : Nat} {i : Instr} {S : List Value} {st : ZS} {r : ZR} (h : zfin d mi i pc S st = some r) : st.1 ≤ r.2.1 := by
  cases i <;> simp only [zfin] at h <;> (repeat' split at h) <;>
    first
      | (cases h; done)
      | (cases h; exact Nat.le_refl _)
      | skip
  rename_i hz
  cases hq : zthr mi _ pc with
  | none => rw [hq] at h; cases h
  | some E => rw [hq] at h; cases h; show st.1 ≤ st.1 + 7; omega
theorem arun_u {X : ZX} {d mi : Nat} {call : Nat → List Value → ZS → Option ZR} (hc : ∀ y a s r, call y a s = some r → s.1 ≤ r.2.1) : ∀ (k pc : Nat) (L S : List Value) (st : ZS) (r : ZR), arun X d call mi k pc L S st = some r → st.1 ≤ r.2.1 := by
  intro k
  induction k with
  | zero => intro pc L S st r h; cases h
  | succ k ih =>
    intro pc L S st r h
    rw [arun_s] at h
    unfold abod at h
    cases hd : decode (zby mi) pc with
    | error e => rw [hd] at h; cases h
    | ok il =>
      rw [hd] at h
      dsimp only at h
      by_cases hl : zlok il.1 il.2 = false
      · rw [if_pos hl] at h; cases h
      · rw [if_neg hl] at h
        cases hs : zstep X mi il.1 pc L S st with
        | some q => rw [hs] at h; exact Nat.le_trans (zstep_uq q hs) (ih _ _ _ _ _ h)
        | none =>
          rw [hs] at h
          dsimp only at h
          cases hf : zfin d mi il.1 pc S st with
          | some q => rw [hf] at h; cases h; exact zfin_u hf
          | none =>
            rw [hf] at h
            dsimp only at h
            cases hz : zcal mi il.1 S st with
            | none => rw [hz] at h; cases h
            | some c =>
              rw [hz] at h
              dsimp only at h
              cases hq : call c.1 c.2.1 st with
              | none => rw [hq] at h; cases h
              | some w =>
                rw [hq] at h
                have hw := hc _ _ _ _ hq
                obtain ⟨o, st'⟩ := w
                cases o with
                | inl v => exact Nat.le_trans hw (ih _ _ _ _ _ h)
                | inr E =>
                  dsimp only at h
                  cases hh : zhnd mi pc E with
                  | none =>
                    rw [hh] at h
                    dsimp only at h
                    by_cases hg : zhh mi = []
                    · rw [if_pos hg] at h; cases h; exact hw
                    · rw [if_neg hg] at h; cases h
                  | some g =>
                    rw [hh] at h
                    dsimp only at h
                    by_cases hg : g.2.1 < L.length
                    · rw [if_pos hg] at h; exact Nat.le_trans hw (ih _ _ _ _ _ h)
                    · rw [if_neg hg] at h; cases h
theorem acall_u {X : ZX} {n : Nat} : ∀ (d y : Nat) (a : List Value) (s : ZS) (r : ZR), acall X n d y a s = some r → s.1 ≤ r.2.1 := by
  intro d
  induction d with
  | zero => intro y a s r h; cases h
  | succ d ih =>
    intro y a s r h
    unfold acall at h
    by_cases c : (a.length ≤ zml y ∧ zml y ≤ 12) ∧ a.all zc1 = true
    · rw [if_pos c] at h; exact arun_u ih _ _ _ _ _ _ h
    · rw [if_neg c] at h; cases h
theorem zhh_all : (List.range zML.length).all (fun k => (zhh k).all fun t => (decide (t.2.2.2 = 13) || (decide (t.2.2.2 = 19) || decide (t.2.2.2 = 21))) && decide (zoc k = 15)) = true := by decide +kernel
theorem zcl_13 : Cond.classLink (zow 15) 13 (zcn 13) ∈ zgw := zgw_at 195 (by decide +kernel)
theorem zcl_19 : Cond.classLink (zow 15) 19 (zcn 19) ∈ zgw := zgw_at 369 (by decide +kernel)
theorem zcl_21 : Cond.classLink (zow 15) 21 (zcn 21) ∈ zgw := zgw_at 370 (by decide +kernel)
theorem zhh_ok {k : Nat} {t : Nat × Nat × Nat × Nat} (ht : t ∈ zhh k) : t.2.2.2 ≠ 0 ∧ Cond.classLink (zow (zoc k)) t.2.2.2 (zcn t.2.2.2) ∈ zgw ∧ zcn t.2.2.2 ∈ zEX := by
  have hk : k < zML.length := by
    rcases Nat.lt_or_ge k zML.length with q | q
    · exact q
    · have e : zhh k = [] := by
        unfold zhh zm
        rw [List.getD_eq_getElem?_getD, List.getElem?_eq_none q]
        rfl
      rw [e] at ht
      exact absurd ht List.not_mem_nil
  have h1 := List.all_eq_true.mp (List.all_eq_true.mp zhh_all k (List.mem_range.mpr hk)) t ht
  simp only [Bool.and_eq_true, Bool.or_eq_true] at h1
  obtain ⟨h1, h2⟩ := h1
  rw [of_decide_eq_true h2]
  rcases h1 with e | e | e
  · rw [of_decide_eq_true e]; exact ⟨by decide, zcl_13, by decide +kernel⟩
  · rw [of_decide_eq_true e]; exact ⟨by decide, zcl_19, by decide +kernel⟩
  · rw [of_decide_eq_true e]; exact ⟨by decide, zcl_21, by decide +kernel⟩
theorem zsplit_map {α β : Type} {f : α → β} : ∀ {l : List α} {as : List β} {b : β} {bs : List β}, l.map f = as ++ b :: bs → ∃ pre x suf, l = pre ++ x :: suf ∧ pre.map f = as ∧ f x = b
  | [], [], _, _, h => by cases h
  | [], _ :: _, _, _, h => by cases h
  | x :: l, [], b, bs, h => by
    rw [List.map_cons, List.nil_append] at h
    injection h with h1 h2
    exact ⟨[], x, l, rfl, rfl, h1⟩
  | x :: l, a :: as, b, bs, h => by
    rw [List.map_cons, List.cons_append] at h
    injection h with h1 h2
    obtain ⟨pre, y, suf, e1, e2, e3⟩ := zsplit_map h2
    exact ⟨x :: pre, y, suf, by rw [e1]; rfl, by rw [List.map_cons, h1, e2], e3⟩
section ZP1
variable {p : Program} {l : Launch} {e : Env} {R : Room} {s : State} {m : MethodId} {args : Array Value} {below : List Frame} {meth : Method} {c : Code} {G : va_G} {tc : Nat → ClassId} {A : Nat → Prop} {ad0 : Nat → Nat} {n0 u0 mi : Nat} {Q : State → Prop} {X : ZX} {pc : Nat} {L S : List Value} {st : ZS} {q : ZQ}
theorem zcatch (F : ZEv p l s m args meth c G tc A ad0 X mi) (hT : c.exceptionTable.toList.map (fun h => (h.startPc, h.endPc, h.handlerPc, h.catchType)) = zhh mi) {E : String} {h : Nat × Nat × Nat} (hh : zhnd mi pc E = some h) (hl : h.2.1 < L.length) (k : ZW p l e R s m args below meth c G tc A ad0 n0 u0 mi Q h.2.2 (L.set h.2.1 zjk) [] st) : ZWx p l e R s m args below meth c G tc A ad0 n0 u0 mi Q pc L st E := by
  obtain ⟨⟨hx, hb, hml, hown, hts⟩, -, hch, hcv⟩ := F
  unfold zhnd at hh
  cases hf : (zhh mi).find? fun h => decide (h.1 ≤ pc) && (decide (pc < h.2.1) && decide (zcn h.2.2.2 = E)) with
  | none => rw [hf] at hh; cases hh
  | some t =>
    rw [hf] at hh
    simp only [Option.bind_some] at hh
    obtain ⟨ht, as, bs, hsp, has⟩ := List.find?_eq_some_iff_append.mp hf
    have htm : t ∈ zhh mi := List.mem_of_find?_eq_some hf
    simp only [Bool.and_eq_true] at ht
    obtain ⟨t1, t2, t3⟩ := ht
    have t1 := of_decide_eq_true t1
    have t2 := of_decide_eq_true t2
    have t3 := of_decide_eq_true t3
    rw [hsp] at hT
    obtain ⟨pre, x, suf, e1, e2, e3⟩ := zsplit_map hT
    obtain ⟨z0, z1, z2⟩ := zhh_ok htm
    have x1 : x.startPc = t.1 := by rw [← e3]
    have x2 : x.endPc = t.2.1 := by rw [← e3]
    have x3 : x.handlerPc = t.2.2.1 := by rw [← e3]
    have x4 : x.catchType = t.2.2.2 := by rw [← e3]
    have hpass : ∀ z ∈ pre, covers z pc = false ∨ (z.catchType ≠ 0 ∧ ∃ nm : String, (Cond.classLink (zow (zoc mi)) z.catchType nm).before args s = true ∧ va_Nc E nm s) := by
      intro z hz
      have hza : (z.startPc, z.endPc, z.handlerPc, z.catchType) ∈ as := by rw [← e2]; exact List.mem_map.mpr ⟨z, hz, rfl⟩
      have hzm : (z.startPc, z.endPc, z.handlerPc, z.catchType) ∈ zhh mi := by rw [hsp]; exact List.mem_append_left _ hza
      have hno := has _ hza
      by_cases c1 : z.startPc ≤ pc ∧ pc < z.endPc
      · obtain ⟨y0, y1, y2⟩ := zhh_ok hzm
        refine Or.inr ⟨y0, _, hts _ y1, hcv.2.2.2.2.2.2.2.1 _ (by rw [← t3]; exact z2) _ y2 ?_⟩
        intro e
        rw [decide_eq_true c1.1, decide_eq_true c1.2, decide_eq_true e.symm] at hno
        simp at hno
      · refine Or.inl ?_
        simp only [covers, Bool.and_eq_false_iff, decide_eq_false_iff_not]
        omega
    have hcov : covers x pc = true := by
      simp only [covers, Bool.and_eq_true, decide_eq_true_eq]
      omega
    intro ad H locs ls q ce rest h hce hcve hcl
    refine vx_catch (name := zcn x.catchType) hown pre x suf e1 hpass hcov (by rw [x4]; exact z0) (by rw [x4]; exact hts _ z1) ?_ hce hcve hcl ?_
    · rw [x4, t3]
      exact (hcv.2.2.2.2.2.2.1 E (by rw [← t3]; exact z2)).use rfl
    · rw [x3]
      have hlen : L.length = zml mi := h.zl.1
      split at hh
      · rename_i k' hdk
        cases hh
        have hn : (k' : Nat) < zml mi := by rw [← hlen]; exact hl
        exact lv_astore_n hx hb hdk rfl h.zl.2 hn rfl fun ls' hl' => k ad H locs ls' (h.lcl (h.zl.junk hn hl') (zall_set zvok_junk h.lok) (fun v hv => absurd hv List.not_mem_nil))
      · rename_i k' hdk
        cases hh
        have hn : (k' : Nat) < zml mi := by rw [← hlen]; exact hl
        exact lv_astore hx hb hdk h.zl.2 hn rfl fun ls' hl' => k ad H locs ls' (h.lcl (h.zl.junk hn hl') (zall_set zvok_junk h.lok) (fun v hv => absurd hv List.not_mem_nil))
      · cases hh
theorem zsim {d : Nat} {call : Nat → List Value → ZS → Option ZR} {r : ZR} (F : ZEv p l s m args meth c G tc A ad0 X mi) (hT : zhh mi ≠ [] → c.exceptionTable.toList.map (fun h => (h.startPc, h.endPc, h.handlerPc, h.catchType)) = zhh mi) (hn1 : 1 < n0) (hRf : R.frames = d + 1) (hRl : 31 * d + 100 ≤ R.locals) (hRc : r.2.1 - u0 ≤ R.cells ∧ r.2.1 - u0 ≤ R.slots)
    (hcm : ∀ y a s r, call y a s = some r → s.1 ≤ r.2.1) (hcall : ∀ y a s r, call y a s = some r → zml y ≤ 12 ∧ ∃ d', d = d' + 1 ∧ ZCt l G tc X d' y a s r)
    (hfin : ∀ (pc : Nat) (i : Instr) (len : Nat) (L S : List Value) (st : ZS), decode (zby mi) pc = .ok (i, len) → zlok i len = true → zfin d mi i pc S st = some r → ZW p l e R s m args below meth c G tc A ad0 n0 u0 mi Q pc L S st)
    (hunc : ∀ (pc : Nat) (L : List Value) (st : ZS) (E : String), zhh mi = [] → r = (.inr E, st) → ZWx p l e R s m args below meth c G tc A ad0 n0 u0 mi Q pc L st E) :
    ∀ (k pc : Nat) (L S : List Value) (st : ZS), arun X d call mi k pc L S st = some r → ZW p l e R s m args below meth c G tc A ad0 n0 u0 mi Q pc L S st := by
  intro k
  induction k with
  | zero => intro pc L S st h; cases h
  | succ k ih =>
    intro pc L S st h
    rw [arun_s] at h
    unfold abod at h
    cases hd : decode (zby mi) pc with
    | error e => rw [hd] at h; cases h
    | ok il =>
      obtain ⟨i, len⟩ := il
      rw [hd] at h
      dsimp only at h
      by_cases hl : zlok i len = false
      · rw [if_pos hl] at h; cases h
      · rw [if_neg hl] at h
        have hl : zlok i len = true := by cases hq : zlok i len with | true => rfl | false => exact absurd hq hl
        cases hs : zstep X mi i pc L S st with
        | some q =>
          rw [hs] at h
          have hu := arun_u hcm _ _ _ _ _ _ h
          exact zstep_ok F ⟨by omega, by omega⟩ hn1 ⟨by omega, by omega⟩ hd hl hs (ih _ _ _ _ h)
        | none =>
          rw [hs] at h
          dsimp only at h
          cases hf : zfin d mi i pc S st with
          | some q => rw [hf] at h; cases h; exact hfin pc i len L S st hd hl hf
          | none =>
            rw [hf] at h
            dsimp only at h
            cases hz : zcal mi i S st with
            | none => rw [hz] at h; cases h
            | some cc =>
              rw [hz] at h
              dsimp only at h
              obtain ⟨y, as, rest⟩ := cc
              dsimp only at h
              cases hq : call y as st with
              | none => rw [hq] at h; cases h
              | some w =>
                rw [hq] at h
                obtain ⟨h12, d', hd', hct⟩ := hcall _ _ _ _ hq
                have hw := hcm _ _ _ _ hq
                obtain ⟨o, st'⟩ := w
                have hw : st.1 ≤ st'.1 := hw
                have hst' : st'.1 ≤ r.2.1 := by
                  cases o with
                  | inl v => exact arun_u hcm _ _ _ _ _ _ h
                  | inr E =>
                    dsimp only at h
                    cases hh : zhnd mi pc E with
                    | none =>
                      rw [hh] at h
                      dsimp only at h
                      by_cases hg : zhh mi = []
                      · rw [if_pos hg] at h; cases h; exact Nat.le_refl _
                      · rw [if_neg hg] at h; cases h
                    | some g =>
                      rw [hh] at h
                      dsimp only at h
                      by_cases hg : g.2.1 < L.length
                      · rw [if_pos hg] at h; exact arun_u hcm _ _ _ _ _ _ h
                      · rw [if_neg hg] at h; cases h
                intro ad H locs ls hp
                obtain ⟨hrest, a', hrun⟩ := zcall_ok (r := (o, st')) F (by rw [hRf, hd']) (by omega) h12 hz hct hd hl hp hw ⟨by show st'.1 - u0 ≤ R.cells; omega, by show st'.1 - u0 ≤ R.slots; omega⟩
                refine z_aft (r := (o, st')) F hp hrest hw hrun ?_ ?_
                · intro v hv
                  have hv : o = .inl v := hv
                  subst hv
                  exact ih _ _ _ _ h
                · intro E hE
                  have hE : o = .inr E := hE
                  subst hE
                  dsimp only at h
                  cases hh : zhnd mi pc E with
                  | none =>
                    rw [hh] at h
                    dsimp only at h
                    by_cases hg : zhh mi = []
                    · rw [if_pos hg] at h
                      exact hunc pc L st' E hg (Option.some.inj h).symm
                    · rw [if_neg hg] at h; cases h
                  | some g =>
                    rw [hh] at h
                    dsimp only at h
                    by_cases hg : g.2.1 < L.length
                    · rw [if_pos hg] at h
                      exact zcatch F (hT fun z => by unfold zhnd at hh; rw [z] at hh; cases hh) hh hg (ih _ _ _ _ h)
                    · rw [if_neg hg] at h; cases h
end ZP1
end
section
/-! methods' contracts: each call of the abstract machine that answers is one of the real machine -/
def zNM : List String := ["java/lang/RuntimeException", "java/lang/Exception"]
def zT3 : List (String × Nat × String) := [(RX5, 37, "java/lang/IllegalStateException"), (RX5, 61, "java/lang/IndexOutOfBoundsException"), (RX5, 66, "java/lang/IllegalArgumentException")]
set_option maxRecDepth 100000 in
theorem zT3_in : zT3.all (fun t => (vx_atS t.1 t.2.1 t.2.2 zNM).all fun w => lw_tbl.contains w) = true := by decide +kernel
set_option maxRecDepth 100000 in
theorem zT3_good : zT3.all (fun t => (vx_atS t.1 t.2.1 t.2.2 zNM).all fun w => goodWord w || (match w with
  | .castable a b => decide (a = t.2.2) && decide (b = t.2.2)
  | .declares _ => true
  | _ => false)) = true := by decide +kernel
set_option maxRecDepth 100000 in
theorem zT3_ot : zT3.all (fun t => (vx_atS t.1 t.2.1 t.2.2 zNM).all vx_ot && (Bundle.fit t.2.2 && decide (t.2.2 ∈ zEX))) = true := by decide +kernel
def zTh (x : ((Nat × Nat × Nat × Nat) × String) × (String × List Nat)) : Bool := zhas (.classLink (zow x.1.1.1) x.1.1.2.1 x.1.2) (x.2.2.getD 0 0) && (zhas (.initialized x.1.2) (x.2.2.getD 1 0) && decide ((zow x.1.1.1, x.1.1.2.2.2, x.1.2) ∈ zT3))
set_option maxRecDepth 100000 in
theorem zTh_all : (zXL.zip zXP).all zTh = true := by decide +kernel
section ZQ1
variable {p : Program} {l : Launch} {e : Env} {R : Room} {s : State} {m : MethodId} {args : Array Value} {below : List Frame} {meth : Method} {c : Code} {G : va_G} {tc : Nat → ClassId} {A : Nat → Prop} {ad0 : Nat → Nat} {n0 u0 mi : Nat} {Q : State → Prop} {X : ZX} {pc : Nat} {L S : List Value} {st : ZS} {q : ZQ}
theorem zthrow {d : Nat} {r : ZR} {E : String} {ik : Nat} {u1 : ZS} (F : ZEv p l s m args meth c G tc A ad0 X mi) (hT : c.exceptionTable.toList.map (fun h => (h.startPc, h.endPc, h.handlerPc, h.catchType)) = zhh mi) (hh : zhh mi = []) (hd5 : 5 ≤ d) (hRf : R.frames = d + 1) (hRl : 31 * d + 100 ≤ R.locals) (hRc : r.2.1 - u0 ≤ R.cells ∧ r.2.1 - u0 ≤ R.slots)
    (hS4 : S.length ≤ 4) (hz : zthr mi ik pc = some E) (hd : decode (zby mi) pc = .ok (.new ik, 3)) (hr : r = (.inr E, (st.1 + 7, st.2))) (hn : n0 = u1.2.length) (hu1 : u0 = u1.1) (hQ : Q = vx_MQ below (zQ G tc ad0 u1 r A) (zXo G tc ad0 u1 r A) args s (r.2.1 - u0) (r.2.1 - u0) A) : ZW p l e R s m args below meth c G tc A ad0 n0 u0 mi Q pc L S st := by
  obtain ⟨⟨hx, hb, hml, hown, hts⟩, ⟨hK, hA, hlk, hst, hrt, hin⟩, ⟨hch1, hch2, hU, hN⟩, hcv⟩ := F
  subst hQ
  unfold zthr at hz
  split at hz
  · rename_i it ic e3 e4 e6 e9
    obtain ⟨cp, hcp⟩ := zzip (r := zXP) (by decide +kernel) (zlk hz)
    have h1 := List.all_eq_true.mp zTh_all _ hcp
    simp only [zTh, Bool.and_eq_true] at h1
    obtain ⟨w1, w2, w3⟩ := h1
    have w3 := of_decide_eq_true w3
    have a1 := List.all_eq_true.mp zT3_in _ w3
    have a2 := List.all_eq_true.mp zT3_good _ w3
    have a3 := List.all_eq_true.mp zT3_ot _ w3
    dsimp only at a1 a2 a3
    rw [Bool.and_eq_true, Bool.and_eq_true] at a3
    have hEX : E ∈ zEX := of_decide_eq_true a3.2.2
    obtain ⟨sa, hsa⟩ := hcv.2.2.2.1 (zow (zoc mi), it, cp.1) (List.mem_map.mpr ⟨_, hcp, rfl⟩)
    have hat : ∀ w ∈ vx_atS (zow (zoc mi)) ic E zNM, w.before args s = true := by
      intro w hw
      have b1 : w ∈ lw_tbl := List.contains_iff_mem.mp (List.all_eq_true.mp a1 w hw)
      have b2 := List.all_eq_true.mp a2 w hw
      rw [Bool.or_eq_true] at b2
      rcases b2 with b | b
      · exact hts w (List.mem_filter.mpr ⟨b1, b⟩)
      · split at b
        · rw [Bool.and_eq_true] at b
          rw [of_decide_eq_true b.1, of_decide_eq_true b.2]
          exact (hcv.2.2.2.2.2.2.1 E hEX).use rfl
        · rename_i x
          exact (hcv.2.2.2.2.2.2.2.2 x (List.mem_filterMap.mpr ⟨_, b1, rfl⟩)).use rfl
        · cases b
    have hout : ∀ x ∈ c.exceptionTable.toList, False := by
      intro x hx9
      have : (x.startPc, x.endPc, x.handlerPc, x.catchType) ∈ zhh mi := by rw [← hT]; exact List.mem_map.mpr ⟨x, hx9, rfl⟩
      rw [hh] at this
      exact List.not_mem_nil this
    intro ad H locs ls h
    have hsum : ((S.map (zcv ad)).map fun v => v.category).sum ≤ 8 := zsum (by rw [List.length_map]; exact hS4)
    obtain ⟨g1, g2, g3, g4⟩ := h.2.2.2
    have hr1 : r.2.1 = st.1 + 7 := by rw [hr]
    refine vx_throwS (text := cp.1) (names := zNM) (ik := ik) (is := it) (ic := ic) (sa := sa) (A := A) hx hb hst hown a3.2.1 (by decide +kernel) (hts _ (zhas_mem w1)) (hts _ (zhas_mem w2)) hsa hat (fun w hw => ?_) hU hN h.1.2.2 (by rw [hml]; exact h.zl.2.1) hd e3 e4 e6 e9 (fun x hx9 => (hout x hx9).elim) (by rw [hRf]; show 2 + 3 < d + 1; omega) (by show _ + (13 * (2 + 1) + 43) ≤ R.locals; omega) (by omega) (by omega) hlk (fun t hal hsz hq => ?_) h.1.2.2.2.2 (by omega) (by omega)
    · rcases List.mem_cons.mp hw with e | hw
      · rw [e]; rfl
      · rcases List.mem_cons.mp hw with e | hw
        · rw [e]; rfl
        · exact List.all_eq_true.mp a3.1 w hw
    · refine ⟨⟨ad, by rw [hr], ?_⟩, ?_⟩
      · rw [hr]
        refine ⟨fun k hk => g1 k (by rw [hn]; exact hk), ?_, h.1.2.1, h.2.1, by rw [← hn]; exact g2⟩
        intro k q hq9
        exact (h.1.1 k q hq9).kept (hq q.1 (h.1.1 k q hq9).lt)
      · refine ⟨Nat.le_trans h.1.2.2.1 hsz, fun q h1 h2 => ?_⟩
        rw [hq q (Nat.lt_of_lt_of_le h1 h.1.2.2.1)]
        exact h.1.2.2.2.1 q h1 h2
  · cases hz
/-- the ends of a method -/
theorem zend {d len : Nat} {r : ZR} {i : Instr} {u1 : ZS} (F : ZEv p l s m args meth c G tc A ad0 X mi) (hT : c.exceptionTable.toList.map (fun h => (h.startPc, h.endPc, h.handlerPc, h.catchType)) = zhh mi) (hRf : R.frames = d + 1) (hRl : 31 * d + 100 ≤ R.locals) (hRc : r.2.1 - u0 ≤ R.cells ∧ r.2.1 - u0 ≤ R.slots)
    (hd : decode (zby mi) pc = .ok (i, len)) (hl : zlok i len = true) (hf : zfin d mi i pc S st = some r) (hn : n0 = u1.2.length) (hu1 : u0 = u1.1) (hQ : Q = vx_MQ below (zQ G tc ad0 u1 r A) (zXo G tc ad0 u1 r A) args s (r.2.1 - u0) (r.2.1 - u0) A) : ZW p l e R s m args below meth c G tc A ad0 n0 u0 mi Q pc L S st := by
  have F' := F
  obtain ⟨⟨hx, hb, hml, hown, hts⟩, ⟨hK, hA, hlk, hst, hrt, hin⟩, hch, hcv⟩ := F
  have hq : ∀ (v : Option Value) (ad : Nat → Nat) (H : Heap) (locs : List Loc) (ls : Array Slot), r = (.inl v, st) → (∀ w, v = some w → zvok st.2.length w) → ZPt G tc A s ad0 n0 u0 (zml mi) ad st L S H locs ls → ∀ t : State, t.heap = H → s.WarmedH t.vm → zQ G tc ad0 u1 r A args s (.returned (v.map (zcv ad))) t := by
    intro v ad H locs ls hr hv h t ht hW
    obtain ⟨g1, g2, g3, g4⟩ := h.2.2.2
    refine ⟨⟨v, ad, by rw [hr], rfl, by rw [hr]; exact hv, ?_⟩, h.1.2.2.F ht⟩
    rw [hr]
    exact ⟨fun k hk => g1 k (by rw [hn]; exact hk), by rw [ht]; exact h.1.1, h.1.2.1, h.2.1, by rw [← hn]; exact g2⟩
  cases i with
  | return_ =>
    have e := eq_of_beq hl
    subst e
    simp only [zfin] at hf
    split at hf
    · rename_i hz
      cases hf
      subst hQ
      intro ad H locs ls h
      exact vx_ret (W.vret hx hb (by rw [hrt, hz]) (hq none ad H locs ls rfl (fun w e => by cases e) h) h.1.2.2.2.2 hd)
    · cases hf
  | ireturn =>
    have e := eq_of_beq hl
    subst e
    simp only [zfin] at hf
    split at hf
    · rename_i v hz
      cases hf
      subst hQ
      intro ad H locs ls h
      exact vx_ret (W.iret hx hb (by rw [hrt, hz]) (hq (some (.int v)) ad H locs ls rfl (fun w e => by cases e; exact zvok_int) h) h.1.2.2.2.2 hd)
    · rename_i v hz
      split at hf
      · rename_i hv1
        cases hf
        subst hQ
        intro ad H locs ls h
        exact vx_ret (W.zret (ty := .boolean) hx hb (by rw [hrt, hz]) (by show Value.int (v &&& 1) = .int v; rw [hv1]) (hq (some (.int v)) ad H locs ls rfl (fun w e => by cases e; exact zvok_int) h) h.1.2.2.2.2 hd)
      · cases hf
    · cases hf
  | freturn =>
    have e := eq_of_beq hl
    subst e
    simp only [zfin] at hf
    split at hf
    · rename_i v hz
      cases hf
      subst hQ
      intro ad H locs ls h
      exact vx_ret (W.fret hx hb (by rw [hrt, hz]) (hq (some (.float v)) ad H locs ls rfl (fun w e => by cases e; exact zvok_float) h) h.1.2.2.2.2 hd)
    · cases hf
  | dreturn =>
    have e := eq_of_beq hl
    subst e
    simp only [zfin] at hf
    split at hf
    · rename_i v hz
      cases hf
      subst hQ
      intro ad H locs ls h
      exact vx_ret (W.dret hx hb (by rw [hrt, hz]) (hq (some (.double v)) ad H locs ls rfl (fun w e => by cases e; exact zvok_double) h) h.1.2.2.2.2 hd)
    · cases hf
  | areturn =>
    have e := eq_of_beq hl
    subst e
    simp only [zfin] at hf
    split at hf
    · rename_i v x hz
      cases hf
      subst hQ
      intro ad H locs ls h
      exact vx_ret (W.aret hx hb (by rw [hrt, hz]) (Or.inl ⟨_, rfl⟩) (Or.inr ⟨_, rfl⟩) (hq (some (.ref v)) ad H locs ls rfl (fun w e => by cases e; exact zall_hd h.sok) h) h.1.2.2.2.2 hd)
    · rename_i v x hz
      cases hf
      subst hQ
      intro ad H locs ls h
      exact vx_ret (W.aret hx hb (by rw [hrt, hz]) (Or.inr ⟨_, rfl⟩) (Or.inr ⟨_, rfl⟩) (hq (some (.ref v)) ad H locs ls rfl (fun w e => by cases e; exact zall_hd h.sok) h) h.1.2.2.2.2 hd)
    · rename_i x hz
      cases hf
      subst hQ
      intro ad H locs ls h
      exact vx_ret (W.aret hx hb (by rw [hrt, hz]) (Or.inl ⟨_, rfl⟩) (Or.inl rfl) (hq (some .null) ad H locs ls rfl (fun w e => by cases e; exact zvok_null) h) h.1.2.2.2.2 hd)
    · rename_i x hz
      cases hf
      subst hQ
      intro ad H locs ls h
      exact vx_ret (W.aret hx hb (by rw [hrt, hz]) (Or.inr ⟨_, rfl⟩) (Or.inl rfl) (hq (some .null) ad H locs ls rfl (fun w e => by cases e; exact zvok_null) h) h.1.2.2.2.2 hd)
    · cases hf
  | new ik =>
    have e := eq_of_beq hl
    subst e
    simp only [zfin] at hf
    split at hf
    · rename_i hc
      cases hz : zthr mi ik pc with
      | none => rw [hz] at hf; cases hf
      | some E =>
        rw [hz] at hf
        exact zthrow (u1 := u1) F' hT hc.1 hc.2.1 hRf hRl hRc hc.2.2 hz hd (Option.some.inj hf).symm hn hu1 hQ
    · cases hf
  | _ => exact absurd hf (by intro z; simp [zfin] at z)
end ZQ1
end
section
/-! the entry of a method; all calls meet their contracts -/
theorem zm_all : zML.all (fun x => plainName x.1.cls && decide (x.1.cls = zow x.2.2.2.2.1)) = true := by decide +kernel
theorem zm_ok (y : Nat) : plainName (znm y).cls = true ∧ (znm y).cls = zow (zoc y) := by
  unfold znm zoc zm
  rcases Nat.lt_or_ge y zML.length with h | h
  · rw [List.getD_eq_getElem?_getD, List.getElem?_eq_getElem h]
    have h1 := List.all_eq_true.mp zm_all _ (List.getElem_mem h)
    rw [Bool.and_eq_true] at h1
    exact ⟨h1.1, of_decide_eq_true h1.2⟩
  · rw [List.getD_eq_getElem?_getD, List.getElem?_eq_none h]
    exact ⟨by decide +kernel, by decide +kernel⟩
theorem zlva : ∀ (vs : List Value) (i j : Nat) (v : Value), vs.all zc1 = true → vs[j]? = some v → (i + j, v) ∈ lv_args i vs
  | [], _, _, _, _, h => by cases h
  | x :: vs, i, j, v, hc, h => by
    rw [List.all_cons, Bool.and_eq_true] at hc
    have hx : ¬ x.category = 2 := by have := of_decide_eq_true hc.1; omega
    unfold lv_args
    rw [if_neg hx]
    cases j with
    | zero => cases h; exact List.mem_cons_self
    | succ j =>
      have := zlva vs (i + 1) j v hc.2 h
      rw [show i + (j + 1) = i + 1 + j by omega]
      exact List.mem_cons_of_mem _ this
theorem zlgs : ∀ (vs : List Value), vs.all zc1 = true → (lg_sl vs).length = vs.length
  | [], _ => rfl
  | x :: vs, hc => by
    rw [List.all_cons, Bool.and_eq_true] at hc
    have hx : ¬ x.category = 2 := by have := of_decide_eq_true hc.1; omega
    have ih := zlgs vs hc.2
    unfold lg_sl at ih ⊢
    rw [List.flatMap_cons, if_neg hx, List.length_append, ih]
    simp only [List.length_cons, List.length_nil]
    omega
theorem zentry {ad : Nat → Nat} {y : Nat} {as : List Value} (m : MethodId) (hc : as.all zc1 = true) (hl : as.length ≤ zml y) : ∃ ls, entryFrame m (as.map (zcv ad)).toArray (zml y) = F0 m 0 ls [] ∧ ZL ad (zml y) (zini y as) ls := by
  have hc2 : (as.map (zcv ad)).all zc1 = true := by
    rw [List.all_map]
    refine List.all_eq_true.mpr fun v hv => ?_
    have := List.all_eq_true.mp hc v hv
    show decide ((zcv ad v).category = 1) = true
    rw [zcv_cat]
    exact this
  have hlen : (lg_sl (as.map (zcv ad))).length ≤ zml y := by rw [zlgs _ hc2, List.length_map]; exact hl
  refine ⟨_, lg_entry_eq m _ _, ?_⟩
  obtain ⟨h1, h2, h3⟩ := lv_entry (as.map (zcv ad)) hlen
  refine ⟨by unfold zini; rw [List.length_append, List.length_replicate]; omega, h1, h2, ?_⟩
  rintro ⟨j, w⟩ hq
  obtain ⟨v, q1, q2, q3⟩ := zlv_mem.mp hq
  dsimp only at q1 q2 q3
  refine h3 (j, w) ?_
  unfold zini at q1
  rcases Nat.lt_or_ge j as.length with a | a
  · rw [List.getElem?_append_left a] at q1
    have := zlva (as.map (zcv ad)) 0 j w hc2 (by rw [List.getElem?_map, q1, q3]; rfl)
    rw [Nat.zero_add] at this
    exact this
  · rw [List.getElem?_append_right a] at q1
    have hv := List.mem_of_getElem? q1
    rw [(List.mem_replicate.mp hv).2] at q2
    cases q2
theorem zct {l : Launch} {G : va_G} {tc : Nat → ClassId} {X : ZX} (hst : l.stackTraces = false) {n : Nat} : ∀ (d y : Nat) (as : List Value) (st : ZS) (r : ZR), acall X n d y as st = some r → zml y ≤ 12 ∧ ∃ d', d = d' + 1 ∧ ZCt l G tc X d' y as st r := by
  intro d
  induction d with
  | zero => intro y as st r h; cases h
  | succ d ih =>
    intro y as st r h
    have hu := acall_u _ _ _ _ _ h
    unfold acall at h
    by_cases c0 : (as.length ≤ zml y ∧ zml y ≤ 12) ∧ as.all zc1 = true
    · rw [if_pos c0] at h
      refine ⟨c0.1.2, d, rfl, ?_⟩
      intro ad sz hok hspc hasok
      obtain ⟨hpl, hcn⟩ := zm_ok y
      have body : ∀ (p : Program) (e : Env) (s : State) (m : MethodId) (args : Array Value) (below : List Frame) (meth : Method) (c : Code) (s₁ : State), BodyLoose p l (znm y) (headSpec (zwo y) (zrm d (r.2.1 - st.1))) (zby y) (zml y) (zrt y) e s m args below meth c s₁ → c.maxLocals = zml y → c.exceptionTable.toList.map (fun h => (h.startPc, h.endPc, h.handlerPc, h.catchType)) = zhh y → va_Pc (as.map (zcv ad)) (fun U => U.heap.size = sz ∧ ZPre G tc ad X st (va_A (zws tc ad st.2) sz) U) args s →
          W p l e (zrm d (r.2.1 - st.1)) s m args below meth c s.heap [] 0 0 (vx_MQ below (zQ G tc ad st r (va_A (zws tc ad st.2) sz)) (zXo G tc ad st r (va_A (zws tc ad st.2) sz)) args s (r.2.1 - st.1) (r.2.1 - st.1) (va_A (zws tc ad st.2) sz)) (entryFrame m args (zml y)) := by
        intro p e s m args below meth c s₁ B hml htab hv
        obtain ⟨rfl, hsz, hP, hK, hD, hch, hcv⟩ := hv
        have hts := atoms_spec (ws := zwo y) B.pre
        have hD2 : va_D (va_A (zws tc ad st.2) sz) (zws tc ad st.2) := hD.self
        obtain ⟨ls, he, hzl⟩ := zentry (ad := ad) m c0.2 c0.1.1
        rw [he]
        have hF : ZEv p l s m (as.map (zcv ad)).toArray meth c G tc (va_A (zws tc ad st.2) sz) ad X y := by
          refine ⟨⟨B.exec, B.bytes, hml, by rw [← hcn]; exact findClass_of_methodNamed B.named, fun w hw => hts w (List.mem_cons_of_mem _ hw)⟩, ⟨hK, fun q hq => Or.inr (by rw [← hsz]; exact hq), B.notSynchronized, hst, B.returns, fun e9 => ?_⟩, hch, hcv⟩
          rw [(name_of_methodNamed B.named B.method).1]
          exact e9
        have hsim := zsim (R := zrm d (r.2.1 - st.1)) (e := e) (below := below) (n0 := st.2.length) (u0 := st.1) (Q := vx_MQ below (zQ G tc ad st r (va_A (zws tc ad st.2) sz)) (zXo G tc ad st r (va_A (zws tc ad st.2) sz)) (as.map (zcv ad)).toArray s (r.2.1 - st.1) (r.2.1 - st.1) (va_A (zws tc ad st.2) sz)) hF (fun _ => htab) (by have := hspc.1; omega) rfl (Nat.le_refl _) ⟨Nat.le_refl _, Nat.le_refl _⟩ (acall_u d) ih
          (fun pc i len L S st' hd hl hf => zend (u1 := st) hF htab rfl (Nat.le_refl _) ⟨Nat.le_refl _, Nat.le_refl _⟩ hd hl hf rfl rfl rfl) ?_ n 0 (zini y as) [] st h
        · have := hsim ad s.heap [] ls ⟨⟨hP, hD2, va_S.rf⟩, ⟨hok, hspc⟩, ⟨hzl, ?_, fun v hv => absurd hv List.not_mem_nil⟩, ⟨fun k _ => rfl, Nat.le_refl _, hspc.1, Nat.le_refl _⟩⟩
          · rw [Nat.sub_self] at this
            exact this
          · intro v hv
            rcases List.mem_append.mp hv with z | z
            · exact hasok v z
            · rw [(List.mem_replicate.mp z).2]; exact zvok_junk
        · intro pc L st' E hh hr ad' H locs ls' q ce rest h hce hcve hcl
          have hout : ∀ x ∈ c.exceptionTable.toList, covers x pc = false := by
            intro x hx9
            have : (x.startPc, x.endPc, x.handlerPc, x.catchType) ∈ zhh y := by rw [← htab]; exact List.mem_map.mpr ⟨x, hx9, rfl⟩
            rw [hh] at this
            exact absurd this List.not_mem_nil
          have e1 : r.2.1 = st'.1 := by rw [hr]
          have e2 : r.2 = st' := by rw [hr]
          obtain ⟨g1, g2, g3, g4⟩ := h.2.2.2
          refine vx_out hout B.notSynchronized hce hcve hcl (fun t ht hal => ?_) h.1.2.2.2.2 (by omega) (by omega)
          refine ⟨⟨ad', by rw [hr], ?_⟩, h.1.2.2.F ht⟩
          rw [e2]
          exact ⟨g1, by rw [ht]; exact h.1.1, h.1.2.1, h.2.1, g2⟩
      by_cases hh : zhh y = []
      · have hcw : zwo y = .code (znm y) (zby y) (zml y) (zrt y) :: zgw := by unfold zwo; rw [zcw_of hh]
        exact vx_ofW hpl hcw fun p e s m args below meth c s₁ B hml htab hv => body p e s m args below meth c s₁ B hml (by
          rw [hh]
          cases hq : c.exceptionTable.toList with
          | nil => rfl
          | cons x xs => exact (htab x (by rw [hq]; exact List.mem_cons_self)).elim) hv
      · have hcw : zwo y = .codeWith (znm y) (zby y) (zml y) (zrt y) (zhh y) :: zgw := by unfold zwo; rw [zcw_ne hh]
        exact vx_ofWH hpl hcw fun p e s m args below meth c s₁ B hml hv => body p e s m args below meth c s₁ B hml (by
          obtain ⟨m9, meth9, c9, hn9, h1, h2, h3, h4, h7, h5, h6, -⟩ := Cond.codeWith_spec (atoms_spec (ws := zwo y) B.pre _ (by rw [hcw]; exact List.mem_cons_self))
          cases Option.some.inj (hn9.symm.trans B.named)
          cases Option.some.inj (h1.symm.trans B.method)
          cases Option.some.inj (h2.symm.trans (Stand.of_body B).code)
          exact h7) hv
    · rw [if_neg c0] at h; cases h
end
section
/-! EQUATIONS, a kind each: what the generated ones are made of -/
def zai (X : ZX) (st : ZS) (a : Nat) : Option (Nat × (Nat → Int32)) := if a = 1 then some X else match zarr st a with
  | some (n, .inl f) => some (n, f)
  | _ => none
def zaI (st : ZS) (a : Nat) : Option (Nat × (Nat → Int32)) := match zarr st a with
  | some (n, .inl f) => some (n, f)
  | _ => none
def zaL (st : ZS) (a : Nat) : Option (Nat × (Nat → Int64)) := match zarr st a with
  | some (n, .inr (.inl f)) => some (n, f)
  | _ => none
def zaD (st : ZS) (a : Nat) : Option (Nat × (Nat → UInt64)) := match zarr st a with
  | some (n, .inr (.inr (.inr (.inl f)))) => some (n, f)
  | _ => none
def zaR (st : ZS) (a : Nat) : Option (Nat × (Nat → Option Nat)) := match zarr st a with
  | some (n, .inr (.inr (.inr (.inr f)))) => some (n, f)
  | _ => none
theorem zd_of {mi pc : Nat} {cc : ByteArray} {r : Except DecodeError (Instr × Nat)} (hb : zby mi = cc) (hd : decode cc pc = r) : decode (zby mi) pc = r := by rw [hb]; exact hd
section ZE1
variable {X : ZX} {d mi pc len t : Nat} {i : Instr} {L S : List Value} {st : ZS} {P : ZO → ZS → Prop} {n off : Int} {v w : Value} {x y : Int32} {a b o idx ci k : Nat}
theorem zq_iconst {z : Int32} (hd : decode (zby mi) pc = .ok (.iconst n, 1)) (hv : Int32.ofInt n = z) : AW X d mi pc L S st P = AW X d mi (pc + 1) L (.int z :: S) st P := by subst hv; exact zAW_step hd rfl rfl
theorem zq_bipush {z : Int32} (hd : decode (zby mi) pc = .ok (.bipush n, 2)) (hv : (Int8.ofInt n).toInt32 = z) : AW X d mi pc L S st P = AW X d mi (pc + 2) L (.int z :: S) st P := by subst hv; exact zAW_step hd rfl rfl
theorem zq_sipush {z : Int32} (hd : decode (zby mi) pc = .ok (.sipush n, 3)) (hv : (Int16.ofInt n).toInt32 = z) : AW X d mi pc L S st P = AW X d mi (pc + 3) L (.int z :: S) st P := by subst hv; exact zAW_step hd rfl rfl
theorem zq_fconst (hd : decode (zby mi) pc = .ok (.fconst 0, 1)) : AW X d mi pc L S st P = AW X d mi (pc + 1) L (.float FP.fconst0 :: S) st P := zAW_step hd rfl rfl
theorem zq_dconst (hd : decode (zby mi) pc = .ok (.dconst 0, 1)) : AW X d mi pc L S st P = AW X d mi (pc + 1) L (.double FP.dconst0 :: S) st P := zAW_step hd rfl rfl
theorem zq_ldc (hd : decode (zby mi) pc = .ok (.ldc idx, 2)) (ho : zoc mi = o) (hn : o ≠ 11) (hv : zDL.lookup (o, idx) = some v) (h1 : zc1 v = true) : AW X d mi pc L S st P = AW X d mi (pc + 2) L (v :: S) st P := by
  refine zAW_step (q := (pc + 2, L, v :: S, st)) hd rfl ?_
  simp only [zstep]
  rw [ho, if_neg (fun z => hn z.1), hv, Option.bind_some, if_pos h1]
theorem zq_ldcM (hd : decode (zby mi) pc = .ok (.ldc 110, 2)) (ho : zoc mi = 11) : AW X d mi pc L S st P = AW X d mi (pc + 2) L (.ref 2 :: S) st P := by
  refine zAW_step (q := (pc + 2, L, .ref 2 :: S, st)) hd rfl ?_
  simp only [zstep]
  rw [if_pos ⟨ho, trivial⟩]
theorem zq_ldc2 (hd : decode (zby mi) pc = .ok (.ldc2_w idx, 3)) (ho : zoc mi = o) (hv : zDL.lookup (o, idx) = some v) (h1 : zc1 v = false) : AW X d mi pc L S st P = AW X d mi (pc + 3) L (v :: S) st P := by
  refine zAW_step (q := (pc + 3, L, v :: S, st)) hd rfl ?_
  simp only [zstep]
  rw [ho, hv, Option.bind_some, if_pos h1]
theorem zq_iinc {j : Nat} {z : Int32} (hd : decode (zby mi) pc = .ok (.iinc j n, 3)) (hl : L[j]? = some (.int x)) (hz : Int32.ofInt n = z) : AW X d mi pc L S st P = AW X d mi (pc + 3) (L.set j (.int (x + z))) S st P := by
  subst hz
  refine zAW_step (q := (pc + 3, L.set j (.int (x + Int32.ofInt n)), S, st)) hd rfl ?_
  simp only [zstep]
  rw [hl]
theorem zq_idiv (hd : decode (zby mi) pc = .ok (.idiv, 1)) : AW X d mi pc L (.int y :: .int x :: S) st P = zif (¬ y = 0) (AW X d mi (pc + 1) L (.int (x / y) :: S) st P) := by
  by_cases h : y = 0
  · rw [zAW_stuck hd (by simp [zstep, zi2, h]) rfl rfl]
    exact propext ⟨fun z => z.elim, fun z => z.1 h⟩
  · rw [zif_of h]
    exact zAW_step (q := (pc + 1, L, .int (x / y) :: S, st)) hd rfl (by simp [zstep, zi2, h])
theorem zq_irem (hd : decode (zby mi) pc = .ok (.irem, 1)) : AW X d mi pc L (.int y :: .int x :: S) st P = zif (¬ y = 0) (AW X d mi (pc + 1) L (.int (x - x / y * y) :: S) st P) := by
  by_cases h : y = 0
  · rw [zAW_stuck hd (by simp [zstep, zi2, h]) rfl rfl]
    exact propext ⟨fun z => z.elim, fun z => z.1 h⟩
  · rw [zif_of h]
    exact zAW_step (q := (pc + 1, L, .int (x - x / y * y) :: S, st)) hd rfl (by simp [zstep, zi2, h])
theorem zq_fadd {x y : UInt32} (hd : decode (zby mi) pc = .ok (.fadd, 1)) : AW X d mi pc L (.float y :: .float x :: S) st P = zif (zn32 (FP.fadd x y) = true) (AW X d mi (pc + 1) L (.float (FP.fadd x y) :: S) st P) := zAW_if (q := (pc + 1, L, .float (FP.fadd x y) :: S, st)) hd rfl rfl rfl rfl
theorem zq_fdiv {x y : UInt32} (hd : decode (zby mi) pc = .ok (.fdiv, 1)) : AW X d mi pc L (.float y :: .float x :: S) st P = zif (zn32 (FP.fdiv x y) = true) (AW X d mi (pc + 1) L (.float (FP.fdiv x y) :: S) st P) := zAW_if (q := (pc + 1, L, .float (FP.fdiv x y) :: S, st)) hd rfl rfl rfl rfl
theorem zq_dadd {x y : UInt64} (hd : decode (zby mi) pc = .ok (.dadd, 1)) : AW X d mi pc L (.double y :: .double x :: S) st P = zif (zn64 (FP.dadd x y) = true) (AW X d mi (pc + 1) L (.double (FP.dadd x y) :: S) st P) := zAW_if (q := (pc + 1, L, .double (FP.dadd x y) :: S, st)) hd rfl rfl rfl rfl
theorem zq_ddiv {x y : UInt64} (hd : decode (zby mi) pc = .ok (.ddiv, 1)) : AW X d mi pc L (.double y :: .double x :: S) st P = zif (zn64 (FP.ddiv x y) = true) (AW X d mi (pc + 1) L (.double (FP.ddiv x y) :: S) st P) := zAW_if (q := (pc + 1, L, .double (FP.ddiv x y) :: S, st)) hd rfl rfl rfl rfl
theorem zq_f2d {x : UInt32} (hd : decode (zby mi) pc = .ok (.f2d, 1)) : AW X d mi pc L (.float x :: S) st P = zif (zn64 (FP.f2d x) = true) (AW X d mi (pc + 1) L (.double (FP.f2d x) :: S) st P) := zAW_if (q := (pc + 1, L, .double (FP.f2d x) :: S, st)) hd rfl rfl rfl rfl
theorem zq_d2f {x : UInt64} (hd : decode (zby mi) pc = .ok (.d2f, 1)) : AW X d mi pc L (.double x :: S) st P = zif (zn32 (FP.d2f x) = true) (AW X d mi (pc + 1) L (.float (FP.d2f x) :: S) st P) := zAW_if (q := (pc + 1, L, .float (FP.d2f x) :: S, st)) hd rfl rfl rfl rfl
theorem zbr_eq {c : Bool} (ht : zto pc off = some t) : zbr c pc off L S st = some (if c = true then t else pc + 3, L, S, st) := by unfold zbr; rw [ht]; rfl
theorem zq_goto (hd : decode (zby mi) pc = .ok (.goto off, 3)) (ht : zto pc off = some t) : AW X d mi pc L S st P = AW X d mi t L S st P := by
  refine zAW_step (q := (t, L, S, st)) hd rfl ?_
  simp only [zstep]
  rw [ht]
  rfl
theorem zq_if {c : Prop} [Decidable c] {cn : Jvm.ClassFile.Cond} (hd : decode (zby mi) pc = .ok (.ifCond cn off, 3)) (ht : zto pc off = some t) (hc : zcnd cn x 0 = decide c) : AW X d mi pc L (.int x :: S) st P = if c then AW X d mi t L S st P else AW X d mi (pc + 3) L S st P := by
  refine zAW_br (t := t) hd rfl hc ?_
  simp only [zstep]
  exact zbr_eq ht
theorem zq_icmp {c : Prop} [Decidable c] {cn : Jvm.ClassFile.Cond} (hd : decode (zby mi) pc = .ok (.if_icmp cn off, 3)) (ht : zto pc off = some t) (hc : zcnd cn x y = decide c) : AW X d mi pc L (.int y :: .int x :: S) st P = if c then AW X d mi t L S st P else AW X d mi (pc + 3) L S st P := by
  refine zAW_br (t := t) hd rfl hc ?_
  simp only [zstep]
  exact zbr_eq ht
theorem zq_null1 (hd : decode (zby mi) pc = .ok (.ifnull off, 3)) (ht : zto pc off = some t) : AW X d mi pc L (.ref a :: S) st P = AW X d mi (pc + 3) L S st P := by
  refine zAW_step (q := (pc + 3, L, S, st)) hd rfl ?_
  simp only [zstep]
  rw [zbr_eq ht]
  rfl
theorem zq_null2 (hd : decode (zby mi) pc = .ok (.ifnull off, 3)) (ht : zto pc off = some t) : AW X d mi pc L (.null :: S) st P = AW X d mi t L S st P := by
  refine zAW_step (q := (t, L, S, st)) hd rfl ?_
  simp only [zstep]
  rw [zbr_eq ht]
  rfl
theorem zq_nonnull1 (hd : decode (zby mi) pc = .ok (.ifnonnull off, 3)) (ht : zto pc off = some t) : AW X d mi pc L (.ref a :: S) st P = AW X d mi t L S st P := by
  refine zAW_step (q := (t, L, S, st)) hd rfl ?_
  simp only [zstep]
  rw [zbr_eq ht]
  rfl
theorem zq_nonnull2 (hd : decode (zby mi) pc = .ok (.ifnonnull off, 3)) (ht : zto pc off = some t) : AW X d mi pc L (.null :: S) st P = AW X d mi (pc + 3) L S st P := by
  refine zAW_step (q := (pc + 3, L, S, st)) hd rfl ?_
  simp only [zstep]
  rw [zbr_eq ht]
  rfl
theorem zq_acmp_eq (hd : decode (zby mi) pc = .ok (.if_acmp .eq off, 3)) (ht : zto pc off = some t) : AW X d mi pc L (.ref b :: .ref a :: S) st P = zif (a = b ∨ (a ≠ 1 ∧ a ≠ 2 ∧ b ≠ 1 ∧ b ≠ 2)) (if a = b then AW X d mi t L S st P else AW X d mi (pc + 3) L S st P) := by
  by_cases h : a = b ∨ (a ≠ 1 ∧ a ≠ 2 ∧ b ≠ 1 ∧ b ≠ 2)
  · rw [zif_of h]
    refine zAW_br (t := t) (c := a = b) (b := decide (a = b)) hd rfl rfl ?_
    simp only [zstep]
    rw [if_pos h, zbr_eq ht]
  · rw [zAW_stuck hd (by simp only [zstep]; rw [if_neg h]) rfl rfl]
    exact propext ⟨fun z => z.elim, fun z => h z.1⟩
theorem zq_acmp_ne (hd : decode (zby mi) pc = .ok (.if_acmp .ne off, 3)) (ht : zto pc off = some t) : AW X d mi pc L (.ref b :: .ref a :: S) st P = zif (a = b ∨ (a ≠ 1 ∧ a ≠ 2 ∧ b ≠ 1 ∧ b ≠ 2)) (if a = b then AW X d mi (pc + 3) L S st P else AW X d mi t L S st P) := by
  by_cases h : a = b ∨ (a ≠ 1 ∧ a ≠ 2 ∧ b ≠ 1 ∧ b ≠ 2)
  · rw [zif_of h]
    rw [zAW_br (t := t) (c := ¬ a = b) (b := decide (¬ a = b)) hd rfl rfl (by simp only [zstep]; rw [if_pos h, zbr_eq ht])]
    by_cases e : a = b
    · rw [if_pos e, if_neg (fun z => z e)]
    · rw [if_neg e, if_pos e]
  · rw [zAW_stuck hd (by simp only [zstep]; rw [if_neg h]) rfl rfl]
    exact propext ⟨fun z => z.elim, fun z => h z.1⟩
theorem zq_tabIn {dflt lo hi : Int} {offs : Array Int} (hd : decode (zby mi) pc = .ok (.tableswitch dflt lo hi offs, len)) (h1 : ¬ (x.toInt < lo ∨ hi < x.toInt)) (ho : offs[(x.toInt - lo).toNat]? = some off) (ht : zto pc off = some t) : AW X d mi pc L (.int x :: S) st P = AW X d mi t L S st P := by
  refine zAW_step (q := (t, L, S, st)) hd rfl ?_
  simp only [zstep]
  rw [if_neg h1, ho, Option.bind_some, ht]
  rfl
theorem zq_tabOut {dflt lo hi : Int} {offs : Array Int} (hd : decode (zby mi) pc = .ok (.tableswitch dflt lo hi offs, len)) (ht : zto pc dflt = some t) (h1 : x.toInt < lo ∨ hi < x.toInt) : AW X d mi pc L (.int x :: S) st P = AW X d mi t L S st P := by
  refine zAW_step (q := (t, L, S, st)) hd rfl ?_
  simp only [zstep]
  rw [if_pos h1, ht]
  rfl
theorem zq_getfield (hd : decode (zby mi) pc = .ok (.getfield idx, 3)) (ho : zoc mi = o) (hf : zFL.lookup (o, idx) = some (ci, k)) : AW X d mi pc L (.ref a :: S) st P = zwith (zget st a ci k) fun v => AW X d mi (pc + 3) L (v :: S) st P := by
  refine zAW_opt (f := fun v => (pc + 3, L, v :: S, st)) hd rfl ?_ rfl (by simp only [zcal])
  simp only [zstep]
  rw [ho, hf]
  rfl
theorem zq_putfield (hd : decode (zby mi) pc = .ok (.putfield idx, 3)) (ho : zoc mi = o) (hf : zFL.lookup (o, idx) = some (ci, k)) (hz : zfits (zty ci k).1 v = true) (hq : (zty ci k).2 = false ∨ ((znm mi).name = "<init>" ∧ zvi o = ci)) : AW X d mi pc L (v :: .ref a :: S) st P = zwith (zget st a ci k) fun _ => AW X d mi (pc + 3) L S (zput st a k v) P := by
  refine zAW_opt (f := fun _ => (pc + 3, L, S, zput st a k v)) hd rfl ?_ rfl (by simp only [zcal])
  simp only [zstep]
  rw [ho, hf, Option.bind_some]
  dsimp only
  rw [if_pos ⟨hz, hq⟩]
theorem zq_getstatic (hd : decode (zby mi) pc = .ok (.getstatic 39, 3)) (ho : zoc mi = 10) : AW X d mi pc L S st P = AW X d mi (pc + 3) L (.ref 0 :: S) st P := by
  refine zAW_step (q := (pc + 3, L, .ref 0 :: S, st)) hd rfl ?_
  simp only [zstep]
  rw [if_pos ⟨ho, trivial⟩]
theorem zq_new (hd : decode (zby mi) pc = .ok (.new idx, 3)) (ho : zoc mi = o) (hf : zNL.lookup (o, idx) = some ci) : AW X d mi pc L S st P = AW X d mi (pc + 3) L (.ref st.2.length :: S) (znew st ci) P := by
  refine zAW_step (q := (pc + 3, L, .ref st.2.length :: S, znew st ci)) hd rfl ?_
  simp only [zstep]
  rw [ho, hf]
  rfl
theorem zq_newI {j : Nat} (hd : decode (zby mi) pc = .ok (.newarray .int, 2)) (hn : ¬ (x < 0 ∨ 1000000 < x.toNatClampNeg)) (hj : x.toNatClampNeg = j) : AW X d mi pc L (.int x :: S) st P = AW X d mi (pc + 2) L (.ref st.2.length :: S) (znwa st j (.inl fun _ => 0)) P := by
  subst hj
  refine zAW_step (q := (pc + 2, L, .ref st.2.length :: S, znwa st x.toNatClampNeg (.inl fun _ => 0))) hd rfl ?_
  simp only [zstep]
  rw [if_neg hn]
theorem zq_newL {j : Nat} (hd : decode (zby mi) pc = .ok (.newarray .long, 2)) (hn : ¬ (x < 0 ∨ 1000000 < x.toNatClampNeg)) (hj : x.toNatClampNeg = j) : AW X d mi pc L (.int x :: S) st P = AW X d mi (pc + 2) L (.ref st.2.length :: S) (znwa st j (.inr (.inl fun _ => 0))) P := by
  subst hj
  refine zAW_step (q := (pc + 2, L, .ref st.2.length :: S, znwa st x.toNatClampNeg (.inr (.inl fun _ => 0)))) hd rfl ?_
  simp only [zstep]
  rw [if_neg hn]
theorem zq_newD {j : Nat} (hd : decode (zby mi) pc = .ok (.newarray .double, 2)) (hn : ¬ (x < 0 ∨ 1000000 < x.toNatClampNeg)) (hj : x.toNatClampNeg = j) : AW X d mi pc L (.int x :: S) st P = AW X d mi (pc + 2) L (.ref st.2.length :: S) (znwa st j (.inr (.inr (.inr (.inl fun _ => 0))))) P := by
  subst hj
  refine zAW_step (q := (pc + 2, L, .ref st.2.length :: S, znwa st x.toNatClampNeg (.inr (.inr (.inr (.inl fun _ => 0)))))) hd rfl ?_
  simp only [zstep]
  rw [if_neg hn]
theorem zq_anew (hd : decode (zby mi) pc = .ok (.anewarray idx, 3)) (ho : (zoc mi = 10 ∧ idx = 7) ∨ (zoc mi = 11 ∧ idx = 2)) : AW X d mi pc L (.int x :: S) st P = zif (¬ (x < 0 ∨ 1000000 < x.toNatClampNeg)) (AW X d mi (pc + 3) L (.ref st.2.length :: S) (znwa st x.toNatClampNeg (.inr (.inr (.inr (.inr fun _ => none))))) P) := by
  by_cases h : x < 0 ∨ 1000000 < x.toNatClampNeg
  · rw [zAW_stuck hd (by simp only [zstep]; rw [if_pos ho, if_pos h]) rfl rfl]
    exact propext ⟨fun z => z.elim, fun z => z.1 h⟩
  · rw [zif_of h]
    exact zAW_step (q := (pc + 3, L, .ref st.2.length :: S, znwa st x.toNatClampNeg (.inr (.inr (.inr (.inr fun _ => none)))))) hd rfl (by simp only [zstep]; rw [if_pos ho, if_neg h])
theorem zq_alen (hd : decode (zby mi) pc = .ok (.arraylength, 1)) : AW X d mi pc L (.ref a :: S) st P = zwith (zlen X st a) fun n => AW X d mi (pc + 1) L (.int (Int32.ofNat n) :: S) st P := zAW_opt (f := fun n => (pc + 1, L, .int (Int32.ofNat n) :: S, st)) hd rfl rfl rfl rfl
theorem zq_iaload (hd : decode (zby mi) pc = .ok (.iaload, 1)) : AW X d mi pc L (.int x :: .ref a :: S) st P = zwith (zai X st a) fun q => zwith (zix x q.1) fun j => AW X d mi (pc + 1) L (.int (q.2 j) :: S) st P := by
  unfold zai
  by_cases h : a = 1
  · rw [if_pos h, zwith_some]
    refine zAW_opt (f := fun j => (pc + 1, L, .int (X.2 j) :: S, st)) hd rfl ?_ rfl rfl
    simp only [zstep]
    rw [if_pos h]
  · rw [if_neg h]
    split
    · rename_i n f hq
      rw [zwith_some]
      refine zAW_opt (f := fun j => (pc + 1, L, .int (f j) :: S, st)) hd rfl ?_ rfl rfl
      simp only [zstep]
      rw [if_neg h, hq]
    · rename_i hq
      rw [zwith_none]
      refine zAW_stuck hd ?_ rfl rfl
      simp only [zstep]
      rw [if_neg h]
      all_goals
        split
        · rename_i n f hq2; exact absurd hq2 (hq n f)
        · rfl
theorem zq_laload (hd : decode (zby mi) pc = .ok (.laload, 1)) : AW X d mi pc L (.int x :: .ref a :: S) st P = zwith (zaL st a) fun q => zwith (zix x q.1) fun j => AW X d mi (pc + 1) L (.long (q.2 j) :: S) st P := by
  unfold zaL
  split
  · rename_i n f hq
    rw [zwith_some]
    refine zAW_opt (f := fun j => (pc + 1, L, .long (f j) :: S, st)) hd rfl ?_ rfl rfl
    simp only [zstep]
    rw [hq]
  · rename_i hq
    rw [zwith_none]
    refine zAW_stuck hd ?_ rfl rfl
    simp only [zstep]
    all_goals
      split
      · rename_i n f hq2; exact absurd hq2 (hq n f)
      · rfl
theorem zq_daload (hd : decode (zby mi) pc = .ok (.daload, 1)) : AW X d mi pc L (.int x :: .ref a :: S) st P = zwith (zaD st a) fun q => zwith (zix x q.1) fun j => AW X d mi (pc + 1) L (.double (q.2 j) :: S) st P := by
  unfold zaD
  split
  · rename_i n f hq
    rw [zwith_some]
    refine zAW_opt (f := fun j => (pc + 1, L, .double (f j) :: S, st)) hd rfl ?_ rfl rfl
    simp only [zstep]
    rw [hq]
  · rename_i hq
    rw [zwith_none]
    refine zAW_stuck hd ?_ rfl rfl
    simp only [zstep]
    all_goals
      split
      · rename_i n f hq2; exact absurd hq2 (hq n f)
      · rfl
theorem zq_aaload (hd : decode (zby mi) pc = .ok (.aaload, 1)) : AW X d mi pc L (.int x :: .ref a :: S) st P = zwith (zaR st a) fun q => zwith (zix x q.1) fun j => AW X d mi (pc + 1) L (va_rf (q.2 j) :: S) st P := by
  unfold zaR
  split
  · rename_i n f hq
    rw [zwith_some]
    refine zAW_opt (f := fun j => (pc + 1, L, va_rf (f j) :: S, st)) hd rfl ?_ rfl rfl
    simp only [zstep]
    rw [hq]
  · rename_i hq
    rw [zwith_none]
    refine zAW_stuck hd ?_ rfl rfl
    simp only [zstep]
    all_goals
      split
      · rename_i n f hq2; exact absurd hq2 (hq n f)
      · rfl
theorem zq_iastore (hd : decode (zby mi) pc = .ok (.iastore, 1)) : AW X d mi pc L (.int y :: .int x :: .ref a :: S) st P = zwith (zaI st a) fun q => zwith (zix x q.1) fun j => AW X d mi (pc + 1) L S (zsta st a (q.1, .inl (upd q.2 j y))) P := by
  unfold zaI
  split
  · rename_i n f hq
    rw [zwith_some]
    refine zAW_opt (f := fun j => (pc + 1, L, S, zsta st a (n, .inl (upd f j y)))) hd rfl ?_ rfl rfl
    simp only [zstep]
    rw [hq]
  · rename_i hq
    rw [zwith_none]
    refine zAW_stuck hd ?_ rfl rfl
    simp only [zstep]
    all_goals
      split
      · rename_i n f hq2; exact absurd hq2 (hq n f)
      · rfl
theorem zq_lastore {y : Int64} (hd : decode (zby mi) pc = .ok (.lastore, 1)) : AW X d mi pc L (.long y :: .int x :: .ref a :: S) st P = zwith (zaL st a) fun q => zwith (zix x q.1) fun j => AW X d mi (pc + 1) L S (zsta st a (q.1, .inr (.inl (vp_updL q.2 j y)))) P := by
  unfold zaL
  split
  · rename_i n f hq
    rw [zwith_some]
    refine zAW_opt (f := fun j => (pc + 1, L, S, zsta st a (n, .inr (.inl (vp_updL f j y))))) hd rfl ?_ rfl rfl
    simp only [zstep]
    rw [hq]
  · rename_i hq
    rw [zwith_none]
    refine zAW_stuck hd ?_ rfl rfl
    simp only [zstep]
    all_goals
      split
      · rename_i n f hq2; exact absurd hq2 (hq n f)
      · rfl
theorem zq_dastore {y : UInt64} (hd : decode (zby mi) pc = .ok (.dastore, 1)) : AW X d mi pc L (.double y :: .int x :: .ref a :: S) st P = zwith (zaD st a) fun q => zwith (zix x q.1) fun j => AW X d mi (pc + 1) L S (zsta st a (q.1, .inr (.inr (.inr (.inl (vf_upd q.2 j y)))))) P := by
  unfold zaD
  split
  · rename_i n f hq
    rw [zwith_some]
    refine zAW_opt (f := fun j => (pc + 1, L, S, zsta st a (n, .inr (.inr (.inr (.inl (vf_upd f j y))))))) hd rfl ?_ rfl rfl
    simp only [zstep]
    rw [hq]
  · rename_i hq
    rw [zwith_none]
    refine zAW_stuck hd ?_ rfl rfl
    simp only [zstep]
    all_goals
      split
      · rename_i n f hq2; exact absurd hq2 (hq n f)
      · rfl
theorem zq_aastore (hd : decode (zby mi) pc = .ok (.aastore, 1)) (hb : zob st b = true) : AW X d mi pc L (.ref b :: .int x :: .ref a :: S) st P = zwith (zaR st a) fun q => zwith (zix x q.1) fun j => AW X d mi (pc + 1) L S (zsta st a (q.1, .inr (.inr (.inr (.inr (va_up q.2 j (some b))))))) P := by
  unfold zaR
  split
  · rename_i n f hq
    rw [zwith_some]
    refine zAW_opt (f := fun j => (pc + 1, L, S, zsta st a (n, .inr (.inr (.inr (.inr (va_up f j (some b)))))))) hd rfl ?_ rfl rfl
    simp only [zstep]
    rw [hq]
    dsimp only
    rw [if_pos hb]
  · rename_i hq
    rw [zwith_none]
    refine zAW_stuck hd ?_ rfl rfl
    simp only [zstep]
    all_goals
      split
      · rename_i n f hq2; exact absurd hq2 (hq n f)
      · rfl
theorem zq_aastoreN (hd : decode (zby mi) pc = .ok (.aastore, 1)) : AW X d mi pc L (.null :: .int x :: .ref a :: S) st P = zwith (zaR st a) fun q => zwith (zix x q.1) fun j => AW X d mi (pc + 1) L S (zsta st a (q.1, .inr (.inr (.inr (.inr (va_up q.2 j none)))))) P := by
  unfold zaR
  split
  · rename_i n f hq
    rw [zwith_some]
    refine zAW_opt (f := fun j => (pc + 1, L, S, zsta st a (n, .inr (.inr (.inr (.inr (va_up f j none))))))) hd rfl ?_ rfl rfl
    simp only [zstep]
    rw [hq]
  · rename_i hq
    rw [zwith_none]
    refine zAW_stuck hd ?_ rfl rfl
    simp only [zstep]
    all_goals
      split
      · rename_i n f hq2; exact absurd hq2 (hq n f)
      · rfl
theorem zq_cast (hd : decode (zby mi) pc = .ok (.checkcast idx, 3)) (ho : zoc mi = o) (hf : zKL.lookup (o, idx) = some ci) : AW X d mi pc L (.ref a :: S) st P = zif (zis st a ci = true) (AW X d mi (pc + 3) L (.ref a :: S) st P) := by
  refine zAW_if (q := (pc + 3, L, .ref a :: S, st)) hd rfl ?_ rfl rfl
  simp only [zstep]
  rw [ho, hf]
  rfl
theorem zq_dup (hd : decode (zby mi) pc = .ok (.dup, 1)) (h : zc1 v = true) : AW X d mi pc L (v :: S) st P = AW X d mi (pc + 1) L (v :: v :: S) st P := by
  refine zAW_step (q := (pc + 1, L, v :: v :: S, st)) hd rfl ?_
  simp only [zstep]
  rw [if_pos h]
theorem zq_dup_x1 (hd : decode (zby mi) pc = .ok (.dup_x1, 1)) (h : zc1 v = true) (h2 : zc1 w = true) : AW X d mi pc L (v :: w :: S) st P = AW X d mi (pc + 1) L (v :: w :: v :: S) st P := by
  refine zAW_step (q := (pc + 1, L, v :: w :: v :: S, st)) hd rfl ?_
  simp only [zstep]
  rw [if_pos ⟨h, h2⟩]
theorem zq_dup2 (hd : decode (zby mi) pc = .ok (.dup2, 1)) (h : zc1 v = true) (h2 : zc1 w = true) : AW X d mi pc L (v :: w :: S) st P = AW X d mi (pc + 1) L (v :: w :: v :: w :: S) st P := by
  refine zAW_step (q := (pc + 1, L, v :: w :: v :: w :: S, st)) hd rfl ?_
  simp only [zstep]
  rw [if_pos ⟨h, h2⟩]
theorem zq_pop (hd : decode (zby mi) pc = .ok (.pop, 1)) (h : zc1 v = true) : AW X d mi pc L (v :: S) st P = AW X d mi (pc + 1) L S st P := by
  refine zAW_step (q := (pc + 1, L, S, st)) hd rfl ?_
  simp only [zstep]
  rw [if_pos h]
theorem zq_obj (hd : decode (zby mi) pc = .ok (.invokespecial idx, 3)) (ho : zoc mi = o) (hf : zOI.contains (o, idx) = true) (hc : zCL.lookup (o, idx) = none) : AW X d mi pc L (.ref a :: S) st P = zif (S.length ≤ 4) (AW X d mi (pc + 3) L S st P) := by
  by_cases h : S.length ≤ 4
  · rw [zif_of h]
    exact zAW_step (q := (pc + 3, L, S, st)) hd rfl (by simp only [zstep]; rw [ho, if_pos ⟨hf, h⟩])
  · rw [zAW_stuck hd (by simp only [zstep]; rw [ho, if_neg (fun z => h z.2)]) rfl (by simp only [zcal]; rw [ho, hc])]
    exact propext ⟨fun z => z.elim, fun z => absurd z.1 h⟩
theorem zq_max (hd : decode (zby mi) pc = .ok (.invokestatic idx, 3)) (ho : zoc mi = o) (hn : ¬ (o = 2 ∧ idx = 19)) (hn2 : ¬ (o = 11 ∧ idx = 150)) (hf : zXX.lookup (o, idx) = some true) (hc : zCL.lookup (o, idx) = none) : AW X d mi pc L (.int y :: .int x :: S) st P = zif (S.length ≤ 4) (AW X d mi (pc + 3) L (.int (if x < y then y else x) :: S) st P) := by
  by_cases h : S.length ≤ 4
  · rw [zif_of h]
    exact zAW_step (q := (pc + 3, L, .int (if x < y then y else x) :: S, st)) hd rfl (by simp only [zstep]; rw [ho, if_neg hn, if_neg hn2, hf, Option.bind_some, if_pos h, if_pos rfl])
  · rw [zAW_stuck hd (by simp only [zstep]; rw [ho, if_neg hn, if_neg hn2, hf, Option.bind_some, if_neg h]) rfl (by simp only [zcal]; rw [ho, hc])]
    exact propext ⟨fun z => z.elim, fun z => absurd z.1 h⟩
theorem zq_min (hd : decode (zby mi) pc = .ok (.invokestatic idx, 3)) (ho : zoc mi = o) (hn : ¬ (o = 2 ∧ idx = 19)) (hn2 : ¬ (o = 11 ∧ idx = 150)) (hf : zXX.lookup (o, idx) = some false) (hc : zCL.lookup (o, idx) = none) : AW X d mi pc L (.int y :: .int x :: S) st P = zif (S.length ≤ 4) (AW X d mi (pc + 3) L (.int (if y < x then y else x) :: S) st P) := by
  by_cases h : S.length ≤ 4
  · rw [zif_of h]
    exact zAW_step (q := (pc + 3, L, .int (if y < x then y else x) :: S, st)) hd rfl (by simp only [zstep]; rw [ho, if_neg hn, if_neg hn2, hf, Option.bind_some, if_pos h, if_neg (by decide)])
  · rw [zAW_stuck hd (by simp only [zstep]; rw [ho, if_neg hn, if_neg hn2, hf, Option.bind_some, if_neg h]) rfl (by simp only [zcal]; rw [ho, hc])]
    exact propext ⟨fun z => z.elim, fun z => absurd z.1 h⟩
/-- calls -/
theorem zq_callV {yy n : Nat} {B S2 : List Value} (hd : decode (zby mi) pc = .ok (.invokevirtual idx, 3)) (ho : zoc mi = o) (ho2 : ¬ (o = 11 ∧ idx = 86)) (hc : zCL.lookup (o, idx) = some (0, yy)) (hn : znp yy = n) (hv : zvi (zoc yy) = ci) (h1 : (S.take n).reverse = B) (h2 : S.drop n = .ref a :: S2) : AW X d mi pc L S st P = zif (zis st a ci = true) (zif (S2.length ≤ 4) (AC X d yy (.ref a :: B) st (zaft X d mi pc L S2 P))) := by
  have hs : zstep X mi (.invokevirtual idx) pc L S st = none := by
    simp only [zstep]
    split
    · rw [ho, if_neg (fun z => ho2 ⟨z.1, z.2.1⟩)]
    · rfl
  have hcal : zcal mi (.invokevirtual idx) S st = if zis st a ci = true ∧ S2.length ≤ 4 then some (yy, .ref a :: B, S2) else none := by
    simp only [zcal]
    rw [ho, hc]
    show (match S.drop (znp yy) with
      | Value.ref a :: S2 => if zis st a (zvi (zoc yy)) = true ∧ S2.length ≤ 4 then some (yy, Value.ref a :: (S.take (znp yy)).reverse, S2) else none
      | _ => none) = _
    rw [hn, h2, h1, ← hv]
  rw [zAW_callif hd rfl hs rfl hcal]
  exact propext ⟨fun z => ⟨z.1.1, z.1.2, z.2⟩, fun z => ⟨⟨z.1, z.2.1⟩, z.2.2⟩⟩
theorem zq_callS {yy n : Nat} {B S2 : List Value} (hd : decode (zby mi) pc = .ok (.invokestatic idx, 3)) (ho : zoc mi = o) (hn1 : ¬ (o = 2 ∧ idx = 19)) (hn2 : ¬ (o = 11 ∧ idx = 150)) (hx : zXX.lookup (o, idx) = none) (hc : zCL.lookup (o, idx) = some (1, yy)) (hn : znp yy = n) (h0 : n ≤ S.length) (h1 : (S.take n).reverse = B) (h2 : S.drop n = S2) : AW X d mi pc L S st P = zif (S2.length ≤ 4) (AC X d yy B st (zaft X d mi pc L S2 P)) := by
  have hs : zstep X mi (.invokestatic idx) pc L S st = none := by
    simp only [zstep]
    rw [ho, if_neg hn1, if_neg hn2]
    split
    · rw [hx]; rfl
    · rfl
  have hcal : zcal mi (.invokestatic idx) S st = if S2.length ≤ 4 then some (yy, B, S2) else none := by
    simp only [zcal]
    rw [ho, hc]
    show (if znp yy ≤ S.length ∧ (S.drop (znp yy)).length ≤ 4 then some (yy, (S.take (znp yy)).reverse, S.drop (znp yy)) else none) = _
    rw [hn, h2, h1]
    by_cases h : S2.length ≤ 4
    · rw [if_pos h, if_pos ⟨h0, h⟩]
    · rw [if_neg h, if_neg (fun z => h z.2)]
  exact zAW_callif hd rfl hs rfl hcal
theorem zq_callI {yy n kd : Nat} {B S2 : List Value} (hd : decode (zby mi) pc = .ok (.invokespecial idx, 3)) (ho : zoc mi = o) (hc : zCL.lookup (o, idx) = some (kd, yy)) (hkd : kd = 2 ∨ kd = 3) (hno : zOI.contains (o, idx) = false) (hn : znp yy = n) (h1 : (S.take n).reverse = B) (h2 : S.drop n = .ref a :: S2) : AW X d mi pc L S st P = zif (S2.length ≤ 4) (AC X d yy (.ref a :: B) st (zaft X d mi pc L S2 P)) := by
  have hs : zstep X mi (.invokespecial idx) pc L S st = none := by
    simp only [zstep]
    split
    · rw [ho, if_neg (fun z => by rw [hno] at z; cases z.1)]
    · rfl
  have hcal : zcal mi (.invokespecial idx) S st = if S2.length ≤ 4 then some (yy, .ref a :: B, S2) else none := by
    simp only [zcal]
    rw [ho, hc]
    rcases hkd with e | e <;> subst e <;> show (match S.drop (znp yy) with
      | Value.ref a :: S2 => if S2.length ≤ 4 then some (yy, Value.ref a :: (S.take (znp yy)).reverse, S2) else none
      | _ => none) = _ <;> rw [hn, h2, h1]
  exact zAW_callif hd rfl hs rfl hcal
theorem zq_throw {E : String} (hd : decode (zby mi) pc = .ok (.new idx, 3)) (ho : zoc mi = o) (hf : zNL.lookup (o, idx) = none) (hh : zhh mi = []) (ht : zthr mi idx pc = some E) : AW X d mi pc L S st P = zif (5 ≤ d) (zif (S.length ≤ 4) (P (.inr E) (st.1 + 7, st.2))) := by
  have hs : zstep X mi (.new idx) pc L S st = none := by
    simp only [zstep]
    rw [ho, hf]
    rfl
  by_cases h : 5 ≤ d ∧ S.length ≤ 4
  · rw [zif_of h.1, zif_of h.2]
    exact zAW_ret (w := (.inr E, (st.1 + 7, st.2))) hd rfl hs (by simp only [zfin]; rw [if_pos ⟨hh, h⟩, ht]; rfl)
  · rw [zAW_stuck hd hs (by simp only [zfin]; rw [if_neg (fun z => h z.2)]) rfl]
    exact propext ⟨fun z => z.elim, fun z => absurd ⟨z.1, z.2.1⟩ h⟩
theorem zaft_inl {v : Option Value} {st' : ZS} : zaft X d mi pc L S P (.inl v) st' = AW X d mi (pc + 3) L (v.toList ++ S) st' P := rfl
theorem zhnd_nil {E : String} (h : zhh mi = []) : zhnd mi pc E = none := by unfold zhnd; rw [h]; rfl
theorem zaft_inr {E : String} {st' : ZS} (h : zhh mi = []) : zaft X d mi pc L S P (.inr E) st' = P (.inr E) st' := by
  unfold zaft
  dsimp only
  rw [zhnd_nil h]
  dsimp only
  exact propext ⟨fun z => z.2, fun z => ⟨h, z⟩⟩
theorem zaft_hnd {E : String} {st' : ZS} {g : Nat × Nat × Nat} (h : zhnd mi pc E = some g) : zaft X d mi pc L S P (.inr E) st' = zif (g.2.1 < L.length) (AW X d mi g.2.2 (L.set g.2.1 zjk) [] st' P) := by
  unfold zaft
  dsimp only
  rw [h]
  rfl
theorem zc1_int : zc1 (.int x) = true := rfl
theorem zc1_ref : zc1 (.ref a) = true := rfl
theorem zc1_null : zc1 .null = true := rfl
theorem zc1_float {x : UInt32} : zc1 (.float x) = true := rfl
end ZE1
end
