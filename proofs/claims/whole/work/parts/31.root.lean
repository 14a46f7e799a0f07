/-! roots: Newton's steps, and the two counts of steps give one float -/
def rst (q r : UInt64) : UInt64 := FP.ddiv (FP.dadd r (FP.ddiv q r)) 4611686018427387904
/-- it is above 0, as the class's loop asks before a step -/
def rps (r : UInt64) : Bool := decide (Op.cmpValue (FP.dcmp r FP.dconst0) .l = 1)
/-- k steps from r on, none of which makes a NaN or begins at 0 -/
def rgo (q : UInt64) : Nat → UInt64 → Option UInt64
  | 0, r => some r
  | k + 1, r => if zn64 (FP.ddiv q r) = true ∧ zn64 (FP.dadd r (FP.ddiv q r)) = true ∧ zn64 (rst q r) = true ∧ rps r = true then rgo q k (rst q r) else none
def rch (n : Nat) : Bool := match rgo (FP.i2d (nI n)) 16 (FP.i2d (nI n)) with
  | some r => decide (FP.d2f r ≤ 2139095040) && (match rgo (FP.i2d (nI n)) 8 r with
    | some r2 => decide (FP.d2f r = FP.d2f r2)
    | none => false)
  | none => false
def rl_0 : List Nat := [1, 2, 4, 5, 8, 9, 10, 13, 16, 17, 18, 20, 25, 26, 29, 32, 34, 36, 37, 40, 41, 45, 49, 50, 52, 53, 58, 61, 64, 65, 68, 72, 73, 74, 80, 81, 82, 85, 89, 90]
theorem rl_0_ok : rl_0.all rch = true := by decide +kernel
def rl_1 : List Nat := [97, 98, 100, 101, 104, 106, 109, 113, 116, 117, 121, 122, 125, 128, 130, 136, 137, 144, 145, 146, 148, 149, 153, 157, 160, 162, 164, 169, 170, 173, 178, 180, 181, 185, 193, 194, 196, 197, 200, 202]
theorem rl_1_ok : rl_1.all rch = true := by decide +kernel
def rl_2 : List Nat := [205, 208, 212, 218, 221, 225, 226, 229, 232, 233, 234, 241, 242, 244, 245, 250, 256, 257, 260, 261, 265, 269, 272, 274, 277, 281, 288, 289, 290, 292, 293, 296, 298, 305, 306, 313, 314, 317, 320, 324]
theorem rl_2_ok : rl_2.all rch = true := by decide +kernel
def rl_3 : List Nat := [325, 328, 333, 337, 338, 340, 346, 349, 353, 356, 360, 361, 362, 365, 369, 370, 373, 377, 386, 388, 389, 392, 394, 397, 400, 401, 404, 405, 409, 410, 416, 421, 424, 425, 433, 436, 441, 442, 445, 449]
theorem rl_3_ok : rl_3.all rch = true := by decide +kernel
def rl_4 : List Nat := [450, 452, 457, 458, 461, 464, 466, 468, 477, 481, 482, 484, 485, 488, 490, 493, 500, 505, 509, 512, 514, 520, 521, 522, 529, 530, 533, 538, 541, 544, 545, 548, 549, 554, 557, 562, 565, 569, 576, 577]
theorem rl_4_ok : rl_4.all rch = true := by decide +kernel
def rl_5 : List Nat := [578, 580, 584, 585, 586, 592, 593, 596, 601, 605, 610, 612, 613, 617, 625, 626, 628, 629, 634, 637, 640, 641, 648, 650, 653, 656, 657, 661, 666, 673, 674, 676, 677, 680, 685, 689, 692, 697, 698, 701]
theorem rl_5_ok : rl_5.all rch = true := by decide +kernel
def rl_6 : List Nat := [706, 709, 712, 720, 722, 724, 725, 729, 730, 733, 738, 740, 745, 746, 754, 757, 761, 765, 769, 772, 773, 776, 778, 784, 785, 788, 793, 794, 797, 800, 801, 802, 808, 809, 810, 818, 820, 821, 829, 832]
theorem rl_6_ok : rl_6.all rch = true := by decide +kernel
def rl_7 : List Nat := [833, 841, 842, 845, 848, 850, 853, 857, 865, 866, 872, 873, 877, 881, 882, 884, 890, 898, 900, 901, 904, 905, 909, 914, 916, 922, 925, 928, 929, 932, 936, 937, 941, 949, 953, 954, 961, 962, 964, 965]
theorem rl_7_ok : rl_7.all rch = true := by decide +kernel
def rl_8 : List Nat := [968, 970, 976, 977, 980, 981, 985, 986, 997, 1000, 1009, 1010, 1013, 1017, 1018, 1021, 1025, 1037, 1040, 1042, 1044, 1053, 1058, 1060, 1061, 1066, 1069, 1073, 1076, 1082, 1090, 1096, 1097, 1105, 1108, 1109, 1117, 1125, 1129, 1130]
theorem rl_8_ok : rl_8.all rch = true := by decide +kernel
def rl_9 : List Nat := [1145, 1152, 1154, 1156, 1157, 1160, 1165, 1170, 1184, 1186, 1189, 1201, 1202, 1205, 1213, 1217, 1224, 1225, 1241, 1250, 1252, 1258, 1261, 1268, 1282, 1285, 1300, 1301, 1305, 1313, 1322, 1325, 1341, 1352, 1354, 1360, 1361, 1370, 1384, 1402]
theorem rl_9_ok : rl_9.all rch = true := by decide +kernel
def rl_10 : List Nat := [1405, 1409, 1417, 1429, 1445, 1458, 1460, 1466, 1476, 1490, 1513, 1517, 1525, 1537, 1568, 1570, 1576, 1586, 1625, 1629, 1637, 1682, 1684, 1690, 1741, 1745, 1800, 1802, 1861, 1922]
theorem rl_10_ok : rl_10.all rch = true := by decide +kernel
def rls : List (List Nat) := [rl_0, rl_1, rl_2, rl_3, rl_4, rl_5, rl_6, rl_7, rl_8, rl_9, rl_10]
theorem rls_ok : ∀ l ∈ rls, l.all rch = true := by
  intro l hl
  simp only [rls, List.mem_cons, List.not_mem_nil, or_false] at hl
  rcases hl with rfl | rfl | rfl | rfl | rfl | rfl | rfl | rfl | rfl | rfl | rfl
  · exact rl_0_ok
  · exact rl_1_ok
  · exact rl_2_ok
  · exact rl_3_ok
  · exact rl_4_ok
  · exact rl_5_ok
  · exact rl_6_ok
  · exact rl_7_ok
  · exact rl_8_ok
  · exact rl_9_ok
  · exact rl_10_ok
theorem rls_in : ((List.range 32).all fun a => (List.range 32).all fun b => (a == 0 && b == 0) || rls.any fun l => l.contains (a * a + b * b)) = true := by decide +kernel
theorem rch_ok {a b : Nat} (ha : a < 32) (hb : b < 32) (h : ¬ (a = 0 ∧ b = 0)) : rch (a * a + b * b) = true := by
  have h1 := List.all_eq_true.mp (List.all_eq_true.mp rls_in a (List.mem_range.mpr ha)) b (List.mem_range.mpr hb)
  rw [Bool.or_eq_true, Bool.and_eq_true] at h1
  rcases h1 with h1 | h1
  · exact absurd ⟨eq_of_beq h1.1, eq_of_beq h1.2⟩ h
  · obtain ⟨l, hl, hc⟩ := List.any_eq_true.mp h1
    exact List.all_eq_true.mp (rls_ok l hl) _ (List.contains_iff_mem.mp hc)
