/-! the model's memory: its object is the name 1, the row of its field k the name 100 + k -/
def zmKs : List (Nat × Nat × Nat) := [(102, 20, 4), (103, 20, 4), (104, 20, 4), (105, 20, 4), (106, 20, 4), (107, 20, 4), (108, 20, 4), (109, 23, 4), (110, 20, 4), (111, 22, 4), (112, 22, 4), (113, 22, 4), (114, 20, 4), (115, 21, 4), (116, 20, 4), (127, 20, 5), (128, 20, 5), (129, 20, 5), (131, 20, 24), (132, 20, 24), (133, 20, 24), (134, 23, 24), (136, 20, 12), (137, 20, 12), (138, 20, 12), (139, 20, 12), (140, 23, 12), (141, 20, 12)]
def zmC (o : Nat) : Nat := if o = 1 then 12 else match zmKs.find? (fun q => q.1 == o) with
  | some q => q.2.1
  | none => 0
def zmN (o : Nat) : Nat := match zmKs.find? (fun q => q.1 == o) with
  | some q => q.2.2
  | none => 0
def zmR (o k : Nat) : Option Nat := if o = 1 then (if zmC (100 + k) = 0 then none else some (100 + k)) else none
def zmm (i : Nat → Nat → Int32) (l : Nat → Nat → Int64) : zMem := (zmC, zmN, zmR, i, l, fun _ _ => 0)
section ZMM
variable {i : Nat → Nat → Int32} {l : Nat → Nat → Int64}
theorem zmm_c1 : zc (zmm i l) 1 = 11 + 1 := by show zmC 1 = 12; decide +kernel
theorem zmm_c102 : zc (zmm i l) 102 = 20 := by show zmC 102 = 20; decide +kernel
theorem zmm_n102 : zn (zmm i l) 102 = 4 := by show zmN 102 = 4; decide +kernel
theorem zmm_r102 : zr (zmm i l) 1 2 = some 102 := by show zmR 1 2 = some 102; decide +kernel
theorem zmm_c103 : zc (zmm i l) 103 = 20 := by show zmC 103 = 20; decide +kernel
theorem zmm_n103 : zn (zmm i l) 103 = 4 := by show zmN 103 = 4; decide +kernel
theorem zmm_r103 : zr (zmm i l) 1 3 = some 103 := by show zmR 1 3 = some 103; decide +kernel
theorem zmm_c104 : zc (zmm i l) 104 = 20 := by show zmC 104 = 20; decide +kernel
theorem zmm_n104 : zn (zmm i l) 104 = 4 := by show zmN 104 = 4; decide +kernel
theorem zmm_r104 : zr (zmm i l) 1 4 = some 104 := by show zmR 1 4 = some 104; decide +kernel
theorem zmm_c105 : zc (zmm i l) 105 = 20 := by show zmC 105 = 20; decide +kernel
theorem zmm_n105 : zn (zmm i l) 105 = 4 := by show zmN 105 = 4; decide +kernel
theorem zmm_r105 : zr (zmm i l) 1 5 = some 105 := by show zmR 1 5 = some 105; decide +kernel
theorem zmm_c106 : zc (zmm i l) 106 = 20 := by show zmC 106 = 20; decide +kernel
theorem zmm_n106 : zn (zmm i l) 106 = 4 := by show zmN 106 = 4; decide +kernel
theorem zmm_r106 : zr (zmm i l) 1 6 = some 106 := by show zmR 1 6 = some 106; decide +kernel
theorem zmm_c107 : zc (zmm i l) 107 = 20 := by show zmC 107 = 20; decide +kernel
theorem zmm_n107 : zn (zmm i l) 107 = 4 := by show zmN 107 = 4; decide +kernel
theorem zmm_r107 : zr (zmm i l) 1 7 = some 107 := by show zmR 1 7 = some 107; decide +kernel
theorem zmm_c108 : zc (zmm i l) 108 = 20 := by show zmC 108 = 20; decide +kernel
theorem zmm_n108 : zn (zmm i l) 108 = 4 := by show zmN 108 = 4; decide +kernel
theorem zmm_r108 : zr (zmm i l) 1 8 = some 108 := by show zmR 1 8 = some 108; decide +kernel
theorem zmm_c109 : zc (zmm i l) 109 = 23 := by show zmC 109 = 23; decide +kernel
theorem zmm_n109 : zn (zmm i l) 109 = 4 := by show zmN 109 = 4; decide +kernel
theorem zmm_r109 : zr (zmm i l) 1 9 = some 109 := by show zmR 1 9 = some 109; decide +kernel
theorem zmm_c110 : zc (zmm i l) 110 = 20 := by show zmC 110 = 20; decide +kernel
theorem zmm_n110 : zn (zmm i l) 110 = 4 := by show zmN 110 = 4; decide +kernel
theorem zmm_r110 : zr (zmm i l) 1 10 = some 110 := by show zmR 1 10 = some 110; decide +kernel
theorem zmm_c111 : zc (zmm i l) 111 = 22 := by show zmC 111 = 22; decide +kernel
theorem zmm_n111 : zn (zmm i l) 111 = 4 := by show zmN 111 = 4; decide +kernel
theorem zmm_r111 : zr (zmm i l) 1 11 = some 111 := by show zmR 1 11 = some 111; decide +kernel
theorem zmm_c112 : zc (zmm i l) 112 = 22 := by show zmC 112 = 22; decide +kernel
theorem zmm_n112 : zn (zmm i l) 112 = 4 := by show zmN 112 = 4; decide +kernel
theorem zmm_r112 : zr (zmm i l) 1 12 = some 112 := by show zmR 1 12 = some 112; decide +kernel
theorem zmm_c113 : zc (zmm i l) 113 = 22 := by show zmC 113 = 22; decide +kernel
theorem zmm_n113 : zn (zmm i l) 113 = 4 := by show zmN 113 = 4; decide +kernel
theorem zmm_r113 : zr (zmm i l) 1 13 = some 113 := by show zmR 1 13 = some 113; decide +kernel
theorem zmm_c114 : zc (zmm i l) 114 = 20 := by show zmC 114 = 20; decide +kernel
theorem zmm_n114 : zn (zmm i l) 114 = 4 := by show zmN 114 = 4; decide +kernel
theorem zmm_r114 : zr (zmm i l) 1 14 = some 114 := by show zmR 1 14 = some 114; decide +kernel
theorem zmm_c115 : zc (zmm i l) 115 = 21 := by show zmC 115 = 21; decide +kernel
theorem zmm_n115 : zn (zmm i l) 115 = 4 := by show zmN 115 = 4; decide +kernel
theorem zmm_r115 : zr (zmm i l) 1 15 = some 115 := by show zmR 1 15 = some 115; decide +kernel
theorem zmm_c116 : zc (zmm i l) 116 = 20 := by show zmC 116 = 20; decide +kernel
theorem zmm_n116 : zn (zmm i l) 116 = 4 := by show zmN 116 = 4; decide +kernel
theorem zmm_r116 : zr (zmm i l) 1 16 = some 116 := by show zmR 1 16 = some 116; decide +kernel
theorem zmm_c127 : zc (zmm i l) 127 = 20 := by show zmC 127 = 20; decide +kernel
theorem zmm_n127 : zn (zmm i l) 127 = 5 := by show zmN 127 = 5; decide +kernel
theorem zmm_r127 : zr (zmm i l) 1 27 = some 127 := by show zmR 1 27 = some 127; decide +kernel
theorem zmm_c128 : zc (zmm i l) 128 = 20 := by show zmC 128 = 20; decide +kernel
theorem zmm_n128 : zn (zmm i l) 128 = 5 := by show zmN 128 = 5; decide +kernel
theorem zmm_r128 : zr (zmm i l) 1 28 = some 128 := by show zmR 1 28 = some 128; decide +kernel
theorem zmm_c129 : zc (zmm i l) 129 = 20 := by show zmC 129 = 20; decide +kernel
theorem zmm_n129 : zn (zmm i l) 129 = 5 := by show zmN 129 = 5; decide +kernel
theorem zmm_r129 : zr (zmm i l) 1 29 = some 129 := by show zmR 1 29 = some 129; decide +kernel
theorem zmm_c131 : zc (zmm i l) 131 = 20 := by show zmC 131 = 20; decide +kernel
theorem zmm_n131 : zn (zmm i l) 131 = 24 := by show zmN 131 = 24; decide +kernel
theorem zmm_r131 : zr (zmm i l) 1 31 = some 131 := by show zmR 1 31 = some 131; decide +kernel
theorem zmm_c132 : zc (zmm i l) 132 = 20 := by show zmC 132 = 20; decide +kernel
theorem zmm_n132 : zn (zmm i l) 132 = 24 := by show zmN 132 = 24; decide +kernel
theorem zmm_r132 : zr (zmm i l) 1 32 = some 132 := by show zmR 1 32 = some 132; decide +kernel
theorem zmm_c133 : zc (zmm i l) 133 = 20 := by show zmC 133 = 20; decide +kernel
theorem zmm_n133 : zn (zmm i l) 133 = 24 := by show zmN 133 = 24; decide +kernel
theorem zmm_r133 : zr (zmm i l) 1 33 = some 133 := by show zmR 1 33 = some 133; decide +kernel
theorem zmm_c134 : zc (zmm i l) 134 = 23 := by show zmC 134 = 23; decide +kernel
theorem zmm_n134 : zn (zmm i l) 134 = 24 := by show zmN 134 = 24; decide +kernel
theorem zmm_r134 : zr (zmm i l) 1 34 = some 134 := by show zmR 1 34 = some 134; decide +kernel
theorem zmm_c136 : zc (zmm i l) 136 = 20 := by show zmC 136 = 20; decide +kernel
theorem zmm_n136 : zn (zmm i l) 136 = 12 := by show zmN 136 = 12; decide +kernel
theorem zmm_r136 : zr (zmm i l) 1 36 = some 136 := by show zmR 1 36 = some 136; decide +kernel
theorem zmm_c137 : zc (zmm i l) 137 = 20 := by show zmC 137 = 20; decide +kernel
theorem zmm_n137 : zn (zmm i l) 137 = 12 := by show zmN 137 = 12; decide +kernel
theorem zmm_r137 : zr (zmm i l) 1 37 = some 137 := by show zmR 1 37 = some 137; decide +kernel
theorem zmm_c138 : zc (zmm i l) 138 = 20 := by show zmC 138 = 20; decide +kernel
theorem zmm_n138 : zn (zmm i l) 138 = 12 := by show zmN 138 = 12; decide +kernel
theorem zmm_r138 : zr (zmm i l) 1 38 = some 138 := by show zmR 1 38 = some 138; decide +kernel
theorem zmm_c139 : zc (zmm i l) 139 = 20 := by show zmC 139 = 20; decide +kernel
theorem zmm_n139 : zn (zmm i l) 139 = 12 := by show zmN 139 = 12; decide +kernel
theorem zmm_r139 : zr (zmm i l) 1 39 = some 139 := by show zmR 1 39 = some 139; decide +kernel
theorem zmm_c140 : zc (zmm i l) 140 = 23 := by show zmC 140 = 23; decide +kernel
theorem zmm_n140 : zn (zmm i l) 140 = 12 := by show zmN 140 = 12; decide +kernel
theorem zmm_r140 : zr (zmm i l) 1 40 = some 140 := by show zmR 1 40 = some 140; decide +kernel
theorem zmm_c141 : zc (zmm i l) 141 = 20 := by show zmC 141 = 20; decide +kernel
theorem zmm_n141 : zn (zmm i l) 141 = 12 := by show zmN 141 = 12; decide +kernel
theorem zmm_r141 : zr (zmm i l) 1 41 = some 141 := by show zmR 1 41 = some 141; decide +kernel
end ZMM
/-! the model's functions: i the ints (name, place), lm the longs -/
/-- the quarter of the day -/
def mq (i : Nat → Nat → Int32) : Int32 := i 1 0 - i 1 0 / 96 * 96
abbrev mPeak (i : Nat → Nat → Int32) : Prop := ¬ i 1 20 = -1 ∧ zin (mq i) (i 1 20) (i 1 21)
