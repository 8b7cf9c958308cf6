/-! PART 67: addRoom -/
set_option maxRecDepth 100000 in
set_option maxHeartbeats 4000000 in
theorem c_X7_addRoom (l : Launch) (hl0 : l.stackTraces = false) (n : Nat → Nat) (i x : Nat → Nat → Int32) (lm : Nat → Nat → Int64) (y : Nat → Nat → Nat) (ol : Int64) (od : UInt64) (hW : cW n i y) (a : Int32) (b : Int32) (c : Int32) : zS l yX7_addRoom wsX7_addRoom 12 222 8 1100 [.ref 1, .int a, .int b, .int c] (cmm n i x lm y ol od) (zpi (fun v9 M1 => (zin a 1 50 ∧ zin b 1 100 ∧ zin c 1 100) ∧ (n 5 < 4) ∧ v9 = nI (n 0) ∧ M1 = cmm (nup (nup n 0 (n 0 + 1)) 5 (n 0 + 1)) (zup (zup (zup (zup (zup (zup (zup (zup (zup (zup (zup (zup i 105 (n 0) 20) 106 (n 0) 50) 109 (n 0) 97) 107 (n 0) 0) 108 (n 0) 0) 111 (n 0) 0) 112 (n 0) 0) 116 (n 0) 0) 102 (n 0) a) 103 (n 0) b) 104 (n 0) c) 110 (n 0) (i 1 1)) (zup (zup (zup (zrow x (n 0)) 0 (n 0) 0) 6 (n 0) 0) 5 (n 0) (-400)) lm y ol od)) (fun E => (E = "java/lang/IllegalArgumentException" ∧ ¬ (zin a 1 50 ∧ zin b 1 100 ∧ zin c 1 100)) ∨ (E = "java/lang/IllegalStateException" ∧ (zin a 1 50 ∧ zin b 1 100 ∧ zin c 1 100) ∧ ¬ (n 5 < 4))) := by
  refine z_intro (cc := cX7_addRoom) (maxL := 5) (ret := (some .int)) (by decide +kernel) rfl (Nat.le_of_ble_eq_true rfl) ?_
  have hlk_10 : Cond.fieldLink RX7 10 "ColdStore" "rooms" "Ljava/util/ArrayList;" ∈ wsX7_addRoom := by decide +kernel
  have hlk_43 : Cond.fieldLink RX7 43 "ColdStore" "outside" "I" ∈ wsX7_addRoom := by decide +kernel
  intro g X
  show zE g 5 0 [(0, .ref 1), (1, .int a), (2, .int b), (3, .int c)] [] (cmm n i x lm y ol od) 0 0
  obtain ⟨⟨hn0, hn1, hn2, hn3⟩, ⟨hb5, hb6, hb7, hb8⟩, hp9, hs9, ho9⟩ := hW
  refine z_iload_n X 1 dX7_addRoom_0 rfl rfl ?_
  refine z_iconst (v := 1) X dX7_addRoom_1 (by decide) ?_
  refine z_bipush (v := 50) X dX7_addRoom_2 (by decide) ?_
  refine z_callSv (As := [.int a, .int 1, .int 50]) (rest := []) (n1 := 3) X dX7_addRoom_4 (c_X7_requireRange l hl0 (cmm n i x lm y ol od) a 1 50) gX7_addRoom_X7_requireRange rfl rfl (by decide +kernel) ⟨by decide, by decide⟩ rfl (Nat.le_of_ble_eq_true rfl) ⟨by decide, by decide⟩ (fun E h => ⟨Or.inl (⟨h.1, fun h9 => h.2 h9.1⟩), rfl⟩) ?_
  rintro _ ⟨rfl, hz0⟩
  refine z_iload_n X 2 dX7_addRoom_7 rfl rfl ?_
  refine z_iconst (v := 1) X dX7_addRoom_8 (by decide) ?_
  refine z_bipush (v := 100) X dX7_addRoom_9 (by decide) ?_
  refine z_callSv (As := [.int b, .int 1, .int 100]) (rest := []) (n1 := 3) X dX7_addRoom_11 (c_X7_requireRange l hl0 (cmm n i x lm y ol od) b 1 100) gX7_addRoom_X7_requireRange rfl rfl (by decide +kernel) ⟨by decide, by decide⟩ rfl (Nat.le_of_ble_eq_true rfl) ⟨by decide, by decide⟩ (fun E h => ⟨Or.inl (⟨h.1, fun h9 => h.2 h9.2.1⟩), rfl⟩) ?_
  rintro _ ⟨rfl, hz1⟩
  refine z_iload_n X 3 dX7_addRoom_14 rfl rfl ?_
  refine z_iconst (v := 1) X dX7_addRoom_15 (by decide) ?_
  refine z_bipush (v := 100) X dX7_addRoom_16 (by decide) ?_
  refine z_callSv (As := [.int c, .int 1, .int 100]) (rest := []) (n1 := 3) X dX7_addRoom_18 (c_X7_requireRange l hl0 (cmm n i x lm y ol od) c 1 100) gX7_addRoom_X7_requireRange rfl rfl (by decide +kernel) ⟨by decide, by decide⟩ rfl (Nat.le_of_ble_eq_true rfl) ⟨by decide, by decide⟩ (fun E h => ⟨Or.inl (⟨h.1, fun h9 => h.2 h9.2.2⟩), rfl⟩) ?_
  rintro _ ⟨rfl, hz2⟩
  refine z_aload_n X 0 dX7_addRoom_21 rfl rfl ?_
  refine z_getR (ci := 10) (j := 0) (o' := 2) X dX7_addRoom_22 ck_1 rfl (by decide) hlk_10 (Or.inl rfl) (fun _ => rfl) (cr_1_0) ?_
  refine z_callVi (As := []) (rest := []) (n1 := 0) (ci := 2) X dX7_addRoom_25 (c_size0 l _ _ _ _ _ _ _) gX7_addRoom_Jx4a65c_size_8abf5 rfl rfl (by decide +kernel) ⟨by decide, by decide⟩ (ck_2 (j := 0) (by decide)) rfl rfl (Nat.le_of_ble_eq_true rfl) ⟨by decide, by decide⟩ (fun _ h => h.elim) ?_
  rintro _ _ ⟨rfl, rfl⟩
  refine z_iconst (v := 4) X dX7_addRoom_28 (by decide) ?_
  refine z_icmp_lt X 42 dX7_addRoom_29 (by decide) (fun c_29 => ?_) (fun c_29 => ?_)
  · skip
    refine z_aload_n X 0 dX7_addRoom_42 rfl rfl ?_
    refine z_getR (ci := 10) (j := 0) (o' := 2) X dX7_addRoom_43 ck_1 rfl (by decide) hlk_10 (Or.inl rfl) (fun _ => rfl) (cr_1_0) ?_
    refine z_callVi (As := []) (rest := []) (n1 := 0) (ci := 2) X dX7_addRoom_46 (c_size0 l _ _ _ _ _ _ _) gX7_addRoom_Jx4a65c_size_8abf5 rfl rfl (by decide +kernel) ⟨by decide, by decide⟩ (ck_2 (j := 0) (by decide)) rfl rfl (Nat.le_of_ble_eq_true rfl) ⟨by decide, by decide⟩ (fun _ h => h.elim) ?_
    rintro _ _ ⟨rfl, rfl⟩
    refine z_istore (ls' := [(4, .int (nI (n 5))), (0, .ref 1), (1, .int a), (2, .int b), (3, .int c)]) X dX7_addRoom_49 (by decide) rfl ?_
    refine z_aload_n X 1 dX7_addRoom_51 rfl rfl ?_
    refine z_getR (ci := 10) (j := 0) (o' := 2) X dX7_addRoom_52 ck_1 rfl (by decide) hlk_10 (Or.inl rfl) (fun _ => rfl) (cr_1_0) ?_
    have hfr : zc (cmm n i x lm y ol od) (32 * n 0 + 8) = 0 := (c_c (t := 8) (by decide)).trans (if_neg (Nat.lt_irrefl _))
    refine z_new (ci := 8) X (32 * n 0 + 8) dX7_addRoom_55 rfl (by decide +kernel) (by decide +kernel) (by decide +kernel) hfr (show 32 * n 0 + 8 ≠ 31 by omega) (show 32 * n 0 + 8 ≠ 63 by omega) ⟨by decide, by decide⟩ ?_
    have hnew : zc (znew (cmm n i x lm y ol od) (32 * n 0 + 8) 9 0) (32 * n 0 + 8) = 9 := if_pos rfl
    refine z_dup X dX7_addRoom_58 rfl ?_
    refine z_iload X 0 dX7_addRoom_59 rfl ?_
    refine z_iload_n X 2 dX7_addRoom_61 rfl rfl ?_
    refine z_iload_n X 3 dX7_addRoom_62 rfl rfl ?_
    refine z_iload_n X 4 dX7_addRoom_63 rfl rfl ?_
    refine z_aload_n X 1 dX7_addRoom_64 rfl rfl ?_
    refine z_getI (ci := 10) (j := 7) (x := i 1 1) X dX7_addRoom_65 (show zc (znew (cmm n i x lm y ol od) (32 * n 0 + 8) 9 0) 1 = 11 from (znew_c (by omega)).trans ck_1) rfl (by decide) hlk_43 (Or.inl rfl) (fun _ => rfl) ((show zi (znew (cmm n i x lm y ol od) (32 * n 0 + 8) 9 0) 1 7 = i 1 1 from (znew_i (by omega)).trans ci_1_7)) ?_
    have hb9 : zc (znew (cmm n i x lm y ol od) (32 * n 0 + 8) 9 0) (32 * n 0 + 9) = 0 := (znew_c (by omega)).trans ((c_c (t := 9) (by decide)).trans (if_neg (Nat.lt_irrefl _)))
    refine z_callIv (As := [.int (nI (n 5)), .int a, .int b, .int c, .int (i 1 1)]) (rest := [.ref (32 * n 0 + 8), .ref 2]) (n1 := 5) X dX7_addRoom_68 (c_X5_init l (znew (cmm n i x lm y ol od) (32 * n 0 + 8) 9 0) (32 * n 0 + 8) (32 * n 0 + 9) hnew hb9 (show 32 * n 0 + 9 ≠ 31 by omega) (show 32 * n 0 + 9 ≠ 63 by omega) (nI (n 5)) a b c (i 1 1)) gX7_addRoom_X5_init rfl (by decide +kernel) (by decide +kernel) (by decide +kernel) rfl rfl (by decide +kernel) ⟨by decide, by decide⟩ rfl (Nat.le_of_ble_eq_true rfl) ⟨by decide, by decide⟩ (fun _ h => h.elim) ?_
    rintro _ e9
    rw [e9, ← hn0]
    refine z_memq (M' := cmm (nup n 0 (n 0 + 1)) (zup (zup (zup (zup (zup (zup (zup (zup (zup (zup (zup (zup i 105 (n 0) 20) 106 (n 0) 50) 109 (n 0) 97) 107 (n 0) 0) 108 (n 0) 0) 111 (n 0) 0) 112 (n 0) 0) 116 (n 0) 0) 102 (n 0) a) 103 (n 0) b) 104 (n 0) c) 110 (n 0) (i 1 1)) (zup (zup (zup (zrow x (n 0)) 0 (n 0) 0) 6 (n 0) 0) 5 (n 0) (-400)) lm y ol od) zq_room ?_
    refine z_callVi (As := [.ref (32 * n 0 + 8)]) (rest := []) (n1 := 1) (ci := 2) X dX7_addRoom_71 (c_add0 l (nup n 0 (n 0 + 1)) (zup (zup (zup (zup (zup (zup (zup (zup (zup (zup (zup (zup i 105 (n 0) 20) 106 (n 0) 50) 109 (n 0) 97) 107 (n 0) 0) 108 (n 0) 0) 111 (n 0) 0) 112 (n 0) 0) 116 (n 0) 0) 102 (n 0) a) 103 (n 0) b) 104 (n 0) c) 110 (n 0) (i 1 1)) (zup (zup (zup (zrow x (n 0)) 0 (n 0) 0) 6 (n 0) 0) 5 (n 0) (-400)) lm y ol od (n 0) ((nup_n (by decide)).trans hn0.symm) (by rw [nup_s]; omega) (by have := nI_lti (a := n 5) (b := 4) (by omega) c_29; omega)) gX7_addRoom_Jx4a65c_add_9ea2d rfl rfl (by decide +kernel) ⟨by decide, by decide⟩ (ck_2 (j := 0) (by decide)) rfl rfl (Nat.le_of_ble_eq_true rfl) ⟨by decide, by decide⟩ (fun _ h => h.elim) ?_
    intro r9 _ e9
    rw [show _ = _ from e9]
    refine z_pop X dX7_addRoom_74 rfl ?_
    refine z_iload X 0 dX7_addRoom_75 rfl ?_
    refine z_iret X rfl rfl (Nat.le_of_ble_eq_true rfl) (Nat.le_of_ble_eq_true rfl) dX7_addRoom_77 ?_
    exact ⟨_, rfl, ⟨hz0, hz1, hz2⟩, nI_lti (by omega) c_29, by rw [hn0], rfl⟩
  · skip
    exact z_throwS X hl0 (cls := "java/lang/IllegalStateException") (text := "there are 4 rooms") (ik := 50) (is := 64) (ic := 54) (by decide +kernel) (by decide +kernel) (by decide +kernel) rfl dX7_addRoom_32 dX7_addRoom_35 dX7_addRoom_36 dX7_addRoom_38 dX7_addRoom_41 (by decide) (by decide) ⟨by decide, by decide⟩ rfl (Or.inr (⟨rfl, ⟨hz0, hz1, hz2⟩, fun h9 => c_29 (nI_lt (b := 4) h9 (by decide))⟩))
