/-! PART 65: addPallet -/
set_option maxRecDepth 100000 in
set_option maxHeartbeats 4000000 in
theorem c_X7_addPallet (l : Launch) (hl0 : l.stackTraces = false) (n : Nat → Nat) (i x : Nat → Nat → Int32) (lm : Nat → Nat → Int64) (y : Nat → Nat → Nat) (ol : Int64) (od : UInt64) (hW : cW n i y) (kd : Int32) (r : Int32) : zS l yX7_addPallet wsX7_addPallet 12 222 8 1100 [.ref 1, .int kd, .int r] (cmm n i x lm y ol od) (zpi (fun v9 M1 => (cl kd < n 6 ∧ kd = nI (cl kd)) ∧ (cl r < n 5 ∧ r = nI (cl r)) ∧ (n 7 < 24 ∧ 0 < 8 - m_filled i (nI (cl r)) (n 7)) ∧ v9 = nI (n 2) ∧ M1 = cmm (nup (nup (nup n 2 (n 2 + 1)) 4 (n 4 + 1)) 7 (n 2 + 1)) (zup (zup (zup i 134 (n 2) 114) 131 (n 2) kd) 133 (n 2) (i 127 (cl kd))) (zup (zup x 3 (n 2) 960) 4 (n 4) (i 1 0)) lm (zup (zup (zup y 1 (n 4) (cl r)) 2 (n 4) 0) 0 (n 2) (n 4)) ol od)) (fun E => (E = "java/lang/IndexOutOfBoundsException" ∧ ¬ (cl kd < n 6 ∧ kd = nI (cl kd))) ∨ (E = "java/lang/IndexOutOfBoundsException" ∧ (cl kd < n 6 ∧ kd = nI (cl kd)) ∧ ¬ (cl r < n 5 ∧ r = nI (cl r))) ∨ (E = "java/lang/IllegalStateException" ∧ (cl kd < n 6 ∧ kd = nI (cl kd)) ∧ (cl r < n 5 ∧ r = nI (cl r)) ∧ ¬ (n 7 < 24 ∧ 0 < 8 - m_filled i (nI (cl r)) (n 7)))) := by
  refine z_intro (cc := cX7_addPallet) (maxL := 6) (ret := (some .int)) (by decide +kernel) rfl (Nat.le_of_ble_eq_true rfl) ?_
  have hlk_19 : Cond.fieldLink RX7 19 "ColdStore" "pallets" "Ljava/util/ArrayList;" ∈ wsX7_addPallet := by decide +kernel
  have hlk_39 : Cond.fieldLink RX7 39 "ColdStore" "time" "I" ∈ wsX7_addPallet := by decide +kernel
  intro g X
  show zE g 6 0 [(0, .ref 1), (1, .int kd), (2, .int r)] [] (cmm n i x lm y ol od) 0 0
  obtain ⟨⟨hn0, hn1, hn2, hn3⟩, ⟨hb5, hb6, hb7, hb8⟩, hp9, hs9, ho9⟩ := hW
  refine z_aload_n X 0 dX7_addPallet_0 rfl rfl ?_
  refine z_iload_n X 1 dX7_addPallet_1 rfl rfl ?_
  refine z_callVr (As := [.int kd]) (rest := []) (n1 := 1) (ci := 10) X dX7_addPallet_2 (c_X7_findKind l hl0 n i x lm y ol od ⟨by omega, by omega⟩ kd) gX7_addPallet_X7_findKind rfl rfl (by decide +kernel) ⟨by decide, by decide⟩ ck_1 rfl rfl (Nat.le_of_ble_eq_true rfl) ⟨by decide, by decide⟩ (fun E h => ⟨Or.inl (⟨h.1, find_no (by omega) h.2⟩), rfl⟩) ?_
  rintro _ _ ⟨rfl, rfl, hf0, hg0⟩
  refine z_astore_n (ls' := [(3, .ref (32 * (cl kd) + 10)), (0, .ref 1), (1, .int kd), (2, .int r)]) X dX7_addPallet_5 rfl (by decide) rfl ?_
  refine z_aload_n X 1 dX7_addPallet_6 rfl rfl ?_
  refine z_iload_n X 3 dX7_addPallet_7 rfl rfl ?_
  refine z_callVr (As := [.int r]) (rest := []) (n1 := 1) (ci := 10) X dX7_addPallet_8 (c_X7_findRoom l hl0 n i x lm y ol od ⟨by omega, by omega⟩ r) gX7_addPallet_X7_findRoom rfl rfl (by decide +kernel) ⟨by decide, by decide⟩ ck_1 rfl rfl (Nat.le_of_ble_eq_true rfl) ⟨by decide, by decide⟩ (fun E h => ⟨Or.inr (Or.inl (⟨h.1, ⟨hf0, hg0⟩, find_no (by omega) h.2⟩)), rfl⟩) ?_
  rintro _ _ ⟨rfl, rfl, hf1, hg1⟩
  refine z_astore (ls' := [(4, .ref (32 * (cl r) + 8)), (3, .ref (32 * (cl kd) + 10)), (0, .ref 1), (1, .int kd), (2, .int r)]) X dX7_addPallet_11 (by decide) rfl ?_
  refine z_aload_n X 2 dX7_addPallet_13 rfl rfl ?_
  refine z_getR (ci := 10) (j := 2) (o' := 66) X dX7_addPallet_14 ck_1 rfl (by decide) hlk_19 (Or.inl rfl) (fun _ => rfl) (cr_1_2) ?_
  refine z_callVi (As := []) (rest := []) (n1 := 0) (ci := 2) X dX7_addPallet_17 (c_size2 l _ _ _ _ _ _ _) gX7_addPallet_Jx4a65c_size_8abf5 rfl rfl (by decide +kernel) ⟨by decide, by decide⟩ (ck_2 (j := 2) (by decide)) rfl rfl (Nat.le_of_ble_eq_true rfl) ⟨by decide, by decide⟩ (fun _ h => h.elim) ?_
  rintro _ _ ⟨rfl, rfl⟩
  refine z_bipush (v := 24) X dX7_addPallet_20 (by decide) ?_
  refine z_icmp_lt X 35 dX7_addPallet_22 (by decide) (fun c_22 => ?_) (fun c_22 => ?_)
  · skip
    refine z_aload_n X 2 dX7_addPallet_35 rfl rfl ?_
    refine z_aload X 0 dX7_addPallet_36 rfl ?_
    refine z_callVv (As := [.ref (32 * (cl r) + 8)]) (rest := []) (n1 := 1) (ci := 10) X dX7_addPallet_38 (c_X7_requireSpace l hl0 n i x lm y ol od (⟨⟨hn0, hn1, hn2, hn3⟩, ⟨hb5, hb6, hb7, hb8⟩, hp9, hs9, ho9⟩) (cl r) (by omega)) gX7_addPallet_X7_requireSpace rfl rfl (by decide +kernel) ⟨by decide, by decide⟩ ck_1 rfl rfl (Nat.le_of_ble_eq_true rfl) ⟨by decide, by decide⟩ (fun E h => ⟨Or.inr (Or.inr (⟨h.1, ⟨hf0, hg0⟩, ⟨hf1, hg1⟩, fun h9 => h.2 h9.2⟩)), rfl⟩) ?_
    rintro _ ⟨rfl, hz2⟩
    refine z_aload_n X 2 dX7_addPallet_41 rfl rfl ?_
    refine z_getR (ci := 10) (j := 2) (o' := 66) X dX7_addPallet_42 ck_1 rfl (by decide) hlk_19 (Or.inl rfl) (fun _ => rfl) (cr_1_2) ?_
    refine z_callVi (As := []) (rest := []) (n1 := 0) (ci := 2) X dX7_addPallet_45 (c_size2 l _ _ _ _ _ _ _) gX7_addPallet_Jx4a65c_size_8abf5 rfl rfl (by decide +kernel) ⟨by decide, by decide⟩ (ck_2 (j := 2) (by decide)) rfl rfl (Nat.le_of_ble_eq_true rfl) ⟨by decide, by decide⟩ (fun _ h => h.elim) ?_
    rintro _ _ ⟨rfl, rfl⟩
    refine z_istore (ls' := [(5, .int (nI (n 7))), (4, .ref (32 * (cl r) + 8)), (3, .ref (32 * (cl kd) + 10)), (0, .ref 1), (1, .int kd), (2, .int r)]) X dX7_addPallet_48 (by decide) rfl ?_
    refine z_aload_n X 3 dX7_addPallet_50 rfl rfl ?_
    refine z_getR (ci := 10) (j := 2) (o' := 66) X dX7_addPallet_51 ck_1 rfl (by decide) hlk_19 (Or.inl rfl) (fun _ => rfl) (cr_1_2) ?_
    have hfr : zc (cmm n i x lm y ol od) (32 * n 2 + 11) = 0 := (c_c (t := 11) (by decide)).trans (if_neg (Nat.lt_irrefl _))
    refine z_new (ci := 7) X (32 * n 2 + 11) dX7_addPallet_54 rfl (by decide +kernel) (by decide +kernel) (by decide +kernel) hfr (show 32 * n 2 + 11 ≠ 31 by omega) (show 32 * n 2 + 11 ≠ 63 by omega) ⟨by decide, by decide⟩ ?_
    have hnew : zc (znew (cmm n i x lm y ol od) (32 * n 2 + 11) 8 0) (32 * n 2 + 11) = 8 := if_pos rfl
    refine z_dup X dX7_addPallet_57 rfl ?_
    refine z_iload X 0 dX7_addPallet_58 rfl ?_
    refine z_aload_n X 2 dX7_addPallet_60 rfl rfl ?_
    refine z_aload X 1 dX7_addPallet_61 rfl ?_
    refine z_aload_n X 3 dX7_addPallet_63 rfl rfl ?_
    refine z_getI (ci := 10) (j := 6) (x := i 1 0) X dX7_addPallet_64 (show zc (znew (cmm n i x lm y ol od) (32 * n 2 + 11) 8 0) 1 = 11 from (znew_c (by omega)).trans ck_1) rfl (by decide) hlk_39 (Or.inl rfl) (fun _ => rfl) ((show zi (znew (cmm n i x lm y ol od) (32 * n 2 + 11) 8 0) 1 6 = i 1 0 from (znew_i (by omega)).trans ci_1_6)) ?_
    have hk9 : zc (znew (cmm n i x lm y ol od) (32 * n 2 + 11) 8 0) (32 * cl kd + 10) = 4 + 1 := (znew_c (by omega)).trans (ck_10 (by omega))
    have hs9a : zc (znew (cmm n i x lm y ol od) (32 * n 2 + 11) 8 0) (32 * n 4 + 12) = 0 := (znew_c (by omega)).trans ((c_c (t := 12) (by decide)).trans (if_neg (Nat.lt_irrefl _)))
    have hlf9 : zi (znew (cmm n i x lm y ol od) (32 * n 2 + 11) 8 0) (32 * cl kd + 10) 0 = i 127 (cl kd) := (znew_i (by omega)).trans ci_10_0
    refine z_callIv (As := [.int (nI (n 7)), .ref (32 * (cl kd) + 10), .ref (32 * (cl r) + 8), .int (i 1 0)]) (rest := [.ref (32 * n 2 + 11), .ref 66]) (n1 := 4) X dX7_addPallet_67 (c_X4_init l (znew (cmm n i x lm y ol od) (32 * n 2 + 11) 8 0) (32 * n 2 + 11) (32 * n 4 + 12) (32 * cl kd + 10) (32 * cl r + 8) hnew hk9 hs9a (show 32 * n 4 + 12 ≠ 31 by omega) (show 32 * n 4 + 12 ≠ 63 by omega) (nI (n 7)) (i 1 0) (i 127 (cl kd)) hlf9) gX7_addPallet_X4_init rfl (by decide +kernel) (by decide +kernel) (by decide +kernel) rfl rfl (by decide +kernel) ⟨by decide, by decide⟩ rfl (Nat.le_of_ble_eq_true rfl) ⟨by decide, by decide⟩ (fun _ h => h.elim) ?_
    rintro _ e9
    rw [e9, ← hn2]
    refine z_memq (M' := cmm (nup (nup n 2 (n 2 + 1)) 4 (n 4 + 1)) (zup (zup (zup i 134 (n 2) 114) 131 (n 2) kd) 133 (n 2) (i 127 (cl kd))) (zup (zup x 3 (n 2) 960) 4 (n 4) (i 1 0)) lm (zup (zup (zup y 1 (n 4) (cl r)) 2 (n 4) 0) 0 (n 2) (n 4)) ol od) zq_pallet ?_
    refine z_callVi (As := [.ref (32 * n 2 + 11)]) (rest := []) (n1 := 1) (ci := 2) X dX7_addPallet_70 (c_add2 l (nup (nup n 2 (n 2 + 1)) 4 (n 4 + 1)) (zup (zup (zup i 134 (n 2) 114) 131 (n 2) kd) 133 (n 2) (i 127 (cl kd))) (zup (zup x 3 (n 2) 960) 4 (n 4) (i 1 0)) lm (zup (zup (zup y 1 (n 4) (cl r)) 2 (n 4) 0) 0 (n 2) (n 4)) ol od (n 2) ((nup_n (by decide)).trans ((nup_n (by decide)).trans hn2.symm)) (by rw [nup_n (by decide), nup_s]; omega) (by have := nI_lti (a := n 7) (b := 24) (by omega) c_22; omega)) gX7_addPallet_Jx4a65c_add_9ea2d rfl rfl (by decide +kernel) ⟨by decide, by decide⟩ (ck_2 (j := 2) (by decide)) rfl rfl (Nat.le_of_ble_eq_true rfl) ⟨by decide, by decide⟩ (fun _ h => h.elim) ?_
    intro r9 _ e9
    rw [show _ = _ from e9]
    refine z_pop X dX7_addPallet_73 rfl ?_
    refine z_iload X 0 dX7_addPallet_74 rfl ?_
    refine z_iret X rfl rfl (Nat.le_of_ble_eq_true rfl) (Nat.le_of_ble_eq_true rfl) dX7_addPallet_76 ?_
    exact ⟨_, rfl, ⟨hf0, hg0⟩, ⟨hf1, hg1⟩, ⟨nI_lti (by omega) c_22, hz2⟩, by rw [hn2], rfl⟩
  · skip
    exact z_throwS X hl0 (cls := "java/lang/IllegalStateException") (text := "there are 24 pallets") (ik := 50) (is := 172) (ic := 54) (by decide +kernel) (by decide +kernel) (by decide +kernel) rfl dX7_addPallet_25 dX7_addPallet_28 dX7_addPallet_29 dX7_addPallet_31 dX7_addPallet_34 (by decide) (by decide) ⟨by decide, by decide⟩ rfl (Or.inr (Or.inr ⟨rfl, ⟨hf0, hg0⟩, ⟨hf1, hg1⟩, fun h9 => c_22 (nI_lt (b := 24) h9.1 (by decide))⟩))
