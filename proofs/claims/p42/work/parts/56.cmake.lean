/-! PART 56: calls of the class that make something -/
theorem nI_lti {a b : Nat} (ha : a < 2 ^ 30) (h : nI a < nI b) : a < b := Nat.lt_of_not_le fun q => absurd h (nI_ge_ q (by omega))
set_option maxRecDepth 100000 in
set_option maxHeartbeats 4000000 in
theorem c_X7_addKind (l : Launch) (hl0 : l.stackTraces = false) (n : Nat → Nat) (i x : Nat → Nat → Int32) (lm : Nat → Nat → Int64) (y : Nat → Nat → Nat) (ol : Int64) (od : UInt64) (hW : cW n i y) (a : Int32) (b : Int32) (c : Int32) : zS l yX7_addKind wsX7_addKind 12 222 8 1100 [.ref 1, .int a, .int b, .int c] (cmm n i x lm y ol od) (zpi (fun v9 M1 => (zin a 1 9999 ∧ zin b (-300) 300 ∧ zin c (-400) (b - 1)) ∧ (n 6 < 5) ∧ v9 = nI (n 1 + 1) - 1 ∧ M1 = cmm (nup (nup n 1 (n 1 + 1)) 6 (n 1 + 1)) (zup (zup (zup i 127 (n 1) a) 128 (n 1) b) 129 (n 1) c) x lm y ol od)) (fun E => (E = "java/lang/IllegalArgumentException" ∧ ¬ (zin a 1 9999 ∧ zin b (-300) 300 ∧ zin c (-400) (b - 1))) ∨ (E = "java/lang/IllegalStateException" ∧ (zin a 1 9999 ∧ zin b (-300) 300 ∧ zin c (-400) (b - 1)) ∧ ¬ (n 6 < 5))) := by
  refine z_intro (cc := cX7_addKind) (maxL := 4) (ret := (some .int)) (by decide +kernel) rfl (Nat.le_of_ble_eq_true rfl) ?_
  have hlk_16 : Cond.fieldLink RX7 16 "ColdStore" "kinds" "Ljava/util/ArrayList;" ∈ wsX7_addKind := by decide +kernel
  intro g X
  show zE g 4 0 [(0, .ref 1), (1, .int a), (2, .int b), (3, .int c)] [] (cmm n i x lm y ol od) 0 0
  obtain ⟨⟨hn0, hn1, hn2, hn3⟩, ⟨hb5, hb6, hb7, hb8⟩, hp9, hs9, ho9⟩ := hW
  refine z_iload_n X 1 dX7_addKind_0 rfl rfl ?_
  refine z_iconst (v := 1) X dX7_addKind_1 (by decide) ?_
  refine z_sipush (v := 9999) X dX7_addKind_2 (by decide) ?_
  refine z_callSv (As := [.int a, .int 1, .int 9999]) (rest := []) (n1 := 3) X dX7_addKind_5 (c_X7_requireRange l hl0 (cmm n i x lm y ol od) a 1 9999) gX7_addKind_X7_requireRange rfl rfl (by decide +kernel) ⟨by decide, by decide⟩ rfl (Nat.le_of_ble_eq_true rfl) ⟨by decide, by decide⟩ (fun E h => ⟨Or.inl (⟨h.1, fun h9 => h.2 h9.1⟩), rfl⟩) ?_
  rintro _ ⟨rfl, hz0⟩
  refine z_iload_n X 2 dX7_addKind_8 rfl rfl ?_
  refine z_sipush (v := (-300)) X dX7_addKind_9 (by decide) ?_
  refine z_sipush (v := 300) X dX7_addKind_12 (by decide) ?_
  refine z_callSv (As := [.int b, .int (-300), .int 300]) (rest := []) (n1 := 3) X dX7_addKind_15 (c_X7_requireRange l hl0 (cmm n i x lm y ol od) b (-300) 300) gX7_addKind_X7_requireRange rfl rfl (by decide +kernel) ⟨by decide, by decide⟩ rfl (Nat.le_of_ble_eq_true rfl) ⟨by decide, by decide⟩ (fun E h => ⟨Or.inl (⟨h.1, fun h9 => h.2 h9.2.1⟩), rfl⟩) ?_
  rintro _ ⟨rfl, hz1⟩
  refine z_iload_n X 3 dX7_addKind_18 rfl rfl ?_
  refine z_sipush (v := (-400)) X dX7_addKind_19 (by decide) ?_
  refine z_iload_n X 2 dX7_addKind_22 rfl rfl ?_
  refine z_iconst (v := 1) X dX7_addKind_23 (by decide) ?_
  refine z_isub X dX7_addKind_24 ?_
  refine z_callSv (As := [.int c, .int (-400), .int (b - 1)]) (rest := []) (n1 := 3) X dX7_addKind_25 (c_X7_requireRange l hl0 (cmm n i x lm y ol od) c (-400) (b - 1)) gX7_addKind_X7_requireRange rfl rfl (by decide +kernel) ⟨by decide, by decide⟩ rfl (Nat.le_of_ble_eq_true rfl) ⟨by decide, by decide⟩ (fun E h => ⟨Or.inl (⟨h.1, fun h9 => h.2 h9.2.2⟩), rfl⟩) ?_
  rintro _ ⟨rfl, hz2⟩
  refine z_aload_n X 0 dX7_addKind_28 rfl rfl ?_
  refine z_getR (ci := 10) (j := 1) (o' := 34) X dX7_addKind_29 ck_1 rfl (by decide) hlk_16 (Or.inl rfl) (fun _ => rfl) (cr_1_1) ?_
  refine z_callVi (As := []) (rest := []) (n1 := 0) (ci := 2) X dX7_addKind_32 (c_size1 l _ _ _ _ _ _ _) gX7_addKind_Jx4a65c_size_8abf5 rfl rfl (by decide +kernel) ⟨by decide, by decide⟩ (ck_2 (j := 1) (by decide)) rfl rfl (Nat.le_of_ble_eq_true rfl) ⟨by decide, by decide⟩ (fun _ h => h.elim) ?_
  rintro _ _ ⟨rfl, rfl⟩
  refine z_iconst (v := 5) X dX7_addKind_35 (by decide) ?_
  refine z_icmp_lt X 49 dX7_addKind_36 (by decide) (fun c_36 => ?_) (fun c_36 => ?_)
  · skip
    refine z_aload_n X 0 dX7_addKind_49 rfl rfl ?_
    refine z_getR (ci := 10) (j := 1) (o' := 34) X dX7_addKind_50 ck_1 rfl (by decide) hlk_16 (Or.inl rfl) (fun _ => rfl) (cr_1_1) ?_
    have hfr : zc (cmm n i x lm y ol od) (32 * n 1 + 10) = 0 := (c_c (t := 10) (by decide)).trans (if_neg (Nat.lt_irrefl _))
    refine z_new (ci := 4) X (32 * n 1 + 10) dX7_addKind_53 rfl (by decide +kernel) (by decide +kernel) (by decide +kernel) hfr (show 32 * n 1 + 10 ≠ 31 by omega) (show 32 * n 1 + 10 ≠ 63 by omega) ⟨by decide, by decide⟩ ?_
    have hnew : zc (znew (cmm n i x lm y ol od) (32 * n 1 + 10) 5 0) (32 * n 1 + 10) = 5 := if_pos rfl
    refine z_dup X dX7_addKind_56 rfl ?_
    refine z_iload_n X 1 dX7_addKind_57 rfl rfl ?_
    refine z_iload_n X 2 dX7_addKind_58 rfl rfl ?_
    refine z_iload_n X 3 dX7_addKind_59 rfl rfl ?_
    refine z_callIv (As := [.int a, .int b, .int c]) (rest := [.ref (32 * n 1 + 10), .ref 34]) (n1 := 3) X dX7_addKind_60 (c_X1_init l (znew (cmm n i x lm y ol od) (32 * n 1 + 10) 5 0) (32 * n 1 + 10) hnew a b c) gX7_addKind_X1_init rfl (by decide +kernel) (by decide +kernel) (by decide +kernel) rfl rfl (by decide +kernel) ⟨by decide, by decide⟩ rfl (Nat.le_of_ble_eq_true rfl) ⟨by decide, by decide⟩ (fun _ h => h.elim) ?_
    rintro _ e9
    rw [e9]
    refine z_memq (M' := cmm (nup n 1 (n 1 + 1)) (zup (zup (zup i 127 (n 1) a) 128 (n 1) b) 129 (n 1) c) x lm y ol od) zq_kind ?_
    refine z_callVi (As := [.ref (32 * n 1 + 10)]) (rest := []) (n1 := 1) (ci := 2) X dX7_addKind_63 (c_add1 l (nup n 1 (n 1 + 1)) (zup (zup (zup i 127 (n 1) a) 128 (n 1) b) 129 (n 1) c) x lm y ol od (n 1) ((nup_n (by decide)).trans hn1.symm) (by rw [nup_s]; omega) (by have := nI_lti (a := n 6) (b := 5) (by omega) c_36; omega)) gX7_addKind_Jx4a65c_add_9ea2d rfl rfl (by decide +kernel) ⟨by decide, by decide⟩ (ck_2 (j := 1) (by decide)) rfl rfl (Nat.le_of_ble_eq_true rfl) ⟨by decide, by decide⟩ (fun _ h => h.elim) ?_
    intro r9 _ e9
    rw [show _ = _ from e9]
    refine z_pop X dX7_addKind_66 rfl ?_
    refine z_aload_n X 0 dX7_addKind_67 rfl rfl ?_
    refine z_getR (ci := 10) (j := 1) (o' := 34) X dX7_addKind_68 ck_1 rfl (by decide) hlk_16 (Or.inl rfl) (fun _ => rfl) (cr_1_1) ?_
    have hsz9 : (nup (nup n 1 (n 1 + 1)) 6 (n 1 + 1)) 6 = n 1 + 1 := nup_s
    refine z_callVi (As := []) (rest := []) (n1 := 0) (ci := 2) X dX7_addKind_71 (c_size1 l (nup (nup n 1 (n 1 + 1)) 6 (n 1 + 1)) (zup (zup (zup i 127 (n 1) a) 128 (n 1) b) 129 (n 1) c) x lm y ol od) gX7_addKind_Jx4a65c_size_8abf5 rfl rfl (by decide +kernel) ⟨by decide, by decide⟩ (ck_2 (j := 1) (by decide)) rfl rfl (Nat.le_of_ble_eq_true rfl) ⟨by decide, by decide⟩ (fun _ h => h.elim) ?_
    rintro _ _ ⟨e8, e9⟩
    rw [e8, e9, hsz9]
    refine z_iconst (v := 1) X dX7_addKind_74 (by decide) ?_
    refine z_isub X dX7_addKind_75 ?_
    refine z_iret X rfl rfl (Nat.le_of_ble_eq_true rfl) (Nat.le_of_ble_eq_true rfl) dX7_addKind_76 ?_
    exact ⟨_, rfl, ⟨hz0, hz1, hz2⟩, nI_lti (by omega) c_36, rfl, rfl⟩
  · skip
    exact z_throwS X hl0 (cls := "java/lang/IllegalStateException") (text := "there are 5 kinds") (ik := 50) (is := 162) (ic := 54) (by decide +kernel) (by decide +kernel) (by decide +kernel) rfl dX7_addKind_39 dX7_addKind_42 dX7_addKind_43 dX7_addKind_45 dX7_addKind_48 (by decide) (by decide) ⟨by decide, by decide⟩ rfl (Or.inr (⟨rfl, ⟨hz0, hz1, hz2⟩, fun h9 => c_36 (nI_lt (b := 5) h9 (by decide))⟩))
