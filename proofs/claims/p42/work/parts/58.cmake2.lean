/-! PART 58: order and enter -/
set_option maxRecDepth 100000 in
set_option maxHeartbeats 4000000 in
theorem c_X7_order (l : Launch) (hl0 : l.stackTraces = false) (n : Nat → Nat) (i x : Nat → Nat → Int32) (lm : Nat → Nat → Int64) (y : Nat → Nat → Nat) (ol : Int64) (od : UInt64) (hW : cW n i y) (kd : Int32) (a : Int32) (b : Int32) (c : Int32) : zS l yX7_order wsX7_order 12 222 8 1100 [.ref 1, .int kd, .int a, .int b, .int c] (cmm n i x lm y ol od) (zpi (fun v9 M1 => (cl kd < n 6 ∧ kd = nI (cl kd)) ∧ (zin a 1 8 ∧ zin b 0 9999 ∧ zin c (i 1 0 + 1) 960) ∧ (n 8 < 12) ∧ v9 = nI (n 3 + 1) - 1 ∧ M1 = cmm (nup (nup n 3 (n 3 + 1)) 8 (n 3 + 1)) (zup (zup (zup (zup (zup (zup i 140 (n 3) 111) 141 (n 3) 0) 136 (n 3) kd) 137 (n 3) a) 138 (n 3) b) 139 (n 3) c) x lm y ol od)) (fun E => (E = "java/lang/IndexOutOfBoundsException" ∧ ¬ (cl kd < n 6 ∧ kd = nI (cl kd))) ∨ (E = "java/lang/IllegalArgumentException" ∧ (cl kd < n 6 ∧ kd = nI (cl kd)) ∧ ¬ (zin a 1 8 ∧ zin b 0 9999 ∧ zin c (i 1 0 + 1) 960)) ∨ (E = "java/lang/IllegalStateException" ∧ (cl kd < n 6 ∧ kd = nI (cl kd)) ∧ (zin a 1 8 ∧ zin b 0 9999 ∧ zin c (i 1 0 + 1) 960) ∧ ¬ (n 8 < 12))) := by
  refine z_intro (cc := cX7_order) (maxL := 6) (ret := (some .int)) (by decide +kernel) rfl (Nat.le_of_ble_eq_true rfl) ?_
  have hlk_39 : Cond.fieldLink RX7 39 "ColdStore" "time" "I" ∈ wsX7_order := by decide +kernel
  have hlk_22 : Cond.fieldLink RX7 22 "ColdStore" "orders" "Ljava/util/ArrayList;" ∈ wsX7_order := by decide +kernel
  intro g X
  show zE g 6 0 [(0, .ref 1), (1, .int kd), (2, .int a), (3, .int b), (4, .int c)] [] (cmm n i x lm y ol od) 0 0
  obtain ⟨⟨hn0, hn1, hn2, hn3⟩, ⟨hb5, hb6, hb7, hb8⟩, hp9, hs9, ho9⟩ := hW
  refine z_aload_n X 0 dX7_order_0 rfl rfl ?_
  refine z_iload_n X 1 dX7_order_1 rfl rfl ?_
  refine z_callVr (As := [.int kd]) (rest := []) (n1 := 1) (ci := 10) X dX7_order_2 (c_X7_findKind l hl0 n i x lm y ol od ⟨by omega, by omega⟩ kd) gX7_order_X7_findKind rfl rfl (by decide +kernel) ⟨by decide, by decide⟩ ck_1 rfl rfl (Nat.le_of_ble_eq_true rfl) ⟨by decide, by decide⟩ (fun E h => ⟨Or.inl (⟨h.1, find_no (by omega) h.2⟩), rfl⟩) ?_
  rintro _ _ ⟨rfl, rfl, hf0, hg0⟩
  refine z_astore (ls' := [(5, .ref (32 * (cl kd) + 10)), (0, .ref 1), (1, .int kd), (2, .int a), (3, .int b), (4, .int c)]) X dX7_order_5 (by decide) rfl ?_
  refine z_iload_n X 3 dX7_order_7 rfl rfl ?_
  refine z_iconst (v := 1) X dX7_order_8 (by decide) ?_
  refine z_bipush (v := 8) X dX7_order_9 (by decide) ?_
  refine z_callSv (As := [.int a, .int 1, .int 8]) (rest := []) (n1 := 3) X dX7_order_11 (c_X7_requireRange l hl0 (cmm n i x lm y ol od) a 1 8) gX7_order_X7_requireRange rfl rfl (by decide +kernel) ⟨by decide, by decide⟩ rfl (Nat.le_of_ble_eq_true rfl) ⟨by decide, by decide⟩ (fun E h => ⟨Or.inr (Or.inl (⟨h.1, ⟨hf0, hg0⟩, fun h9 => h.2 h9.1⟩)), rfl⟩) ?_
  rintro _ ⟨rfl, hz1⟩
  refine z_iload_n X 4 dX7_order_14 rfl rfl ?_
  refine z_iconst (v := 0) X dX7_order_15 (by decide) ?_
  refine z_sipush (v := 9999) X dX7_order_16 (by decide) ?_
  refine z_callSv (As := [.int b, .int 0, .int 9999]) (rest := []) (n1 := 3) X dX7_order_19 (c_X7_requireRange l hl0 (cmm n i x lm y ol od) b 0 9999) gX7_order_X7_requireRange rfl rfl (by decide +kernel) ⟨by decide, by decide⟩ rfl (Nat.le_of_ble_eq_true rfl) ⟨by decide, by decide⟩ (fun E h => ⟨Or.inr (Or.inl (⟨h.1, ⟨hf0, hg0⟩, fun h9 => h.2 h9.2.1⟩)), rfl⟩) ?_
  rintro _ ⟨rfl, hz2⟩
  refine z_iload X 5 dX7_order_22 rfl ?_
  refine z_aload_n X 1 dX7_order_24 rfl rfl ?_
  refine z_getI (ci := 10) (j := 6) (x := i 1 0) X dX7_order_25 ck_1 rfl (by decide) hlk_39 (Or.inl rfl) (fun _ => rfl) (ci_1_6) ?_
  refine z_iconst (v := 1) X dX7_order_28 (by decide) ?_
  refine z_iadd X dX7_order_29 ?_
  refine z_sipush (v := 960) X dX7_order_30 (by decide) ?_
  refine z_callSv (As := [.int c, .int ((i 1 0) + 1), .int 960]) (rest := []) (n1 := 3) X dX7_order_33 (c_X7_requireRange l hl0 (cmm n i x lm y ol od) c ((i 1 0) + 1) 960) gX7_order_X7_requireRange rfl rfl (by decide +kernel) ⟨by decide, by decide⟩ rfl (Nat.le_of_ble_eq_true rfl) ⟨by decide, by decide⟩ (fun E h => ⟨Or.inr (Or.inl (⟨h.1, ⟨hf0, hg0⟩, fun h9 => h.2 h9.2.2⟩)), rfl⟩) ?_
  rintro _ ⟨rfl, hz3⟩
  refine z_aload_n X 1 dX7_order_36 rfl rfl ?_
  refine z_getR (ci := 10) (j := 3) (o' := 98) X dX7_order_37 ck_1 rfl (by decide) hlk_22 (Or.inl rfl) (fun _ => rfl) (cr_1_3) ?_
  refine z_callVi (As := []) (rest := []) (n1 := 0) (ci := 2) X dX7_order_40 (c_size3 l _ _ _ _ _ _ _) gX7_order_Jx4a65c_size_8abf5 rfl rfl (by decide +kernel) ⟨by decide, by decide⟩ (ck_2 (j := 3) (by decide)) rfl rfl (Nat.le_of_ble_eq_true rfl) ⟨by decide, by decide⟩ (fun _ h => h.elim) ?_
  rintro _ _ ⟨rfl, rfl⟩
  refine z_bipush (v := 12) X dX7_order_43 (by decide) ?_
  refine z_icmp_lt X 58 dX7_order_45 (by decide) (fun c_45 => ?_) (fun c_45 => ?_)
  · skip
    refine z_aload_n X 1 dX7_order_58 rfl rfl ?_
    refine z_getR (ci := 10) (j := 3) (o' := 98) X dX7_order_59 ck_1 rfl (by decide) hlk_22 (Or.inl rfl) (fun _ => rfl) (cr_1_3) ?_
    have hfr : zc (cmm n i x lm y ol od) (32 * n 3 + 13) = 0 := (c_c (t := 13) (by decide)).trans (if_neg (Nat.lt_irrefl _))
    refine z_new (ci := 6) X (32 * n 3 + 13) dX7_order_62 rfl (by decide +kernel) (by decide +kernel) (by decide +kernel) hfr (show 32 * n 3 + 13 ≠ 31 by omega) (show 32 * n 3 + 13 ≠ 63 by omega) ⟨by decide, by decide⟩ ?_
    have hnew : zc (znew (cmm n i x lm y ol od) (32 * n 3 + 13) 7 0) (32 * n 3 + 13) = 7 := if_pos rfl
    refine z_dup X dX7_order_65 rfl ?_
    refine z_aload X 0 dX7_order_66 rfl ?_
    refine z_iload_n X 3 dX7_order_68 rfl rfl ?_
    refine z_iload_n X 4 dX7_order_69 rfl rfl ?_
    refine z_iload X 5 dX7_order_70 rfl ?_
    refine z_callIv (As := [.ref (32 * (cl kd) + 10), .int a, .int b, .int c]) (rest := [.ref (32 * n 3 + 13), .ref 98]) (n1 := 4) X dX7_order_72 (c_X3_init l (znew (cmm n i x lm y ol od) (32 * n 3 + 13) 7 0) (32 * n 3 + 13) (32 * cl kd + 10) hnew a b c) gX7_order_X3_init rfl (by decide +kernel) (by decide +kernel) (by decide +kernel) rfl rfl (by decide +kernel) ⟨by decide, by decide⟩ rfl (Nat.le_of_ble_eq_true rfl) ⟨by decide, by decide⟩ (fun _ h => h.elim) ?_
    rintro _ e9
    rw [e9]
    refine z_memq (M' := cmm (nup n 3 (n 3 + 1)) (zup (zup (zup (zup (zup (zup i 140 (n 3) 111) 141 (n 3) 0) 136 (n 3) kd) 137 (n 3) a) 138 (n 3) b) 139 (n 3) c) x lm y ol od) zq_order ?_
    refine z_callVi (As := [.ref (32 * n 3 + 13)]) (rest := []) (n1 := 1) (ci := 2) X dX7_order_75 (c_add3 l (nup n 3 (n 3 + 1)) (zup (zup (zup (zup (zup (zup i 140 (n 3) 111) 141 (n 3) 0) 136 (n 3) kd) 137 (n 3) a) 138 (n 3) b) 139 (n 3) c) x lm y ol od (n 3) ((nup_n (by decide)).trans hn3.symm) (by rw [nup_s]; omega) (by have := nI_lti (a := n 8) (b := 12) (by omega) c_45; omega)) gX7_order_Jx4a65c_add_9ea2d rfl rfl (by decide +kernel) ⟨by decide, by decide⟩ (ck_2 (j := 3) (by decide)) rfl rfl (Nat.le_of_ble_eq_true rfl) ⟨by decide, by decide⟩ (fun _ h => h.elim) ?_
    intro r9 _ e9
    rw [show _ = _ from e9]
    refine z_pop X dX7_order_78 rfl ?_
    refine z_aload_n X 1 dX7_order_79 rfl rfl ?_
    refine z_getR (ci := 10) (j := 3) (o' := 98) X dX7_order_80 ck_1 rfl (by decide) hlk_22 (Or.inl rfl) (fun _ => rfl) (cr_1_3) ?_
    have hsz9 : (nup (nup n 3 (n 3 + 1)) 8 (n 3 + 1)) 8 = n 3 + 1 := nup_s
    refine z_callVi (As := []) (rest := []) (n1 := 0) (ci := 2) X dX7_order_83 (c_size3 l (nup (nup n 3 (n 3 + 1)) 8 (n 3 + 1)) (zup (zup (zup (zup (zup (zup i 140 (n 3) 111) 141 (n 3) 0) 136 (n 3) kd) 137 (n 3) a) 138 (n 3) b) 139 (n 3) c) x lm y ol od) gX7_order_Jx4a65c_size_8abf5 rfl rfl (by decide +kernel) ⟨by decide, by decide⟩ (ck_2 (j := 3) (by decide)) rfl rfl (Nat.le_of_ble_eq_true rfl) ⟨by decide, by decide⟩ (fun _ h => h.elim) ?_
    rintro _ _ ⟨e8, e9⟩
    rw [e8, e9, hsz9]
    refine z_iconst (v := 1) X dX7_order_86 (by decide) ?_
    refine z_isub X dX7_order_87 ?_
    refine z_iret X rfl rfl (Nat.le_of_ble_eq_true rfl) (Nat.le_of_ble_eq_true rfl) dX7_order_88 ?_
    exact ⟨_, rfl, ⟨hf0, hg0⟩, ⟨hz1, hz2, hz3⟩, nI_lti (by omega) c_45, rfl, rfl⟩
  · skip
    exact z_throwS X hl0 (cls := "java/lang/IllegalStateException") (text := "there are 12 orders") (ik := 50) (is := 254) (ic := 54) (by decide +kernel) (by decide +kernel) (by decide +kernel) rfl dX7_order_48 dX7_order_51 dX7_order_52 dX7_order_54 dX7_order_57 (by decide) (by decide) ⟨by decide, by decide⟩ rfl (Or.inr (Or.inr (⟨rfl, ⟨hf0, hg0⟩, ⟨hz1, hz2, hz3⟩, fun h9 => c_45 (nI_lt (b := 12) h9 (by decide))⟩)))

set_option maxRecDepth 100000 in
set_option maxHeartbeats 4000000 in
theorem c_X4_enter (l : Launch) (n : Nat → Nat) (i x : Nat → Nat → Int32) (lm : Nat → Nat → Int64) (y : Nat → Nat → Nat) (ol : Int64) (od : UInt64) (hW : cW n i y) (p r : Nat) (hp : p < n 7) (hr : r < n 5) (tm : Int32) : zS l yX4_enter wsX4_enter 2 43 1 3 [.ref (32 * p + 11), .ref (32 * r + 8), .int tm] (cmm n i x lm y ol od) (zpv (fun M1 => M1 = cmm (nup n 4 (n 4 + 1)) i (zup x 4 (n 4) tm) lm (zup (zup (zup y 1 (n 4) r) 2 (n 4) (if x 4 (y 0 p) = tm then y 2 (y 0 p) else y 0 p + 1)) 0 p (n 4)) ol od)) zno := by
  refine z_intro (cc := cX4_enter) (maxL := 4) (ret := none) (by decide +kernel) rfl (Nat.le_of_ble_eq_true rfl) ?_
  have hlk_31 : Cond.fieldLink RX4 31 "ColdStore$Pallet" "stay" "LColdStore$Stay;" ∈ wsX4_enter := by decide +kernel
  have hlk_43 : Cond.fieldLink RX4 43 "ColdStore$Stay" "since" "I" ∈ wsX4_enter := by decide +kernel
  have hlk_46 : Cond.fieldLink RX4 46 "ColdStore$Stay" "earlier" "LColdStore$Stay;" ∈ wsX4_enter := by decide +kernel
  intro g X
  show zE g 4 0 [(0, .ref (32 * p + 11)), (1, .ref (32 * r + 8)), (2, .int tm)] [] (cmm n i x lm y ol od) 0 0
  obtain ⟨⟨hn0, hn1, hn2, hn3⟩, ⟨hb5, hb6, hb7, hb8⟩, hp9, hs9, ho9⟩ := hW
  refine z_aload_n X 0 dX4_enter_0 rfl rfl ?_
  refine z_getR (ci := 7) (j := 2) (o' := 32 * (y 0 p) + 12) X dX4_enter_1 (ck_11 (by omega)) rfl (by decide) hlk_31 (Or.inl rfl) (fun _ => rfl) (cr_11_2) ?_
  refine z_getI (ci := 9) (j := 1) (x := x 4 (y 0 p)) X dX4_enter_4 (ck_12 (by have := (hp9 p (by omega)).2.1; omega)) rfl (by decide) hlk_43 (Or.inl rfl) (fun _ => rfl) (ci_12_1) ?_
  refine z_iload_n X 2 dX4_enter_7 rfl rfl ?_
  refine z_icmp_ne X 21 dX4_enter_8 (by decide) (fun c_8 => ?_) (fun c_8 => ?_)
  · skip
    refine z_aload_n X 0 dX4_enter_21 rfl rfl ?_
    refine z_getR (ci := 7) (j := 2) (o' := 32 * (y 0 p) + 12) X dX4_enter_22 (ck_11 (by omega)) rfl (by decide) hlk_31 (Or.inl rfl) (fun _ => rfl) (cr_11_2) ?_
    refine z_astore_n (ls' := [(3, .ref (32 * (y 0 p) + 12)), (0, .ref (32 * p + 11)), (1, .ref (32 * r + 8)), (2, .int tm)]) X dX4_enter_25 rfl (by decide) rfl ?_
    refine z_aload_n X 1 dX4_enter_26 rfl rfl ?_
    have hfr : zc (cmm n i x lm y ol od) (32 * n 4 + 12) = 0 := (c_c (t := 12) (by decide)).trans (if_neg (Nat.lt_irrefl _))
    refine z_new (ci := 9) X (32 * n 4 + 12) dX4_enter_27 rfl (by decide +kernel) (by decide +kernel) (by decide +kernel) hfr (show 32 * n 4 + 12 ≠ 31 by omega) (show 32 * n 4 + 12 ≠ 63 by omega) ⟨by decide, by decide⟩ ?_
    have hnew : zc (znew (cmm n i x lm y ol od) (32 * n 4 + 12) 10 0) (32 * n 4 + 12) = 10 := if_pos rfl
    refine z_dup X dX4_enter_30 rfl ?_
    refine z_aload_n X 2 dX4_enter_31 rfl rfl ?_
    refine z_iload_n X 3 dX4_enter_32 rfl rfl ?_
    refine z_aload_n X 0 dX4_enter_33 rfl rfl ?_
    refine z_callIv (As := [.ref (32 * r + 8), .int tm, .ref (32 * (y 0 p) + 12)]) (rest := [.ref (32 * n 4 + 12), .ref (32 * p + 11)]) (n1 := 3) X dX4_enter_34 (c_X6_initS l (znew (cmm n i x lm y ol od) (32 * n 4 + 12) 10 0) (32 * n 4 + 12) (32 * r + 8) (32 * (y 0 p) + 12) hnew tm) gX4_enter_X6_init rfl (by decide +kernel) (by decide +kernel) (by decide +kernel) rfl rfl (by decide +kernel) ⟨by decide, by decide⟩ rfl (Nat.le_of_ble_eq_true rfl) ⟨by decide, by decide⟩ (fun _ h => h.elim) ?_
    rintro _ e9
    rw [e9]
    refine z_memq (M' := cmm (nup n 4 (n 4 + 1)) i (zup x 4 (n 4) tm) lm (zup (zup y 1 (n 4) r) 2 (n 4) ((y 0 p) + 1)) ol od) (zq_stayS (e := (y 0 p))) ?_
    refine z_putR (ci := 7) (j := 2) X dX4_enter_37 (ck_11 (by rw [nup_n (by decide)]; omega)) rfl (by decide) hlk_31 (Or.inl rfl) (Or.inl rfl) (fun _ => rfl) (fun _ => rfl) (fun _ => rfl) ?_
    refine z_mem (M' := cmm (nup n 4 (n 4 + 1)) i (zup x 4 (n 4) tm) lm (zup (zup (zup y 1 (n 4) r) 2 (n 4) ((y 0 p) + 1)) 0 p (n 4)) ol od) cw_y ?_
    refine z_vret X rfl (Nat.le_of_ble_eq_true rfl) (Nat.le_of_ble_eq_true rfl) dX4_enter_40 ?_
    exact ⟨rfl, by rw [show (if x 4 (y 0 p) = tm then y 2 (y 0 p) else y 0 p + 1) = (y 0 p) + 1 from if_neg c_8]⟩
  · skip
    refine z_aload_n X 0 dX4_enter_11 rfl rfl ?_
    refine z_getR (ci := 7) (j := 2) (o' := 32 * (y 0 p) + 12) X dX4_enter_12 (ck_11 (by omega)) rfl (by decide) hlk_31 (Or.inl rfl) (fun _ => rfl) (cr_11_2) ?_
    rcases Decidable.em (y 2 (y 0 p) = 0) with he0 | he0
    · skip
      refine z_getN (ci := 9) (j := 2) X dX4_enter_15 (ck_12 (by have := (hp9 p (by omega)).2.1; omega)) rfl (by decide) hlk_46 (Or.inl rfl) (fun _ => rfl) (cr_12_2n he0) ?_
      refine z_goto (tgt := 25) X dX4_enter_18 (by decide) ?_
      refine z_astore_nN (ls' := [(3, .null), (0, .ref (32 * p + 11)), (1, .ref (32 * r + 8)), (2, .int tm)]) X dX4_enter_25 rfl (by decide) rfl ?_
      refine z_aload_n X 1 dX4_enter_26 rfl rfl ?_
      have hfr : zc (cmm n i x lm y ol od) (32 * n 4 + 12) = 0 := (c_c (t := 12) (by decide)).trans (if_neg (Nat.lt_irrefl _))
      refine z_new (ci := 9) X (32 * n 4 + 12) dX4_enter_27 rfl (by decide +kernel) (by decide +kernel) (by decide +kernel) hfr (show 32 * n 4 + 12 ≠ 31 by omega) (show 32 * n 4 + 12 ≠ 63 by omega) ⟨by decide, by decide⟩ ?_
      have hnew : zc (znew (cmm n i x lm y ol od) (32 * n 4 + 12) 10 0) (32 * n 4 + 12) = 10 := if_pos rfl
      refine z_dup X dX4_enter_30 rfl ?_
      refine z_aload_n X 2 dX4_enter_31 rfl rfl ?_
      refine z_iload_n X 3 dX4_enter_32 rfl rfl ?_
      refine z_aload_nN X 0 dX4_enter_33 rfl rfl ?_
      refine z_callIv (As := [.ref (32 * r + 8), .int tm, .null]) (rest := [.ref (32 * n 4 + 12), .ref (32 * p + 11)]) (n1 := 3) X dX4_enter_34 (c_X6_initN l (znew (cmm n i x lm y ol od) (32 * n 4 + 12) 10 0) (32 * n 4 + 12) (32 * r + 8) hnew tm) gX4_enter_X6_init rfl (by decide +kernel) (by decide +kernel) (by decide +kernel) rfl rfl (by decide +kernel) ⟨by decide, by decide⟩ rfl (Nat.le_of_ble_eq_true rfl) ⟨by decide, by decide⟩ (fun _ h => h.elim) ?_
      rintro _ e9
      rw [e9]
      refine z_memq (M' := cmm (nup n 4 (n 4 + 1)) i (zup x 4 (n 4) tm) lm (zup (zup y 1 (n 4) r) 2 (n 4) 0) ol od) zq_stayN ?_
      refine z_putR (ci := 7) (j := 2) X dX4_enter_37 (ck_11 (by rw [nup_n (by decide)]; omega)) rfl (by decide) hlk_31 (Or.inl rfl) (Or.inl rfl) (fun _ => rfl) (fun _ => rfl) (fun _ => rfl) ?_
      refine z_mem (M' := cmm (nup n 4 (n 4 + 1)) i (zup x 4 (n 4) tm) lm (zup (zup (zup y 1 (n 4) r) 2 (n 4) 0) 0 p (n 4)) ol od) cw_y ?_
      refine z_vret X rfl (Nat.le_of_ble_eq_true rfl) (Nat.le_of_ble_eq_true rfl) dX4_enter_40 ?_
      exact ⟨rfl, by rw [show (if x 4 (y 0 p) = tm then y 2 (y 0 p) else y 0 p + 1) = 0 from (if_pos c_8).trans he0]⟩
    · skip
      refine z_getR (ci := 9) (j := 2) (o' := 32 * (y 2 (y 0 p) - 1) + 12) X dX4_enter_15 (ck_12 (by have := (hp9 p (by omega)).2.1; omega)) rfl (by decide) hlk_46 (Or.inl rfl) (fun _ => rfl) (cr_12_2 he0) ?_
      refine z_goto (tgt := 25) X dX4_enter_18 (by decide) ?_
      refine z_astore_n (ls' := [(3, .ref (32 * (y 2 (y 0 p) - 1) + 12)), (0, .ref (32 * p + 11)), (1, .ref (32 * r + 8)), (2, .int tm)]) X dX4_enter_25 rfl (by decide) rfl ?_
      refine z_aload_n X 1 dX4_enter_26 rfl rfl ?_
      have hfr : zc (cmm n i x lm y ol od) (32 * n 4 + 12) = 0 := (c_c (t := 12) (by decide)).trans (if_neg (Nat.lt_irrefl _))
      refine z_new (ci := 9) X (32 * n 4 + 12) dX4_enter_27 rfl (by decide +kernel) (by decide +kernel) (by decide +kernel) hfr (show 32 * n 4 + 12 ≠ 31 by omega) (show 32 * n 4 + 12 ≠ 63 by omega) ⟨by decide, by decide⟩ ?_
      have hnew : zc (znew (cmm n i x lm y ol od) (32 * n 4 + 12) 10 0) (32 * n 4 + 12) = 10 := if_pos rfl
      refine z_dup X dX4_enter_30 rfl ?_
      refine z_aload_n X 2 dX4_enter_31 rfl rfl ?_
      refine z_iload_n X 3 dX4_enter_32 rfl rfl ?_
      refine z_aload_n X 0 dX4_enter_33 rfl rfl ?_
      refine z_callIv (As := [.ref (32 * r + 8), .int tm, .ref (32 * (y 2 (y 0 p) - 1) + 12)]) (rest := [.ref (32 * n 4 + 12), .ref (32 * p + 11)]) (n1 := 3) X dX4_enter_34 (c_X6_initS l (znew (cmm n i x lm y ol od) (32 * n 4 + 12) 10 0) (32 * n 4 + 12) (32 * r + 8) (32 * (y 2 (y 0 p) - 1) + 12) hnew tm) gX4_enter_X6_init rfl (by decide +kernel) (by decide +kernel) (by decide +kernel) rfl rfl (by decide +kernel) ⟨by decide, by decide⟩ rfl (Nat.le_of_ble_eq_true rfl) ⟨by decide, by decide⟩ (fun _ h => h.elim) ?_
      rintro _ e9
      rw [e9]
      refine z_memq (M' := cmm (nup n 4 (n 4 + 1)) i (zup x 4 (n 4) tm) lm (zup (zup y 1 (n 4) r) 2 (n 4) ((y 2 (y 0 p) - 1) + 1)) ol od) (zq_stayS (e := (y 2 (y 0 p) - 1))) ?_
      refine z_putR (ci := 7) (j := 2) X dX4_enter_37 (ck_11 (by rw [nup_n (by decide)]; omega)) rfl (by decide) hlk_31 (Or.inl rfl) (Or.inl rfl) (fun _ => rfl) (fun _ => rfl) (fun _ => rfl) ?_
      refine z_mem (M' := cmm (nup n 4 (n 4 + 1)) i (zup x 4 (n 4) tm) lm (zup (zup (zup y 1 (n 4) r) 2 (n 4) ((y 2 (y 0 p) - 1) + 1)) 0 p (n 4)) ol od) cw_y ?_
      refine z_vret X rfl (Nat.le_of_ble_eq_true rfl) (Nat.le_of_ble_eq_true rfl) dX4_enter_40 ?_
      exact ⟨rfl, by rw [show (if x 4 (y 0 p) = tm then y 2 (y 0 p) else y 0 p + 1) = (y 2 (y 0 p) - 1) + 1 from (if_pos c_8).trans (by omega)]⟩
