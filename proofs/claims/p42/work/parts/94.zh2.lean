/-! PART 94h: the law's helpers -/
set_option maxRecDepth 100000 in
set_option maxHeartbeats 4000000 in
theorem h_setL (l : Launch) (hl0 : l.stackTraces = false) {n : Nat → Nat} {i x : Nat → Nat → Int32} {lm : Nat → Nat → Int64} {y : Nat → Nat → Nat} {t : Nat} (h : xSI n i x lm y t) (ol : Int64) (od : UInt64) (r : Int32) (a : Int32) (b : Int32) : zS l yL_sets wsL_sets 11 200 4 40 [.ref 1, .int r, .int 108, .int a, .int b] (cmm n i x lm y ol od) (zpi (fun v M1 => if cl r < n 5 ∧ r = nI (cl r) then (if zin a (-300) 300 ∧ zin b a 300 then (¬ v < -1000 ∧ xgO n ol od 0 0 0 (i 1 0) (i 138) (xZT) M1) else (v = (-1002) ∧ M1 = cmm n i x lm y ol od)) else (v = (-1001) ∧ M1 = cmm n i x lm y ol od))) zno := by
  refine z_introW (cc := cL_sets) (maxL := 6) (ret := (some .int)) (hh := [(0, 67, 68, 36), (0, 67, 74, 13)]) (by decide +kernel) rfl (Nat.le_of_ble_eq_true rfl) ?_
  intro g X
  show zE g 6 0 [(0, .ref 1), (1, .int r), (2, .int 108), (3, .int a), (4, .int b)] [] (cmm n i x lm y ol od) 0 0
  refine z_iload_n X 2 dL_sets_0 rfl rfl ?_
  refine z_bipush (v := 108) X dL_sets_1 (by decide) ?_
  refine z_icmp_ne X 17 dL_sets_3 (by decide) (fun c_3 => ?_) (fun c_3 => ?_)
  · exact absurd c_3 (by decide)
  · skip
    refine z_aload_n X 0 dL_sets_6 rfl rfl ?_
    refine z_iload_n X 1 dL_sets_7 rfl rfl ?_
    refine z_iload_n X 3 dL_sets_8 rfl rfl ?_
    refine z_iload X 4 dL_sets_9 rfl ?_
    refine z_ctcVi (As := [.int r, .int a, .int b]) (rest := []) (n1 := 3) (ci := 10) X dL_sets_11 (c_X7_setLimits l hl0 n i x lm y ol od h.1.1 r a b) gL_sets_X7_setLimits rfl rfl (by decide +kernel) ⟨by decide, by decide⟩ ck_1 rfl rfl (Nat.le_of_ble_eq_true rfl) ⟨by decide, by decide⟩ (fun E he => ?_) ?_
    · rcases he with ⟨rfl, c0⟩ | ⟨rfl, c0, c1⟩
      · skip
        refine ⟨[(0, .ref 1), (1, .int r), (2, .int 108), (3, .int a), (4, .int b)], 70, ⟨[], ⟨0, 67, 68, 36⟩, [⟨0, 67, 74, 13⟩], 5, 2, rfl, fun _ hz => absurd hz List.not_mem_nil, rfl, by decide, by decide +kernel, by decide +kernel, Or.inr ⟨dL_sets_68, rfl⟩, by decide, rfl, rfl⟩, ?_⟩
        refine z_sipush (v := (-1001)) X dL_sets_70 (by decide) ?_
        refine z_iret X rfl rfl (Nat.le_of_ble_eq_true rfl) (Nat.le_of_ble_eq_true rfl) dL_sets_73 ?_
        exact ⟨_, rfl, (xi_n c0 ⟨rfl, rfl⟩)⟩
      · skip
        refine ⟨[(0, .ref 1), (1, .int r), (2, .int 108), (3, .int a), (4, .int b)], 76, ⟨[⟨0, 67, 68, 36⟩], ⟨0, 67, 74, 13⟩, [], 5, 2, rfl, List.forall_mem_cons.mpr ⟨Or.inr ⟨by decide, "java/lang/IndexOutOfBoundsException", by decide +kernel, by decide +kernel, by decide +kernel⟩, fun _ hz => absurd hz List.not_mem_nil⟩, rfl, by decide, by decide +kernel, by decide +kernel, Or.inr ⟨dL_sets_74, rfl⟩, by decide, rfl, rfl⟩, ?_⟩
        refine z_sipush (v := (-1002)) X dL_sets_76 (by decide) ?_
        refine z_iret X rfl rfl (Nat.le_of_ble_eq_true rfl) (Nat.le_of_ble_eq_true rfl) dL_sets_79 ?_
        exact ⟨_, rfl, (xi_p c0 (xi_n c1 ⟨rfl, rfl⟩))⟩
    rintro _ _ ⟨c0, c1, rfl, rfl⟩
    refine z_goto (tgt := 67) X dL_sets_14 (by decide) ?_
    refine z_iret X rfl rfl (Nat.le_of_ble_eq_true rfl) (Nat.le_of_ble_eq_true rfl) dL_sets_67 ?_
    exact ⟨_, rfl, (xi_p c0 (xi_p c1 ⟨xn_1000 (h.2.1 _ c0.1).1 (by decide), xgO_m (n' := n) (i' := zup (zup (zup i 1 43 0) 105 (cl r) a) 106 (cl r) b) (x' := x) (lm' := lm) (y' := y) (t' := t) (eV_zup (eV_zup (eV_43 (by omega) eV_rf) rfl) rfl) rfl (CI_lim (CI_43 h.1) (Int32.not_lt.mp c1.2.1)) (xEI_lim (xEI_43 h.2) c1.1) ⟨rfl, rfl, rfl, (by first | rfl | (repeat rw [zup_n (by omega)]))⟩ (fun o ho => (by first | rfl | (repeat rw [zup_n (by omega)]))) (trivial)⟩))⟩

set_option maxRecDepth 100000 in
set_option maxHeartbeats 4000000 in
theorem h_setD (l : Launch) (hl0 : l.stackTraces = false) {n : Nat → Nat} {i x : Nat → Nat → Int32} {lm : Nat → Nat → Int64} {y : Nat → Nat → Nat} {t : Nat} (h : xSI n i x lm y t) (ol : Int64) (od : UInt64) (r : Int32) (a : Int32) (b : Int32) : zS l yL_sets wsL_sets 11 200 4 40 [.ref 1, .int r, .int 100, .int a, .int b] (cmm n i x lm y ol od) (zpi (fun v M1 => if cl r < n 5 ∧ r = nI (cl r) then (if zin a 0 16 ∧ zin b 0 100 then (¬ v < -1000 ∧ xgO n ol od 0 0 0 (i 1 0) (i 138) (xZT) M1) else (v = (-1002) ∧ M1 = cmm n i x lm y ol od)) else (v = (-1001) ∧ M1 = cmm n i x lm y ol od))) zno := by
  refine z_introW (cc := cL_sets) (maxL := 6) (ret := (some .int)) (hh := [(0, 67, 68, 36), (0, 67, 74, 13)]) (by decide +kernel) rfl (Nat.le_of_ble_eq_true rfl) ?_
  intro g X
  show zE g 6 0 [(0, .ref 1), (1, .int r), (2, .int 100), (3, .int a), (4, .int b)] [] (cmm n i x lm y ol od) 0 0
  refine z_iload_n X 2 dL_sets_0 rfl rfl ?_
  refine z_bipush (v := 108) X dL_sets_1 (by decide) ?_
  refine z_icmp_ne X 17 dL_sets_3 (by decide) (fun c_3 => ?_) (fun c_3 => ?_)
  · skip
    refine z_iload_n X 2 dL_sets_17 rfl rfl ?_
    refine z_bipush (v := 100) X dL_sets_18 (by decide) ?_
    refine z_icmp_ne X 34 dL_sets_20 (by decide) (fun c_20 => ?_) (fun c_20 => ?_)
    · exact absurd c_20 (by decide)
    · skip
      refine z_aload_n X 0 dL_sets_23 rfl rfl ?_
      refine z_iload_n X 1 dL_sets_24 rfl rfl ?_
      refine z_iload_n X 3 dL_sets_25 rfl rfl ?_
      refine z_iload X 4 dL_sets_26 rfl ?_
      refine z_ctcVi (As := [.int r, .int a, .int b]) (rest := []) (n1 := 3) (ci := 10) X dL_sets_28 (c_X7_setLead l hl0 n i x lm y ol od h.1.1 r a b) gL_sets_X7_setLead rfl rfl (by decide +kernel) ⟨by decide, by decide⟩ ck_1 rfl rfl (Nat.le_of_ble_eq_true rfl) ⟨by decide, by decide⟩ (fun E he => ?_) ?_
      · rcases he with ⟨rfl, c0⟩ | ⟨rfl, c0, c1⟩
        · skip
          refine ⟨[(0, .ref 1), (1, .int r), (2, .int 100), (3, .int a), (4, .int b)], 70, ⟨[], ⟨0, 67, 68, 36⟩, [⟨0, 67, 74, 13⟩], 5, 2, rfl, fun _ hz => absurd hz List.not_mem_nil, rfl, by decide, by decide +kernel, by decide +kernel, Or.inr ⟨dL_sets_68, rfl⟩, by decide, rfl, rfl⟩, ?_⟩
          refine z_sipush (v := (-1001)) X dL_sets_70 (by decide) ?_
          refine z_iret X rfl rfl (Nat.le_of_ble_eq_true rfl) (Nat.le_of_ble_eq_true rfl) dL_sets_73 ?_
          exact ⟨_, rfl, (xi_n c0 ⟨rfl, rfl⟩)⟩
        · skip
          refine ⟨[(0, .ref 1), (1, .int r), (2, .int 100), (3, .int a), (4, .int b)], 76, ⟨[⟨0, 67, 68, 36⟩], ⟨0, 67, 74, 13⟩, [], 5, 2, rfl, List.forall_mem_cons.mpr ⟨Or.inr ⟨by decide, "java/lang/IndexOutOfBoundsException", by decide +kernel, by decide +kernel, by decide +kernel⟩, fun _ hz => absurd hz List.not_mem_nil⟩, rfl, by decide, by decide +kernel, by decide +kernel, Or.inr ⟨dL_sets_74, rfl⟩, by decide, rfl, rfl⟩, ?_⟩
          refine z_sipush (v := (-1002)) X dL_sets_76 (by decide) ?_
          refine z_iret X rfl rfl (Nat.le_of_ble_eq_true rfl) (Nat.le_of_ble_eq_true rfl) dL_sets_79 ?_
          exact ⟨_, rfl, (xi_p c0 (xi_n c1 ⟨rfl, rfl⟩))⟩
      rintro _ _ ⟨c0, c1, rfl, rfl⟩
      refine z_goto (tgt := 67) X dL_sets_31 (by decide) ?_
      refine z_iret X rfl rfl (Nat.le_of_ble_eq_true rfl) (Nat.le_of_ble_eq_true rfl) dL_sets_67 ?_
      exact ⟨_, rfl, (xi_p c0 (xi_p c1 ⟨xn_1000 (h.2.1 _ c0.1).2.1 (by decide), xgO_m (n' := n) (i' := zup (zup (zup i 1 43 0) 107 (cl r) a) 108 (cl r) b) (x' := x) (lm' := lm) (y' := y) (t' := t) (eV_zup (eV_zup (eV_43 (by omega) eV_rf) rfl) rfl) rfl (CI_lead (CI_43 h.1) c0.1) (xEI_lead (xEI_43 h.2) c1.1) ⟨rfl, rfl, rfl, (by first | rfl | (repeat rw [zup_n (by omega)]))⟩ (fun o ho => (by first | rfl | (repeat rw [zup_n (by omega)]))) (trivial)⟩))⟩
  · exact absurd c_3 (by decide)

set_option maxRecDepth 100000 in
set_option maxHeartbeats 4000000 in
theorem h_setO (l : Launch) (hl0 : l.stackTraces = false) {n : Nat → Nat} {i x : Nat → Nat → Int32} {lm : Nat → Nat → Int64} {y : Nat → Nat → Nat} {t : Nat} (h : xSI n i x lm y t) (ol : Int64) (od : UInt64) (r : Int32) (a : Int32) (b : Int32) : zS l yL_sets wsL_sets 8 134 4 40 [.ref 1, .int r, .int 111, .int a, .int b] (cmm n i x lm y ol od) (zpi (fun v M1 => if zin a (-300) 450 then (¬ v < -1000 ∧ xgO n ol od 0 0 0 (i 1 0) (i 138) (xZT) M1) else (v = (-1002) ∧ M1 = cmm n i x lm y ol od))) zno := by
  refine z_introW (cc := cL_sets) (maxL := 6) (ret := (some .int)) (hh := [(0, 67, 68, 36), (0, 67, 74, 13)]) (by decide +kernel) rfl (Nat.le_of_ble_eq_true rfl) ?_
  intro g X
  show zE g 6 0 [(0, .ref 1), (1, .int r), (2, .int 111), (3, .int a), (4, .int b)] [] (cmm n i x lm y ol od) 0 0
  refine z_iload_n X 2 dL_sets_0 rfl rfl ?_
  refine z_bipush (v := 108) X dL_sets_1 (by decide) ?_
  refine z_icmp_ne X 17 dL_sets_3 (by decide) (fun c_3 => ?_) (fun c_3 => ?_)
  · skip
    refine z_iload_n X 2 dL_sets_17 rfl rfl ?_
    refine z_bipush (v := 100) X dL_sets_18 (by decide) ?_
    refine z_icmp_ne X 34 dL_sets_20 (by decide) (fun c_20 => ?_) (fun c_20 => ?_)
    · skip
      refine z_iload_n X 2 dL_sets_34 rfl rfl ?_
      refine z_bipush (v := 111) X dL_sets_35 (by decide) ?_
      refine z_icmp_ne X 48 dL_sets_37 (by decide) (fun c_37 => ?_) (fun c_37 => ?_)
      · exact absurd c_37 (by decide)
      · skip
        refine z_aload_n X 0 dL_sets_40 rfl rfl ?_
        refine z_iload_n X 3 dL_sets_41 rfl rfl ?_
        refine z_ctcVi (As := [.int a]) (rest := []) (n1 := 1) (ci := 10) X dL_sets_42 (c_X7_setOutside l hl0 n i x lm y ol od h.1.1 a) gL_sets_X7_setOutside rfl rfl (by decide +kernel) ⟨by decide, by decide⟩ ck_1 rfl rfl (Nat.le_of_ble_eq_true rfl) ⟨by decide, by decide⟩ (fun E he => ?_) ?_
        · obtain ⟨rfl, c0⟩ := he
          refine ⟨[(0, .ref 1), (1, .int r), (2, .int 111), (3, .int a), (4, .int b)], 76, ⟨[⟨0, 67, 68, 36⟩], ⟨0, 67, 74, 13⟩, [], 5, 2, rfl, List.forall_mem_cons.mpr ⟨Or.inr ⟨by decide, "java/lang/IndexOutOfBoundsException", by decide +kernel, by decide +kernel, by decide +kernel⟩, fun _ hz => absurd hz List.not_mem_nil⟩, rfl, by decide, by decide +kernel, by decide +kernel, Or.inr ⟨dL_sets_74, rfl⟩, by decide, rfl, rfl⟩, ?_⟩
          refine z_sipush (v := (-1002)) X dL_sets_76 (by decide) ?_
          refine z_iret X rfl rfl (Nat.le_of_ble_eq_true rfl) (Nat.le_of_ble_eq_true rfl) dL_sets_79 ?_
          exact ⟨_, rfl, (xi_n c0 ⟨rfl, rfl⟩)⟩
        rintro _ _ ⟨c0, rfl, rfl⟩
        refine z_goto (tgt := 67) X dL_sets_45 (by decide) ?_
        refine z_iret X rfl rfl (Nat.le_of_ble_eq_true rfl) (Nat.le_of_ble_eq_true rfl) dL_sets_67 ?_
        exact ⟨_, rfl, (xi_p c0 ⟨xn_1000 h.1.2.1.2.2.2.2.2.2.1 (by decide), xgO_m (n' := n) (i' := zup (zup i 1 43 0) 1 1 a) (x' := x) (lm' := lm) (y' := y) (t' := t) (eV_zup (eV_43 (by omega) eV_rf) rfl) rfl (CI_out (CI_43 h.1) c0) (xEI_of h.2 rfl rfl (fun a b ha => (by repeat rw [zup_n (by omega)])) (fun b hb => (by repeat rw [zup_n (by omega)])) (fun r => (by first | rfl | (repeat rw [zup_n (by omega)])))) ⟨rfl, rfl, rfl, (by first | rfl | (repeat rw [zup_n (by omega)]))⟩ (fun o ho => (by first | rfl | (repeat rw [zup_n (by omega)]))) (trivial)⟩)⟩
    · exact absurd c_20 (by decide)
  · exact absurd c_3 (by decide)

set_option maxRecDepth 100000 in
set_option maxHeartbeats 4000000 in
theorem h_setC (l : Launch) (hl0 : l.stackTraces = false) {n : Nat → Nat} {i x : Nat → Nat → Int32} {lm : Nat → Nat → Int64} {y : Nat → Nat → Nat} {t : Nat} (h : xSI n i x lm y t) (ol : Int64) (od : UInt64) (r : Int32) (a : Int32) (b : Int32) : zS l yL_sets wsL_sets 8 134 4 40 [.ref 1, .int r, .int 99, .int a, .int b] (cmm n i x lm y ol od) (zpi (fun v M1 => if zin a 0 1000 then (¬ v < -1000 ∧ xgO n ol od 0 0 0 (i 1 0) (i 138) (xZT) M1) else (v = (-1002) ∧ M1 = cmm n i x lm y ol od))) zno := by
  refine z_introW (cc := cL_sets) (maxL := 6) (ret := (some .int)) (hh := [(0, 67, 68, 36), (0, 67, 74, 13)]) (by decide +kernel) rfl (Nat.le_of_ble_eq_true rfl) ?_
  intro g X
  show zE g 6 0 [(0, .ref 1), (1, .int r), (2, .int 99), (3, .int a), (4, .int b)] [] (cmm n i x lm y ol od) 0 0
  refine z_iload_n X 2 dL_sets_0 rfl rfl ?_
  refine z_bipush (v := 108) X dL_sets_1 (by decide) ?_
  refine z_icmp_ne X 17 dL_sets_3 (by decide) (fun c_3 => ?_) (fun c_3 => ?_)
  · skip
    refine z_iload_n X 2 dL_sets_17 rfl rfl ?_
    refine z_bipush (v := 100) X dL_sets_18 (by decide) ?_
    refine z_icmp_ne X 34 dL_sets_20 (by decide) (fun c_20 => ?_) (fun c_20 => ?_)
    · skip
      refine z_iload_n X 2 dL_sets_34 rfl rfl ?_
      refine z_bipush (v := 111) X dL_sets_35 (by decide) ?_
      refine z_icmp_ne X 48 dL_sets_37 (by decide) (fun c_37 => ?_) (fun c_37 => ?_)
      · skip
        refine z_iload_n X 2 dL_sets_48 rfl rfl ?_
        refine z_bipush (v := 99) X dL_sets_49 (by decide) ?_
        refine z_icmp_ne X 62 dL_sets_51 (by decide) (fun c_51 => ?_) (fun c_51 => ?_)
        · exact absurd c_51 (by decide)
        · skip
          refine z_aload_n X 0 dL_sets_54 rfl rfl ?_
          refine z_iload_n X 3 dL_sets_55 rfl rfl ?_
          refine z_ctcVi (As := [.int a]) (rest := []) (n1 := 1) (ci := 10) X dL_sets_56 (c_X7_setCharge l hl0 n i x lm y ol od h.1.1 a) gL_sets_X7_setCharge rfl rfl (by decide +kernel) ⟨by decide, by decide⟩ ck_1 rfl rfl (Nat.le_of_ble_eq_true rfl) ⟨by decide, by decide⟩ (fun E he => ?_) ?_
          · obtain ⟨rfl, c0⟩ := he
            refine ⟨[(0, .ref 1), (1, .int r), (2, .int 99), (3, .int a), (4, .int b)], 76, ⟨[⟨0, 67, 68, 36⟩], ⟨0, 67, 74, 13⟩, [], 5, 2, rfl, List.forall_mem_cons.mpr ⟨Or.inr ⟨by decide, "java/lang/IndexOutOfBoundsException", by decide +kernel, by decide +kernel, by decide +kernel⟩, fun _ hz => absurd hz List.not_mem_nil⟩, rfl, by decide, by decide +kernel, by decide +kernel, Or.inr ⟨dL_sets_74, rfl⟩, by decide, rfl, rfl⟩, ?_⟩
            refine z_sipush (v := (-1002)) X dL_sets_76 (by decide) ?_
            refine z_iret X rfl rfl (Nat.le_of_ble_eq_true rfl) (Nat.le_of_ble_eq_true rfl) dL_sets_79 ?_
            exact ⟨_, rfl, (xi_n c0 ⟨rfl, rfl⟩)⟩
          rintro _ _ ⟨c0, rfl, rfl⟩
          refine z_goto (tgt := 67) X dL_sets_59 (by decide) ?_
          refine z_iret X rfl rfl (Nat.le_of_ble_eq_true rfl) (Nat.le_of_ble_eq_true rfl) dL_sets_67 ?_
          exact ⟨_, rfl, (xi_p c0 ⟨xn_1000 h.2.2.2.2.1 (by decide), xgO_m (n' := n) (i' := zup (zup i 1 43 0) 1 22 a) (x' := x) (lm' := lm) (y' := y) (t' := t) (eV_zup (eV_43 (by omega) eV_rf) rfl) rfl (CI_1 (CI_43 h.1) (by decide)) (xEI_ch h.2 c0) ⟨rfl, rfl, rfl, (by first | rfl | (repeat rw [zup_n (by omega)]))⟩ (fun o ho => (by first | rfl | (repeat rw [zup_n (by omega)]))) (trivial)⟩)⟩
      · exact absurd c_37 (by decide)
    · exact absurd c_20 (by decide)
  · exact absurd c_3 (by decide)

set_option maxRecDepth 100000 in
set_option maxHeartbeats 4000000 in
theorem h_setP (l : Launch) (hl0 : l.stackTraces = false) {n : Nat → Nat} {i x : Nat → Nat → Int32} {lm : Nat → Nat → Int64} {y : Nat → Nat → Nat} {t : Nat} (h : xSI n i x lm y t) (ol : Int64) (od : UInt64) (r : Int32) (a : Int32) (b : Int32) : zS l yL_sets wsL_sets 8 134 4 40 [.ref 1, .int r, .int 112, .int a, .int b] (cmm n i x lm y ol od) (zpi (fun v M1 => if zin a 0 400 then (¬ v < -1000 ∧ xgO n ol od 0 0 0 (i 1 0) (i 138) (xZT) M1) else (v = (-1002) ∧ M1 = cmm n i x lm y ol od))) zno := by
  refine z_introW (cc := cL_sets) (maxL := 6) (ret := (some .int)) (hh := [(0, 67, 68, 36), (0, 67, 74, 13)]) (by decide +kernel) rfl (Nat.le_of_ble_eq_true rfl) ?_
  intro g X
  show zE g 6 0 [(0, .ref 1), (1, .int r), (2, .int 112), (3, .int a), (4, .int b)] [] (cmm n i x lm y ol od) 0 0
  refine z_iload_n X 2 dL_sets_0 rfl rfl ?_
  refine z_bipush (v := 108) X dL_sets_1 (by decide) ?_
  refine z_icmp_ne X 17 dL_sets_3 (by decide) (fun c_3 => ?_) (fun c_3 => ?_)
  · skip
    refine z_iload_n X 2 dL_sets_17 rfl rfl ?_
    refine z_bipush (v := 100) X dL_sets_18 (by decide) ?_
    refine z_icmp_ne X 34 dL_sets_20 (by decide) (fun c_20 => ?_) (fun c_20 => ?_)
    · skip
      refine z_iload_n X 2 dL_sets_34 rfl rfl ?_
      refine z_bipush (v := 111) X dL_sets_35 (by decide) ?_
      refine z_icmp_ne X 48 dL_sets_37 (by decide) (fun c_37 => ?_) (fun c_37 => ?_)
      · skip
        refine z_iload_n X 2 dL_sets_48 rfl rfl ?_
        refine z_bipush (v := 99) X dL_sets_49 (by decide) ?_
        refine z_icmp_ne X 62 dL_sets_51 (by decide) (fun c_51 => ?_) (fun c_51 => ?_)
        · skip
          refine z_aload_n X 0 dL_sets_62 rfl rfl ?_
          refine z_iload_n X 3 dL_sets_63 rfl rfl ?_
          refine z_ctcVi (As := [.int a]) (rest := []) (n1 := 1) (ci := 10) X dL_sets_64 (c_X7_setPowerLimit l hl0 n i x lm y ol od h.1.1 a) gL_sets_X7_setPowerLimit rfl rfl (by decide +kernel) ⟨by decide, by decide⟩ ck_1 rfl rfl (Nat.le_of_ble_eq_true rfl) ⟨by decide, by decide⟩ (fun E he => ?_) ?_
          · obtain ⟨rfl, c0⟩ := he
            refine ⟨[(0, .ref 1), (1, .int r), (2, .int 112), (3, .int a), (4, .int b)], 76, ⟨[⟨0, 67, 68, 36⟩], ⟨0, 67, 74, 13⟩, [], 5, 2, rfl, List.forall_mem_cons.mpr ⟨Or.inr ⟨by decide, "java/lang/IndexOutOfBoundsException", by decide +kernel, by decide +kernel, by decide +kernel⟩, fun _ hz => absurd hz List.not_mem_nil⟩, rfl, by decide, by decide +kernel, by decide +kernel, Or.inr ⟨dL_sets_74, rfl⟩, by decide, rfl, rfl⟩, ?_⟩
            refine z_sipush (v := (-1002)) X dL_sets_76 (by decide) ?_
            refine z_iret X rfl rfl (Nat.le_of_ble_eq_true rfl) (Nat.le_of_ble_eq_true rfl) dL_sets_79 ?_
            exact ⟨_, rfl, (xi_n c0 ⟨rfl, rfl⟩)⟩
          rintro _ _ ⟨c0, rfl, rfl⟩
          refine z_iret X rfl rfl (Nat.le_of_ble_eq_true rfl) (Nat.le_of_ble_eq_true rfl) dL_sets_67 ?_
          exact ⟨_, rfl, (xi_p c0 ⟨xn_1000 h.2.2.2.2.2.1 (by decide), xgO_m (n' := n) (i' := zup (zup i 1 43 0) 1 23 a) (x' := x) (lm' := lm) (y' := y) (t' := t) (eV_zup (eV_43 (by omega) eV_rf) rfl) rfl (CI_1 (CI_43 h.1) (by decide)) (xEI_pl h.2 c0) ⟨rfl, rfl, rfl, (by first | rfl | (repeat rw [zup_n (by omega)]))⟩ (fun o ho => (by first | rfl | (repeat rw [zup_n (by omega)]))) (trivial)⟩)⟩
        · exact absurd c_51 (by decide)
      · exact absurd c_37 (by decide)
    · exact absurd c_20 (by decide)
  · exact absurd c_3 (by decide)

set_option maxRecDepth 100000 in
set_option maxHeartbeats 4000000 in
theorem h_mode (l : Launch) (hl0 : l.stackTraces = false) {n : Nat → Nat} {i x : Nat → Nat → Int32} {lm : Nat → Nat → Int64} {y : Nat → Nat → Nat} {t : Nat} (h : xSI n i x lm y t) (ol : Int64) (od : UInt64) (r : Int32) (m : Int32) (hm : narrow .char (.int m) = .int m) : zS l yL_mode wsL_mode 11 199 4 40 [.ref 1, .int r, .int m] (cmm n i x lm y ol od) (zpi (fun v M1 => if cl r < n 5 ∧ r = nI (cl r) then (if m = 97 ∨ m = 111 ∨ m = 110 then (¬ v < 97 ∧ xgO n ol od 0 0 0 (i 1 0) (i 138) (xZT) M1) else (v = 50 ∧ M1 = cmm n i x lm y ol od)) else (v = 49 ∧ M1 = cmm n i x lm y ol od))) zno := by
  refine z_introW (cc := cL_mode) (maxL := 4) (ret := (some .char)) (hh := [(0, 6, 7, 36), (0, 6, 11, 13)]) (by decide +kernel) rfl (Nat.le_of_ble_eq_true rfl) ?_
  intro g X
  show zE g 4 0 [(0, .ref 1), (1, .int r), (2, .int m)] [] (cmm n i x lm y ol od) 0 0
  refine z_aload_n X 0 dL_mode_0 rfl rfl ?_
  refine z_iload_n X 1 dL_mode_1 rfl rfl ?_
  refine z_iload_n X 2 dL_mode_2 rfl rfl ?_
  refine z_ctcVi (As := [.int r, .int m]) (rest := []) (n1 := 2) (ci := 10) X dL_mode_3 (c_X7_setMode l hl0 n i x lm y ol od h.1.1 r m hm h.1.2.2.1.2.2.1) gL_mode_X7_setMode rfl rfl (by decide +kernel) ⟨by decide, by decide⟩ ck_1 rfl rfl (Nat.le_of_ble_eq_true rfl) ⟨by decide, by decide⟩ (fun E he => ?_) ?_
  · rcases he with ⟨rfl, c0⟩ | ⟨rfl, c0, c1⟩
    · skip
      refine ⟨[(0, .ref 1), (1, .int r), (2, .int m)], 8, ⟨[], ⟨0, 6, 7, 36⟩, [⟨0, 6, 11, 13⟩], 3, 1, rfl, fun _ hz => absurd hz List.not_mem_nil, rfl, by decide, by decide +kernel, by decide +kernel, Or.inl ⟨3, dL_mode_7, rfl, rfl⟩, by decide, rfl, rfl⟩, ?_⟩
      refine z_bipush (v := 49) X dL_mode_8 (by decide) ?_
      refine z_iret X rfl (rfl) (Nat.le_of_ble_eq_true rfl) (Nat.le_of_ble_eq_true rfl) dL_mode_10 ?_
      exact ⟨_, rfl, (xi_n c0 ⟨rfl, rfl⟩)⟩
    · skip
      refine ⟨[(0, .ref 1), (1, .int r), (2, .int m)], 12, ⟨[⟨0, 6, 7, 36⟩], ⟨0, 6, 11, 13⟩, [], 3, 1, rfl, List.forall_mem_cons.mpr ⟨Or.inr ⟨by decide, "java/lang/IndexOutOfBoundsException", by decide +kernel, by decide +kernel, by decide +kernel⟩, fun _ hz => absurd hz List.not_mem_nil⟩, rfl, by decide, by decide +kernel, by decide +kernel, Or.inl ⟨3, dL_mode_11, rfl, rfl⟩, by decide, rfl, rfl⟩, ?_⟩
      refine z_bipush (v := 50) X dL_mode_12 (by decide) ?_
      refine z_iret X rfl (rfl) (Nat.le_of_ble_eq_true rfl) (Nat.le_of_ble_eq_true rfl) dL_mode_14 ?_
      exact ⟨_, rfl, (xi_p c0 (xi_n c1 ⟨rfl, rfl⟩))⟩
  rintro _ _ ⟨c0, c1, rfl, rfl⟩
  refine z_iret X rfl (h.1.2.2.1.2.2.1 _) (Nat.le_of_ble_eq_true rfl) (Nat.le_of_ble_eq_true rfl) dL_mode_6 ?_
  exact ⟨_, rfl, (xi_p c0 (xi_p c1 ⟨(by rcases (h.1.2.2.2.1.1 _ c0.1).2.2.1 with e | e | e <;> rw [e] <;> decide), xgO_m (n' := n) (i' := zup (zup i 1 43 0) 109 (cl r) m) (x' := x) (lm' := lm) (y' := y) (t' := t) (eV_zup (eV_43 (by omega) eV_rf) rfl) rfl (CI_mode (CI_43 h.1) c1) (xEI_of h.2 rfl rfl (fun a b ha => (by repeat rw [zup_n (by omega)])) (fun b hb => (by repeat rw [zup_n (by omega)])) (fun r => (by first | rfl | (repeat rw [zup_n (by omega)])))) ⟨rfl, rfl, rfl, (by first | rfl | (repeat rw [zup_n (by omega)]))⟩ (fun o ho => (by first | rfl | (repeat rw [zup_n (by omega)]))) (trivial)⟩))⟩

set_option maxRecDepth 100000 in
set_option maxHeartbeats 4000000 in
theorem h_prices (l : Launch) (hl0 : l.stackTraces = false) {n : Nat → Nat} {i x : Nat → Nat → Int32} {lm : Nat → Nat → Int64} {y : Nat → Nat → Nat} {t : Nat} (h : xSI n i x lm y t) (ol : Int64) (od : UInt64) (a : Int32) (b : Int32) (f : Int32) (e : Int32) : zS l yL_prices wsL_prices 8 137 4 40 [.ref 1, .int a, .int b, .int f, .int e] (cmm n i x lm y ol od) (zpi (fun v M1 => if zin a 0 1000 ∧ zin b 0 1000 ∧ zin f 0 95 ∧ zin e f 95 then (¬ v < -1000 ∧ xgO n ol od 0 0 0 (i 1 0) (i 138) (xZT) M1) else (v = (-1001) ∧ M1 = cmm n i x lm y ol od))) zno := by
  refine z_introW (cc := cL_prices) (maxL := 6) (ret := (some .int)) (hh := [(0, 9, 10, 13)]) (by decide +kernel) rfl (Nat.le_of_ble_eq_true rfl) ?_
  intro g X
  show zE g 6 0 [(0, .ref 1), (1, .int a), (2, .int b), (3, .int f), (4, .int e)] [] (cmm n i x lm y ol od) 0 0
  refine z_aload_n X 0 dL_prices_0 rfl rfl ?_
  refine z_iload_n X 1 dL_prices_1 rfl rfl ?_
  refine z_iload_n X 2 dL_prices_2 rfl rfl ?_
  refine z_iload_n X 3 dL_prices_3 rfl rfl ?_
  refine z_iload X 4 dL_prices_4 rfl ?_
  refine z_ctcVi (As := [.int a, .int b, .int f, .int e]) (rest := []) (n1 := 4) (ci := 10) X dL_prices_6 (c_X7_setPrices l hl0 n i x lm y ol od h.1.1 a b f e) gL_prices_X7_setPrices rfl rfl (by decide +kernel) ⟨by decide, by decide⟩ ck_1 rfl rfl (Nat.le_of_ble_eq_true rfl) ⟨by decide, by decide⟩ (fun E he => ?_) ?_
  · obtain ⟨rfl, c0⟩ := he
    refine ⟨[(0, .ref 1), (1, .int a), (2, .int b), (3, .int f), (4, .int e)], 12, ⟨[], ⟨0, 9, 10, 13⟩, [], 5, 2, rfl, fun _ hz => absurd hz List.not_mem_nil, rfl, by decide, by decide +kernel, by decide +kernel, Or.inr ⟨dL_prices_10, rfl⟩, by decide, rfl, rfl⟩, ?_⟩
    refine z_sipush (v := (-1001)) X dL_prices_12 (by decide) ?_
    refine z_iret X rfl rfl (Nat.le_of_ble_eq_true rfl) (Nat.le_of_ble_eq_true rfl) dL_prices_15 ?_
    exact ⟨_, rfl, (xi_n c0 ⟨rfl, rfl⟩)⟩
  rintro _ _ ⟨c0, rfl, rfl⟩
  refine z_iret X rfl rfl (Nat.le_of_ble_eq_true rfl) (Nat.le_of_ble_eq_true rfl) dL_prices_9 ?_
  exact ⟨_, rfl, (xi_p c0 ⟨xn_1000 h.2.2.2.1 (by decide), xgO_m (n' := n) (i' := zup (zup (zup (zup (zup i 1 43 0) 1 18 a) 1 19 b) 1 20 f) 1 21 e) (x' := zup x 7 0 f) (lm' := lm) (y' := y) (t' := t) (eV_zup (eV_43 (by omega) (eV_zup (eV_zup (eV_43 (by omega) eV_rf) rfl) rfl)) rfl) rfl (CI_peak (CI_1 (CI_1 (CI_43 h.1) (by decide)) (by decide)) c0.2.2.1 c0.2.2.2) (xEI_pr h.2 c0.1) ⟨rfl, rfl, rfl, (by first | rfl | (repeat rw [zup_n (by omega)]))⟩ (fun o ho => (by first | rfl | (repeat rw [zup_n (by omega)]))) (trivial)⟩)⟩

set_option maxRecDepth 100000 in
set_option maxHeartbeats 4000000 in
theorem h_room (l : Launch) (hl0 : l.stackTraces = false) {n : Nat → Nat} {i x : Nat → Nat → Int32} {lm : Nat → Nat → Int64} {y : Nat → Nat → Nat} {t : Nat} (h : xSI n i x lm y t) (ol : Int64) (od : UInt64) (a : Int32) (b : Int32) (c : Int32) : zS l yL_room wsL_room 13 246 8 1100 [.ref 1, .int a, .int b, .int c] (cmm n i x lm y ol od) (zpi (fun v M1 => if zin a 1 50 ∧ zin b 1 100 ∧ zin c 1 100 then (if n 5 < 4 then (¬ v < 0 ∧ xgO n ol od 1 0 0 (i 1 0) (i 138) (xZT) M1) else (v = (-1002) ∧ M1 = cmm n i x lm y ol od)) else (v = (-1001) ∧ M1 = cmm n i x lm y ol od))) zno := by
  refine z_introW (cc := cL_room) (maxL := 5) (ret := (some .int)) (hh := [(0, 7, 8, 13), (0, 7, 14, 15)]) (by decide +kernel) rfl (Nat.le_of_ble_eq_true rfl) ?_
  intro g X
  show zE g 5 0 [(0, .ref 1), (1, .int a), (2, .int b), (3, .int c)] [] (cmm n i x lm y ol od) 0 0
  refine z_aload_n X 0 dL_room_0 rfl rfl ?_
  refine z_iload_n X 1 dL_room_1 rfl rfl ?_
  refine z_iload_n X 2 dL_room_2 rfl rfl ?_
  refine z_iload_n X 3 dL_room_3 rfl rfl ?_
  refine z_ctcVi (As := [.int a, .int b, .int c]) (rest := []) (n1 := 3) (ci := 10) X dL_room_4 (c_X7_addRoom l hl0 n i x lm y ol od h.1.1 a b c) gL_room_X7_addRoom rfl rfl (by decide +kernel) ⟨by decide, by decide⟩ ck_1 rfl rfl (Nat.le_of_ble_eq_true rfl) ⟨by decide, by decide⟩ (fun E he => ?_) ?_
  · rcases he with ⟨rfl, c0⟩ | ⟨rfl, c0, c1⟩
    · skip
      refine ⟨[(0, .ref 1), (1, .int a), (2, .int b), (3, .int c)], 10, ⟨[], ⟨0, 7, 8, 13⟩, [⟨0, 7, 14, 15⟩], 4, 2, rfl, fun _ hz => absurd hz List.not_mem_nil, rfl, by decide, by decide +kernel, by decide +kernel, Or.inr ⟨dL_room_8, rfl⟩, by decide, rfl, rfl⟩, ?_⟩
      refine z_sipush (v := (-1001)) X dL_room_10 (by decide) ?_
      refine z_iret X rfl rfl (Nat.le_of_ble_eq_true rfl) (Nat.le_of_ble_eq_true rfl) dL_room_13 ?_
      exact ⟨_, rfl, (xi_n c0 ⟨rfl, rfl⟩)⟩
    · skip
      refine ⟨[(0, .ref 1), (1, .int a), (2, .int b), (3, .int c)], 16, ⟨[⟨0, 7, 8, 13⟩], ⟨0, 7, 14, 15⟩, [], 4, 2, rfl, List.forall_mem_cons.mpr ⟨Or.inr ⟨by decide, "java/lang/IllegalArgumentException", by decide +kernel, by decide +kernel, by decide +kernel⟩, fun _ hz => absurd hz List.not_mem_nil⟩, rfl, by decide, by decide +kernel, by decide +kernel, Or.inr ⟨dL_room_14, rfl⟩, by decide, rfl, rfl⟩, ?_⟩
      refine z_sipush (v := (-1002)) X dL_room_16 (by decide) ?_
      refine z_iret X rfl rfl (Nat.le_of_ble_eq_true rfl) (Nat.le_of_ble_eq_true rfl) dL_room_19 ?_
      exact ⟨_, rfl, (xi_p c0 (xi_n c1 ⟨rfl, rfl⟩))⟩
  rintro _ _ ⟨c0, c1, rfl, rfl⟩
  refine z_iret X rfl rfl (Nat.le_of_ble_eq_true rfl) (Nat.le_of_ble_eq_true rfl) dL_room_7 ?_
  exact ⟨_, rfl, (xi_p c0 (xi_p c1 ⟨nI_nn _ (by have := h.1.1.2.1.1; have := h.1.1.1.1; omega), xgO_m (n' := nup (nup n 0 (n 0 + 1)) 5 (n 0 + 1)) (i' := zup (zup (zup (zup (zup (zup (zup (zup (zup i 1 43 0) 102 (n 5) a) 103 (n 5) b) 104 (n 5) c) 105 (n 5) 20) 106 (n 5) 50) 109 (n 5) 97) 110 (n 5) (i 1 1)) 1 17 (nI (n 5) + 1)) (x' := zup (zup (zup (zrow x (n 0)) 0 (n 0) 0) 6 (n 0) 0) 5 (n 0) (-400)) (lm' := lm) (y' := y) (t' := t) (by rw [h.1.1.1.1]; obtain ⟨f1, f2, f3, f4, f5, f6⟩ := h.1.2.2.2.1.2 (n 5) (Nat.le_refl _); exact eV_room ⟨f1, f2, f3, f4, f5⟩) rfl (by have h9 := CI_room (c := c) (CI_43 (v := 0) h.1) c1 c0.1 c0.2.1; rw [show zup i 1 43 0 1 1 = i 1 1 from zup_n (by omega)] at h9; exact h9) (xEI_room h.1 h.2 c0.2.2) ⟨(by rw [nup_s, h.1.1.1.1]), (nup_n (by decide)).trans (nup_n (by decide)), (nup_n (by decide)).trans (nup_n (by decide)), (by first | rfl | (repeat rw [zup_n (by omega)]))⟩ (fun o ho => (by first | rfl | (repeat rw [zup_n (by omega)]))) (trivial)⟩))⟩

set_option maxRecDepth 100000 in
set_option maxHeartbeats 4000000 in
theorem h_kind (l : Launch) (hl0 : l.stackTraces = false) {n : Nat → Nat} {i x : Nat → Nat → Int32} {lm : Nat → Nat → Int64} {y : Nat → Nat → Nat} {t : Nat} (h : xSI n i x lm y t) (ol : Int64) (od : UInt64) (a : Int32) (b : Int32) (c : Int32) : zS l yL_kind wsL_kind 13 245 8 1100 [.ref 1, .int a, .int b, .int c] (cmm n i x lm y ol od) (zpi (fun v M1 => if zin a 1 9999 ∧ zin b (-300) 300 ∧ zin c (-400) (b - 1) then (if n 6 < 5 then (¬ v < 0 ∧ xgO n ol od 0 1 0 (i 1 0) (i 138) (xZT) M1) else (v = (-1002) ∧ M1 = cmm n i x lm y ol od)) else (v = (-1001) ∧ M1 = cmm n i x lm y ol od))) zno := by
  refine z_introW (cc := cL_kind) (maxL := 5) (ret := (some .int)) (hh := [(0, 7, 8, 13), (0, 7, 14, 15)]) (by decide +kernel) rfl (Nat.le_of_ble_eq_true rfl) ?_
  intro g X
  show zE g 5 0 [(0, .ref 1), (1, .int a), (2, .int b), (3, .int c)] [] (cmm n i x lm y ol od) 0 0
  refine z_aload_n X 0 dL_kind_0 rfl rfl ?_
  refine z_iload_n X 1 dL_kind_1 rfl rfl ?_
  refine z_iload_n X 2 dL_kind_2 rfl rfl ?_
  refine z_iload_n X 3 dL_kind_3 rfl rfl ?_
  refine z_ctcVi (As := [.int a, .int b, .int c]) (rest := []) (n1 := 3) (ci := 10) X dL_kind_4 (c_X7_addKind l hl0 n i x lm y ol od h.1.1 a b c) gL_kind_X7_addKind rfl rfl (by decide +kernel) ⟨by decide, by decide⟩ ck_1 rfl rfl (Nat.le_of_ble_eq_true rfl) ⟨by decide, by decide⟩ (fun E he => ?_) ?_
  · rcases he with ⟨rfl, c0⟩ | ⟨rfl, c0, c1⟩
    · skip
      refine ⟨[(0, .ref 1), (1, .int a), (2, .int b), (3, .int c)], 10, ⟨[], ⟨0, 7, 8, 13⟩, [⟨0, 7, 14, 15⟩], 4, 2, rfl, fun _ hz => absurd hz List.not_mem_nil, rfl, by decide, by decide +kernel, by decide +kernel, Or.inr ⟨dL_kind_8, rfl⟩, by decide, rfl, rfl⟩, ?_⟩
      refine z_sipush (v := (-1001)) X dL_kind_10 (by decide) ?_
      refine z_iret X rfl rfl (Nat.le_of_ble_eq_true rfl) (Nat.le_of_ble_eq_true rfl) dL_kind_13 ?_
      exact ⟨_, rfl, (xi_n c0 ⟨rfl, rfl⟩)⟩
    · skip
      refine ⟨[(0, .ref 1), (1, .int a), (2, .int b), (3, .int c)], 16, ⟨[⟨0, 7, 8, 13⟩], ⟨0, 7, 14, 15⟩, [], 4, 2, rfl, List.forall_mem_cons.mpr ⟨Or.inr ⟨by decide, "java/lang/IllegalArgumentException", by decide +kernel, by decide +kernel, by decide +kernel⟩, fun _ hz => absurd hz List.not_mem_nil⟩, rfl, by decide, by decide +kernel, by decide +kernel, Or.inr ⟨dL_kind_14, rfl⟩, by decide, rfl, rfl⟩, ?_⟩
      refine z_sipush (v := (-1002)) X dL_kind_16 (by decide) ?_
      refine z_iret X rfl rfl (Nat.le_of_ble_eq_true rfl) (Nat.le_of_ble_eq_true rfl) dL_kind_19 ?_
      exact ⟨_, rfl, (xi_p c0 (xi_n c1 ⟨rfl, rfl⟩))⟩
  rintro _ _ ⟨c0, c1, rfl, rfl⟩
  refine z_iret X rfl rfl (Nat.le_of_ble_eq_true rfl) (Nat.le_of_ble_eq_true rfl) dL_kind_7 ?_
  exact ⟨_, rfl, (xi_p c0 (xi_p c1 ⟨(by rw [← nI_1, Int32.add_sub_cancel]; exact nI_nn _ (by have := h.1.1.2.1.2.1; have := h.1.1.1.2.1; omega)), xgO_m (n' := nup (nup n 1 (n 1 + 1)) 6 (n 1 + 1)) (i' := zup (zup (zup (zup (zup i 1 43 0) 127 (n 6) a) 128 (n 6) b) 129 (n 6) c) 1 30 (nI (n 6) + 1)) (x' := x) (lm' := lm) (y' := y) (t' := t) (by rw [h.1.1.1.2.1]; exact eV_43 (by omega) (eV_zup (eV_zup (eV_zup (eV_43 (by omega) eV_rf) rfl) rfl) rfl)) rfl (CI_kind (CI_43 h.1) c1 c0.1 c0.2.1) (xEI_of h.2 ((nup_n (by decide)).trans (nup_n (by decide))) ((nup_n (by decide)).trans (nup_n (by decide))) (fun a b ha => (by repeat rw [zup_n (by omega)])) (fun b hb => (by repeat rw [zup_n (by omega)])) (fun r => (by first | rfl | (repeat rw [zup_n (by omega)])))) ⟨(nup_n (by decide)).trans (nup_n (by decide)), (by rw [nup_s, h.1.1.1.2.1]), (nup_n (by decide)).trans (nup_n (by decide)), (by first | rfl | (repeat rw [zup_n (by omega)]))⟩ (fun o ho => (by first | rfl | (repeat rw [zup_n (by omega)]))) (trivial)⟩))⟩

set_option maxRecDepth 100000 in
set_option maxHeartbeats 4000000 in
theorem h_putP (l : Launch) (hl0 : l.stackTraces = false) {n : Nat → Nat} {i x : Nat → Nat → Int32} {lm : Nat → Nat → Int64} {y : Nat → Nat → Nat} {t : Nat} (h : xSI n i x lm y t) (ol : Int64) (od : UInt64) (kd : Int32) (r : Int32) : zS l yL_puts wsL_puts 13 247 8 1100 [.ref 1, .int 112, .int kd, .int r] (cmm n i x lm y ol od) (zpi (fun v M1 => if cl kd < n 6 ∧ kd = nI (cl kd) then (if cl r < n 5 ∧ r = nI (cl r) then (if n 7 < 24 ∧ 0 < 8 - m_filled i (nI (cl r)) (n 7) then (¬ v < -1000 ∧ xgO n ol od 0 0 0 (i 1 0) (i 138) (xZT) M1) else (v = (-1003) ∧ M1 = cmm n i x lm y ol od)) else (v = (-1001) ∧ M1 = cmm n i x lm y ol od)) else (v = (-1001) ∧ M1 = cmm n i x lm y ol od))) zno := by
  refine z_introW (cc := cL_puts) (maxL := 5) (ret := (some .int)) (hh := [(0, 21, 22, 36), (0, 21, 28, 59), (0, 21, 34, 15)]) (by decide +kernel) rfl (Nat.le_of_ble_eq_true rfl) ?_
  intro g X
  show zE g 5 0 [(0, .ref 1), (1, .int 112), (2, .int kd), (3, .int r)] [] (cmm n i x lm y ol od) 0 0
  refine z_iload_n X 1 dL_puts_0 rfl rfl ?_
  refine z_bipush (v := 112) X dL_puts_1 (by decide) ?_
  refine z_icmp_ne X 15 dL_puts_3 (by decide) (fun c_3 => ?_) (fun c_3 => ?_)
  · exact absurd c_3 (by decide)
  · skip
    refine z_aload_n X 0 dL_puts_6 rfl rfl ?_
    refine z_iload_n X 2 dL_puts_7 rfl rfl ?_
    refine z_iload_n X 3 dL_puts_8 rfl rfl ?_
    refine z_ctcVi (As := [.int kd, .int r]) (rest := []) (n1 := 2) (ci := 10) X dL_puts_9 (c_X7_addPallet l hl0 n i x lm y ol od h.1.1 kd r) gL_puts_X7_addPallet rfl rfl (by decide +kernel) ⟨by decide, by decide⟩ ck_1 rfl rfl (Nat.le_of_ble_eq_true rfl) ⟨by decide, by decide⟩ (fun E he => ?_) ?_
    · rcases he with ⟨rfl, c0⟩ | ⟨rfl, c0, c1⟩ | ⟨rfl, c0, c1, c2⟩
      · skip
        refine ⟨[(0, .ref 1), (1, .int 112), (2, .int kd), (3, .int r)], 24, ⟨[], ⟨0, 21, 22, 36⟩, [⟨0, 21, 28, 59⟩, ⟨0, 21, 34, 15⟩], 4, 2, rfl, fun _ hz => absurd hz List.not_mem_nil, rfl, by decide, by decide +kernel, by decide +kernel, Or.inr ⟨dL_puts_22, rfl⟩, by decide, rfl, rfl⟩, ?_⟩
        refine z_sipush (v := (-1001)) X dL_puts_24 (by decide) ?_
        refine z_iret X rfl rfl (Nat.le_of_ble_eq_true rfl) (Nat.le_of_ble_eq_true rfl) dL_puts_27 ?_
        exact ⟨_, rfl, (xi_n c0 ⟨rfl, rfl⟩)⟩
      · skip
        refine ⟨[(0, .ref 1), (1, .int 112), (2, .int kd), (3, .int r)], 24, ⟨[], ⟨0, 21, 22, 36⟩, [⟨0, 21, 28, 59⟩, ⟨0, 21, 34, 15⟩], 4, 2, rfl, fun _ hz => absurd hz List.not_mem_nil, rfl, by decide, by decide +kernel, by decide +kernel, Or.inr ⟨dL_puts_22, rfl⟩, by decide, rfl, rfl⟩, ?_⟩
        refine z_sipush (v := (-1001)) X dL_puts_24 (by decide) ?_
        refine z_iret X rfl rfl (Nat.le_of_ble_eq_true rfl) (Nat.le_of_ble_eq_true rfl) dL_puts_27 ?_
        exact ⟨_, rfl, (xi_p c0 (xi_n c1 ⟨rfl, rfl⟩))⟩
      · skip
        refine ⟨[(0, .ref 1), (1, .int 112), (2, .int kd), (3, .int r)], 36, ⟨[⟨0, 21, 22, 36⟩, ⟨0, 21, 28, 59⟩], ⟨0, 21, 34, 15⟩, [], 4, 2, rfl, List.forall_mem_cons.mpr ⟨Or.inr ⟨by decide, "java/lang/IndexOutOfBoundsException", by decide +kernel, by decide +kernel, by decide +kernel⟩, List.forall_mem_cons.mpr ⟨Or.inr ⟨by decide, "java/util/NoSuchElementException", by decide +kernel, by decide +kernel, by decide +kernel⟩, fun _ hz => absurd hz List.not_mem_nil⟩⟩, rfl, by decide, by decide +kernel, by decide +kernel, Or.inr ⟨dL_puts_34, rfl⟩, by decide, rfl, rfl⟩, ?_⟩
        refine z_sipush (v := (-1003)) X dL_puts_36 (by decide) ?_
        refine z_iret X rfl rfl (Nat.le_of_ble_eq_true rfl) (Nat.le_of_ble_eq_true rfl) dL_puts_39 ?_
        exact ⟨_, rfl, (xi_p c0 (xi_p c1 (xi_n c2 ⟨rfl, rfl⟩)))⟩
    rintro _ _ ⟨c0, c1, c2, rfl, rfl⟩
    refine z_goto (tgt := 21) X dL_puts_12 (by decide) ?_
    refine z_iret X rfl rfl (Nat.le_of_ble_eq_true rfl) (Nat.le_of_ble_eq_true rfl) dL_puts_21 ?_
    exact ⟨_, rfl, (xi_p c0 (xi_p c1 (xi_p c2 ⟨xn_nI (by have := h.1.1.2.1.2.2.1; have := h.1.1.1.2.2.1; omega), xgO_m (n' := nup (nup (nup n 2 (n 2 + 1)) 4 (n 4 + 1)) 7 (n 2 + 1)) (i' := zup (zup (zup (zup (zup (zup i 1 43 0) 131 (n 7) kd) 132 (n 7) r) 133 (n 7) (i 127 (cl kd))) 134 (n 7) 114) 1 35 (nI (n 7) + 1)) (x' := zup (zup x 3 (n 2) 960) 4 (n 4) (i 1 0)) (lm' := lm) (y' := zup (zup (zup y 1 (n 4) (cl r)) 2 (n 4) 0) 0 (n 2) (n 4)) (t' := t) (by rw [h.1.1.1.2.2.1]; exact eV_pal) rfl (by have h9 := CI_pallet (CI_43 (v := 0) h.1) c2.1 c0 c1 (by rw [flN_same (i := i) (fun p _ => ⟨e43 (by omega), e43 (by omega)⟩)]; exact (sp h.1 c1).2.1.mp c2.2); rw [show zup i 1 43 0 127 (cl kd) = i 127 (cl kd) from zup_n (by omega), show zup i 1 43 0 1 0 = i 1 0 from zup_n (by omega)] at h9; exact h9) (xEI_of h.2 ((nup_n (by decide)).trans ((nup_n (by decide)).trans (nup_n (by decide)))) ((nup_n (by decide)).trans ((nup_n (by decide)).trans (nup_n (by decide)))) (fun a b ha => (by repeat rw [zup_n (by omega)])) (fun b hb => (by repeat rw [zup_n (by omega)])) (fun r => (by first | rfl | (repeat rw [zup_n (by omega)])))) ⟨(nup_n (by decide)).trans ((nup_n (by decide)).trans (nup_n (by decide))), (nup_n (by decide)).trans ((nup_n (by decide)).trans (nup_n (by decide))), (nup_n (by decide)).trans ((nup_n (by decide)).trans (nup_n (by decide))), (by first | rfl | (repeat rw [zup_n (by omega)]))⟩ (fun o ho => (by first | rfl | (repeat rw [zup_n (by omega)]))) (trivial)⟩)))⟩

set_option maxRecDepth 100000 in
set_option maxHeartbeats 4000000 in
theorem h_putM (l : Launch) (hl0 : l.stackTraces = false) {n : Nat → Nat} {i x : Nat → Nat → Int32} {lm : Nat → Nat → Int64} {y : Nat → Nat → Nat} {t : Nat} (h : xSI n i x lm y t) (ol : Int64) (od : UInt64) (p : Int32) (r : Int32) : zS l yL_puts wsL_puts 12 224 8 1100 [.ref 1, .int 109, .int p, .int r] (cmm n i x lm y ol od) (zpi (fun v M1 => if cl p < n 7 ∧ p = nI (cl p) then (if cl r < n 5 ∧ r = nI (cl r) then (if i 134 (cl p) = 114 then (if y 1 (y 0 (cl p)) = cl r ∨ 0 < 8 - m_filled i (nI (cl r)) (n 7) then (¬ v < -1000 ∧ xgO n ol od 0 0 0 (i 1 0) (i 138) (xZT) M1) else (v = (-1003) ∧ M1 = cmm n i x lm y ol od)) else (v = (-1002) ∧ M1 = cmm n i x lm y ol od)) else (v = (-1001) ∧ M1 = cmm n i x lm y ol od)) else (v = (-1001) ∧ M1 = cmm n i x lm y ol od))) zno := by
  refine z_introW (cc := cL_puts) (maxL := 5) (ret := (some .int)) (hh := [(0, 21, 22, 36), (0, 21, 28, 59), (0, 21, 34, 15)]) (by decide +kernel) rfl (Nat.le_of_ble_eq_true rfl) ?_
  intro g X
  show zE g 5 0 [(0, .ref 1), (1, .int 109), (2, .int p), (3, .int r)] [] (cmm n i x lm y ol od) 0 0
  refine z_iload_n X 1 dL_puts_0 rfl rfl ?_
  refine z_bipush (v := 112) X dL_puts_1 (by decide) ?_
  refine z_icmp_ne X 15 dL_puts_3 (by decide) (fun c_3 => ?_) (fun c_3 => ?_)
  · skip
    refine z_aload_n X 0 dL_puts_15 rfl rfl ?_
    refine z_iload_n X 2 dL_puts_16 rfl rfl ?_
    refine z_iload_n X 3 dL_puts_17 rfl rfl ?_
    refine z_ctcVi (As := [.int p, .int r]) (rest := []) (n1 := 2) (ci := 10) X dL_puts_18 (c_X7_movePallet l hl0 n i x lm y ol od h.1.1 p r) gL_puts_X7_movePallet rfl rfl (by decide +kernel) ⟨by decide, by decide⟩ ck_1 rfl rfl (Nat.le_of_ble_eq_true rfl) ⟨by decide, by decide⟩ (fun E he => ?_) ?_
    · rcases he with ⟨rfl, c0⟩ | ⟨rfl, c0, c1⟩ | ⟨rfl, c0, c1, c2⟩ | ⟨rfl, c0, c1, c2, c3⟩
      · skip
        refine ⟨[(0, .ref 1), (1, .int 109), (2, .int p), (3, .int r)], 24, ⟨[], ⟨0, 21, 22, 36⟩, [⟨0, 21, 28, 59⟩, ⟨0, 21, 34, 15⟩], 4, 2, rfl, fun _ hz => absurd hz List.not_mem_nil, rfl, by decide, by decide +kernel, by decide +kernel, Or.inr ⟨dL_puts_22, rfl⟩, by decide, rfl, rfl⟩, ?_⟩
        refine z_sipush (v := (-1001)) X dL_puts_24 (by decide) ?_
        refine z_iret X rfl rfl (Nat.le_of_ble_eq_true rfl) (Nat.le_of_ble_eq_true rfl) dL_puts_27 ?_
        exact ⟨_, rfl, (xi_n c0 ⟨rfl, rfl⟩)⟩
      · skip
        refine ⟨[(0, .ref 1), (1, .int 109), (2, .int p), (3, .int r)], 24, ⟨[], ⟨0, 21, 22, 36⟩, [⟨0, 21, 28, 59⟩, ⟨0, 21, 34, 15⟩], 4, 2, rfl, fun _ hz => absurd hz List.not_mem_nil, rfl, by decide, by decide +kernel, by decide +kernel, Or.inr ⟨dL_puts_22, rfl⟩, by decide, rfl, rfl⟩, ?_⟩
        refine z_sipush (v := (-1001)) X dL_puts_24 (by decide) ?_
        refine z_iret X rfl rfl (Nat.le_of_ble_eq_true rfl) (Nat.le_of_ble_eq_true rfl) dL_puts_27 ?_
        exact ⟨_, rfl, (xi_p c0 (xi_n c1 ⟨rfl, rfl⟩))⟩
      · skip
        refine ⟨[(0, .ref 1), (1, .int 109), (2, .int p), (3, .int r)], 30, ⟨[⟨0, 21, 22, 36⟩], ⟨0, 21, 28, 59⟩, [⟨0, 21, 34, 15⟩], 4, 2, rfl, List.forall_mem_cons.mpr ⟨Or.inr ⟨by decide, "java/lang/IndexOutOfBoundsException", by decide +kernel, by decide +kernel, by decide +kernel⟩, fun _ hz => absurd hz List.not_mem_nil⟩, rfl, by decide, by decide +kernel, by decide +kernel, Or.inr ⟨dL_puts_28, rfl⟩, by decide, rfl, rfl⟩, ?_⟩
        refine z_sipush (v := (-1002)) X dL_puts_30 (by decide) ?_
        refine z_iret X rfl rfl (Nat.le_of_ble_eq_true rfl) (Nat.le_of_ble_eq_true rfl) dL_puts_33 ?_
        exact ⟨_, rfl, (xi_p c0 (xi_p c1 (xi_n c2 ⟨rfl, rfl⟩)))⟩
      · skip
        refine ⟨[(0, .ref 1), (1, .int 109), (2, .int p), (3, .int r)], 36, ⟨[⟨0, 21, 22, 36⟩, ⟨0, 21, 28, 59⟩], ⟨0, 21, 34, 15⟩, [], 4, 2, rfl, List.forall_mem_cons.mpr ⟨Or.inr ⟨by decide, "java/lang/IndexOutOfBoundsException", by decide +kernel, by decide +kernel, by decide +kernel⟩, List.forall_mem_cons.mpr ⟨Or.inr ⟨by decide, "java/util/NoSuchElementException", by decide +kernel, by decide +kernel, by decide +kernel⟩, fun _ hz => absurd hz List.not_mem_nil⟩⟩, rfl, by decide, by decide +kernel, by decide +kernel, Or.inr ⟨dL_puts_34, rfl⟩, by decide, rfl, rfl⟩, ?_⟩
        refine z_sipush (v := (-1003)) X dL_puts_36 (by decide) ?_
        refine z_iret X rfl rfl (Nat.le_of_ble_eq_true rfl) (Nat.le_of_ble_eq_true rfl) dL_puts_39 ?_
        exact ⟨_, rfl, (xi_p c0 (xi_p c1 (xi_p c2 (xi_n c3 ⟨rfl, rfl⟩))))⟩
    rintro _ _ ⟨c0, c1, c2, c3, rfl, rfl⟩
    refine z_iret X rfl rfl (Nat.le_of_ble_eq_true rfl) (Nat.le_of_ble_eq_true rfl) dL_puts_21 ?_
    exact ⟨_, rfl, (xi_p c0 (xi_p c1 (xi_p c2 (xi_p c3 ⟨(by rw [(h.1.1.2.2.1 _ c0.1).2.2]; exact xn_nI (by have := (h.1.1.2.2.2.1 _ (h.1.1.2.2.1 _ c0.1).2.1).1; have := h.1.1.2.1.1; omega)), by
        by_cases hS : y 1 (y 0 (cl p)) = cl r
        · rw [if_pos hS]
          exact xgO_m (n' := n) (i' := zup (zup i 1 43 0) 132 (cl p) r) (x' := x) (lm' := lm) (y' := y) (t' := t) (eV_132 (eV_43 (by omega) eV_rf)) rfl ((by rw [zup_self (by rw [e43 (by omega), (h.1.1.2.2.1 _ c0.1).2.2, hS]; exact c1.2)]; exact CI_43 h.1)) (xEI_of h.2 rfl rfl (fun a b ha => (by repeat rw [zup_n (by omega)])) (fun b hb => (by repeat rw [zup_n (by omega)])) (fun r => (by first | rfl | (repeat rw [zup_n (by omega)])))) ⟨rfl, rfl, rfl, (by first | rfl | (repeat rw [zup_n (by omega)]))⟩ (fun o ho => (by first | rfl | (repeat rw [zup_n (by omega)]))) (trivial)
        · rw [if_neg hS]
          exact xgO_m (n' := nup n 4 (n 4 + 1)) (i' := zup (zup i 1 43 0) 132 (cl p) r) (x' := zup x 4 (n 4) (i 1 0)) (lm' := lm) (y' := zup (zup (zup y 1 (n 4) (cl r)) 2 (n 4) (if x 4 (y 0 (cl p)) = i 1 0 then y 2 (y 0 (cl p)) else y 0 (cl p) + 1)) 0 (cl p) (n 4)) (t' := t) (eV_132 (eV_43 (by omega) eV_rf)) rfl ((by have h9 := CI_move (r := r) (CI_43 (v := 0) h.1) c0.1 c1 (by rw [e43 (by omega)]; exact c2) hS (by rw [flN_same (i := i) (fun p _ => ⟨e43 (by omega), e43 (by omega)⟩)]; exact (sp h.1 c1).2.1.mp (c3.resolve_left hS)); rw [show zup i 1 43 0 1 0 = i 1 0 from zup_n (by omega)] at h9; exact h9)) (xEI_of h.2 (nup_n (by decide)) (nup_n (by decide)) (fun a b ha => (by repeat rw [zup_n (by omega)])) (fun b hb => (by repeat rw [zup_n (by omega)])) (fun r => (by first | rfl | (repeat rw [zup_n (by omega)])))) ⟨nup_n (by decide), nup_n (by decide), nup_n (by decide), (by first | rfl | (repeat rw [zup_n (by omega)]))⟩ (fun o ho => (by first | rfl | (repeat rw [zup_n (by omega)]))) (trivial)⟩))))⟩
  · exact absurd c_3 (by decide)

set_option maxRecDepth 100000 in
set_option maxHeartbeats 4000000 in
theorem h_scrap (l : Launch) (hl0 : l.stackTraces = false) {n : Nat → Nat} {i x : Nat → Nat → Int32} {lm : Nat → Nat → Int64} {y : Nat → Nat → Nat} {t : Nat} (h : xSI n i x lm y t) (ol : Int64) (od : UInt64) (p : Int32) : zS l yL_pallet wsL_pallet 11 197 4 40 [.ref 1, .int p, .int 4] (cmm n i x lm y ol od) (zpi (fun v M1 => if cl p < n 7 ∧ p = nI (cl p) then (if i 134 (cl p) = 114 then (¬ v < -1000 ∧ xgO n ol od 0 0 0 (i 1 0) (i 138) (xZT) M1) else (v = (-1002) ∧ M1 = cmm n i x lm y ol od)) else (v = (-1001) ∧ M1 = cmm n i x lm y ol od))) zno := by
  refine z_introW (cc := cL_pallet) (maxL := 4) (ret := (some .int)) (hh := [(0, 56, 57, 36), (0, 56, 62, 59)]) (by decide +kernel) rfl (Nat.le_of_ble_eq_true rfl) ?_
  intro g X
  show zE g 4 0 [(0, .ref 1), (1, .int p), (2, .int 4)] [] (cmm n i x lm y ol od) 0 0
  refine z_iload_n X 2 dL_pallet_0 rfl rfl ?_
  refine z_if_ne X 12 dL_pallet_1 (by decide) (fun c_1 => ?_) (fun c_1 => ?_)
  · skip
    refine z_iload_n X 2 dL_pallet_12 rfl rfl ?_
    refine z_iconst (v := 1) X dL_pallet_13 (by decide) ?_
    refine z_icmp_ne X 25 dL_pallet_14 (by decide) (fun c_14 => ?_) (fun c_14 => ?_)
    · skip
      refine z_iload_n X 2 dL_pallet_25 rfl rfl ?_
      refine z_iconst (v := 2) X dL_pallet_26 (by decide) ?_
      refine z_icmp_ne X 38 dL_pallet_27 (by decide) (fun c_27 => ?_) (fun c_27 => ?_)
      · skip
        refine z_iload_n X 2 dL_pallet_38 rfl rfl ?_
        refine z_iconst (v := 3) X dL_pallet_39 (by decide) ?_
        refine z_icmp_ne X 51 dL_pallet_40 (by decide) (fun c_40 => ?_) (fun c_40 => ?_)
        · skip
          refine z_aload_n X 0 dL_pallet_51 rfl rfl ?_
          refine z_iload_n X 1 dL_pallet_52 rfl rfl ?_
          refine z_ctcVi (As := [.int p]) (rest := []) (n1 := 1) (ci := 10) X dL_pallet_53 (c_X7_scrap l hl0 n i x lm y ol od h.1.1 p) gL_pallet_X7_scrap rfl rfl (by decide +kernel) ⟨by decide, by decide⟩ ck_1 rfl rfl (Nat.le_of_ble_eq_true rfl) ⟨by decide, by decide⟩ (fun E he => ?_) ?_
          · rcases he with ⟨rfl, c0⟩ | ⟨rfl, c0, c1⟩
            · skip
              refine ⟨[(0, .ref 1), (1, .int p), (2, .int 4)], 58, ⟨[], ⟨0, 56, 57, 36⟩, [⟨0, 56, 62, 59⟩], 3, 1, rfl, fun _ hz => absurd hz List.not_mem_nil, rfl, by decide, by decide +kernel, by decide +kernel, Or.inl ⟨3, dL_pallet_57, rfl, rfl⟩, by decide, rfl, rfl⟩, ?_⟩
              refine z_sipush (v := (-1001)) X dL_pallet_58 (by decide) ?_
              refine z_iret X rfl rfl (Nat.le_of_ble_eq_true rfl) (Nat.le_of_ble_eq_true rfl) dL_pallet_61 ?_
              exact ⟨_, rfl, (xi_n c0 ⟨rfl, rfl⟩)⟩
            · skip
              refine ⟨[(0, .ref 1), (1, .int p), (2, .int 4)], 63, ⟨[⟨0, 56, 57, 36⟩], ⟨0, 56, 62, 59⟩, [], 3, 1, rfl, List.forall_mem_cons.mpr ⟨Or.inr ⟨by decide, "java/lang/IndexOutOfBoundsException", by decide +kernel, by decide +kernel, by decide +kernel⟩, fun _ hz => absurd hz List.not_mem_nil⟩, rfl, by decide, by decide +kernel, by decide +kernel, Or.inl ⟨3, dL_pallet_62, rfl, rfl⟩, by decide, rfl, rfl⟩, ?_⟩
              refine z_sipush (v := (-1002)) X dL_pallet_63 (by decide) ?_
              refine z_iret X rfl rfl (Nat.le_of_ble_eq_true rfl) (Nat.le_of_ble_eq_true rfl) dL_pallet_66 ?_
              exact ⟨_, rfl, (xi_p c0 (xi_n c1 ⟨rfl, rfl⟩))⟩
          rintro _ _ ⟨c0, c1, rfl, rfl⟩
          refine z_iret X rfl rfl (Nat.le_of_ble_eq_true rfl) (Nat.le_of_ble_eq_true rfl) dL_pallet_56 ?_
          exact ⟨_, rfl, (xi_p c0 (xi_p c1 ⟨xn_neg (lI_rv h.1 c0.1).2.1, xgO_m (n' := n) (i' := zup (zup i 1 43 0) 134 (cl p) 120) (x' := zup x 3 (cl p) (i 1 0)) (lm' := lm) (y' := y) (t' := t) (eV_zup (eV_43 (by omega) eV_rf) rfl) rfl (s_scrap (CI_43 h.1) c1 (e43 (by omega)) (e43 (by omega))) (xEI_of h.2 rfl rfl (fun a b ha => (by repeat rw [zup_n (by omega)])) (fun b hb => (by repeat rw [zup_n (by omega)])) (fun r => (by first | rfl | (repeat rw [zup_n (by omega)])))) ⟨rfl, rfl, rfl, (by first | rfl | (repeat rw [zup_n (by omega)]))⟩ (fun o ho => (by first | rfl | (repeat rw [zup_n (by omega)]))) (trivial)⟩))⟩
        · exact absurd c_40 (by decide)
      · exact absurd c_27 (by decide)
    · exact absurd c_14 (by decide)
  · exact absurd c_1 (by decide)

set_option maxRecDepth 100000 in
set_option maxHeartbeats 4000000 in
theorem h_order (l : Launch) (hl0 : l.stackTraces = false) {n : Nat → Nat} {i x : Nat → Nat → Int32} {lm : Nat → Nat → Int64} {y : Nat → Nat → Nat} {t : Nat} (h : xSI n i x lm y t) (ol : Int64) (od : UInt64) (kd : Int32) (a : Int32) (b : Int32) (c : Int32) : zS l yL_order wsL_order 13 247 8 1100 [.ref 1, .int kd, .int a, .int b, .int c] (cmm n i x lm y ol od) (zpi (fun v M1 => if cl kd < n 6 ∧ kd = nI (cl kd) then (if zin a 1 8 ∧ zin b 0 9999 ∧ zin c (i 1 0 + 1) 960 then (if n 8 < 12 then (v = nI (n 8) ∧ xgO n ol od 0 0 1 (i 1 0) (fun o => if o = n 8 then b else i 138 o) (xZT) M1) else (v = (-1003) ∧ M1 = cmm n i x lm y ol od)) else (v = (-1002) ∧ M1 = cmm n i x lm y ol od)) else (v = (-1001) ∧ M1 = cmm n i x lm y ol od))) zno := by
  refine z_introW (cc := cL_order) (maxL := 6) (ret := (some .int)) (hh := [(0, 9, 10, 36), (0, 9, 16, 13), (0, 9, 22, 15)]) (by decide +kernel) rfl (Nat.le_of_ble_eq_true rfl) ?_
  intro g X
  show zE g 6 0 [(0, .ref 1), (1, .int kd), (2, .int a), (3, .int b), (4, .int c)] [] (cmm n i x lm y ol od) 0 0
  refine z_aload_n X 0 dL_order_0 rfl rfl ?_
  refine z_iload_n X 1 dL_order_1 rfl rfl ?_
  refine z_iload_n X 2 dL_order_2 rfl rfl ?_
  refine z_iload_n X 3 dL_order_3 rfl rfl ?_
  refine z_iload X 4 dL_order_4 rfl ?_
  refine z_ctcVi (As := [.int kd, .int a, .int b, .int c]) (rest := []) (n1 := 4) (ci := 10) X dL_order_6 (c_X7_order l hl0 n i x lm y ol od h.1.1 kd a b c) gL_order_X7_order rfl rfl (by decide +kernel) ⟨by decide, by decide⟩ ck_1 rfl rfl (Nat.le_of_ble_eq_true rfl) ⟨by decide, by decide⟩ (fun E he => ?_) ?_
  · rcases he with ⟨rfl, c0⟩ | ⟨rfl, c0, c1⟩ | ⟨rfl, c0, c1, c2⟩
    · skip
      refine ⟨[(0, .ref 1), (1, .int kd), (2, .int a), (3, .int b), (4, .int c)], 12, ⟨[], ⟨0, 9, 10, 36⟩, [⟨0, 9, 16, 13⟩, ⟨0, 9, 22, 15⟩], 5, 2, rfl, fun _ hz => absurd hz List.not_mem_nil, rfl, by decide, by decide +kernel, by decide +kernel, Or.inr ⟨dL_order_10, rfl⟩, by decide, rfl, rfl⟩, ?_⟩
      refine z_sipush (v := (-1001)) X dL_order_12 (by decide) ?_
      refine z_iret X rfl rfl (Nat.le_of_ble_eq_true rfl) (Nat.le_of_ble_eq_true rfl) dL_order_15 ?_
      exact ⟨_, rfl, (xi_n c0 ⟨rfl, rfl⟩)⟩
    · skip
      refine ⟨[(0, .ref 1), (1, .int kd), (2, .int a), (3, .int b), (4, .int c)], 18, ⟨[⟨0, 9, 10, 36⟩], ⟨0, 9, 16, 13⟩, [⟨0, 9, 22, 15⟩], 5, 2, rfl, List.forall_mem_cons.mpr ⟨Or.inr ⟨by decide, "java/lang/IndexOutOfBoundsException", by decide +kernel, by decide +kernel, by decide +kernel⟩, fun _ hz => absurd hz List.not_mem_nil⟩, rfl, by decide, by decide +kernel, by decide +kernel, Or.inr ⟨dL_order_16, rfl⟩, by decide, rfl, rfl⟩, ?_⟩
      refine z_sipush (v := (-1002)) X dL_order_18 (by decide) ?_
      refine z_iret X rfl rfl (Nat.le_of_ble_eq_true rfl) (Nat.le_of_ble_eq_true rfl) dL_order_21 ?_
      exact ⟨_, rfl, (xi_p c0 (xi_n c1 ⟨rfl, rfl⟩))⟩
    · skip
      refine ⟨[(0, .ref 1), (1, .int kd), (2, .int a), (3, .int b), (4, .int c)], 24, ⟨[⟨0, 9, 10, 36⟩, ⟨0, 9, 16, 13⟩], ⟨0, 9, 22, 15⟩, [], 5, 2, rfl, List.forall_mem_cons.mpr ⟨Or.inr ⟨by decide, "java/lang/IndexOutOfBoundsException", by decide +kernel, by decide +kernel, by decide +kernel⟩, List.forall_mem_cons.mpr ⟨Or.inr ⟨by decide, "java/lang/IllegalArgumentException", by decide +kernel, by decide +kernel, by decide +kernel⟩, fun _ hz => absurd hz List.not_mem_nil⟩⟩, rfl, by decide, by decide +kernel, by decide +kernel, Or.inr ⟨dL_order_22, rfl⟩, by decide, rfl, rfl⟩, ?_⟩
      refine z_sipush (v := (-1003)) X dL_order_24 (by decide) ?_
      refine z_iret X rfl rfl (Nat.le_of_ble_eq_true rfl) (Nat.le_of_ble_eq_true rfl) dL_order_27 ?_
      exact ⟨_, rfl, (xi_p c0 (xi_p c1 (xi_n c2 ⟨rfl, rfl⟩)))⟩
  rintro _ _ ⟨c0, c1, c2, rfl, rfl⟩
  refine z_iret X rfl rfl (Nat.le_of_ble_eq_true rfl) (Nat.le_of_ble_eq_true rfl) dL_order_9 ?_
  exact ⟨_, rfl, (xi_p c0 (xi_p c1 (xi_p c2 ⟨(by rw [← nI_1, Int32.add_sub_cancel, h.1.1.1.2.2.2]), xgO_m (n' := nup (nup n 3 (n 3 + 1)) 8 (n 3 + 1)) (i' := zup (zup (zup (zup (zup (zup (zup i 1 43 0) 136 (n 8) kd) 137 (n 8) a) 138 (n 8) b) 139 (n 8) c) 140 (n 8) 111) 1 42 (nI (n 8) + 1)) (x' := x) (lm' := lm) (y' := y) (t' := t) (by rw [h.1.1.1.2.2.2]; exact eV_ord (h.1.2.2.2.2.2.2.2.2.2.1.2 _ (Nat.le_refl _))) rfl (CI_order (CI_43 h.1) c2 c0 c1.1 (by rw [e43 (by omega)]; exact c1.2.2)) (xEI_order h.1 h.2) ⟨(nup_n (by decide)).trans (nup_n (by decide)), (nup_n (by decide)).trans (nup_n (by decide)), (by rw [nup_s, h.1.1.1.2.2.2]), (by first | rfl | (repeat rw [zup_n (by omega)]))⟩ (fun o ho => by
      by_cases co : o = n 8
      · rw [if_pos co, co, zup_n (by omega), zup_n (by omega), zup_n (by omega), zup_s]
      · rw [if_neg co]; repeat rw [zup_n (by omega)]) (trivial)⟩)))⟩

set_option maxRecDepth 100000 in
set_option maxHeartbeats 4000000 in
theorem h_cancel (l : Launch) (hl0 : l.stackTraces = false) {n : Nat → Nat} {i x : Nat → Nat → Int32} {lm : Nat → Nat → Int64} {y : Nat → Nat → Nat} {t : Nat} (h : xSI n i x lm y t) (ol : Int64) (od : UInt64) (o : Int32) : zS l yL_orders wsL_orders 11 198 4 40 [.ref 1, .int o, .int 0] (cmm n i x lm y ol od) (zpi (fun v M1 => if cl o < n 8 ∧ o = nI (cl o) then (if i 140 (cl o) = 111 then (¬ v < -1000 ∧ xgO n ol od 0 0 0 (i 1 0) (i 138) (xZT) M1) else (v = (-1002) ∧ M1 = cmm n i x lm y ol od)) else (v = (-1001) ∧ M1 = cmm n i x lm y ol od))) zno := by
  refine z_introW (cc := cL_orders) (maxL := 4) (ret := (some .int)) (hh := [(0, 73, 74, 36), (0, 73, 79, 15), (0, 73, 84, 59), (0, 73, 89, 130)]) (by decide +kernel) rfl (Nat.le_of_ble_eq_true rfl) ?_
  intro g X
  show zE g 4 0 [(0, .ref 1), (1, .int o), (2, .int 0)] [] (cmm n i x lm y ol od) 0 0
  refine z_iload_n X 2 dL_orders_0 rfl rfl ?_
  refine z_if_ne X 12 dL_orders_1 (by decide) (fun c_1 => ?_) (fun c_1 => ?_)
  · exact absurd c_1 (by decide)
  · skip
    refine z_aload_n X 0 dL_orders_4 rfl rfl ?_
    refine z_iload_n X 1 dL_orders_5 rfl rfl ?_
    refine z_ctcVi (As := [.int o]) (rest := []) (n1 := 1) (ci := 10) X dL_orders_6 (c_X7_cancel l hl0 n i x lm y ol od h.1.1 o) gL_orders_X7_cancel rfl rfl (by decide +kernel) ⟨by decide, by decide⟩ ck_1 rfl rfl (Nat.le_of_ble_eq_true rfl) ⟨by decide, by decide⟩ (fun E he => ?_) ?_
    · rcases he with ⟨rfl, c0⟩ | ⟨rfl, c0, c1⟩
      · skip
        refine ⟨[(0, .ref 1), (1, .int o), (2, .int 0)], 75, ⟨[], ⟨0, 73, 74, 36⟩, [⟨0, 73, 79, 15⟩, ⟨0, 73, 84, 59⟩, ⟨0, 73, 89, 130⟩], 3, 1, rfl, fun _ hz => absurd hz List.not_mem_nil, rfl, by decide, by decide +kernel, by decide +kernel, Or.inl ⟨3, dL_orders_74, rfl, rfl⟩, by decide, rfl, rfl⟩, ?_⟩
        refine z_sipush (v := (-1001)) X dL_orders_75 (by decide) ?_
        refine z_iret X rfl rfl (Nat.le_of_ble_eq_true rfl) (Nat.le_of_ble_eq_true rfl) dL_orders_78 ?_
        exact ⟨_, rfl, (xi_n c0 ⟨rfl, rfl⟩)⟩
      · skip
        refine ⟨[(0, .ref 1), (1, .int o), (2, .int 0)], 80, ⟨[⟨0, 73, 74, 36⟩], ⟨0, 73, 79, 15⟩, [⟨0, 73, 84, 59⟩, ⟨0, 73, 89, 130⟩], 3, 1, rfl, List.forall_mem_cons.mpr ⟨Or.inr ⟨by decide, "java/lang/IndexOutOfBoundsException", by decide +kernel, by decide +kernel, by decide +kernel⟩, fun _ hz => absurd hz List.not_mem_nil⟩, rfl, by decide, by decide +kernel, by decide +kernel, Or.inl ⟨3, dL_orders_79, rfl, rfl⟩, by decide, rfl, rfl⟩, ?_⟩
        refine z_sipush (v := (-1002)) X dL_orders_80 (by decide) ?_
        refine z_iret X rfl rfl (Nat.le_of_ble_eq_true rfl) (Nat.le_of_ble_eq_true rfl) dL_orders_83 ?_
        exact ⟨_, rfl, (xi_p c0 (xi_n c1 ⟨rfl, rfl⟩))⟩
    rintro _ _ ⟨c0, c1, rfl, rfl⟩
    refine z_goto (tgt := 73) X dL_orders_9 (by decide) ?_
    refine z_iret X rfl rfl (Nat.le_of_ble_eq_true rfl) (Nat.le_of_ble_eq_true rfl) dL_orders_73 ?_
    exact ⟨_, rfl, (xi_p c0 (xi_p c1 ⟨(by obtain ⟨c, k1, k2⟩ := xn_open (zup i 140 (cl o) 99) (n 8); rw [k2]; exact xn_nI (by have := h.1.1.2.1.2.2.2; omega)), xgO_m (n' := n) (i' := zup (zup i 1 43 0) 140 (cl o) 99) (x' := x) (lm' := lm) (y' := y) (t' := t) (eV_zup (eV_43 (by omega) eV_rf) rfl) rfl (CI_can (CI_43 h.1)) (xEI_can (xEI_43 h.2)) ⟨rfl, rfl, rfl, (by first | rfl | (repeat rw [zup_n (by omega)]))⟩ (fun o ho => (by first | rfl | (repeat rw [zup_n (by omega)]))) (trivial)⟩))⟩

set_option maxRecDepth 100000 in
set_option maxHeartbeats 4000000 in
theorem h_ship (l : Launch) (hl0 : l.stackTraces = false) {n : Nat → Nat} {i x : Nat → Nat → Int32} {lm : Nat → Nat → Int64} {y : Nat → Nat → Nat} {t : Nat} (h : xSI n i x lm y t) (ol : Int64) (od : UInt64) (o : Int32) : zS l yL_orders wsL_orders 12 226 8 1100 [.ref 1, .int o, .int 1] (cmm n i x lm y ol od) (zpi (fun v M1 => if cl o < n 8 ∧ o = nI (cl o) then (if i 140 (cl o) = 111 then (if i 137 (cl o) ≤ m_cnt i (cl o) (n 7) then (¬ v < -1000 ∧ xgO n ol od 0 0 0 (i 1 0) (i 138) (fun n' i' => (cl o < n' 8 ∧ o = nI (cl o)) ∧ i' 140 (cl o) = 115 ∧ m_cntN i' (cl o) (n' 7) < m_cntN i (cl o) (n 7)) M1) else (v = (-1003) ∧ M1 = cmm n i x lm y ol od)) else (v = (-1002) ∧ M1 = cmm n i x lm y ol od)) else (v = (-1001) ∧ M1 = cmm n i x lm y ol od))) zno := by
  refine z_introW (cc := cL_orders) (maxL := 4) (ret := (some .int)) (hh := [(0, 73, 74, 36), (0, 73, 79, 15), (0, 73, 84, 59), (0, 73, 89, 130)]) (by decide +kernel) rfl (Nat.le_of_ble_eq_true rfl) ?_
  intro g X
  show zE g 4 0 [(0, .ref 1), (1, .int o), (2, .int 1)] [] (cmm n i x lm y ol od) 0 0
  refine z_iload_n X 2 dL_orders_0 rfl rfl ?_
  refine z_if_ne X 12 dL_orders_1 (by decide) (fun c_1 => ?_) (fun c_1 => ?_)
  · skip
    refine z_iload_n X 2 dL_orders_12 rfl rfl ?_
    refine z_iconst (v := 1) X dL_orders_13 (by decide) ?_
    refine z_icmp_ne X 25 dL_orders_14 (by decide) (fun c_14 => ?_) (fun c_14 => ?_)
    · exact absurd c_14 (by decide)
    · skip
      refine z_aload_n X 0 dL_orders_17 rfl rfl ?_
      refine z_iload_n X 1 dL_orders_18 rfl rfl ?_
      refine z_ctcVi (As := [.int o]) (rest := []) (n1 := 1) (ci := 10) X dL_orders_19 (s_shipC l hl0 h.1 ol od o) gL_orders_X7_ship rfl rfl (by decide +kernel) ⟨by decide, by decide⟩ ck_1 rfl rfl (Nat.le_of_ble_eq_true rfl) ⟨by decide, by decide⟩ (fun E he => ?_) ?_
      · rcases he with ⟨rfl, c0⟩ | ⟨rfl, c0, c1⟩ | ⟨rfl, c0, c1, c2⟩
        · skip
          refine ⟨[(0, .ref 1), (1, .int o), (2, .int 1)], 75, ⟨[], ⟨0, 73, 74, 36⟩, [⟨0, 73, 79, 15⟩, ⟨0, 73, 84, 59⟩, ⟨0, 73, 89, 130⟩], 3, 1, rfl, fun _ hz => absurd hz List.not_mem_nil, rfl, by decide, by decide +kernel, by decide +kernel, Or.inl ⟨3, dL_orders_74, rfl, rfl⟩, by decide, rfl, rfl⟩, ?_⟩
          refine z_sipush (v := (-1001)) X dL_orders_75 (by decide) ?_
          refine z_iret X rfl rfl (Nat.le_of_ble_eq_true rfl) (Nat.le_of_ble_eq_true rfl) dL_orders_78 ?_
          exact ⟨_, rfl, (xi_n c0 ⟨rfl, rfl⟩)⟩
        · skip
          refine ⟨[(0, .ref 1), (1, .int o), (2, .int 1)], 80, ⟨[⟨0, 73, 74, 36⟩], ⟨0, 73, 79, 15⟩, [⟨0, 73, 84, 59⟩, ⟨0, 73, 89, 130⟩], 3, 1, rfl, List.forall_mem_cons.mpr ⟨Or.inr ⟨by decide, "java/lang/IndexOutOfBoundsException", by decide +kernel, by decide +kernel, by decide +kernel⟩, fun _ hz => absurd hz List.not_mem_nil⟩, rfl, by decide, by decide +kernel, by decide +kernel, Or.inl ⟨3, dL_orders_79, rfl, rfl⟩, by decide, rfl, rfl⟩, ?_⟩
          refine z_sipush (v := (-1002)) X dL_orders_80 (by decide) ?_
          refine z_iret X rfl rfl (Nat.le_of_ble_eq_true rfl) (Nat.le_of_ble_eq_true rfl) dL_orders_83 ?_
          exact ⟨_, rfl, (xi_p c0 (xi_n c1 ⟨rfl, rfl⟩))⟩
        · skip
          refine ⟨[(0, .ref 1), (1, .int o), (2, .int 1)], 90, ⟨[⟨0, 73, 74, 36⟩, ⟨0, 73, 79, 15⟩, ⟨0, 73, 84, 59⟩], ⟨0, 73, 89, 130⟩, [], 3, 1, rfl, List.forall_mem_cons.mpr ⟨Or.inr ⟨by decide, "java/lang/IndexOutOfBoundsException", by decide +kernel, by decide +kernel, by decide +kernel⟩, List.forall_mem_cons.mpr ⟨Or.inr ⟨by decide, "java/lang/IllegalStateException", by decide +kernel, by decide +kernel, by decide +kernel⟩, List.forall_mem_cons.mpr ⟨Or.inr ⟨by decide, "java/util/NoSuchElementException", by decide +kernel, by decide +kernel, by decide +kernel⟩, fun _ hz => absurd hz List.not_mem_nil⟩⟩⟩, rfl, by decide, by decide +kernel, by decide +kernel, Or.inl ⟨3, dL_orders_89, rfl, rfl⟩, by decide, rfl, rfl⟩, ?_⟩
          refine z_sipush (v := (-1003)) X dL_orders_90 (by decide) ?_
          refine z_iret X rfl rfl (Nat.le_of_ble_eq_true rfl) (Nat.le_of_ble_eq_true rfl) dL_orders_93 ?_
          exact ⟨_, rfl, (xi_p c0 (xi_p c1 (xi_n c2 ⟨rfl, rfl⟩)))⟩
      rintro _ _ ⟨c0, c1, c2, rfl, rfl⟩
      refine z_goto (tgt := 73) X dL_orders_22 (by decide) ?_
      refine z_iret X rfl rfl (Nat.le_of_ble_eq_true rfl) (Nat.le_of_ble_eq_true rfl) dL_orders_73 ?_
      exact ⟨_, rfl, (xi_p c0 (xi_p c1 (xi_p c2 ⟨(xn_ship h.1 c0.1 c2).2.1, xgO_m (n' := n) (i' := m_ships (zup i 1 43 0) (cl o) (n 7)) (x' := (c_ships (cl o) (n 7) (cl (i 137 (cl o))) (zup i 1 43 0) x).2.1) (lm' := lm) (y' := y) (t' := t) ((s_ship h.1 c0.1 c2).2.1) rfl ((s_ship h.1 c0.1 c2).2.2) (xEI_ship (xEI_43 h.2) h.1.1.2.1.2.2.1 (xn_ship h.1 c0.1 c2).1 (xn_ship h.1 c0.1 c2).2.2.1) ⟨rfl, rfl, rfl, (m_ships_o (by decide) (by decide) (by decide)).trans (zup_n (by omega))⟩ (fun o ho => (m_ships_o (by decide) (by decide) (by decide)).trans (zup_n (by omega))) (⟨c0, (xn_ship h.1 c0.1 c2).2.2.2⟩)⟩)))⟩
  · exact absurd c_1 (by decide)

set_option maxRecDepth 100000 in
set_option maxHeartbeats 4000000 in
theorem h_pass (l : Launch) (hl0 : l.stackTraces = false) {n : Nat → Nat} {i x : Nat → Nat → Int32} {lm : Nat → Nat → Int64} {y : Nat → Nat → Nat} {t : Nat} (h : xSI n i x lm y t) (ol : Int64) (od : UInt64) (u : Int32) : zS l yL_pass wsL_pass 14 273 8 1100 [.ref 1, .int u] (cmm n i x lm y ol od) (zpi (fun v M1 => if zin u 1 96 then (if u ≤ 960 - i 1 0 then (¬ v < -1000 ∧ xgO n ol od 0 0 0 (i 1 0 + u) (i 138) (xZT) M1) else (v = (-1002) ∧ M1 = cmm n i x lm y ol od)) else (v = (-1001) ∧ M1 = cmm n i x lm y ol od))) zno := by
  refine z_introW (cc := cL_pass) (maxL := 3) (ret := (some .int)) (hh := [(0, 5, 6, 13), (0, 5, 11, 15)]) (by decide +kernel) rfl (Nat.le_of_ble_eq_true rfl) ?_
  intro g X
  show zE g 3 0 [(0, .ref 1), (1, .int u)] [] (cmm n i x lm y ol od) 0 0
  refine z_aload_n X 0 dL_pass_0 rfl rfl ?_
  refine z_iload_n X 1 dL_pass_1 rfl rfl ?_
  refine z_ctcVi (As := [.int u]) (rest := []) (n1 := 1) (ci := 10) X dL_pass_2 (s_passC l hl0 h.1 ol od u) gL_pass_X7_pass rfl rfl (by decide +kernel) ⟨by decide, by decide⟩ ck_1 rfl rfl (Nat.le_of_ble_eq_true rfl) ⟨by decide, by decide⟩ (fun E he => ?_) ?_
  · rcases he with ⟨rfl, c0⟩ | ⟨rfl, c0, c1⟩
    · skip
      refine ⟨[(0, .ref 1), (1, .int u)], 7, ⟨[], ⟨0, 5, 6, 13⟩, [⟨0, 5, 11, 15⟩], 2, 1, rfl, fun _ hz => absurd hz List.not_mem_nil, rfl, by decide, by decide +kernel, by decide +kernel, Or.inl ⟨2, dL_pass_6, rfl, rfl⟩, by decide, rfl, rfl⟩, ?_⟩
      refine z_sipush (v := (-1001)) X dL_pass_7 (by decide) ?_
      refine z_iret X rfl rfl (Nat.le_of_ble_eq_true rfl) (Nat.le_of_ble_eq_true rfl) dL_pass_10 ?_
      exact ⟨_, rfl, (xi_n c0 ⟨rfl, rfl⟩)⟩
    · skip
      refine ⟨[(0, .ref 1), (1, .int u)], 12, ⟨[⟨0, 5, 6, 13⟩], ⟨0, 5, 11, 15⟩, [], 2, 1, rfl, List.forall_mem_cons.mpr ⟨Or.inr ⟨by decide, "java/lang/IllegalArgumentException", by decide +kernel, by decide +kernel, by decide +kernel⟩, fun _ hz => absurd hz List.not_mem_nil⟩, rfl, by decide, by decide +kernel, by decide +kernel, Or.inl ⟨2, dL_pass_11, rfl, rfl⟩, by decide, rfl, rfl⟩, ?_⟩
      refine z_sipush (v := (-1002)) X dL_pass_12 (by decide) ?_
      refine z_iret X rfl rfl (Nat.le_of_ble_eq_true rfl) (Nat.le_of_ble_eq_true rfl) dL_pass_15 ?_
      exact ⟨_, rfl, (xi_p c0 (xi_n c1 ⟨rfl, rfl⟩))⟩
  rintro _ _ ⟨c0, c1, rfl, rfl⟩
  refine z_iret X rfl rfl (Nat.le_of_ble_eq_true rfl) (Nat.le_of_ble_eq_true rfl) dL_pass_5 ?_
  exact ⟨_, rfl, (xi_p c0 (xi_p c1 ⟨(by obtain ⟨c, k1, k2⟩ := xn_tkS (nr := n 5) (np := n 7) h.1.1.2.1.2.2.2 (zup i 1 43 0) (cl u); rw [k2]; exact xn_nI (by have := s_960t h.1 c0 c1; omega)), xgO_m (n' := n) (i' := m_tkI (n 5) (n 7) (n 8) (zup i 1 43 0) (cl u)) (x' := c_px n y (zup i 1 43 0) x (cl u)) (lm' := m_tkL (n 5) (n 7) (n 8) (zup i 1 43 0) lm (cl u)) (y' := y) (t' := t + cl u) (eV_rf) rfl (pass_CI (CI_43 h.1) (cl u) (s_960t h.1 c0 c1)) (pass_xEI (CI_43 h.1) (xEI_43 h.2) (cl u) (s_960t h.1 c0 c1)) ⟨rfl, rfl, rfl, (pass_CI (CI_43 h.1) (cl u) (s_960t h.1 c0 c1)).2.1.1.trans ((nI_add t (cl u)).symm.trans (by rw [h.1.2.1.1, ← xn_u c0]))⟩ (fun o ho => (m_tkI_o (by omega) _).trans (zup_n (by omega))) (trivial)⟩))⟩
