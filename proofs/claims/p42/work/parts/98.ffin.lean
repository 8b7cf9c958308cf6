/-! PART 98f: the law's last checks -/
section ZLC7
variable {g : zCtx} {l0 : Launch} {nm : String} {M00 : zMem} {post : Option Value → zMem → Prop} {tab : List ExceptionTableEntry} {kk nn : Nat}
variable {n : Nat → Nat} {i x : Nat → Nat → Int32} {lm : Nat → Nat → Int64} {y : Nat → Nat → Nat} {t : Nat} {pr : Nat → Int32}
theorem xv_z {N : Nat} (h : ¬ nI N ≤ 0) (hN : N < 2 ^ 30) : cl 0 < N ∧ (0 : Int32) = nI (cl 0) := by
  have h0 : cl 0 = 0 := by decide
  rw [h0]
  refine ⟨?_, nI_0.symm⟩
  rcases Nat.eq_zero_or_pos N with e | e
  · subst e
    exact absurd (by rw [nI_0]; exact Int32.le_refl _) h
  · exact e
theorem v_lostN (i : Nat → Nat → Int32) : ∀ m, ∃ j, j ≤ m ∧ m_lost i m = nI j
  | 0 => ⟨0, Nat.le_refl _, nI_0.symm⟩
  | m + 1 => by
    obtain ⟨j, h1, h2⟩ := v_lostN i m
    show ∃ d, d ≤ m + 1 ∧ m_lost i m + zb (i 134 m = 120 ∨ i 133 m = 0) = nI d
    rw [h2]
    by_cases e : i 134 m = 120 ∨ i 133 m = 0
    · exact ⟨j + 1, by omega, by rw [zb_t e, nI_1]⟩
    · exact ⟨j, by omega, by rw [zb_f e, Int32.add_zero]⟩
theorem zf_lostc : ∀ m : Fin 25, ∀ j : Fin 25, j.val ≤ m.val → ¬ m.val = 0 → ¬ Op.cmpValue (FP.fcmp (FP.fdiv (FP.i2f (nI j.val)) (FP.i2f (nI m.val))) 3212836864) .l = 0 ∧ ¬ 0 < Op.cmpValue (FP.fcmp (FP.fdiv (FP.i2f (nI j.val)) (FP.i2f (nI m.val))) FP.fconst1) .g := by decide +kernel
theorem zf_lost0 : Op.cmpValue (FP.fcmp 3212836864 3212836864) .l = 0 ∧ ¬ 0 < Op.cmpValue (FP.fcmp 3212836864 FP.fconst1) .g := by decide +kernel
theorem zf_mean0 : Op.cmpValue (FP.dcmp 13875388141788987392 13875388141788987392) .l = 0 := by decide +kernel
theorem v_lost (h : xSI n i x lm y t) : (nI (n 7) = 0 → Op.cmpValue (FP.fcmp (a_lost n i x y) 3212836864) .l = 0) ∧ (¬ nI (n 7) = 0 → ¬ Op.cmpValue (FP.fcmp (a_lost n i x y) 3212836864) .l = 0) ∧ ¬ 0 < Op.cmpValue (FP.fcmp (a_lost n i x y) FP.fconst1) .g := by
  have h7 := h.1.1.2.1.2.2.1
  by_cases c : n 7 = 0
  · have e : a_lost n i x y = 3212836864 := if_neg (fun z => z c)
    rw [e, c]
    exact ⟨fun _ => zf_lost0.1, fun z => absurd nI_0 z, zf_lost0.2⟩
  · obtain ⟨j, j1, j2⟩ := v_lostN i (n 7)
    have e : a_lost n i x y = FP.fdiv (FP.i2f (nI j)) (FP.i2f (nI (n 7))) := by rw [← j2]; exact if_pos c
    have k := zf_lostc ⟨n 7, by omega⟩ ⟨j, by omega⟩ j1 c
    rw [e]
    exact ⟨fun z => absurd z (nI_ne0 (Nat.pos_of_ne_zero c) (by omega)), fun _ => k.1, k.2⟩
theorem v_at9 (h : xSI n i x lm y t) (c : ¬ nI (n 8) ≤ 0) : a_ordA n i x y 0 9 = -1002 := by
  have h8 := h.1.1.2.1.2.2.2
  refine (if_pos (xv_z c (by omega))).trans (if_neg (fun e => e ?_))
  unfold c_at
  exact if_pos (Or.inl (by decide))
set_option maxRecDepth 100000 in
set_option maxHeartbeats 8000000 in
theorem zf_1488 (hl0 : l0.stackTraces = false) (X : zLX g l0 nm M00 (zpi (fun v _ => v = 1)) tab) (h : xSI n i x lm y t) (hpr : ∀ o, o < n 8 → pr o = i 138 o) (hkk : kk + 516 ≤ 600312 ∧ nn + 5160 ≤ 7293409) : zE g 19 1488 [(0, .ref 17), (1, .ref 1), (2, .int (nI (n 5))), (3, .int (nI (n 6))), (4, .int (nI (n 8))), (5, .ref 16), (7, .long (xsum n i x lm y)), (9, .int (nI (n 7)))] [] (zmg (cmm n i x lm y 0 0) (pM pr)) kk nn := by
  have h7 := h.1.1.2.1.2.2.1
  have h5 := h.1.1.2.1.1
  have h6 := h.1.1.2.1.2.1
  have h8 := h.1.1.2.1.2.2.2
  refine z_aload_n X 1 dL_law_1488 rfl rfl ?_
  refine z_iload_n X 2 dL_law_1489 rfl rfl ?_
  refine z_iconst (v := 0) X dL_law_1490 (by decide) ?_
  refine z_callSWiN (As := [.ref 1, .int (nI (n 5)), .int 0]) (rest := []) (n1 := 3) X dL_law_1491 (zC_ri (h_of0 l0 hl0 h 0 0 (nI (n 5))) zCok_cmm rfl) gL_law_L_of rfl rfl (by decide +kernel) ⟨by decide, by decide⟩ rfl (Nat.le_of_ble_eq_true rfl) ⟨by omega, by omega⟩ ?_
  rintro _ _ ⟨rfl, rfl⟩
  refine z_sipush (v := (-1001)) X dL_law_1494 (by decide) ?_
  refine z_icmp_ne X 1579 dL_law_1497 (by decide) (fun c_1497 => ?_) (fun c_1497 => ?_)
  · exact absurd (if_neg (xv_o (Nat.le_refl _) (by omega))) c_1497
  · skip
    refine z_aload_n X 1 dL_law_1500 rfl rfl ?_
    refine z_iconst (v := (-1)) X dL_law_1501 (by decide) ?_
    refine z_iconst (v := 3) X dL_law_1502 (by decide) ?_
    refine z_callSWiN (As := [.ref 1, .int (-1), .int 3]) (rest := []) (n1 := 3) X dL_law_1503 (zC_ri (h_of3 l0 hl0 h 0 0 (-1)) zCok_cmm rfl) gL_law_L_of rfl rfl (by decide +kernel) ⟨by decide, by decide⟩ rfl (Nat.le_of_ble_eq_true rfl) ⟨by omega, by omega⟩ ?_
    rintro _ _ ⟨rfl, rfl⟩
    refine z_sipush (v := (-1001)) X dL_law_1506 (by decide) ?_
    refine z_icmp_ne X 1579 dL_law_1509 (by decide) (fun c_1509 => ?_) (fun c_1509 => ?_)
    · exact absurd (if_neg (xv_m (by omega))) c_1509
    · skip
      refine z_aload_n X 1 dL_law_1512 rfl rfl ?_
      refine z_iload_n X 2 dL_law_1513 rfl rfl ?_
      refine z_callSWdN (As := [.ref 1, .int (nI (n 5))]) (rest := []) (n1 := 2) X dL_law_1514 (zC_rd (h_mean l0 hl0 h 0 0 (nI (n 5))) zCok_cmm rfl) gL_law_L_mean rfl rfl (by decide +kernel) ⟨by decide, by decide⟩ rfl (Nat.le_of_ble_eq_true rfl) ⟨by omega, by omega⟩ ?_
      rintro _ _ ⟨rfl, rfl⟩
      refine z_ldcD (v := 13875388141788987392) X dL_law_1517 (by decide +kernel) ?_
      refine z_dcmp X dL_law_1520 ?_
      refine z_if_ne X 1579 dL_law_1521 (by decide) (fun c_1521 => ?_) (fun c_1521 => ?_)
      · exact absurd (by rw [show a_mean n i x y (nI (n 5)) = 13875388141788987392 from if_neg (xv_o (Nat.le_refl _) (by omega))]; exact zf_mean0) c_1521
      · skip
        refine z_aload_n X 1 dL_law_1524 rfl rfl ?_
        refine z_callSWfN (As := [.ref 1]) (rest := []) (n1 := 1) X dL_law_1525 (zC_rf (h_lost l0 hl0 h 0 0) zCok_cmm rfl) gL_law_L_lost rfl rfl (by decide +kernel) ⟨by decide, by decide⟩ rfl (Nat.le_of_ble_eq_true rfl) ⟨by omega, by omega⟩ ?_
        rintro _ _ ⟨rfl, rfl⟩
        refine z_ldcF (v := 3212836864) X dL_law_1528 (by decide +kernel) ?_
        refine z_fcmp X dL_law_1530 ?_
        refine z_if_ne X 1538 dL_law_1531 (by decide) (fun c_1531 => ?_) (fun c_1531 => ?_)
        · skip
          refine z_iconst (v := 0) X dL_law_1538 (by decide) ?_
          refine z_iload X 7 dL_law_1539 rfl ?_
          refine z_if_ne X 1548 dL_law_1541 (by decide) (fun c_1541 => ?_) (fun c_1541 => ?_)
          · skip
            refine z_iconst (v := 0) X dL_law_1548 (by decide) ?_
            refine z_icmp_ne X 1579 dL_law_1549 (by decide) (fun c_1549 => ?_) (fun c_1549 => ?_)
            · exact absurd c_1549 (by decide)
            · skip
              refine z_aload_n X 1 dL_law_1552 rfl rfl ?_
              refine z_callSWfN (As := [.ref 1]) (rest := []) (n1 := 1) X dL_law_1553 (zC_rf (h_lost l0 hl0 h 0 0) zCok_cmm rfl) gL_law_L_lost rfl rfl (by decide +kernel) ⟨by decide, by decide⟩ rfl (Nat.le_of_ble_eq_true rfl) ⟨by omega, by omega⟩ ?_
              rintro _ _ ⟨rfl, rfl⟩
              refine z_fconst1 X dL_law_1556 ?_
              refine z_fcmp X dL_law_1557 ?_
              refine z_if_gt X 1579 dL_law_1558 (by decide) (fun c_1558 => ?_) (fun c_1558 => ?_)
              · exact absurd c_1558 (v_lost h).2.2
              · skip
                refine z_aload_n X 1 dL_law_1561 rfl rfl ?_
                refine z_iload_n X 2 dL_law_1562 rfl rfl ?_
                refine z_iload_n X 3 dL_law_1563 rfl rfl ?_
                refine z_iload X 4 dL_law_1564 rfl ?_
                refine z_callSlN (As := [.ref 1, .int (nI (n 5)), .int (nI (n 6)), .int (nI (n 8))]) (rest := []) (n1 := 4) X dL_law_1566 (zC_rl (h_sum l0 hl0 h 0 0) zCok_cmm rfl) gL_law_L_sum rfl rfl (by decide +kernel) ⟨by decide, by decide⟩ rfl (Nat.le_of_ble_eq_true rfl) ⟨by omega, by omega⟩ ?_
                rintro _ _ ⟨rfl, rfl⟩
                refine z_lload X 6 dL_law_1569 rfl ?_
                refine z_lcmp X dL_law_1571 ?_
                refine z_if_ne X 1579 dL_law_1572 (by decide) (fun c_1572 => ?_) (fun c_1572 => ?_)
                · exact absurd (zcmp0 _) c_1572
                · skip
                  refine z_iconst (v := 1) X dL_law_1575 (by decide) ?_
                  refine z_goto (tgt := 1580) X dL_law_1576 (by decide) ?_
                  refine z_iret X rfl (rfl) (by omega) (by omega) dL_law_1580 ?_
                  exact ⟨_, rfl, rfl⟩
          · exact absurd ((v_lost h).1 c_1541) c_1531
        · skip
          refine z_iconst (v := 1) X dL_law_1534 (by decide) ?_
          refine z_goto (tgt := 1539) X dL_law_1535 (by decide) ?_
          refine z_iload X 7 dL_law_1539 rfl ?_
          refine z_if_ne X 1548 dL_law_1541 (by decide) (fun c_1541 => ?_) (fun c_1541 => ?_)
          · exact absurd c_1531 ((v_lost h).2.1 c_1541)
          · skip
            refine z_iconst (v := 1) X dL_law_1544 (by decide) ?_
            refine z_goto (tgt := 1549) X dL_law_1545 (by decide) ?_
            refine z_icmp_ne X 1579 dL_law_1549 (by decide) (fun c_1549 => ?_) (fun c_1549 => ?_)
            · exact absurd c_1549 (by decide)
            · skip
              refine z_aload_n X 1 dL_law_1552 rfl rfl ?_
              refine z_callSWfN (As := [.ref 1]) (rest := []) (n1 := 1) X dL_law_1553 (zC_rf (h_lost l0 hl0 h 0 0) zCok_cmm rfl) gL_law_L_lost rfl rfl (by decide +kernel) ⟨by decide, by decide⟩ rfl (Nat.le_of_ble_eq_true rfl) ⟨by omega, by omega⟩ ?_
              rintro _ _ ⟨rfl, rfl⟩
              refine z_fconst1 X dL_law_1556 ?_
              refine z_fcmp X dL_law_1557 ?_
              refine z_if_gt X 1579 dL_law_1558 (by decide) (fun c_1558 => ?_) (fun c_1558 => ?_)
              · exact absurd c_1558 (v_lost h).2.2
              · skip
                refine z_aload_n X 1 dL_law_1561 rfl rfl ?_
                refine z_iload_n X 2 dL_law_1562 rfl rfl ?_
                refine z_iload_n X 3 dL_law_1563 rfl rfl ?_
                refine z_iload X 4 dL_law_1564 rfl ?_
                refine z_callSlN (As := [.ref 1, .int (nI (n 5)), .int (nI (n 6)), .int (nI (n 8))]) (rest := []) (n1 := 4) X dL_law_1566 (zC_rl (h_sum l0 hl0 h 0 0) zCok_cmm rfl) gL_law_L_sum rfl rfl (by decide +kernel) ⟨by decide, by decide⟩ rfl (Nat.le_of_ble_eq_true rfl) ⟨by omega, by omega⟩ ?_
                rintro _ _ ⟨rfl, rfl⟩
                refine z_lload X 6 dL_law_1569 rfl ?_
                refine z_lcmp X dL_law_1571 ?_
                refine z_if_ne X 1579 dL_law_1572 (by decide) (fun c_1572 => ?_) (fun c_1572 => ?_)
                · exact absurd (zcmp0 _) c_1572
                · skip
                  refine z_iconst (v := 1) X dL_law_1575 (by decide) ?_
                  refine z_goto (tgt := 1580) X dL_law_1576 (by decide) ?_
                  refine z_iret X rfl (rfl) (by omega) (by omega) dL_law_1580 ?_
                  exact ⟨_, rfl, rfl⟩

set_option maxRecDepth 100000 in
set_option maxHeartbeats 8000000 in
theorem zf_1429 (hl0 : l0.stackTraces = false) (X : zLX g l0 nm M00 (zpi (fun v _ => v = 1)) tab) (h : xSI n i x lm y t) (hpr : ∀ o, o < n 8 → pr o = i 138 o) (hkk : kk + 536 ≤ 600312 ∧ nn + 6380 ≤ 7293409) : zE g 19 1429 [(0, .ref 17), (1, .ref 1), (2, .int (nI (n 5))), (3, .int (nI (n 6))), (4, .int (nI (n 8))), (5, .ref 16), (7, .long (xsum n i x lm y)), (9, .int (nI (n 7)))] [] (zmg (cmm n i x lm y 0 0) (pM pr)) kk nn := by
  have h7 := h.1.1.2.1.2.2.1
  have h5 := h.1.1.2.1.1
  have h6 := h.1.1.2.1.2.1
  have h8 := h.1.1.2.1.2.2.2
  refine z_aload_n X 1 dL_law_1429 rfl rfl ?_
  refine z_iload X 4 dL_law_1430 rfl ?_
  refine z_iconst (v := 0) X dL_law_1432 (by decide) ?_
  refine z_callSWiN (As := [.ref 1, .int (nI (n 8)), .int 0]) (rest := []) (n1 := 3) X dL_law_1433 (zC_ri (zr_imp (h_cancel l0 hl0 h 0 0 (nI (n 8))) (fun v9 M9 hv => xi_no (xv_o (Nat.le_refl _) (by omega)) hv)) zCok_cmm rfl) gL_law_L_orders rfl rfl (by decide +kernel) ⟨by decide, by decide⟩ rfl (Nat.le_of_ble_eq_true rfl) ⟨by omega, by omega⟩ ?_
  rintro _ _ ⟨rfl, rfl⟩
  refine z_sipush (v := (-1001)) X dL_law_1436 (by decide) ?_
  refine z_icmp_ne X 1486 dL_law_1439 (by decide) (fun c_1439 => ?_) (fun c_1439 => ?_)
  · exact absurd c_1439 (by decide)
  · skip
    refine z_aload_n X 1 dL_law_1442 rfl rfl ?_
    refine z_iload X 4 dL_law_1443 rfl ?_
    refine z_iconst (v := 1) X dL_law_1445 (by decide) ?_
    refine z_callSWiN (As := [.ref 1, .int (nI (n 8)), .int 1]) (rest := []) (n1 := 3) X dL_law_1446 (zC_ri (zr_imp (h_ship l0 hl0 h 0 0 (nI (n 8))) (fun v9 M9 hv => xi_no (xv_o (Nat.le_refl _) (by omega)) hv)) zCok_cmm rfl) gL_law_L_orders rfl rfl (by decide +kernel) ⟨by decide, by decide⟩ rfl (Nat.le_of_ble_eq_true rfl) ⟨by omega, by omega⟩ ?_
    rintro _ _ ⟨rfl, rfl⟩
    refine z_sipush (v := (-1001)) X dL_law_1449 (by decide) ?_
    refine z_icmp_ne X 1486 dL_law_1452 (by decide) (fun c_1452 => ?_) (fun c_1452 => ?_)
    · exact absurd c_1452 (by decide)
    · skip
      refine z_aload_n X 1 dL_law_1455 rfl rfl ?_
      refine z_iconst (v := (-1)) X dL_law_1456 (by decide) ?_
      refine z_bipush (v := 10) X dL_law_1457 (by decide) ?_
      refine z_callSWiN (As := [.ref 1, .int (-1), .int 10]) (rest := []) (n1 := 3) X dL_law_1459 (zC_ri (h_ordA l0 hl0 h 0 0 (-1) 10 (by decide)) zCok_cmm rfl) gL_law_L_orders rfl rfl (by decide +kernel) ⟨by decide, by decide⟩ rfl (Nat.le_of_ble_eq_true rfl) ⟨by omega, by omega⟩ ?_
      rintro _ _ ⟨rfl, rfl⟩
      refine z_sipush (v := (-1001)) X dL_law_1462 (by decide) ?_
      refine z_icmp_ne X 1486 dL_law_1465 (by decide) (fun c_1465 => ?_) (fun c_1465 => ?_)
      · exact absurd (if_neg (xv_m (by omega))) c_1465
      · skip
        refine z_iload X 4 dL_law_1468 rfl ?_
        refine z_if_le X 1488 dL_law_1470 (by decide) (fun c_1470 => ?_) (fun c_1470 => ?_)
        · skip
          exact zf_1488 hl0 X h hpr ⟨by omega, by omega⟩
        · skip
          refine z_aload_n X 1 dL_law_1473 rfl rfl ?_
          refine z_iconst (v := 0) X dL_law_1474 (by decide) ?_
          refine z_bipush (v := 9) X dL_law_1475 (by decide) ?_
          refine z_callSWiN (As := [.ref 1, .int 0, .int 9]) (rest := []) (n1 := 3) X dL_law_1477 (zC_ri (h_ordA l0 hl0 h 0 0 0 9 (by decide)) zCok_cmm rfl) gL_law_L_orders rfl rfl (by decide +kernel) ⟨by decide, by decide⟩ rfl (Nat.le_of_ble_eq_true rfl) ⟨by omega, by omega⟩ ?_
          rintro _ _ ⟨rfl, rfl⟩
          refine z_sipush (v := (-1002)) X dL_law_1480 (by decide) ?_
          refine z_icmp_eq X 1488 dL_law_1483 (by decide) (fun c_1483 => ?_) (fun c_1483 => ?_)
          · skip
            exact zf_1488 hl0 X h hpr ⟨by omega, by omega⟩
          · exact absurd (v_at9 h c_1470) c_1483

set_option maxRecDepth 100000 in
set_option maxHeartbeats 8000000 in
theorem zf_1408 (hl0 : l0.stackTraces = false) (X : zLX g l0 nm M00 (zpi (fun v _ => v = 1)) tab) (h : xSI n i x lm y t) (hpr : ∀ o, o < n 8 → pr o = i 138 o) (hkk : kk + 544 ≤ 600312 ∧ nn + 7480 ≤ 7293409) : zE g 19 1408 [(0, .ref 17), (1, .ref 1), (2, .int (nI (n 5))), (3, .int (nI (n 6))), (4, .int (nI (n 8))), (5, .ref 16), (7, .long (xsum n i x lm y)), (9, .int (nI (n 7)))] [] (zmg (cmm n i x lm y 0 0) (pM pr)) kk nn := by
  have h7 := h.1.1.2.1.2.2.1
  have h5 := h.1.1.2.1.1
  have h6 := h.1.1.2.1.2.1
  have h8 := h.1.1.2.1.2.2.2
  refine z_iload_n X 3 dL_law_1408 rfl rfl ?_
  refine z_if_le X 1429 dL_law_1409 (by decide) (fun c_1409 => ?_) (fun c_1409 => ?_)
  · skip
    exact zf_1429 hl0 X h hpr ⟨by omega, by omega⟩
  · skip
    refine z_aload_n X 1 dL_law_1412 rfl rfl ?_
    refine z_iconst (v := 0) X dL_law_1413 (by decide) ?_
    refine z_iconst (v := 1) X dL_law_1414 (by decide) ?_
    refine z_iconst (v := 0) X dL_law_1415 (by decide) ?_
    refine z_aload_n X 1 dL_law_1416 rfl rfl ?_
    refine z_callViN (As := []) (rest := [.int 0, .int 1, .int 0, .ref 1]) (n1 := 0) (ci := 10) X dL_law_1417 (zC_ri (c_X7_now l0 hl0 n i x lm y 0 0 h.1.1) zCok_cmm rfl) gL_law_X7_now rfl rfl (by decide +kernel) ⟨by decide, by decide⟩ zp1 rfl rfl (Nat.le_of_ble_eq_true rfl) ⟨by omega, by omega⟩ ?_
    rintro _ _ ⟨rfl, rfl⟩
    refine z_callSWiN (As := [.ref 1, .int 0, .int 1, .int 0, .int (i 1 0)]) (rest := []) (n1 := 5) X dL_law_1420 (zC_ri (zr_imp (h_order l0 hl0 h 0 0 0 1 0 (i 1 0)) (fun v9 M9 hv => xi_no (fun e => e.2.2.1 (by rw [h.1.2.1.1, nI_1]; exact nI_lt (by omega) (by have := h.1.2.1.2.1; omega))) (xi_yes (xv_z c_1409 (by omega)) hv))) zCok_cmm rfl) gL_law_L_order rfl rfl (by decide +kernel) ⟨by decide, by decide⟩ rfl (Nat.le_of_ble_eq_true rfl) ⟨by omega, by omega⟩ ?_
    rintro _ _ ⟨rfl, rfl⟩
    refine z_sipush (v := (-1002)) X dL_law_1423 (by decide) ?_
    refine z_icmp_ne X 1486 dL_law_1426 (by decide) (fun c_1426 => ?_) (fun c_1426 => ?_)
    · exact absurd c_1426 (by decide)
    · skip
      exact zf_1429 hl0 X h hpr ⟨by omega, by omega⟩

set_option maxRecDepth 100000 in
set_option maxHeartbeats 8000000 in
theorem zf_1386 (hl0 : l0.stackTraces = false) (X : zLX g l0 nm M00 (zpi (fun v _ => v = 1)) tab) (h : xSI n i x lm y t) (hpr : ∀ o, o < n 8 → pr o = i 138 o) (hkk : kk + 552 ≤ 600312 ∧ nn + 8580 ≤ 7293409) : zE g 19 1386 [(0, .ref 17), (1, .ref 1), (2, .int (nI (n 5))), (3, .int (nI (n 6))), (4, .int (nI (n 8))), (5, .ref 16), (7, .long (xsum n i x lm y)), (9, .int (nI (n 7)))] [] (zmg (cmm n i x lm y 0 0) (pM pr)) kk nn := by
  have h7 := h.1.1.2.1.2.2.1
  have h5 := h.1.1.2.1.1
  have h6 := h.1.1.2.1.2.1
  have h8 := h.1.1.2.1.2.2.2
  refine z_iload_n X 3 dL_law_1386 rfl rfl ?_
  refine z_if_le X 1408 dL_law_1387 (by decide) (fun c_1387 => ?_) (fun c_1387 => ?_)
  · skip
    exact zf_1408 hl0 X h hpr ⟨by omega, by omega⟩
  · skip
    refine z_aload_n X 1 dL_law_1390 rfl rfl ?_
    refine z_iconst (v := 0) X dL_law_1391 (by decide) ?_
    refine z_iconst (v := 1) X dL_law_1392 (by decide) ?_
    refine z_sipush (v := 10000) X dL_law_1393 (by decide) ?_
    refine z_sipush (v := 960) X dL_law_1396 (by decide) ?_
    refine z_callSWiN (As := [.ref 1, .int 0, .int 1, .int 10000, .int 960]) (rest := []) (n1 := 5) X dL_law_1399 (zC_ri (zr_imp (h_order l0 hl0 h 0 0 0 1 10000 960) (fun v9 M9 hv => xi_no (fun e => absurd e.2.1 (by decide)) (xi_yes (xv_z c_1387 (by omega)) hv))) zCok_cmm rfl) gL_law_L_order rfl rfl (by decide +kernel) ⟨by decide, by decide⟩ rfl (Nat.le_of_ble_eq_true rfl) ⟨by omega, by omega⟩ ?_
    rintro _ _ ⟨rfl, rfl⟩
    refine z_sipush (v := (-1002)) X dL_law_1402 (by decide) ?_
    refine z_icmp_ne X 1486 dL_law_1405 (by decide) (fun c_1405 => ?_) (fun c_1405 => ?_)
    · exact absurd c_1405 (by decide)
    · skip
      exact zf_1408 hl0 X h hpr ⟨by omega, by omega⟩

set_option maxRecDepth 100000 in
set_option maxHeartbeats 8000000 in
theorem zf_1214 (hl0 : l0.stackTraces = false) (X : zLX g l0 nm M00 (zpi (fun v _ => v = 1)) tab) (h : xSI n i x lm y t) (hpr : ∀ o, o < n 8 → pr o = i 138 o) (hkk : kk + 636 ≤ 600312 ∧ nn + 18600 ≤ 7293409) : zE g 19 1214 [(0, .ref 17), (1, .ref 1), (2, .int (nI (n 5))), (3, .int (nI (n 6))), (4, .int (nI (n 8))), (5, .ref 16), (7, .long (xsum n i x lm y)), (9, .int (nI (n 7)))] [] (zmg (cmm n i x lm y 0 0) (pM pr)) kk nn := by
  have h7 := h.1.1.2.1.2.2.1
  have h5 := h.1.1.2.1.1
  have h6 := h.1.1.2.1.2.1
  have h8 := h.1.1.2.1.2.2.2
  refine z_aload_n X 1 dL_law_1214 rfl rfl ?_
  refine z_iconst (v := 0) X dL_law_1215 (by decide) ?_
  refine z_iconst (v := 0) X dL_law_1216 (by decide) ?_
  refine z_iconst (v := (-1)) X dL_law_1217 (by decide) ?_
  refine z_callSWiN (As := [.ref 1, .int 0, .int 0, .int (-1)]) (rest := []) (n1 := 4) X dL_law_1218 (zC_ri (zr_imp (h_kind l0 hl0 h 0 0 0 0 (-1)) (fun v9 M9 hv => xi_no (by decide) hv)) zCok_cmm rfl) gL_law_L_kind rfl rfl (by decide +kernel) ⟨by decide, by decide⟩ rfl (Nat.le_of_ble_eq_true rfl) ⟨by omega, by omega⟩ ?_
  rintro _ _ ⟨rfl, rfl⟩
  refine z_sipush (v := (-1001)) X dL_law_1221 (by decide) ?_
  refine z_icmp_ne X 1486 dL_law_1224 (by decide) (fun c_1224 => ?_) (fun c_1224 => ?_)
  · exact absurd c_1224 (by decide)
  · skip
    refine z_aload_n X 1 dL_law_1227 rfl rfl ?_
    refine z_iconst (v := 1) X dL_law_1228 (by decide) ?_
    refine z_iconst (v := 0) X dL_law_1229 (by decide) ?_
    refine z_iconst (v := 0) X dL_law_1230 (by decide) ?_
    refine z_callSWiN (As := [.ref 1, .int 1, .int 0, .int 0]) (rest := []) (n1 := 4) X dL_law_1231 (zC_ri (zr_imp (h_kind l0 hl0 h 0 0 1 0 0) (fun v9 M9 hv => xi_no (by decide) hv)) zCok_cmm rfl) gL_law_L_kind rfl rfl (by decide +kernel) ⟨by decide, by decide⟩ rfl (Nat.le_of_ble_eq_true rfl) ⟨by omega, by omega⟩ ?_
    rintro _ _ ⟨rfl, rfl⟩
    refine z_sipush (v := (-1001)) X dL_law_1234 (by decide) ?_
    refine z_icmp_ne X 1486 dL_law_1237 (by decide) (fun c_1237 => ?_) (fun c_1237 => ?_)
    · exact absurd c_1237 (by decide)
    · skip
      refine z_aload_n X 1 dL_law_1240 rfl rfl ?_
      refine z_iconst (v := 1) X dL_law_1241 (by decide) ?_
      refine z_sipush (v := 301) X dL_law_1242 (by decide) ?_
      refine z_iconst (v := 0) X dL_law_1245 (by decide) ?_
      refine z_callSWiN (As := [.ref 1, .int 1, .int 301, .int 0]) (rest := []) (n1 := 4) X dL_law_1246 (zC_ri (zr_imp (h_kind l0 hl0 h 0 0 1 301 0) (fun v9 M9 hv => xi_no (by decide) hv)) zCok_cmm rfl) gL_law_L_kind rfl rfl (by decide +kernel) ⟨by decide, by decide⟩ rfl (Nat.le_of_ble_eq_true rfl) ⟨by omega, by omega⟩ ?_
      rintro _ _ ⟨rfl, rfl⟩
      refine z_sipush (v := (-1001)) X dL_law_1249 (by decide) ?_
      refine z_icmp_ne X 1486 dL_law_1252 (by decide) (fun c_1252 => ?_) (fun c_1252 => ?_)
      · exact absurd c_1252 (by decide)
      · skip
        refine z_aload_n X 1 dL_law_1255 rfl rfl ?_
        refine z_iconst (v := 1) X dL_law_1256 (by decide) ?_
        refine z_iconst (v := 0) X dL_law_1257 (by decide) ?_
        refine z_sipush (v := (-401)) X dL_law_1258 (by decide) ?_
        refine z_callSWiN (As := [.ref 1, .int 1, .int 0, .int (-401)]) (rest := []) (n1 := 4) X dL_law_1261 (zC_ri (zr_imp (h_kind l0 hl0 h 0 0 1 0 (-401)) (fun v9 M9 hv => xi_no (by decide) hv)) zCok_cmm rfl) gL_law_L_kind rfl rfl (by decide +kernel) ⟨by decide, by decide⟩ rfl (Nat.le_of_ble_eq_true rfl) ⟨by omega, by omega⟩ ?_
        rintro _ _ ⟨rfl, rfl⟩
        refine z_sipush (v := (-1001)) X dL_law_1264 (by decide) ?_
        refine z_icmp_ne X 1486 dL_law_1267 (by decide) (fun c_1267 => ?_) (fun c_1267 => ?_)
        · exact absurd c_1267 (by decide)
        · skip
          refine z_aload_n X 1 dL_law_1270 rfl rfl ?_
          refine z_bipush (v := 112) X dL_law_1271 (by decide) ?_
          refine z_iload_n X 3 dL_law_1273 rfl rfl ?_
          refine z_iconst (v := 0) X dL_law_1274 (by decide) ?_
          refine z_callSWiN (As := [.ref 1, .int 112, .int (nI (n 6)), .int 0]) (rest := []) (n1 := 4) X dL_law_1275 (zC_ri (zr_imp (h_putP l0 hl0 h 0 0 (nI (n 6)) 0) (fun v9 M9 hv => xi_no (xv_o (Nat.le_refl _) (by omega)) hv)) zCok_cmm rfl) gL_law_L_puts rfl rfl (by decide +kernel) ⟨by decide, by decide⟩ rfl (Nat.le_of_ble_eq_true rfl) ⟨by omega, by omega⟩ ?_
          rintro _ _ ⟨rfl, rfl⟩
          refine z_sipush (v := (-1001)) X dL_law_1278 (by decide) ?_
          refine z_icmp_ne X 1486 dL_law_1281 (by decide) (fun c_1281 => ?_) (fun c_1281 => ?_)
          · exact absurd c_1281 (by decide)
          · skip
            refine z_aload_n X 1 dL_law_1284 rfl rfl ?_
            refine z_bipush (v := 112) X dL_law_1285 (by decide) ?_
            refine z_iconst (v := 0) X dL_law_1287 (by decide) ?_
            refine z_iload_n X 2 dL_law_1288 rfl rfl ?_
            refine z_callSWiN (As := [.ref 1, .int 112, .int 0, .int (nI (n 5))]) (rest := []) (n1 := 4) X dL_law_1289 (zC_ri (zr_imp (h_putP l0 hl0 h 0 0 0 (nI (n 5))) (fun v9 M9 hv => (Classical.em _).elim (fun c => xi_no (xv_o (Nat.le_refl _) (by omega)) (xi_yes c hv)) (fun c => xi_no c hv))) zCok_cmm rfl) gL_law_L_puts rfl rfl (by decide +kernel) ⟨by decide, by decide⟩ rfl (Nat.le_of_ble_eq_true rfl) ⟨by omega, by omega⟩ ?_
            rintro _ _ ⟨rfl, rfl⟩
            refine z_sipush (v := (-1001)) X dL_law_1292 (by decide) ?_
            refine z_icmp_ne X 1486 dL_law_1295 (by decide) (fun c_1295 => ?_) (fun c_1295 => ?_)
            · exact absurd c_1295 (by decide)
            · skip
              refine z_aload_n X 1 dL_law_1298 rfl rfl ?_
              refine z_bipush (v := 109) X dL_law_1299 (by decide) ?_
              refine z_iload X 7 dL_law_1301 rfl ?_
              refine z_iconst (v := 0) X dL_law_1303 (by decide) ?_
              refine z_callSWiN (As := [.ref 1, .int 109, .int (nI (n 7)), .int 0]) (rest := []) (n1 := 4) X dL_law_1304 (zC_ri (zr_imp (h_putM l0 hl0 h 0 0 (nI (n 7)) 0) (fun v9 M9 hv => xi_no (xv_o (Nat.le_refl _) (by omega)) hv)) zCok_cmm rfl) gL_law_L_puts rfl rfl (by decide +kernel) ⟨by decide, by decide⟩ rfl (Nat.le_of_ble_eq_true rfl) ⟨by omega, by omega⟩ ?_
              rintro _ _ ⟨rfl, rfl⟩
              refine z_sipush (v := (-1001)) X dL_law_1307 (by decide) ?_
              refine z_icmp_ne X 1486 dL_law_1310 (by decide) (fun c_1310 => ?_) (fun c_1310 => ?_)
              · exact absurd c_1310 (by decide)
              · skip
                refine z_aload_n X 1 dL_law_1313 rfl rfl ?_
                refine z_iload X 7 dL_law_1314 rfl ?_
                refine z_iconst (v := 4) X dL_law_1316 (by decide) ?_
                refine z_callSWiN (As := [.ref 1, .int (nI (n 7)), .int 4]) (rest := []) (n1 := 3) X dL_law_1317 (zC_ri (zr_imp (h_scrap l0 hl0 h 0 0 (nI (n 7))) (fun v9 M9 hv => xi_no (xv_o (Nat.le_refl _) (by omega)) hv)) zCok_cmm rfl) gL_law_L_pallet rfl rfl (by decide +kernel) ⟨by decide, by decide⟩ rfl (Nat.le_of_ble_eq_true rfl) ⟨by omega, by omega⟩ ?_
                rintro _ _ ⟨rfl, rfl⟩
                refine z_sipush (v := (-1001)) X dL_law_1320 (by decide) ?_
                refine z_icmp_ne X 1486 dL_law_1323 (by decide) (fun c_1323 => ?_) (fun c_1323 => ?_)
                · exact absurd c_1323 (by decide)
                · skip
                  refine z_aload_n X 1 dL_law_1326 rfl rfl ?_
                  refine z_iconst (v := (-1)) X dL_law_1327 (by decide) ?_
                  refine z_iconst (v := 1) X dL_law_1328 (by decide) ?_
                  refine z_callSWiN (As := [.ref 1, .int (-1), .int 1]) (rest := []) (n1 := 3) X dL_law_1329 (zC_ri (h_pal1 l0 hl0 h 0 0 (-1)) zCok_cmm rfl) gL_law_L_pallet rfl rfl (by decide +kernel) ⟨by decide, by decide⟩ rfl (Nat.le_of_ble_eq_true rfl) ⟨by omega, by omega⟩ ?_
                  rintro _ _ ⟨rfl, rfl⟩
                  refine z_sipush (v := (-1001)) X dL_law_1332 (by decide) ?_
                  refine z_icmp_ne X 1486 dL_law_1335 (by decide) (fun c_1335 => ?_) (fun c_1335 => ?_)
                  · exact absurd (if_neg (xv_m (by omega))) c_1335
                  · skip
                    refine z_aload_n X 1 dL_law_1338 rfl rfl ?_
                    refine z_iload X 7 dL_law_1339 rfl ?_
                    refine z_iconst (v := (-1)) X dL_law_1341 (by decide) ?_
                    refine z_callSWiN (As := [.ref 1, .int (nI (n 7)), .int (-1)]) (rest := []) (n1 := 3) X dL_law_1342 (zC_ri (h_fore l0 hl0 h 0 0 (nI (n 7)) (-1)) zCok_cmm rfl) gL_law_L_forecast rfl rfl (by decide +kernel) ⟨by decide, by decide⟩ rfl (Nat.le_of_ble_eq_true rfl) ⟨by omega, by omega⟩ ?_
                    rintro _ _ ⟨rfl, rfl⟩
                    refine z_sipush (v := (-1001)) X dL_law_1345 (by decide) ?_
                    refine z_icmp_ne X 1486 dL_law_1348 (by decide) (fun c_1348 => ?_) (fun c_1348 => ?_)
                    · exact absurd (if_neg (xv_o (Nat.le_refl _) (by omega))) c_1348
                    · skip
                      refine z_aload_n X 1 dL_law_1351 rfl rfl ?_
                      refine z_iload_n X 3 dL_law_1352 rfl rfl ?_
                      refine z_iconst (v := 0) X dL_law_1353 (by decide) ?_
                      refine z_iconst (v := 0) X dL_law_1354 (by decide) ?_
                      refine z_iconst (v := 0) X dL_law_1355 (by decide) ?_
                      refine z_callSWiN (As := [.ref 1, .int (nI (n 6)), .int 0, .int 0, .int 0]) (rest := []) (n1 := 5) X dL_law_1356 (zC_ri (zr_imp (h_order l0 hl0 h 0 0 (nI (n 6)) 0 0 0) (fun v9 M9 hv => xi_no (xv_o (Nat.le_refl _) (by omega)) hv)) zCok_cmm rfl) gL_law_L_order rfl rfl (by decide +kernel) ⟨by decide, by decide⟩ rfl (Nat.le_of_ble_eq_true rfl) ⟨by omega, by omega⟩ ?_
                      rintro _ _ ⟨rfl, rfl⟩
                      refine z_sipush (v := (-1001)) X dL_law_1359 (by decide) ?_
                      refine z_icmp_ne X 1486 dL_law_1362 (by decide) (fun c_1362 => ?_) (fun c_1362 => ?_)
                      · exact absurd c_1362 (by decide)
                      · skip
                        refine z_iload_n X 3 dL_law_1365 rfl rfl ?_
                        refine z_if_le X 1386 dL_law_1366 (by decide) (fun c_1366 => ?_) (fun c_1366 => ?_)
                        · skip
                          exact zf_1386 hl0 X h hpr ⟨by omega, by omega⟩
                        · skip
                          refine z_aload_n X 1 dL_law_1369 rfl rfl ?_
                          refine z_iconst (v := 0) X dL_law_1370 (by decide) ?_
                          refine z_bipush (v := 9) X dL_law_1371 (by decide) ?_
                          refine z_iconst (v := 0) X dL_law_1373 (by decide) ?_
                          refine z_sipush (v := 960) X dL_law_1374 (by decide) ?_
                          refine z_callSWiN (As := [.ref 1, .int 0, .int 9, .int 0, .int 960]) (rest := []) (n1 := 5) X dL_law_1377 (zC_ri (zr_imp (h_order l0 hl0 h 0 0 0 9 0 960) (fun v9 M9 hv => xi_no (fun e => absurd e.1 (by decide)) (xi_yes (xv_z c_1366 (by omega)) hv))) zCok_cmm rfl) gL_law_L_order rfl rfl (by decide +kernel) ⟨by decide, by decide⟩ rfl (Nat.le_of_ble_eq_true rfl) ⟨by omega, by omega⟩ ?_
                          rintro _ _ ⟨rfl, rfl⟩
                          refine z_sipush (v := (-1002)) X dL_law_1380 (by decide) ?_
                          refine z_icmp_ne X 1486 dL_law_1383 (by decide) (fun c_1383 => ?_) (fun c_1383 => ?_)
                          · exact absurd c_1383 (by decide)
                          · skip
                            exact zf_1386 hl0 X h hpr ⟨by omega, by omega⟩

set_option maxRecDepth 100000 in
set_option maxHeartbeats 8000000 in
theorem zf_1166 (hl0 : l0.stackTraces = false) (X : zLX g l0 nm M00 (zpi (fun v _ => v = 1)) tab) (h : xSI n i x lm y t) (hpr : ∀ o, o < n 8 → pr o = i 138 o) (hkk : kk + 648 ≤ 600312 ∧ nn + 18720 ≤ 7293409) : zE g 19 1166 [(0, .ref 17), (1, .ref 1), (2, .int (nI (n 5))), (3, .int (nI (n 6))), (4, .int (nI (n 8))), (5, .ref 16), (7, .long (xsum n i x lm y)), (9, .int (nI (n 7)))] [] (zmg (cmm n i x lm y 0 0) (pM pr)) kk nn := by
  have h7 := h.1.1.2.1.2.2.1
  have h5 := h.1.1.2.1.1
  have h6 := h.1.1.2.1.2.1
  have h8 := h.1.1.2.1.2.2.2
  refine z_aload_n X 1 dL_law_1166 rfl rfl ?_
  refine z_sipush (v := 1001) X dL_law_1167 (by decide) ?_
  refine z_iconst (v := 0) X dL_law_1170 (by decide) ?_
  refine z_iconst (v := 0) X dL_law_1171 (by decide) ?_
  refine z_iconst (v := 0) X dL_law_1172 (by decide) ?_
  refine z_callSWiN (As := [.ref 1, .int 1001, .int 0, .int 0, .int 0]) (rest := []) (n1 := 5) X dL_law_1173 (zC_ri (zr_imp (h_prices l0 hl0 h 0 0 1001 0 0 0) (fun v9 M9 hv => xi_no (by decide) hv)) zCok_cmm rfl) gL_law_L_prices rfl rfl (by decide +kernel) ⟨by decide, by decide⟩ rfl (Nat.le_of_ble_eq_true rfl) ⟨by omega, by omega⟩ ?_
  rintro _ _ ⟨rfl, rfl⟩
  refine z_sipush (v := (-1001)) X dL_law_1176 (by decide) ?_
  refine z_icmp_ne X 1212 dL_law_1179 (by decide) (fun c_1179 => ?_) (fun c_1179 => ?_)
  · exact absurd c_1179 (by decide)
  · skip
    refine z_aload_n X 1 dL_law_1182 rfl rfl ?_
    refine z_iconst (v := 0) X dL_law_1183 (by decide) ?_
    refine z_iconst (v := 0) X dL_law_1184 (by decide) ?_
    refine z_iconst (v := 1) X dL_law_1185 (by decide) ?_
    refine z_iconst (v := 0) X dL_law_1186 (by decide) ?_
    refine z_callSWiN (As := [.ref 1, .int 0, .int 0, .int 1, .int 0]) (rest := []) (n1 := 5) X dL_law_1187 (zC_ri (zr_imp (h_prices l0 hl0 h 0 0 0 0 1 0) (fun v9 M9 hv => xi_no (by decide) hv)) zCok_cmm rfl) gL_law_L_prices rfl rfl (by decide +kernel) ⟨by decide, by decide⟩ rfl (Nat.le_of_ble_eq_true rfl) ⟨by omega, by omega⟩ ?_
    rintro _ _ ⟨rfl, rfl⟩
    refine z_sipush (v := (-1001)) X dL_law_1190 (by decide) ?_
    refine z_icmp_ne X 1212 dL_law_1193 (by decide) (fun c_1193 => ?_) (fun c_1193 => ?_)
    · exact absurd c_1193 (by decide)
    · skip
      refine z_aload_n X 1 dL_law_1196 rfl rfl ?_
      refine z_iconst (v := 0) X dL_law_1197 (by decide) ?_
      refine z_iconst (v := 0) X dL_law_1198 (by decide) ?_
      refine z_bipush (v := 96) X dL_law_1199 (by decide) ?_
      refine z_bipush (v := 96) X dL_law_1201 (by decide) ?_
      refine z_callSWiN (As := [.ref 1, .int 0, .int 0, .int 96, .int 96]) (rest := []) (n1 := 5) X dL_law_1203 (zC_ri (zr_imp (h_prices l0 hl0 h 0 0 0 0 96 96) (fun v9 M9 hv => xi_no (by decide) hv)) zCok_cmm rfl) gL_law_L_prices rfl rfl (by decide +kernel) ⟨by decide, by decide⟩ rfl (Nat.le_of_ble_eq_true rfl) ⟨by omega, by omega⟩ ?_
      rintro _ _ ⟨rfl, rfl⟩
      refine z_sipush (v := (-1001)) X dL_law_1206 (by decide) ?_
      refine z_icmp_eq X 1214 dL_law_1209 (by decide) (fun c_1209 => ?_) (fun c_1209 => ?_)
      · skip
        exact zf_1214 hl0 X h hpr ⟨by omega, by omega⟩
      · exact absurd c_1209 (by decide)

set_option maxRecDepth 100000 in
set_option maxHeartbeats 8000000 in
theorem zf_1072 (hl0 : l0.stackTraces = false) (X : zLX g l0 nm M00 (zpi (fun v _ => v = 1)) tab) (h : xSI n i x lm y t) (hpr : ∀ o, o < n 8 → pr o = i 138 o) (hkk : kk + 672 ≤ 600312 ∧ nn + 18960 ≤ 7293409) : zE g 19 1072 [(0, .ref 17), (1, .ref 1), (2, .int (nI (n 5))), (3, .int (nI (n 6))), (4, .int (nI (n 8))), (5, .ref 16), (7, .long (xsum n i x lm y)), (9, .int (nI (n 7)))] [] (zmg (cmm n i x lm y 0 0) (pM pr)) kk nn := by
  have h7 := h.1.1.2.1.2.2.1
  have h5 := h.1.1.2.1.1
  have h6 := h.1.1.2.1.2.1
  have h8 := h.1.1.2.1.2.2.2
  refine z_aload_n X 1 dL_law_1072 rfl rfl ?_
  refine z_iconst (v := (-1)) X dL_law_1073 (by decide) ?_
  refine z_bipush (v := 100) X dL_law_1074 (by decide) ?_
  refine z_iconst (v := 0) X dL_law_1076 (by decide) ?_
  refine z_iconst (v := 0) X dL_law_1077 (by decide) ?_
  refine z_callSWiN (As := [.ref 1, .int (-1), .int 100, .int 0, .int 0]) (rest := []) (n1 := 5) X dL_law_1078 (zC_ri (zr_imp (h_setD l0 hl0 h 0 0 (-1) 0 0) (fun v9 M9 hv => xi_no (xv_m (by omega)) hv)) zCok_cmm rfl) gL_law_L_sets rfl rfl (by decide +kernel) ⟨by decide, by decide⟩ rfl (Nat.le_of_ble_eq_true rfl) ⟨by omega, by omega⟩ ?_
  rintro _ _ ⟨rfl, rfl⟩
  refine z_sipush (v := (-1001)) X dL_law_1081 (by decide) ?_
  refine z_icmp_ne X 1212 dL_law_1084 (by decide) (fun c_1084 => ?_) (fun c_1084 => ?_)
  · exact absurd c_1084 (by decide)
  · skip
    refine z_aload_n X 1 dL_law_1087 rfl rfl ?_
    refine z_iconst (v := 0) X dL_law_1088 (by decide) ?_
    refine z_bipush (v := 111) X dL_law_1089 (by decide) ?_
    refine z_sipush (v := 451) X dL_law_1091 (by decide) ?_
    refine z_iconst (v := 0) X dL_law_1094 (by decide) ?_
    refine z_callSWiN (As := [.ref 1, .int 0, .int 111, .int 451, .int 0]) (rest := []) (n1 := 5) X dL_law_1095 (zC_ri (zr_imp (h_setO l0 hl0 h 0 0 0 451 0) (fun v9 M9 hv => xi_no (by decide) hv)) zCok_cmm rfl) gL_law_L_sets rfl rfl (by decide +kernel) ⟨by decide, by decide⟩ rfl (Nat.le_of_ble_eq_true rfl) ⟨by omega, by omega⟩ ?_
    rintro _ _ ⟨rfl, rfl⟩
    refine z_sipush (v := (-1002)) X dL_law_1098 (by decide) ?_
    refine z_icmp_ne X 1212 dL_law_1101 (by decide) (fun c_1101 => ?_) (fun c_1101 => ?_)
    · exact absurd c_1101 (by decide)
    · skip
      refine z_aload_n X 1 dL_law_1104 rfl rfl ?_
      refine z_iconst (v := 0) X dL_law_1105 (by decide) ?_
      refine z_bipush (v := 99) X dL_law_1106 (by decide) ?_
      refine z_sipush (v := 1001) X dL_law_1108 (by decide) ?_
      refine z_iconst (v := 0) X dL_law_1111 (by decide) ?_
      refine z_callSWiN (As := [.ref 1, .int 0, .int 99, .int 1001, .int 0]) (rest := []) (n1 := 5) X dL_law_1112 (zC_ri (zr_imp (h_setC l0 hl0 h 0 0 0 1001 0) (fun v9 M9 hv => xi_no (by decide) hv)) zCok_cmm rfl) gL_law_L_sets rfl rfl (by decide +kernel) ⟨by decide, by decide⟩ rfl (Nat.le_of_ble_eq_true rfl) ⟨by omega, by omega⟩ ?_
      rintro _ _ ⟨rfl, rfl⟩
      refine z_sipush (v := (-1002)) X dL_law_1115 (by decide) ?_
      refine z_icmp_ne X 1212 dL_law_1118 (by decide) (fun c_1118 => ?_) (fun c_1118 => ?_)
      · exact absurd c_1118 (by decide)
      · skip
        refine z_aload_n X 1 dL_law_1121 rfl rfl ?_
        refine z_iconst (v := 0) X dL_law_1122 (by decide) ?_
        refine z_bipush (v := 112) X dL_law_1123 (by decide) ?_
        refine z_sipush (v := 401) X dL_law_1125 (by decide) ?_
        refine z_iconst (v := 0) X dL_law_1128 (by decide) ?_
        refine z_callSWiN (As := [.ref 1, .int 0, .int 112, .int 401, .int 0]) (rest := []) (n1 := 5) X dL_law_1129 (zC_ri (zr_imp (h_setP l0 hl0 h 0 0 0 401 0) (fun v9 M9 hv => xi_no (by decide) hv)) zCok_cmm rfl) gL_law_L_sets rfl rfl (by decide +kernel) ⟨by decide, by decide⟩ rfl (Nat.le_of_ble_eq_true rfl) ⟨by omega, by omega⟩ ?_
        rintro _ _ ⟨rfl, rfl⟩
        refine z_sipush (v := (-1002)) X dL_law_1132 (by decide) ?_
        refine z_icmp_ne X 1212 dL_law_1135 (by decide) (fun c_1135 => ?_) (fun c_1135 => ?_)
        · exact absurd c_1135 (by decide)
        · skip
          refine z_aload_n X 1 dL_law_1138 rfl rfl ?_
          refine z_iload_n X 2 dL_law_1139 rfl rfl ?_
          refine z_bipush (v := 120) X dL_law_1140 (by decide) ?_
          refine z_callSWiN (As := [.ref 1, .int (nI (n 5)), .int 120]) (rest := []) (n1 := 3) X dL_law_1142 (zC_ri (zr_imp (h_mode l0 hl0 h 0 0 (nI (n 5)) 120 rfl) (fun v9 M9 hv => xi_no (xv_o (Nat.le_refl _) (by omega)) hv)) zCok_cmm rfl) gL_law_L_mode rfl rfl (by decide +kernel) ⟨by decide, by decide⟩ rfl (Nat.le_of_ble_eq_true rfl) ⟨by omega, by omega⟩ ?_
          rintro _ _ ⟨rfl, rfl⟩
          refine z_bipush (v := 49) X dL_law_1145 (by decide) ?_
          refine z_icmp_ne X 1212 dL_law_1147 (by decide) (fun c_1147 => ?_) (fun c_1147 => ?_)
          · exact absurd c_1147 (by decide)
          · skip
            refine z_iload_n X 2 dL_law_1150 rfl rfl ?_
            refine z_if_le X 1166 dL_law_1151 (by decide) (fun c_1151 => ?_) (fun c_1151 => ?_)
            · skip
              exact zf_1166 hl0 X h hpr ⟨by omega, by omega⟩
            · skip
              refine z_aload_n X 1 dL_law_1154 rfl rfl ?_
              refine z_iconst (v := 0) X dL_law_1155 (by decide) ?_
              refine z_bipush (v := 120) X dL_law_1156 (by decide) ?_
              refine z_callSWiN (As := [.ref 1, .int 0, .int 120]) (rest := []) (n1 := 3) X dL_law_1158 (zC_ri (zr_imp (h_mode l0 hl0 h 0 0 0 120 rfl) (fun v9 M9 hv => xi_no (by decide) (xi_yes (xv_z c_1151 (by omega)) hv))) zCok_cmm rfl) gL_law_L_mode rfl rfl (by decide +kernel) ⟨by decide, by decide⟩ rfl (Nat.le_of_ble_eq_true rfl) ⟨by omega, by omega⟩ ?_
              rintro _ _ ⟨rfl, rfl⟩
              refine z_bipush (v := 50) X dL_law_1161 (by decide) ?_
              refine z_icmp_ne X 1212 dL_law_1163 (by decide) (fun c_1163 => ?_) (fun c_1163 => ?_)
              · exact absurd c_1163 (by decide)
              · skip
                exact zf_1166 hl0 X h hpr ⟨by omega, by omega⟩

set_option maxRecDepth 100000 in
set_option maxHeartbeats 8000000 in
theorem zf_1052 (hl0 : l0.stackTraces = false) (X : zLX g l0 nm M00 (zpi (fun v _ => v = 1)) tab) (h : xSI n i x lm y t) (hpr : ∀ o, o < n 8 → pr o = i 138 o) (hkk : kk + 676 ≤ 600312 ∧ nn + 19000 ≤ 7293409) : zE g 19 1052 [(0, .ref 17), (1, .ref 1), (2, .int (nI (n 5))), (3, .int (nI (n 6))), (4, .int (nI (n 8))), (5, .ref 16), (7, .long (xsum n i x lm y)), (9, .int (nI (n 7)))] [] (zmg (cmm n i x lm y 0 0) (pM pr)) kk nn := by
  have h7 := h.1.1.2.1.2.2.1
  have h5 := h.1.1.2.1.1
  have h6 := h.1.1.2.1.2.1
  have h8 := h.1.1.2.1.2.2.2
  refine z_iload_n X 2 dL_law_1052 rfl rfl ?_
  refine z_if_le X 1072 dL_law_1053 (by decide) (fun c_1053 => ?_) (fun c_1053 => ?_)
  · skip
    exact zf_1072 hl0 X h hpr ⟨by omega, by omega⟩
  · skip
    refine z_aload_n X 1 dL_law_1056 rfl rfl ?_
    refine z_iconst (v := 0) X dL_law_1057 (by decide) ?_
    refine z_bipush (v := 100) X dL_law_1058 (by decide) ?_
    refine z_iconst (v := 0) X dL_law_1060 (by decide) ?_
    refine z_bipush (v := 101) X dL_law_1061 (by decide) ?_
    refine z_callSWiN (As := [.ref 1, .int 0, .int 100, .int 0, .int 101]) (rest := []) (n1 := 5) X dL_law_1063 (zC_ri (zr_imp (h_setD l0 hl0 h 0 0 0 0 101) (fun v9 M9 hv => xi_no (by decide) (xi_yes (xv_z c_1053 (by omega)) hv))) zCok_cmm rfl) gL_law_L_sets rfl rfl (by decide +kernel) ⟨by decide, by decide⟩ rfl (Nat.le_of_ble_eq_true rfl) ⟨by omega, by omega⟩ ?_
    rintro _ _ ⟨rfl, rfl⟩
    refine z_sipush (v := (-1002)) X dL_law_1066 (by decide) ?_
    refine z_icmp_ne X 1212 dL_law_1069 (by decide) (fun c_1069 => ?_) (fun c_1069 => ?_)
    · exact absurd c_1069 (by decide)
    · skip
      exact zf_1072 hl0 X h hpr ⟨by omega, by omega⟩

set_option maxRecDepth 100000 in
set_option maxHeartbeats 8000000 in
theorem zf_1032 (hl0 : l0.stackTraces = false) (X : zLX g l0 nm M00 (zpi (fun v _ => v = 1)) tab) (h : xSI n i x lm y t) (hpr : ∀ o, o < n 8 → pr o = i 138 o) (hkk : kk + 680 ≤ 600312 ∧ nn + 19040 ≤ 7293409) : zE g 19 1032 [(0, .ref 17), (1, .ref 1), (2, .int (nI (n 5))), (3, .int (nI (n 6))), (4, .int (nI (n 8))), (5, .ref 16), (7, .long (xsum n i x lm y)), (9, .int (nI (n 7)))] [] (zmg (cmm n i x lm y 0 0) (pM pr)) kk nn := by
  have h7 := h.1.1.2.1.2.2.1
  have h5 := h.1.1.2.1.1
  have h6 := h.1.1.2.1.2.1
  have h8 := h.1.1.2.1.2.2.2
  refine z_iload_n X 2 dL_law_1032 rfl rfl ?_
  refine z_if_le X 1052 dL_law_1033 (by decide) (fun c_1033 => ?_) (fun c_1033 => ?_)
  · skip
    exact zf_1052 hl0 X h hpr ⟨by omega, by omega⟩
  · skip
    refine z_aload_n X 1 dL_law_1036 rfl rfl ?_
    refine z_iconst (v := 0) X dL_law_1037 (by decide) ?_
    refine z_bipush (v := 100) X dL_law_1038 (by decide) ?_
    refine z_bipush (v := 17) X dL_law_1040 (by decide) ?_
    refine z_iconst (v := 0) X dL_law_1042 (by decide) ?_
    refine z_callSWiN (As := [.ref 1, .int 0, .int 100, .int 17, .int 0]) (rest := []) (n1 := 5) X dL_law_1043 (zC_ri (zr_imp (h_setD l0 hl0 h 0 0 0 17 0) (fun v9 M9 hv => xi_no (by decide) (xi_yes (xv_z c_1033 (by omega)) hv))) zCok_cmm rfl) gL_law_L_sets rfl rfl (by decide +kernel) ⟨by decide, by decide⟩ rfl (Nat.le_of_ble_eq_true rfl) ⟨by omega, by omega⟩ ?_
    rintro _ _ ⟨rfl, rfl⟩
    refine z_sipush (v := (-1002)) X dL_law_1046 (by decide) ?_
    refine z_icmp_ne X 1212 dL_law_1049 (by decide) (fun c_1049 => ?_) (fun c_1049 => ?_)
    · exact absurd c_1049 (by decide)
    · skip
      exact zf_1052 hl0 X h hpr ⟨by omega, by omega⟩

set_option maxRecDepth 100000 in
set_option maxHeartbeats 8000000 in
theorem zf_1011 (hl0 : l0.stackTraces = false) (X : zLX g l0 nm M00 (zpi (fun v _ => v = 1)) tab) (h : xSI n i x lm y t) (hpr : ∀ o, o < n 8 → pr o = i 138 o) (hkk : kk + 684 ≤ 600312 ∧ nn + 19080 ≤ 7293409) : zE g 19 1011 [(0, .ref 17), (1, .ref 1), (2, .int (nI (n 5))), (3, .int (nI (n 6))), (4, .int (nI (n 8))), (5, .ref 16), (7, .long (xsum n i x lm y)), (9, .int (nI (n 7)))] [] (zmg (cmm n i x lm y 0 0) (pM pr)) kk nn := by
  have h7 := h.1.1.2.1.2.2.1
  have h5 := h.1.1.2.1.1
  have h6 := h.1.1.2.1.2.1
  have h8 := h.1.1.2.1.2.2.2
  refine z_iload_n X 2 dL_law_1011 rfl rfl ?_
  refine z_if_le X 1032 dL_law_1012 (by decide) (fun c_1012 => ?_) (fun c_1012 => ?_)
  · skip
    exact zf_1032 hl0 X h hpr ⟨by omega, by omega⟩
  · skip
    refine z_aload_n X 1 dL_law_1015 rfl rfl ?_
    refine z_iconst (v := 0) X dL_law_1016 (by decide) ?_
    refine z_bipush (v := 108) X dL_law_1017 (by decide) ?_
    refine z_sipush (v := (-301)) X dL_law_1019 (by decide) ?_
    refine z_iconst (v := 0) X dL_law_1022 (by decide) ?_
    refine z_callSWiN (As := [.ref 1, .int 0, .int 108, .int (-301), .int 0]) (rest := []) (n1 := 5) X dL_law_1023 (zC_ri (zr_imp (h_setL l0 hl0 h 0 0 0 (-301) 0) (fun v9 M9 hv => xi_no (by decide) (xi_yes (xv_z c_1012 (by omega)) hv))) zCok_cmm rfl) gL_law_L_sets rfl rfl (by decide +kernel) ⟨by decide, by decide⟩ rfl (Nat.le_of_ble_eq_true rfl) ⟨by omega, by omega⟩ ?_
    rintro _ _ ⟨rfl, rfl⟩
    refine z_sipush (v := (-1002)) X dL_law_1026 (by decide) ?_
    refine z_icmp_ne X 1212 dL_law_1029 (by decide) (fun c_1029 => ?_) (fun c_1029 => ?_)
    · exact absurd c_1029 (by decide)
    · skip
      exact zf_1032 hl0 X h hpr ⟨by omega, by omega⟩

set_option maxRecDepth 100000 in
set_option maxHeartbeats 8000000 in
theorem zf_898 (hl0 : l0.stackTraces = false) (X : zLX g l0 nm M00 (zpi (fun v _ => v = 1)) tab) (h : xSI n i x lm y t) (hpr : ∀ o, o < n 8 → pr o = i 138 o) (hkk : kk + 740 ≤ 600312 ∧ nn + 25760 ≤ 7293409) : zE g 19 898 [(0, .ref 17), (1, .ref 1), (2, .int (nI (n 5))), (3, .int (nI (n 6))), (4, .int (nI (n 8))), (5, .ref 16), (7, .long (xsum n i x lm y)), (9, .int (nI (n 7)))] [] (zmg (cmm n i x lm y 0 0) (pM pr)) kk nn := by
  have h7 := h.1.1.2.1.2.2.1
  have h5 := h.1.1.2.1.1
  have h6 := h.1.1.2.1.2.1
  have h8 := h.1.1.2.1.2.2.2
  refine z_aload_n X 1 dL_law_898 rfl rfl ?_
  refine z_iconst (v := 0) X dL_law_899 (by decide) ?_
  refine z_callSWiN (As := [.ref 1, .int 0]) (rest := []) (n1 := 2) X dL_law_900 (zC_ri (zr_imp (h_pass l0 hl0 h 0 0 0) (fun v9 M9 hv => xi_no (by decide) hv)) zCok_cmm rfl) gL_law_L_pass rfl rfl (by decide +kernel) ⟨by decide, by decide⟩ rfl (Nat.le_of_ble_eq_true rfl) ⟨by omega, by omega⟩ ?_
  rintro _ _ ⟨rfl, rfl⟩
  refine z_sipush (v := (-1001)) X dL_law_903 (by decide) ?_
  refine z_icmp_ne X 1212 dL_law_906 (by decide) (fun c_906 => ?_) (fun c_906 => ?_)
  · exact absurd c_906 (by decide)
  · skip
    refine z_aload_n X 1 dL_law_909 rfl rfl ?_
    refine z_bipush (v := 97) X dL_law_910 (by decide) ?_
    refine z_callSWiN (As := [.ref 1, .int 97]) (rest := []) (n1 := 2) X dL_law_912 (zC_ri (zr_imp (h_pass l0 hl0 h 0 0 97) (fun v9 M9 hv => xi_no (by decide) hv)) zCok_cmm rfl) gL_law_L_pass rfl rfl (by decide +kernel) ⟨by decide, by decide⟩ rfl (Nat.le_of_ble_eq_true rfl) ⟨by omega, by omega⟩ ?_
    rintro _ _ ⟨rfl, rfl⟩
    refine z_sipush (v := (-1001)) X dL_law_915 (by decide) ?_
    refine z_icmp_ne X 1212 dL_law_918 (by decide) (fun c_918 => ?_) (fun c_918 => ?_)
    · exact absurd c_918 (by decide)
    · skip
      refine z_aload_n X 1 dL_law_921 rfl rfl ?_
      refine z_iconst (v := 0) X dL_law_922 (by decide) ?_
      refine z_iconst (v := 1) X dL_law_923 (by decide) ?_
      refine z_iconst (v := 1) X dL_law_924 (by decide) ?_
      refine z_callSWiN (As := [.ref 1, .int 0, .int 1, .int 1]) (rest := []) (n1 := 4) X dL_law_925 (zC_ri (zr_imp (h_room l0 hl0 h 0 0 0 1 1) (fun v9 M9 hv => xi_no (by decide) hv)) zCok_cmm rfl) gL_law_L_room rfl rfl (by decide +kernel) ⟨by decide, by decide⟩ rfl (Nat.le_of_ble_eq_true rfl) ⟨by omega, by omega⟩ ?_
      rintro _ _ ⟨rfl, rfl⟩
      refine z_sipush (v := (-1001)) X dL_law_928 (by decide) ?_
      refine z_icmp_ne X 1212 dL_law_931 (by decide) (fun c_931 => ?_) (fun c_931 => ?_)
      · exact absurd c_931 (by decide)
      · skip
        refine z_aload_n X 1 dL_law_934 rfl rfl ?_
        refine z_bipush (v := 51) X dL_law_935 (by decide) ?_
        refine z_iconst (v := 1) X dL_law_937 (by decide) ?_
        refine z_iconst (v := 1) X dL_law_938 (by decide) ?_
        refine z_callSWiN (As := [.ref 1, .int 51, .int 1, .int 1]) (rest := []) (n1 := 4) X dL_law_939 (zC_ri (zr_imp (h_room l0 hl0 h 0 0 51 1 1) (fun v9 M9 hv => xi_no (by decide) hv)) zCok_cmm rfl) gL_law_L_room rfl rfl (by decide +kernel) ⟨by decide, by decide⟩ rfl (Nat.le_of_ble_eq_true rfl) ⟨by omega, by omega⟩ ?_
        rintro _ _ ⟨rfl, rfl⟩
        refine z_sipush (v := (-1001)) X dL_law_942 (by decide) ?_
        refine z_icmp_ne X 1212 dL_law_945 (by decide) (fun c_945 => ?_) (fun c_945 => ?_)
        · exact absurd c_945 (by decide)
        · skip
          refine z_aload_n X 1 dL_law_948 rfl rfl ?_
          refine z_iconst (v := 1) X dL_law_949 (by decide) ?_
          refine z_bipush (v := 101) X dL_law_950 (by decide) ?_
          refine z_iconst (v := 1) X dL_law_952 (by decide) ?_
          refine z_callSWiN (As := [.ref 1, .int 1, .int 101, .int 1]) (rest := []) (n1 := 4) X dL_law_953 (zC_ri (zr_imp (h_room l0 hl0 h 0 0 1 101 1) (fun v9 M9 hv => xi_no (by decide) hv)) zCok_cmm rfl) gL_law_L_room rfl rfl (by decide +kernel) ⟨by decide, by decide⟩ rfl (Nat.le_of_ble_eq_true rfl) ⟨by omega, by omega⟩ ?_
          rintro _ _ ⟨rfl, rfl⟩
          refine z_sipush (v := (-1001)) X dL_law_956 (by decide) ?_
          refine z_icmp_ne X 1212 dL_law_959 (by decide) (fun c_959 => ?_) (fun c_959 => ?_)
          · exact absurd c_959 (by decide)
          · skip
            refine z_aload_n X 1 dL_law_962 rfl rfl ?_
            refine z_iconst (v := 1) X dL_law_963 (by decide) ?_
            refine z_iconst (v := 1) X dL_law_964 (by decide) ?_
            refine z_iconst (v := 0) X dL_law_965 (by decide) ?_
            refine z_callSWiN (As := [.ref 1, .int 1, .int 1, .int 0]) (rest := []) (n1 := 4) X dL_law_966 (zC_ri (zr_imp (h_room l0 hl0 h 0 0 1 1 0) (fun v9 M9 hv => xi_no (by decide) hv)) zCok_cmm rfl) gL_law_L_room rfl rfl (by decide +kernel) ⟨by decide, by decide⟩ rfl (Nat.le_of_ble_eq_true rfl) ⟨by omega, by omega⟩ ?_
            rintro _ _ ⟨rfl, rfl⟩
            refine z_sipush (v := (-1001)) X dL_law_969 (by decide) ?_
            refine z_icmp_ne X 1212 dL_law_972 (by decide) (fun c_972 => ?_) (fun c_972 => ?_)
            · exact absurd c_972 (by decide)
            · skip
              refine z_aload_n X 1 dL_law_975 rfl rfl ?_
              refine z_iload_n X 2 dL_law_976 rfl rfl ?_
              refine z_bipush (v := 108) X dL_law_977 (by decide) ?_
              refine z_sipush (v := 400) X dL_law_979 (by decide) ?_
              refine z_iconst (v := 0) X dL_law_982 (by decide) ?_
              refine z_callSWiN (As := [.ref 1, .int (nI (n 5)), .int 108, .int 400, .int 0]) (rest := []) (n1 := 5) X dL_law_983 (zC_ri (zr_imp (h_setL l0 hl0 h 0 0 (nI (n 5)) 400 0) (fun v9 M9 hv => xi_no (xv_o (Nat.le_refl _) (by omega)) hv)) zCok_cmm rfl) gL_law_L_sets rfl rfl (by decide +kernel) ⟨by decide, by decide⟩ rfl (Nat.le_of_ble_eq_true rfl) ⟨by omega, by omega⟩ ?_
              rintro _ _ ⟨rfl, rfl⟩
              refine z_sipush (v := (-1001)) X dL_law_986 (by decide) ?_
              refine z_icmp_ne X 1212 dL_law_989 (by decide) (fun c_989 => ?_) (fun c_989 => ?_)
              · exact absurd c_989 (by decide)
              · skip
                refine z_iload_n X 2 dL_law_992 rfl rfl ?_
                refine z_if_le X 1011 dL_law_993 (by decide) (fun c_993 => ?_) (fun c_993 => ?_)
                · skip
                  exact zf_1011 hl0 X h hpr ⟨by omega, by omega⟩
                · skip
                  refine z_aload_n X 1 dL_law_996 rfl rfl ?_
                  refine z_iconst (v := 0) X dL_law_997 (by decide) ?_
                  refine z_bipush (v := 108) X dL_law_998 (by decide) ?_
                  refine z_iconst (v := 1) X dL_law_1000 (by decide) ?_
                  refine z_iconst (v := 0) X dL_law_1001 (by decide) ?_
                  refine z_callSWiN (As := [.ref 1, .int 0, .int 108, .int 1, .int 0]) (rest := []) (n1 := 5) X dL_law_1002 (zC_ri (zr_imp (h_setL l0 hl0 h 0 0 0 1 0) (fun v9 M9 hv => xi_no (by decide) (xi_yes (xv_z c_993 (by omega)) hv))) zCok_cmm rfl) gL_law_L_sets rfl rfl (by decide +kernel) ⟨by decide, by decide⟩ rfl (Nat.le_of_ble_eq_true rfl) ⟨by omega, by omega⟩ ?_
                  rintro _ _ ⟨rfl, rfl⟩
                  refine z_sipush (v := (-1002)) X dL_law_1005 (by decide) ?_
                  refine z_icmp_ne X 1212 dL_law_1008 (by decide) (fun c_1008 => ?_) (fun c_1008 => ?_)
                  · exact absurd c_1008 (by decide)
                  · skip
                    exact zf_1011 hl0 X h hpr ⟨by omega, by omega⟩

set_option maxRecDepth 100000 in
set_option maxHeartbeats 8000000 in
theorem zf_868 (hl0 : l0.stackTraces = false) (X : zLX g l0 nm M00 (zpi (fun v _ => v = 1)) tab) (h : xSI n i x lm y t) (hpr : ∀ o, o < n 8 → pr o = i 138 o) {st9 k9 : Nat} (hkk : kk + 7960 ≤ 600312 ∧ nn + 97960 ≤ 7293409) : zE g 19 868 [(0, .ref 17), (1, .ref 1), (2, .int (nI (n 5))), (3, .int (nI (n 6))), (4, .int (nI (n 8))), (5, .ref 16), (6, .int (nI st9)), (7, .int (nI k9))] [] (zmg (cmm n i x lm y 0 0) (pM pr)) kk nn := by
  have h7 := h.1.1.2.1.2.2.1
  have h5 := h.1.1.2.1.1
  have h6 := h.1.1.2.1.2.1
  have h8 := h.1.1.2.1.2.2.2
  refine z_aload_n X 1 dL_law_868 rfl rfl ?_
  refine z_iload_n X 2 dL_law_869 rfl rfl ?_
  refine z_aload X 5 dL_law_870 rfl ?_
  refine z_iload X 4 dL_law_872 rfl ?_
  refine z_callSiN (As := [.ref 1, .int (nI (n 5)), .ref 16, .int (nI (n 8))]) (rest := []) (n1 := 4) X dL_law_874 (h_sound l0 hl0 h 0 0 hpr) gL_law_L_isSound rfl rfl (by decide +kernel) ⟨by decide, by decide⟩ rfl (Nat.le_of_ble_eq_true rfl) ⟨by omega, by omega⟩ ?_
  rintro _ _ ⟨rfl, rfl⟩
  refine z_if_ne X 882 dL_law_877 (by decide) (fun c_877 => ?_) (fun c_877 => ?_)
  · skip
    refine z_aload_n X 1 dL_law_882 rfl rfl ?_
    refine z_iload_n X 2 dL_law_883 rfl rfl ?_
    refine z_iload_n X 3 dL_law_884 rfl rfl ?_
    refine z_iload X 4 dL_law_885 rfl ?_
    refine z_callSlN (As := [.ref 1, .int (nI (n 5)), .int (nI (n 6)), .int (nI (n 8))]) (rest := []) (n1 := 4) X dL_law_887 (zC_rl (h_sum l0 hl0 h 0 0) zCok_cmm rfl) gL_law_L_sum rfl rfl (by decide +kernel) ⟨by decide, by decide⟩ rfl (Nat.le_of_ble_eq_true rfl) ⟨by omega, by omega⟩ ?_
    rintro _ _ ⟨rfl, rfl⟩
    refine z_lstore (ls' := [(7, .long (xsum n i x lm y)), (0, .ref 17), (1, .ref 1), (2, .int (nI (n 5))), (3, .int (nI (n 6))), (4, .int (nI (n 8))), (5, .ref 16), (6, .int (nI st9))]) X dL_law_890 (by decide) rfl ?_
    refine z_aload_n X 2 dL_law_892 rfl rfl ?_
    refine z_callViN (As := []) (rest := []) (n1 := 0) (ci := 10) X dL_law_893 (zC_ri (c_X7_pallets l0 hl0 n i x lm y 0 0 h.1.1) zCok_cmm rfl) gL_law_X7_pallets rfl rfl (by decide +kernel) ⟨by decide, by decide⟩ zp1 rfl rfl (Nat.le_of_ble_eq_true rfl) ⟨by omega, by omega⟩ ?_
    rintro _ _ ⟨rfl, rfl⟩
    refine z_istore (ls' := [(9, .int (nI (n 7))), (7, .long (xsum n i x lm y)), (0, .ref 17), (1, .ref 1), (2, .int (nI (n 5))), (3, .int (nI (n 6))), (4, .int (nI (n 8))), (5, .ref 16), (6, .int (nI st9))]) X dL_law_896 (by decide) rfl ?_
    refine z_sub (ls' := [(0, .ref 17), (1, .ref 1), (2, .int (nI (n 5))), (3, .int (nI (n 6))), (4, .int (nI (n 8))), (5, .ref 16), (7, .long (xsum n i x lm y)), (9, .int (nI (n 7)))]) [2, 3, 4, 5, 6, 7, 1, 0] rfl ?_
    exact zf_898 hl0 X h hpr ⟨by omega, by omega⟩
  · exact absurd c_877 (by decide)
end ZLC7
