/-! PART 97t: isSound answers true -/
set_option maxRecDepth 100000 in
set_option maxHeartbeats 8000000 in
theorem h_sound (l : Launch) (hl0 : l.stackTraces = false) {n : Nat → Nat} {i x : Nat → Nat → Int32} {lm : Nat → Nat → Int64} {y : Nat → Nat → Nat} {t : Nat} (h : xSI n i x lm y t) (ol : Int64) (od : UInt64) {pr : Nat → Int32} (hpr : ∀ o, o < n 8 → pr o = i 138 o) : zS l yL_isSound wsL_isSound 13 251 6724 67240 [.ref 1, .int (nI (n 5)), .ref 16, .int (nI (n 8))] (zmg (cmm n i x lm y ol od) (pM pr)) (zpi (fun v M1 => v = 1 ∧ M1 = zmg (cmm n i x lm y ol od) (pM pr))) zno := by
  refine z_intro (cc := cL_isSound) (maxL := 12) (ret := (some .boolean)) (by decide +kernel) rfl (Nat.le_of_ble_eq_true rfl) ?_
  have h7 := h.1.1.2.1.2.2.1
  have h5 := h.1.1.2.1.1
  have h8 := h.1.1.2.1.2.2.2
  have hcn := fun o => m_cntN_le i o (n 7)
  intro g X
  show zE g 12 0 [(0, .ref 1), (1, .int (nI (n 5))), (2, .ref 16), (3, .int (nI (n 8)))] [] (zmg (cmm n i x lm y ol od) (pM pr)) 0 0
  refine z_aload_n X 0 dL_isSound_0 rfl rfl ?_
  refine z_callVlN (As := []) (rest := []) (n1 := 0) (ci := 10) X dL_isSound_1 (zC_rl (c_X7_bill l hl0 n i x lm y ol od h.1.1) zCok_cmm rfl) gL_isSound_X7_bill rfl rfl (by decide +kernel) ⟨by decide, by decide⟩ zp1 rfl rfl (Nat.le_of_ble_eq_true rfl) ⟨by omega, by omega⟩ ?_
  rintro _ _ ⟨rfl, rfl⟩
  refine z_aload_n X 0 dL_isSound_4 rfl rfl ?_
  refine z_callVlN (As := []) (rest := [.long (lm 1 26 + (i 1 25).toInt64 * (i 1 22).toInt64)]) (n1 := 0) (ci := 10) X dL_isSound_5 (zC_rl (c_X7_billByRecords l hl0 n i x lm y ol od h.1.1 t h.1.2.1.2.1 h.1.2.1.1) zCok_cmm rfl) gL_isSound_X7_billByRecords rfl rfl (by decide +kernel) ⟨by decide, by decide⟩ zp1 rfl rfl (Nat.le_of_ble_eq_true rfl) ⟨by omega, by omega⟩ ?_
  rintro _ _ ⟨rfl, rfl⟩
  refine z_lcmp X dL_isSound_8 ?_
  refine z_if_ne X 30 dL_isSound_9 (by decide) (fun c_9 => ?_) (fun c_9 => ?_)
  · exact absurd (by rw [h.1.2.2.2.2.2.2.2.2.1.1, h.1.2.2.2.2.2.2.2.2.1.2.1]; exact zcmp0 _) c_9
  · skip
    refine z_aload_n X 0 dL_isSound_12 rfl rfl ?_
    refine z_callViN (As := []) (rest := []) (n1 := 0) (ci := 10) X dL_isSound_13 (zC_ri (c_X7_power l hl0 n i x lm y ol od h.1.1) zCok_cmm rfl) gL_isSound_X7_power rfl rfl (by decide +kernel) ⟨by decide, by decide⟩ zp1 rfl rfl (Nat.le_of_ble_eq_true rfl) ⟨by omega, by omega⟩ ?_
    rintro _ _ ⟨rfl, rfl⟩
    refine z_aload_n X 0 dL_isSound_16 rfl rfl ?_
    refine z_callViN (As := []) (rest := [.int (i 1 24)]) (n1 := 0) (ci := 10) X dL_isSound_17 (zC_ri (c_X7_greatestPower l hl0 n i x lm y ol od h.1.1) zCok_cmm rfl) gL_isSound_X7_greatestPower rfl rfl (by decide +kernel) ⟨by decide, by decide⟩ zp1 rfl rfl (Nat.le_of_ble_eq_true rfl) ⟨by omega, by omega⟩ ?_
    rintro _ _ ⟨rfl, rfl⟩
    refine z_icmp_gt X 30 dL_isSound_20 (by decide) (fun c_20 => ?_) (fun c_20 => ?_)
    · exact absurd h.1.2.2.2.2.2.2.2.2.1.2.2 (Int32.not_le.mpr c_20)
    · skip
      refine z_aload_n X 0 dL_isSound_23 rfl rfl ?_
      refine z_callViN (As := []) (rest := []) (n1 := 0) (ci := 10) X dL_isSound_24 (zC_ri (c_X7_power l hl0 n i x lm y ol od h.1.1) zCok_cmm rfl) gL_isSound_X7_power rfl rfl (by decide +kernel) ⟨by decide, by decide⟩ zp1 rfl rfl (Nat.le_of_ble_eq_true rfl) ⟨by omega, by omega⟩ ?_
      rintro _ _ ⟨rfl, rfl⟩
      refine z_if_ge X 32 dL_isSound_27 (by decide) (fun c_27 => ?_) (fun c_27 => ?_)
      · skip
        refine z_iconst (v := 0) X dL_isSound_32 (by decide) ?_
        refine z_istore (ls' := [(4, .int 0), (0, .ref 1), (1, .int (nI (n 5))), (2, .ref 16), (3, .int (nI (n 8)))]) X dL_isSound_33 (by decide) rfl ?_
        refine z_aload_n X 1 dL_isSound_35 rfl rfl ?_
        refine z_callSWiN (As := [.ref 1]) (rest := []) (n1 := 1) X dL_isSound_36 (zC_ri (h_soon l hl0 h ol od) zCok_cmm rfl) gL_isSound_L_soonest rfl rfl (by decide +kernel) ⟨by decide, by decide⟩ rfl (Nat.le_of_ble_eq_true rfl) ⟨by omega, by omega⟩ ?_
        rintro _ _ ⟨rfl, rfl⟩
        refine z_istore (ls' := [(5, .int (a_soon n i x y)), (4, .int 0), (0, .ref 1), (1, .int (nI (n 5))), (2, .ref 16), (3, .int (nI (n 8)))]) X dL_isSound_39 (by decide) rfl ?_
        refine z_iconst (v := 0) X dL_isSound_41 (by decide) ?_
        refine z_istore (ls' := [(6, .int 0), (5, .int (a_soon n i x y)), (4, .int 0), (0, .ref 1), (1, .int (nI (n 5))), (2, .ref 16), (3, .int (nI (n 8)))]) X dL_isSound_42 (by decide) rfl ?_
        have hloop44 : ∀ p : Nat, p ≤ n 7 → ∀ k_44 n_44 : Nat, k_44 ≤ 4 + 28 * p → n_44 ≤ 40 + 280 * p → zE g 12 44 [(0, .ref 1), (1, .int (nI (n 5))), (2, .ref 16), (3, .int (nI (n 8))), (4, .int (nI (inN i p))), (5, .int (a_soon n i x y)), (6, .int (nI p))] [] (zmg (cmm n i x lm y ol od) (pM pr)) k_44 n_44 := by
          refine z_loop (fun p => ∀ k_44 n_44 : Nat, k_44 ≤ 4 + 28 * p → n_44 ≤ 40 + 280 * p → zE g 12 44 [(0, .ref 1), (1, .int (nI (n 5))), (2, .ref 16), (3, .int (nI (n 8))), (4, .int (nI (inN i p))), (5, .int (a_soon n i x y)), (6, .int (nI p))] [] (zmg (cmm n i x lm y ol od) (pM pr)) k_44 n_44) (n 7) ?_ ?_
          · intro k_44 n_44 hk_44 hn_44
            show zE g 12 44 [(0, .ref 1), (1, .int (nI (n 5))), (2, .ref 16), (3, .int (nI (n 8))), (4, .int (nI (inN i (n 7)))), (5, .int (a_soon n i x y)), (6, .int (nI (n 7)))] [] (zmg (cmm n i x lm y ol od) (pM pr)) k_44 n_44
            refine z_iload X 6 dL_isSound_44 rfl ?_
            refine z_aload_n X 0 dL_isSound_46 rfl rfl ?_
            refine z_callViN (As := []) (rest := [.int (nI (n 7))]) (n1 := 0) (ci := 10) X dL_isSound_47 (zC_ri (c_X7_pallets l hl0 n i x lm y ol od h.1.1) zCok_cmm rfl) gL_isSound_X7_pallets rfl rfl (by decide +kernel) ⟨by decide, by decide⟩ zp1 rfl rfl (Nat.le_of_ble_eq_true rfl) ⟨by omega, by omega⟩ ?_
            rintro _ _ ⟨rfl, rfl⟩
            refine z_icmp_ge X 187 dL_isSound_50 (by decide) (fun c_50 => ?_) (fun c_50 => ?_)
            · skip
              refine z_iconst (v := 0) X dL_isSound_187 (by decide) ?_
              refine z_istore (ls' := [(6, .int 0), (0, .ref 1), (1, .int (nI (n 5))), (2, .ref 16), (3, .int (nI (n 8))), (4, .int (nI (inN i (n 7)))), (5, .int (a_soon n i x y))]) X dL_isSound_188 (by decide) rfl ?_
              refine z_iconst (v := 0) X dL_isSound_190 (by decide) ?_
              refine z_istore (ls' := [(7, .int 0), (6, .int 0), (0, .ref 1), (1, .int (nI (n 5))), (2, .ref 16), (3, .int (nI (n 8))), (4, .int (nI (inN i (n 7)))), (5, .int (a_soon n i x y))]) X dL_isSound_191 (by decide) rfl ?_
              have hloop193 : ∀ r : Nat, r ≤ n 5 → ∀ k_193 n_193 : Nat, k_193 ≤ 676 + 36 * r → n_193 ≤ 6760 + 360 * r → zE g 12 193 [(0, .ref 1), (1, .int (nI (n 5))), (2, .ref 16), (3, .int (nI (n 8))), (4, .int (nI (inN i (n 7)))), (5, .int (a_soon n i x y)), (6, .int (xsp n i x y r)), (7, .int (nI r))] [] (zmg (cmm n i x lm y ol od) (pM pr)) k_193 n_193 := by
                refine z_loop (fun r => ∀ k_193 n_193 : Nat, k_193 ≤ 676 + 36 * r → n_193 ≤ 6760 + 360 * r → zE g 12 193 [(0, .ref 1), (1, .int (nI (n 5))), (2, .ref 16), (3, .int (nI (n 8))), (4, .int (nI (inN i (n 7)))), (5, .int (a_soon n i x y)), (6, .int (xsp n i x y r)), (7, .int (nI r))] [] (zmg (cmm n i x lm y ol od) (pM pr)) k_193 n_193) (n 5) ?_ ?_
                · intro k_193 n_193 hk_193 hn_193
                  show zE g 12 193 [(0, .ref 1), (1, .int (nI (n 5))), (2, .ref 16), (3, .int (nI (n 8))), (4, .int (nI (inN i (n 7)))), (5, .int (a_soon n i x y)), (6, .int (xsp n i x y (n 5))), (7, .int (nI (n 5)))] [] (zmg (cmm n i x lm y ol od) (pM pr)) k_193 n_193
                  refine z_iload X 7 dL_isSound_193 rfl ?_
                  refine z_iload_n X 1 dL_isSound_195 rfl rfl ?_
                  refine z_icmp_ge X 303 dL_isSound_196 (by decide) (fun c_196 => ?_) (fun c_196 => ?_)
                  · skip
                    refine z_iconst (v := 0) X dL_isSound_303 (by decide) ?_
                    refine z_istore (ls' := [(7, .int 0), (0, .ref 1), (1, .int (nI (n 5))), (2, .ref 16), (3, .int (nI (n 8))), (4, .int (nI (inN i (n 7)))), (5, .int (a_soon n i x y)), (6, .int (xsp n i x y (n 5)))]) X dL_isSound_304 (by decide) rfl ?_
                    have hloop306 : ∀ o : Nat, o ≤ n 8 → ∀ k_306 n_306 : Nat, k_306 ≤ 820 + 492 * o → n_306 ≤ 8200 + 4920 * o → zE g 12 306 [(0, .ref 1), (1, .int (nI (n 5))), (2, .ref 16), (3, .int (nI (n 8))), (4, .int (nI (inN i (n 7)))), (5, .int (a_soon n i x y)), (6, .int (xsp n i x y (n 5))), (7, .int (nI o))] [] (zmg (cmm n i x lm y ol od) (pM pr)) k_306 n_306 := by
                      refine z_loop (fun o => ∀ k_306 n_306 : Nat, k_306 ≤ 820 + 492 * o → n_306 ≤ 8200 + 4920 * o → zE g 12 306 [(0, .ref 1), (1, .int (nI (n 5))), (2, .ref 16), (3, .int (nI (n 8))), (4, .int (nI (inN i (n 7)))), (5, .int (a_soon n i x y)), (6, .int (xsp n i x y (n 5))), (7, .int (nI o))] [] (zmg (cmm n i x lm y ol od) (pM pr)) k_306 n_306) (n 8) ?_ ?_
                      · intro k_306 n_306 hk_306 hn_306
                        show zE g 12 306 [(0, .ref 1), (1, .int (nI (n 5))), (2, .ref 16), (3, .int (nI (n 8))), (4, .int (nI (inN i (n 7)))), (5, .int (a_soon n i x y)), (6, .int (xsp n i x y (n 5))), (7, .int (nI (n 8)))] [] (zmg (cmm n i x lm y ol od) (pM pr)) k_306 n_306
                        refine z_iload X 7 dL_isSound_306 rfl ?_
                        refine z_iload_n X 3 dL_isSound_308 rfl rfl ?_
                        refine z_icmp_ge X 436 dL_isSound_309 (by decide) (fun c_309 => ?_) (fun c_309 => ?_)
                        · skip
                          refine z_iload X 4 dL_isSound_436 rfl ?_
                          refine z_iload X 6 dL_isSound_438 rfl ?_
                          refine z_iadd X dL_isSound_440 ?_
                          refine z_bipush (v := 8) X dL_isSound_441 (by decide) ?_
                          refine z_iload_n X 1 dL_isSound_443 rfl rfl ?_
                          refine z_imul X dL_isSound_444 ?_
                          refine z_icmp_ne X 485 dL_isSound_445 (by decide) (fun c_445 => ?_) (fun c_445 => ?_)
                          · exact absurd (v_all h) c_445
                          · skip
                            refine z_iload X 5 dL_isSound_448 rfl ?_
                            refine z_sipush (v := (-1001)) X dL_isSound_450 (by decide) ?_
                            refine z_icmp_ne X 460 dL_isSound_453 (by decide) (fun c_453 => ?_) (fun c_453 => ?_)
                            · skip
                              refine z_iconst (v := 0) X dL_isSound_460 (by decide) ?_
                              refine z_iload X 4 dL_isSound_461 rfl ?_
                              refine z_if_ne X 470 dL_isSound_463 (by decide) (fun c_463 => ?_) (fun c_463 => ?_)
                              · skip
                                refine z_iconst (v := 0) X dL_isSound_470 (by decide) ?_
                                refine z_icmp_ne X 485 dL_isSound_471 (by decide) (fun c_471 => ?_) (fun c_471 => ?_)
                                · exact absurd c_471 (by decide)
                                · skip
                                  refine z_aload_n X 0 dL_isSound_474 rfl rfl ?_
                                  refine z_callViN (As := []) (rest := []) (n1 := 0) (ci := 10) X dL_isSound_475 (zC_ri (c_X7_isConsistent l hl0 n i x lm y ol od h.1.1 t h.1.2.1.2.1 h.1.2.1.1 (s_x4 h.1) (s_x3 h.1) h.1.2.2.2.2.2.2.2.2.1.1 h.1.2.2.2.2.2.2.2.2.1.2.1 h.1.2.2.2.2.2.2.2.2.1.2.2 (CI_con h.1) (fun p hp => ⟨(lI_rv h.1 hp).2.1, (lI_rv h.1 hp).2.2, (lI_rv h.1 hp).1⟩) (fun o ho => (h.1.2.2.2.2.2.2.2.2.2.1.1 o ho).2)) zCok_cmm rfl) gL_isSound_X7_isConsistent rfl rfl (by decide +kernel) ⟨by decide, by decide⟩ zp1 rfl rfl (Nat.le_of_ble_eq_true rfl) ⟨by omega, by omega⟩ ?_
                                  rintro _ _ ⟨rfl, rfl⟩
                                  refine z_if_eq X 485 dL_isSound_478 (by decide) (fun c_478 => ?_) (fun c_478 => ?_)
                                  · exact absurd c_478 (by decide)
                                  · skip
                                    refine z_iconst (v := 1) X dL_isSound_481 (by decide) ?_
                                    refine z_goto (tgt := 486) X dL_isSound_482 (by decide) ?_
                                    refine z_iret X rfl (rfl) (by omega) (by omega) dL_isSound_486 ?_
                                    exact ⟨_, rfl, rfl, rfl⟩
                              · exact absurd c_463 (v_s1 h c_453)
                            · skip
                              refine z_iconst (v := 1) X dL_isSound_456 (by decide) ?_
                              refine z_goto (tgt := 461) X dL_isSound_457 (by decide) ?_
                              refine z_iload X 4 dL_isSound_461 rfl ?_
                              refine z_if_ne X 470 dL_isSound_463 (by decide) (fun c_463 => ?_) (fun c_463 => ?_)
                              · exact absurd (v_s0 h c_453) c_463
                              · skip
                                refine z_iconst (v := 1) X dL_isSound_466 (by decide) ?_
                                refine z_goto (tgt := 471) X dL_isSound_467 (by decide) ?_
                                refine z_icmp_ne X 485 dL_isSound_471 (by decide) (fun c_471 => ?_) (fun c_471 => ?_)
                                · exact absurd c_471 (by decide)
                                · skip
                                  refine z_aload_n X 0 dL_isSound_474 rfl rfl ?_
                                  refine z_callViN (As := []) (rest := []) (n1 := 0) (ci := 10) X dL_isSound_475 (zC_ri (c_X7_isConsistent l hl0 n i x lm y ol od h.1.1 t h.1.2.1.2.1 h.1.2.1.1 (s_x4 h.1) (s_x3 h.1) h.1.2.2.2.2.2.2.2.2.1.1 h.1.2.2.2.2.2.2.2.2.1.2.1 h.1.2.2.2.2.2.2.2.2.1.2.2 (CI_con h.1) (fun p hp => ⟨(lI_rv h.1 hp).2.1, (lI_rv h.1 hp).2.2, (lI_rv h.1 hp).1⟩) (fun o ho => (h.1.2.2.2.2.2.2.2.2.2.1.1 o ho).2)) zCok_cmm rfl) gL_isSound_X7_isConsistent rfl rfl (by decide +kernel) ⟨by decide, by decide⟩ zp1 rfl rfl (Nat.le_of_ble_eq_true rfl) ⟨by omega, by omega⟩ ?_
                                  rintro _ _ ⟨rfl, rfl⟩
                                  refine z_if_eq X 485 dL_isSound_478 (by decide) (fun c_478 => ?_) (fun c_478 => ?_)
                                  · exact absurd c_478 (by decide)
                                  · skip
                                    refine z_iconst (v := 1) X dL_isSound_481 (by decide) ?_
                                    refine z_goto (tgt := 486) X dL_isSound_482 (by decide) ?_
                                    refine z_iret X rfl (rfl) (by omega) (by omega) dL_isSound_486 ?_
                                    exact ⟨_, rfl, rfl, rfl⟩
                        · exact absurd (Int32.le_refl _) c_309
                      · intro o ho_306 ih306 k_306 n_306 hk_306 hn_306
                        show zE g 12 306 [(0, .ref 1), (1, .int (nI (n 5))), (2, .ref 16), (3, .int (nI (n 8))), (4, .int (nI (inN i (n 7)))), (5, .int (a_soon n i x y)), (6, .int (xsp n i x y (n 5))), (7, .int (nI o))] [] (zmg (cmm n i x lm y ol od) (pM pr)) k_306 n_306
                        refine z_iload X 7 dL_isSound_306 rfl ?_
                        refine z_iload_n X 3 dL_isSound_308 rfl rfl ?_
                        refine z_icmp_ge X 436 dL_isSound_309 (by decide) (fun c_309 => ?_) (fun c_309 => ?_)
                        · exact absurd c_309 (Int32.not_le.mpr (nI_lt (by omega) (by omega)))
                        · skip
                          refine z_aload_n X 0 dL_isSound_312 rfl rfl ?_
                          refine z_iload X 7 dL_isSound_313 rfl ?_
                          refine z_iconst (v := 2) X dL_isSound_315 (by decide) ?_
                          refine z_callSWiN (As := [.ref 1, .int (nI o), .int 2]) (rest := []) (n1 := 3) X dL_isSound_316 (zC_ri (h_ord2 l hl0 h ol od (nI o)) zCok_cmm rfl) gL_isSound_L_orders rfl rfl (by decide +kernel) ⟨by decide, by decide⟩ rfl (Nat.le_of_ble_eq_true rfl) ⟨by omega, by omega⟩ ?_
                          rintro _ _ ⟨rfl, rfl⟩
                          refine z_istore (ls' := [(8, .int (a_ord2 n i x y (nI o))), (0, .ref 1), (1, .int (nI (n 5))), (2, .ref 16), (3, .int (nI (n 8))), (4, .int (nI (inN i (n 7)))), (5, .int (a_soon n i x y)), (6, .int (xsp n i x y (n 5))), (7, .int (nI o))]) X dL_isSound_319 (by decide) rfl ?_
                          refine z_iconst (v := (-1)) X dL_isSound_321 (by decide) ?_
                          refine z_istore (ls' := [(9, .int (-1)), (8, .int (a_ord2 n i x y (nI o))), (0, .ref 1), (1, .int (nI (n 5))), (2, .ref 16), (3, .int (nI (n 8))), (4, .int (nI (inN i (n 7)))), (5, .int (a_soon n i x y)), (6, .int (xsp n i x y (n 5))), (7, .int (nI o))]) X dL_isSound_322 (by decide) rfl ?_
                          refine z_iconst (v := 0) X dL_isSound_324 (by decide) ?_
                          refine z_istore (ls' := [(10, .int 0), (9, .int (-1)), (8, .int (a_ord2 n i x y (nI o))), (0, .ref 1), (1, .int (nI (n 5))), (2, .ref 16), (3, .int (nI (n 8))), (4, .int (nI (inN i (n 7)))), (5, .int (a_soon n i x y)), (6, .int (xsp n i x y (n 5))), (7, .int (nI o))]) X dL_isSound_325 (by decide) rfl ?_
                          have hloop327 : ∀ j : Nat, j ≤ m_cntN i o (n 7) → ∀ k_327 n_327 : Nat, k_327 ≤ 820 + 492 * o + 4 + 20 * j → n_327 ≤ 8200 + 4920 * o + 40 + 200 * j → zE g 12 327 [(0, .ref 1), (1, .int (nI (n 5))), (2, .ref 16), (3, .int (nI (n 8))), (4, .int (nI (inN i (n 7)))), (5, .int (a_soon n i x y)), (6, .int (xsp n i x y (n 5))), (7, .int (nI o)), (8, .int (a_ord2 n i x y (nI o))), (9, .int (bfI i o (n 7) j)), (10, .int (nI j))] [] (zmg (cmm n i x lm y ol od) (pM pr)) k_327 n_327 := by
                            refine z_loop (fun j => ∀ k_327 n_327 : Nat, k_327 ≤ 820 + 492 * o + 4 + 20 * j → n_327 ≤ 8200 + 4920 * o + 40 + 200 * j → zE g 12 327 [(0, .ref 1), (1, .int (nI (n 5))), (2, .ref 16), (3, .int (nI (n 8))), (4, .int (nI (inN i (n 7)))), (5, .int (a_soon n i x y)), (6, .int (xsp n i x y (n 5))), (7, .int (nI o)), (8, .int (a_ord2 n i x y (nI o))), (9, .int (bfI i o (n 7) j)), (10, .int (nI j))] [] (zmg (cmm n i x lm y ol od) (pM pr)) k_327 n_327) (m_cntN i o (n 7)) ?_ ?_
                            · intro k_327 n_327 hk_327 hn_327
                              show zE g 12 327 [(0, .ref 1), (1, .int (nI (n 5))), (2, .ref 16), (3, .int (nI (n 8))), (4, .int (nI (inN i (n 7)))), (5, .int (a_soon n i x y)), (6, .int (xsp n i x y (n 5))), (7, .int (nI o)), (8, .int (a_ord2 n i x y (nI o))), (9, .int (bfI i o (n 7) (m_cntN i o (n 7)))), (10, .int (nI (m_cntN i o (n 7))))] [] (zmg (cmm n i x lm y ol od) (pM pr)) k_327 n_327
                              refine z_iload X 10 dL_isSound_327 rfl ?_
                              refine z_iload X 8 dL_isSound_329 rfl ?_
                              refine z_icmp_ge X 402 dL_isSound_331 (by decide) (fun c_331 => ?_) (fun c_331 => ?_)
                              · skip
                                have hcn_o := hcn o
                                refine z_aload_n X 0 dL_isSound_402 rfl rfl ?_
                                refine z_iload X 7 dL_isSound_403 rfl ?_
                                refine z_iconst (v := 3) X dL_isSound_405 (by decide) ?_
                                refine z_callSWiN (As := [.ref 1, .int (nI o), .int 3]) (rest := []) (n1 := 3) X dL_isSound_406 (zC_ri (h_ord3 l hl0 h ol od (nI o)) zCok_cmm rfl) gL_isSound_L_orders rfl rfl (by decide +kernel) ⟨by decide, by decide⟩ rfl (Nat.le_of_ble_eq_true rfl) ⟨by omega, by omega⟩ ?_
                                rintro _ _ ⟨rfl, rfl⟩
                                refine z_bipush (v := 115) X dL_isSound_409 (by decide) ?_
                                refine z_icmp_ne X 430 dL_isSound_411 (by decide) (fun c_411 => ?_) (fun c_411 => ?_)
                                · skip
                                  refine z_iinc (ls' := [(7, .int (nI (o + 1))), (0, .ref 1), (1, .int (nI (n 5))), (2, .ref 16), (3, .int (nI (n 8))), (4, .int (nI (inN i (n 7)))), (5, .int (a_soon n i x y)), (6, .int (xsp n i x y (n 5))), (8, .int (a_ord2 n i x y (nI o))), (9, .int (bfI i o (n 7) (m_cntN i o (n 7)))), (10, .int (nI (m_cntN i o (n 7))))]) (v := nI (o + 1)) X 7 dL_isSound_430 rfl (nI_1 _) (by decide) rfl ?_
                                  refine z_goto (tgt := 306) X dL_isSound_433 (by decide) ?_
                                  refine z_sub (ls' := [(0, .ref 1), (1, .int (nI (n 5))), (2, .ref 16), (3, .int (nI (n 8))), (4, .int (nI (inN i (n 7)))), (5, .int (a_soon n i x y)), (6, .int (xsp n i x y (n 5))), (7, .int (nI (o + 1)))]) [1, 2, 3, 4, 5, 6, 7, 0] rfl ?_
                                  refine z_lse (ls' := [(0, .ref 1), (1, .int (nI (n 5))), (2, .ref 16), (3, .int (nI (n 8))), (4, .int (nI (inN i (n 7)))), (5, .int (a_soon n i x y)), (6, .int (xsp n i x y (n 5))), (7, .int (nI (o + 1)))]) (rfl) ?_
                                  exact ih306 _ _ (by omega) (by omega)
                                · skip
                                  refine z_aload_n X 0 dL_isSound_414 rfl rfl ?_
                                  refine z_iload X 7 dL_isSound_415 rfl ?_
                                  refine z_iconst (v := 4) X dL_isSound_417 (by decide) ?_
                                  refine z_callSWiN (As := [.ref 1, .int (nI o), .int 4]) (rest := []) (n1 := 3) X dL_isSound_418 (zC_ri (h_ord4 l hl0 h ol od (nI o)) zCok_cmm rfl) gL_isSound_L_orders rfl rfl (by decide +kernel) ⟨by decide, by decide⟩ rfl (Nat.le_of_ble_eq_true rfl) ⟨by omega, by omega⟩ ?_
                                  rintro _ _ ⟨rfl, rfl⟩
                                  refine z_aload_n X 2 dL_isSound_421 rfl rfl ?_
                                  refine z_iload X 7 dL_isSound_422 rfl ?_
                                  refine z_iald (j := o) (x := pr o) X dL_isSound_424 zp16k (by rw [zp16n]; exact vp_in_nI (by omega) (by omega)) (nI_clamp (by omega)) (zp16i) ?_
                                  refine z_icmp_ge X 430 dL_isSound_425 (by decide) (fun c_425 => ?_) (fun c_425 => ?_)
                                  · skip
                                    refine z_iinc (ls' := [(7, .int (nI (o + 1))), (0, .ref 1), (1, .int (nI (n 5))), (2, .ref 16), (3, .int (nI (n 8))), (4, .int (nI (inN i (n 7)))), (5, .int (a_soon n i x y)), (6, .int (xsp n i x y (n 5))), (8, .int (a_ord2 n i x y (nI o))), (9, .int (bfI i o (n 7) (m_cntN i o (n 7)))), (10, .int (nI (m_cntN i o (n 7))))]) (v := nI (o + 1)) X 7 dL_isSound_430 rfl (nI_1 _) (by decide) rfl ?_
                                    refine z_goto (tgt := 306) X dL_isSound_433 (by decide) ?_
                                    refine z_sub (ls' := [(0, .ref 1), (1, .int (nI (n 5))), (2, .ref 16), (3, .int (nI (n 8))), (4, .int (nI (inN i (n 7)))), (5, .int (a_soon n i x y)), (6, .int (xsp n i x y (n 5))), (7, .int (nI (o + 1)))]) [1, 2, 3, 4, 5, 6, 7, 0] rfl ?_
                                    refine z_lse (ls' := [(0, .ref 1), (1, .int (nI (n 5))), (2, .ref 16), (3, .int (nI (n 8))), (4, .int (nI (inN i (n 7)))), (5, .int (a_soon n i x y)), (6, .int (xsp n i x y (n 5))), (7, .int (nI (o + 1)))]) (rfl) ?_
                                    exact ih306 _ _ (by omega) (by omega)
                                  · exact absurd (by rw [v_ord4 h ho_306 ((v_ord3 h ho_306).symm.trans c_411), hpr o ho_306]; exact Int32.not_lt.mp (h.2.2.1 o ho_306 ((v_ord3 h ho_306).symm.trans c_411))) c_425
                              · exact absurd (by rw [v_ord2 h ho_306]; exact Int32.le_refl _) c_331
                            · intro j hj_327 ih327 k_327 n_327 hk_327 hn_327
                              show zE g 12 327 [(0, .ref 1), (1, .int (nI (n 5))), (2, .ref 16), (3, .int (nI (n 8))), (4, .int (nI (inN i (n 7)))), (5, .int (a_soon n i x y)), (6, .int (xsp n i x y (n 5))), (7, .int (nI o)), (8, .int (a_ord2 n i x y (nI o))), (9, .int (bfI i o (n 7) j)), (10, .int (nI j))] [] (zmg (cmm n i x lm y ol od) (pM pr)) k_327 n_327
                              refine z_iload X 10 dL_isSound_327 rfl ?_
                              refine z_iload X 8 dL_isSound_329 rfl ?_
                              refine z_icmp_ge X 402 dL_isSound_331 (by decide) (fun c_331 => ?_) (fun c_331 => ?_)
                              · exact absurd c_331 (by rw [v_ord2 h ho_306]; exact Int32.not_le.mpr (nI_lt hj_327 (by have := m_cntN_le i o (n 7); omega)))
                              · skip
                                have hcn_o := hcn o
                                refine z_aload_n X 0 dL_isSound_334 rfl rfl ?_
                                refine z_iload X 7 dL_isSound_335 rfl ?_
                                refine z_bipush (v := 10) X dL_isSound_337 (by decide) ?_
                                refine z_iload X 10 dL_isSound_339 rfl ?_
                                refine z_iadd X dL_isSound_341 ?_
                                refine z_callSWiN (As := [.ref 1, .int (nI o), .int (10 + (nI j))]) (rest := []) (n1 := 3) X dL_isSound_342 (zC_ri (h_ordA l hl0 h ol od (nI o) (10 + (nI j)) (v_ne (by have := m_cntN_le i o (n 7); omega))) zCok_cmm rfl) gL_isSound_L_orders rfl rfl (by decide +kernel) ⟨by decide, by decide⟩ rfl (Nat.le_of_ble_eq_true rfl) ⟨by omega, by omega⟩ ?_
                                rintro _ _ ⟨rfl, rfl⟩
                                refine z_istore (ls' := [(11, .int (a_ordA n i x y (nI o) (10 + (nI j)))), (0, .ref 1), (1, .int (nI (n 5))), (2, .ref 16), (3, .int (nI (n 8))), (4, .int (nI (inN i (n 7)))), (5, .int (a_soon n i x y)), (6, .int (xsp n i x y (n 5))), (7, .int (nI o)), (8, .int (a_ord2 n i x y (nI o))), (9, .int (bfI i o (n 7) j)), (10, .int (nI j))]) X dL_isSound_345 (by decide) rfl ?_
                                refine z_aload_n X 1 dL_isSound_347 rfl rfl ?_
                                refine z_iload X 0 dL_isSound_348 rfl ?_
                                refine z_iconst (v := 0) X dL_isSound_350 (by decide) ?_
                                refine z_callSWiN (As := [.ref 1, .int (a_ordA n i x y (nI o) (10 + (nI j))), .int 0]) (rest := []) (n1 := 3) X dL_isSound_351 (zC_ri (h_pal0 l hl0 h ol od (a_ordA n i x y (nI o) (10 + (nI j)))) zCok_cmm rfl) gL_isSound_L_pallet rfl rfl (by decide +kernel) ⟨by decide, by decide⟩ rfl (Nat.le_of_ble_eq_true rfl) ⟨by omega, by omega⟩ ?_
                                rintro _ _ ⟨rfl, rfl⟩
                                refine z_iload X 10 dL_isSound_354 rfl ?_
                                refine z_icmp_lt X 385 dL_isSound_356 (by decide) (fun c_356 => ?_) (fun c_356 => ?_)
                                · exact absurd c_356 (by obtain ⟨b, b1, b2, b3, b4⟩ := v_cand h ho_306 hj_327; rw [b4, v_pal0 h b2]; exact v_bf h b1 b2)
                                · skip
                                  refine z_aload_n X 1 dL_isSound_359 rfl rfl ?_
                                  refine z_iload X 0 dL_isSound_360 rfl ?_
                                  refine z_iconst (v := 0) X dL_isSound_362 (by decide) ?_
                                  refine z_callSWiN (As := [.ref 1, .int (a_ordA n i x y (nI o) (10 + (nI j))), .int 0]) (rest := []) (n1 := 3) X dL_isSound_363 (zC_ri (h_pal0 l hl0 h ol od (a_ordA n i x y (nI o) (10 + (nI j)))) zCok_cmm rfl) gL_isSound_L_pallet rfl rfl (by decide +kernel) ⟨by decide, by decide⟩ rfl (Nat.le_of_ble_eq_true rfl) ⟨by omega, by omega⟩ ?_
                                  rintro _ _ ⟨rfl, rfl⟩
                                  refine z_aload_n X 3 dL_isSound_366 rfl rfl ?_
                                  refine z_iload X 8 dL_isSound_367 rfl ?_
                                  refine z_iald (j := o) (x := pr o) X dL_isSound_369 zp16k (by rw [zp16n]; exact vp_in_nI (by omega) (by omega)) (nI_clamp (by omega)) (zp16i) ?_
                                  refine z_icmp_lt X 385 dL_isSound_370 (by decide) (fun c_370 => ?_) (fun c_370 => ?_)
                                  · exact absurd c_370 (by obtain ⟨b, b1, b2, b3, b4⟩ := v_cand h ho_306 hj_327; rw [b4, v_pal0 h b2, hpr o ho_306]; exact b3.2.2)
                                  · skip
                                    refine z_aload_n X 1 dL_isSound_373 rfl rfl ?_
                                    refine z_iload X 0 dL_isSound_374 rfl ?_
                                    refine z_iconst (v := 2) X dL_isSound_376 (by decide) ?_
                                    refine z_callSWiN (As := [.ref 1, .int (a_ordA n i x y (nI o) (10 + (nI j))), .int 2]) (rest := []) (n1 := 3) X dL_isSound_377 (zC_ri (h_pal2 l hl0 h ol od (a_ordA n i x y (nI o) (10 + (nI j)))) zCok_cmm rfl) gL_isSound_L_pallet rfl rfl (by decide +kernel) ⟨by decide, by decide⟩ rfl (Nat.le_of_ble_eq_true rfl) ⟨by omega, by omega⟩ ?_
                                    rintro _ _ ⟨rfl, rfl⟩
                                    refine z_bipush (v := 114) X dL_isSound_380 (by decide) ?_
                                    refine z_icmp_eq X 387 dL_isSound_382 (by decide) (fun c_382 => ?_) (fun c_382 => ?_)
                                    · skip
                                      refine z_aload_n X 1 dL_isSound_387 rfl rfl ?_
                                      refine z_iload X 0 dL_isSound_388 rfl ?_
                                      refine z_iconst (v := 0) X dL_isSound_390 (by decide) ?_
                                      refine z_callSWiN (As := [.ref 1, .int (a_ordA n i x y (nI o) (10 + (nI j))), .int 0]) (rest := []) (n1 := 3) X dL_isSound_391 (zC_ri (h_pal0 l hl0 h ol od (a_ordA n i x y (nI o) (10 + (nI j)))) zCok_cmm rfl) gL_isSound_L_pallet rfl rfl (by decide +kernel) ⟨by decide, by decide⟩ rfl (Nat.le_of_ble_eq_true rfl) ⟨by omega, by omega⟩ ?_
                                      rintro _ _ ⟨rfl, rfl⟩
                                      refine z_istore (ls' := [(9, .int (a_pal0 n i x y (a_ordA n i x y (nI o) (10 + (nI j))))), (11, .int (a_ordA n i x y (nI o) (10 + (nI j)))), (0, .ref 1), (1, .int (nI (n 5))), (2, .ref 16), (3, .int (nI (n 8))), (4, .int (nI (inN i (n 7)))), (5, .int (a_soon n i x y)), (6, .int (xsp n i x y (n 5))), (7, .int (nI o)), (8, .int (a_ord2 n i x y (nI o))), (10, .int (nI j))]) X dL_isSound_394 (by decide) rfl ?_
                                      refine z_iinc (ls' := [(10, .int (nI (j + 1))), (9, .int (a_pal0 n i x y (a_ordA n i x y (nI o) (10 + (nI j))))), (11, .int (a_ordA n i x y (nI o) (10 + (nI j)))), (0, .ref 1), (1, .int (nI (n 5))), (2, .ref 16), (3, .int (nI (n 8))), (4, .int (nI (inN i (n 7)))), (5, .int (a_soon n i x y)), (6, .int (xsp n i x y (n 5))), (7, .int (nI o)), (8, .int (a_ord2 n i x y (nI o)))]) (v := nI (j + 1)) X 11 dL_isSound_396 rfl (nI_1 _) (by decide) rfl ?_
                                      refine z_goto (tgt := 327) X dL_isSound_399 (by decide) ?_
                                      refine z_sub (ls' := [(0, .ref 1), (1, .int (nI (n 5))), (2, .ref 16), (3, .int (nI (n 8))), (4, .int (nI (inN i (n 7)))), (5, .int (a_soon n i x y)), (6, .int (xsp n i x y (n 5))), (7, .int (nI o)), (8, .int (a_ord2 n i x y (nI o))), (9, .int (a_pal0 n i x y (a_ordA n i x y (nI o) (10 + (nI j))))), (10, .int (nI (j + 1)))]) [3, 4, 5, 6, 7, 8, 9, 10, 11, 1, 0] rfl ?_
                                      refine z_lse (ls' := [(0, .ref 1), (1, .int (nI (n 5))), (2, .ref 16), (3, .int (nI (n 8))), (4, .int (nI (inN i (n 7)))), (5, .int (a_soon n i x y)), (6, .int (xsp n i x y (n 5))), (7, .int (nI o)), (8, .int (a_ord2 n i x y (nI o))), (9, .int (bfI i o (n 7) (j + 1))), (10, .int (nI (j + 1)))]) (by rw [v_bfs h ho_306 hj_327]) ?_
                                      exact ih327 _ _ (by omega) (by omega)
                                    · exact absurd (by obtain ⟨b, b1, b2, b3, b4⟩ := v_cand h ho_306 hj_327; rw [b4, v_pal2 h b2]; exact b3.1) c_382
                          refine z_sub (ls' := [(0, .ref 1), (1, .int (nI (n 5))), (2, .ref 16), (3, .int (nI (n 8))), (4, .int (nI (inN i (n 7)))), (5, .int (a_soon n i x y)), (6, .int (xsp n i x y (n 5))), (7, .int (nI o)), (8, .int (a_ord2 n i x y (nI o))), (9, .int (-1)), (10, .int 0)]) [3, 4, 5, 6, 7, 8, 9, 10, 2, 1, 0] rfl ?_
                          refine z_lse (ls' := [(0, .ref 1), (1, .int (nI (n 5))), (2, .ref 16), (3, .int (nI (n 8))), (4, .int (nI (inN i (n 7)))), (5, .int (a_soon n i x y)), (6, .int (xsp n i x y (n 5))), (7, .int (nI o)), (8, .int (a_ord2 n i x y (nI o))), (9, .int (bfI i o (n 7) 0)), (10, .int (nI 0))]) (rfl) ?_
                          exact hloop327 0 (Nat.zero_le _) _ _ (by omega) (by omega)
                    refine z_sub (ls' := [(0, .ref 1), (1, .int (nI (n 5))), (2, .ref 16), (3, .int (nI (n 8))), (4, .int (nI (inN i (n 7)))), (5, .int (a_soon n i x y)), (6, .int (xsp n i x y (n 5))), (7, .int 0)]) [1, 2, 3, 4, 5, 6, 7, 0] rfl ?_
                    refine z_lse (ls' := [(0, .ref 1), (1, .int (nI (n 5))), (2, .ref 16), (3, .int (nI (n 8))), (4, .int (nI (inN i (n 7)))), (5, .int (a_soon n i x y)), (6, .int (xsp n i x y (n 5))), (7, .int (nI 0))]) (rfl) ?_
                    exact hloop306 0 (Nat.zero_le _) _ _ (by omega) (by omega)
                  · exact absurd (Int32.le_refl _) c_196
                · intro r hr_193 ih193 k_193 n_193 hk_193 hn_193
                  show zE g 12 193 [(0, .ref 1), (1, .int (nI (n 5))), (2, .ref 16), (3, .int (nI (n 8))), (4, .int (nI (inN i (n 7)))), (5, .int (a_soon n i x y)), (6, .int (xsp n i x y r)), (7, .int (nI r))] [] (zmg (cmm n i x lm y ol od) (pM pr)) k_193 n_193
                  refine z_iload X 7 dL_isSound_193 rfl ?_
                  refine z_iload_n X 1 dL_isSound_195 rfl rfl ?_
                  refine z_icmp_ge X 303 dL_isSound_196 (by decide) (fun c_196 => ?_) (fun c_196 => ?_)
                  · exact absurd c_196 (Int32.not_le.mpr (nI_lt (by omega) (by omega)))
                  · skip
                    refine z_iload X 6 dL_isSound_199 rfl ?_
                    refine z_aload_n X 0 dL_isSound_201 rfl rfl ?_
                    refine z_iload X 7 dL_isSound_202 rfl ?_
                    refine z_iconst (v := 3) X dL_isSound_204 (by decide) ?_
                    refine z_callSWiN (As := [.ref 1, .int (nI r), .int 3]) (rest := [.int (xsp n i x y r)]) (n1 := 3) X dL_isSound_205 (zC_ri (h_of3 l hl0 h ol od (nI r)) zCok_cmm rfl) gL_isSound_L_of rfl rfl (by decide +kernel) ⟨by decide, by decide⟩ rfl (Nat.le_of_ble_eq_true rfl) ⟨by omega, by omega⟩ ?_
                    rintro _ _ ⟨rfl, rfl⟩
                    refine z_iadd X dL_isSound_208 ?_
                    refine z_istore (ls' := [(6, .int ((xsp n i x y r) + (a_of3 n i x y (nI r)))), (0, .ref 1), (1, .int (nI (n 5))), (2, .ref 16), (3, .int (nI (n 8))), (4, .int (nI (inN i (n 7)))), (5, .int (a_soon n i x y)), (7, .int (nI r))]) X dL_isSound_209 (by decide) rfl ?_
                    refine z_aload_n X 1 dL_isSound_211 rfl rfl ?_
                    refine z_iload X 7 dL_isSound_212 rfl ?_
                    refine z_iconst (v := 0) X dL_isSound_214 (by decide) ?_
                    refine z_callSWiN (As := [.ref 1, .int (nI r), .int 0]) (rest := []) (n1 := 3) X dL_isSound_215 (zC_ri (h_of0 l hl0 h ol od (nI r)) zCok_cmm rfl) gL_isSound_L_of rfl rfl (by decide +kernel) ⟨by decide, by decide⟩ rfl (Nat.le_of_ble_eq_true rfl) ⟨by omega, by omega⟩ ?_
                    rintro _ _ ⟨rfl, rfl⟩
                    refine z_sipush (v := (-400)) X dL_isSound_218 (by decide) ?_
                    refine z_icmp_lt X 295 dL_isSound_221 (by decide) (fun c_221 => ?_) (fun c_221 => ?_)
                    · exact absurd c_221 (by rw [v_of0 h hr_193]; exact v_400 h hr_193)
                    · skip
                      refine z_aload_n X 1 dL_isSound_224 rfl rfl ?_
                      refine z_iload X 7 dL_isSound_225 rfl ?_
                      refine z_iconst (v := 3) X dL_isSound_227 (by decide) ?_
                      refine z_callSWiN (As := [.ref 1, .int (nI r), .int 3]) (rest := []) (n1 := 3) X dL_isSound_228 (zC_ri (h_of3 l hl0 h ol od (nI r)) zCok_cmm rfl) gL_isSound_L_of rfl rfl (by decide +kernel) ⟨by decide, by decide⟩ rfl (Nat.le_of_ble_eq_true rfl) ⟨by omega, by omega⟩ ?_
                      rintro _ _ ⟨rfl, rfl⟩
                      refine z_if_lt X 295 dL_isSound_231 (by decide) (fun c_231 => ?_) (fun c_231 => ?_)
                      · exact absurd c_231 (by rw [v_of3 h hr_193]; exact nI_nn _ (by omega))
                      · skip
                        refine z_aload_n X 1 dL_isSound_234 rfl rfl ?_
                        refine z_iload X 7 dL_isSound_235 rfl ?_
                        refine z_iconst (v := 2) X dL_isSound_237 (by decide) ?_
                        refine z_callSWiN (As := [.ref 1, .int (nI r), .int 2]) (rest := []) (n1 := 3) X dL_isSound_238 (zC_ri (h_of2 l hl0 h ol od (nI r)) zCok_cmm rfl) gL_isSound_L_of rfl rfl (by decide +kernel) ⟨by decide, by decide⟩ rfl (Nat.le_of_ble_eq_true rfl) ⟨by omega, by omega⟩ ?_
                        rintro _ _ ⟨rfl, rfl⟩
                        refine z_sipush (v := (-1002)) X dL_isSound_241 (by decide) ?_
                        refine z_icmp_eq X 264 dL_isSound_244 (by decide) (fun c_244 => ?_) (fun c_244 => ?_)
                        · skip
                          refine z_aload_n X 1 dL_isSound_264 rfl rfl ?_
                          refine z_iload X 7 dL_isSound_265 rfl ?_
                          refine z_iconst (v := 2) X dL_isSound_267 (by decide) ?_
                          refine z_callSWiN (As := [.ref 1, .int (nI r), .int 2]) (rest := []) (n1 := 3) X dL_isSound_268 (zC_ri (h_of2 l hl0 h ol od (nI r)) zCok_cmm rfl) gL_isSound_L_of rfl rfl (by decide +kernel) ⟨by decide, by decide⟩ rfl (Nat.le_of_ble_eq_true rfl) ⟨by omega, by omega⟩ ?_
                          rintro _ _ ⟨rfl, rfl⟩
                          refine z_sipush (v := (-1002)) X dL_isSound_271 (by decide) ?_
                          refine z_icmp_eq X 297 dL_isSound_274 (by decide) (fun c_274 => ?_) (fun c_274 => ?_)
                          · skip
                            refine z_iinc (ls' := [(7, .int (nI (r + 1))), (6, .int ((xsp n i x y r) + (a_of3 n i x y (nI r)))), (0, .ref 1), (1, .int (nI (n 5))), (2, .ref 16), (3, .int (nI (n 8))), (4, .int (nI (inN i (n 7)))), (5, .int (a_soon n i x y))]) (v := nI (r + 1)) X 7 dL_isSound_297 rfl (nI_1 _) (by decide) rfl ?_
                            refine z_goto (tgt := 193) X dL_isSound_300 (by decide) ?_
                            refine z_sub (ls' := [(0, .ref 1), (1, .int (nI (n 5))), (2, .ref 16), (3, .int (nI (n 8))), (4, .int (nI (inN i (n 7)))), (5, .int (a_soon n i x y)), (6, .int ((xsp n i x y r) + (a_of3 n i x y (nI r)))), (7, .int (nI (r + 1)))]) [2, 3, 4, 5, 6, 7, 1, 0] rfl ?_
                            refine z_lse (ls' := [(0, .ref 1), (1, .int (nI (n 5))), (2, .ref 16), (3, .int (nI (n 8))), (4, .int (nI (inN i (n 7)))), (5, .int (a_soon n i x y)), (6, .int (xsp n i x y (r + 1))), (7, .int (nI (r + 1)))]) (rfl) ?_
                            exact ih193 _ _ (by omega) (by omega)
                          · exact absurd c_244 c_274
                        · skip
                          refine z_aload_n X 1 dL_isSound_247 rfl rfl ?_
                          refine z_iload X 7 dL_isSound_248 rfl ?_
                          refine z_iconst (v := 2) X dL_isSound_250 (by decide) ?_
                          refine z_callSWiN (As := [.ref 1, .int (nI r), .int 2]) (rest := []) (n1 := 3) X dL_isSound_251 (zC_ri (h_of2 l hl0 h ol od (nI r)) zCok_cmm rfl) gL_isSound_L_of rfl rfl (by decide +kernel) ⟨by decide, by decide⟩ rfl (Nat.le_of_ble_eq_true rfl) ⟨by omega, by omega⟩ ?_
                          rintro _ _ ⟨rfl, rfl⟩
                          refine z_aload_n X 1 dL_isSound_254 rfl rfl ?_
                          refine z_iload X 7 dL_isSound_255 rfl ?_
                          refine z_iconst (v := 0) X dL_isSound_257 (by decide) ?_
                          refine z_callSWiN (As := [.ref 1, .int (nI r), .int 0]) (rest := [.int (a_of2 n i x y (nI r))]) (n1 := 3) X dL_isSound_258 (zC_ri (h_of0 l hl0 h ol od (nI r)) zCok_cmm rfl) gL_isSound_L_of rfl rfl (by decide +kernel) ⟨by decide, by decide⟩ rfl (Nat.le_of_ble_eq_true rfl) ⟨by omega, by omega⟩ ?_
                          rintro _ _ ⟨rfl, rfl⟩
                          refine z_icmp_lt X 295 dL_isSound_261 (by decide) (fun c_261 => ?_) (fun c_261 => ?_)
                          · exact absurd c_261 (by rw [v_of0 h hr_193, v_of2 h hr_193, if_pos (v_tick h hr_193 c_244)]; exact v_warm h hr_193 (v_tick h hr_193 c_244))
                          · skip
                            refine z_aload_n X 1 dL_isSound_264 rfl rfl ?_
                            refine z_iload X 7 dL_isSound_265 rfl ?_
                            refine z_iconst (v := 2) X dL_isSound_267 (by decide) ?_
                            refine z_callSWiN (As := [.ref 1, .int (nI r), .int 2]) (rest := []) (n1 := 3) X dL_isSound_268 (zC_ri (h_of2 l hl0 h ol od (nI r)) zCok_cmm rfl) gL_isSound_L_of rfl rfl (by decide +kernel) ⟨by decide, by decide⟩ rfl (Nat.le_of_ble_eq_true rfl) ⟨by omega, by omega⟩ ?_
                            rintro _ _ ⟨rfl, rfl⟩
                            refine z_sipush (v := (-1002)) X dL_isSound_271 (by decide) ?_
                            refine z_icmp_eq X 297 dL_isSound_274 (by decide) (fun c_274 => ?_) (fun c_274 => ?_)
                            · exact absurd c_274 c_244
                            · skip
                              refine z_aload_n X 1 dL_isSound_277 rfl rfl ?_
                              refine z_iload X 7 dL_isSound_278 rfl ?_
                              refine z_callSWdN (As := [.ref 1, .int (nI r)]) (rest := []) (n1 := 2) X dL_isSound_280 (zC_rd (h_mean l hl0 h ol od (nI r)) zCok_cmm rfl) gL_isSound_L_mean rfl rfl (by decide +kernel) ⟨by decide, by decide⟩ rfl (Nat.le_of_ble_eq_true rfl) ⟨by omega, by omega⟩ ?_
                              rintro _ _ ⟨rfl, rfl⟩
                              refine z_aload_n X 1 dL_isSound_283 rfl rfl ?_
                              refine z_iload X 7 dL_isSound_284 rfl ?_
                              refine z_iconst (v := 2) X dL_isSound_286 (by decide) ?_
                              refine z_callSWiN (As := [.ref 1, .int (nI r), .int 2]) (rest := [.double (a_mean n i x y (nI r))]) (n1 := 3) X dL_isSound_287 (zC_ri (h_of2 l hl0 h ol od (nI r)) zCok_cmm rfl) gL_isSound_L_of rfl rfl (by decide +kernel) ⟨by decide, by decide⟩ rfl (Nat.le_of_ble_eq_true rfl) ⟨by omega, by omega⟩ ?_
                              rintro _ _ ⟨rfl, rfl⟩
                              refine z_i2d X dL_isSound_290 ?_
                              refine z_dcmp X dL_isSound_291 ?_
                              refine z_if_le X 297 dL_isSound_292 (by decide) (fun c_292 => ?_) (fun c_292 => ?_)
                              · skip
                                refine z_iinc (ls' := [(7, .int (nI (r + 1))), (6, .int ((xsp n i x y r) + (a_of3 n i x y (nI r)))), (0, .ref 1), (1, .int (nI (n 5))), (2, .ref 16), (3, .int (nI (n 8))), (4, .int (nI (inN i (n 7)))), (5, .int (a_soon n i x y))]) (v := nI (r + 1)) X 7 dL_isSound_297 rfl (nI_1 _) (by decide) rfl ?_
                                refine z_goto (tgt := 193) X dL_isSound_300 (by decide) ?_
                                refine z_sub (ls' := [(0, .ref 1), (1, .int (nI (n 5))), (2, .ref 16), (3, .int (nI (n 8))), (4, .int (nI (inN i (n 7)))), (5, .int (a_soon n i x y)), (6, .int ((xsp n i x y r) + (a_of3 n i x y (nI r)))), (7, .int (nI (r + 1)))]) [2, 3, 4, 5, 6, 7, 1, 0] rfl ?_
                                refine z_lse (ls' := [(0, .ref 1), (1, .int (nI (n 5))), (2, .ref 16), (3, .int (nI (n 8))), (4, .int (nI (inN i (n 7)))), (5, .int (a_soon n i x y)), (6, .int (xsp n i x y (r + 1))), (7, .int (nI (r + 1)))]) (rfl) ?_
                                exact ih193 _ _ (by omega) (by omega)
                              · exact absurd (by rw [v_of2 h hr_193, if_pos (v_tick h hr_193 c_244)]; exact Int32.not_lt.mp (v_meanle h hr_193 (v_tick h hr_193 c_244))) c_292
              refine z_sub (ls' := [(0, .ref 1), (1, .int (nI (n 5))), (2, .ref 16), (3, .int (nI (n 8))), (4, .int (nI (inN i (n 7)))), (5, .int (a_soon n i x y)), (6, .int 0), (7, .int 0)]) [2, 3, 4, 5, 6, 7, 1, 0] rfl ?_
              refine z_lse (ls' := [(0, .ref 1), (1, .int (nI (n 5))), (2, .ref 16), (3, .int (nI (n 8))), (4, .int (nI (inN i (n 7)))), (5, .int (a_soon n i x y)), (6, .int (xsp n i x y 0)), (7, .int (nI 0))]) (rfl) ?_
              exact hloop193 0 (Nat.zero_le _) _ _ (by omega) (by omega)
            · exact absurd (Int32.le_refl _) c_50
          · intro p hp_44 ih44 k_44 n_44 hk_44 hn_44
            show zE g 12 44 [(0, .ref 1), (1, .int (nI (n 5))), (2, .ref 16), (3, .int (nI (n 8))), (4, .int (nI (inN i p))), (5, .int (a_soon n i x y)), (6, .int (nI p))] [] (zmg (cmm n i x lm y ol od) (pM pr)) k_44 n_44
            refine z_iload X 6 dL_isSound_44 rfl ?_
            refine z_aload_n X 0 dL_isSound_46 rfl rfl ?_
            refine z_callViN (As := []) (rest := [.int (nI p)]) (n1 := 0) (ci := 10) X dL_isSound_47 (zC_ri (c_X7_pallets l hl0 n i x lm y ol od h.1.1) zCok_cmm rfl) gL_isSound_X7_pallets rfl rfl (by decide +kernel) ⟨by decide, by decide⟩ zp1 rfl rfl (Nat.le_of_ble_eq_true rfl) ⟨by omega, by omega⟩ ?_
            rintro _ _ ⟨rfl, rfl⟩
            refine z_icmp_ge X 187 dL_isSound_50 (by decide) (fun c_50 => ?_) (fun c_50 => ?_)
            · exact absurd c_50 (Int32.not_le.mpr (nI_lt (by omega) (by omega)))
            · skip
              refine z_aload_n X 0 dL_isSound_53 rfl rfl ?_
              refine z_iload X 6 dL_isSound_54 rfl ?_
              refine z_iconst (v := 0) X dL_isSound_56 (by decide) ?_
              refine z_callSWiN (As := [.ref 1, .int (nI p), .int 0]) (rest := []) (n1 := 3) X dL_isSound_57 (zC_ri (h_pal0 l hl0 h ol od (nI p)) zCok_cmm rfl) gL_isSound_L_pallet rfl rfl (by decide +kernel) ⟨by decide, by decide⟩ rfl (Nat.le_of_ble_eq_true rfl) ⟨by omega, by omega⟩ ?_
              rintro _ _ ⟨rfl, rfl⟩
              refine z_istore (ls' := [(7, .int (a_pal0 n i x y (nI p))), (0, .ref 1), (1, .int (nI (n 5))), (2, .ref 16), (3, .int (nI (n 8))), (4, .int (nI (inN i p))), (5, .int (a_soon n i x y)), (6, .int (nI p))]) X dL_isSound_60 (by decide) rfl ?_
              refine z_aload_n X 1 dL_isSound_62 rfl rfl ?_
              refine z_iload X 7 dL_isSound_63 rfl ?_
              refine z_iconst (v := 2) X dL_isSound_65 (by decide) ?_
              refine z_callSWiN (As := [.ref 1, .int (nI p), .int 2]) (rest := []) (n1 := 3) X dL_isSound_66 (zC_ri (h_pal2 l hl0 h ol od (nI p)) zCok_cmm rfl) gL_isSound_L_pallet rfl rfl (by decide +kernel) ⟨by decide, by decide⟩ rfl (Nat.le_of_ble_eq_true rfl) ⟨by omega, by omega⟩ ?_
              rintro _ _ ⟨rfl, rfl⟩
              refine z_bipush (v := 114) X dL_isSound_69 (by decide) ?_
              refine z_icmp_ne X 78 dL_isSound_71 (by decide) (fun c_71 => ?_) (fun c_71 => ?_)
              · skip
                refine z_iconst (v := 0) X dL_isSound_78 (by decide) ?_
                refine z_istore (ls' := [(8, .int 0), (7, .int (a_pal0 n i x y (nI p))), (0, .ref 1), (1, .int (nI (n 5))), (2, .ref 16), (3, .int (nI (n 8))), (4, .int (nI (inN i p))), (5, .int (a_soon n i x y)), (6, .int (nI p))]) X dL_isSound_79 (by decide) rfl ?_
                refine z_iload X 6 dL_isSound_81 rfl ?_
                refine z_iload X 0 dL_isSound_83 rfl ?_
                refine z_if_eq X 92 dL_isSound_85 (by decide) (fun c_85 => ?_) (fun c_85 => ?_)
                · skip
                  refine z_iconst (v := 0) X dL_isSound_92 (by decide) ?_
                  refine z_iadd X dL_isSound_93 ?_
                  refine z_istore (ls' := [(4, .int ((nI (inN i p)) + 0)), (8, .int 0), (7, .int (a_pal0 n i x y (nI p))), (0, .ref 1), (1, .int (nI (n 5))), (2, .ref 16), (3, .int (nI (n 8))), (5, .int (a_soon n i x y)), (6, .int (nI p))]) X dL_isSound_94 (by decide) rfl ?_
                  refine z_iload X 2 dL_isSound_96 rfl ?_
                  refine z_aload_n X 3 dL_isSound_98 rfl rfl ?_
                  refine z_iload X 8 dL_isSound_99 rfl ?_
                  refine z_iconst (v := 1) X dL_isSound_101 (by decide) ?_
                  refine z_callSWiN (As := [.ref 1, .int (nI p), .int 1]) (rest := [.int (a_pal0 n i x y (nI p))]) (n1 := 3) X dL_isSound_102 (zC_ri (h_pal1 l hl0 h ol od (nI p)) zCok_cmm rfl) gL_isSound_L_pallet rfl rfl (by decide +kernel) ⟨by decide, by decide⟩ rfl (Nat.le_of_ble_eq_true rfl) ⟨by omega, by omega⟩ ?_
                  rintro _ _ ⟨rfl, rfl⟩
                  refine z_icmp_ne X 179 dL_isSound_105 (by decide) (fun c_105 => ?_) (fun c_105 => ?_)
                  · exact absurd ((v_pal0 h hp_44).trans (v_pal1 h hp_44).symm) c_105
                  · skip
                    refine z_iload X 2 dL_isSound_108 rfl ?_
                    refine z_if_lt X 179 dL_isSound_110 (by decide) (fun c_110 => ?_) (fun c_110 => ?_)
                    · exact absurd c_110 (by rw [v_pal0 h hp_44]; exact v_nn h hp_44)
                    · skip
                      refine z_iload X 1 dL_isSound_113 rfl ?_
                      refine z_aload_n X 3 dL_isSound_115 rfl rfl ?_
                      refine z_iload X 8 dL_isSound_116 rfl ?_
                      refine z_iconst (v := 3) X dL_isSound_118 (by decide) ?_
                      refine z_callSWiN (As := [.ref 1, .int (nI p), .int 3]) (rest := [.int 0]) (n1 := 3) X dL_isSound_119 (zC_ri (h_pal3 l hl0 h ol od (nI p)) zCok_cmm rfl) gL_isSound_L_pallet rfl rfl (by decide +kernel) ⟨by decide, by decide⟩ rfl (Nat.le_of_ble_eq_true rfl) ⟨by omega, by omega⟩ ?_
                      rintro _ _ ⟨rfl, rfl⟩
                      refine z_if_lt X 129 dL_isSound_122 (by decide) (fun c_122 => ?_) (fun c_122 => ?_)
                      · skip
                        refine z_iconst (v := 0) X dL_isSound_129 (by decide) ?_
                        refine z_icmp_ne X 179 dL_isSound_130 (by decide) (fun c_130 => ?_) (fun c_130 => ?_)
                        · exact absurd c_130 (by decide)
                        · skip
                          refine z_iload X 1 dL_isSound_133 rfl ?_
                          refine z_if_eq X 181 dL_isSound_135 (by decide) (fun c_135 => ?_) (fun c_135 => ?_)
                          · skip
                            refine z_iinc (ls' := [(6, .int (nI (p + 1))), (4, .int ((nI (inN i p)) + 0)), (8, .int 0), (7, .int (a_pal0 n i x y (nI p))), (0, .ref 1), (1, .int (nI (n 5))), (2, .ref 16), (3, .int (nI (n 8))), (5, .int (a_soon n i x y))]) (v := nI (p + 1)) X 8 dL_isSound_181 rfl (nI_1 _) (by decide) rfl ?_
                            refine z_goto (tgt := 44) X dL_isSound_184 (by decide) ?_
                            refine z_sub (ls' := [(0, .ref 1), (1, .int (nI (n 5))), (2, .ref 16), (3, .int (nI (n 8))), (4, .int ((nI (inN i p)) + 0)), (5, .int (a_soon n i x y)), (6, .int (nI (p + 1)))]) [4, 5, 6, 7, 1, 8, 0] rfl ?_
                            refine z_lse (ls' := [(0, .ref 1), (1, .int (nI (n 5))), (2, .ref 16), (3, .int (nI (n 8))), (4, .int (nI (inN i (p + 1)))), (5, .int (a_soon n i x y)), (6, .int (nI (p + 1)))]) (by rw [inN_f (fun e => c_71 ((v_pal2 h hp_44).trans e)), Int32.add_zero]) ?_
                            exact ih44 _ _ (by omega) (by omega)
                          · exact absurd c_135 (by decide)
                      · exact absurd (by rw [v_pal3 h hp_44, if_neg (fun e => c_71 ((v_pal2 h hp_44).trans e))]; decide) c_122
                · exact absurd c_85 (by decide)
              · skip
                refine z_iconst (v := 1) X dL_isSound_74 (by decide) ?_
                refine z_goto (tgt := 79) X dL_isSound_75 (by decide) ?_
                refine z_istore (ls' := [(8, .int 1), (7, .int (a_pal0 n i x y (nI p))), (0, .ref 1), (1, .int (nI (n 5))), (2, .ref 16), (3, .int (nI (n 8))), (4, .int (nI (inN i p))), (5, .int (a_soon n i x y)), (6, .int (nI p))]) X dL_isSound_79 (by decide) rfl ?_
                refine z_iload X 6 dL_isSound_81 rfl ?_
                refine z_iload X 0 dL_isSound_83 rfl ?_
                refine z_if_eq X 92 dL_isSound_85 (by decide) (fun c_85 => ?_) (fun c_85 => ?_)
                · exact absurd c_85 (by decide)
                · skip
                  refine z_iconst (v := 1) X dL_isSound_88 (by decide) ?_
                  refine z_goto (tgt := 93) X dL_isSound_89 (by decide) ?_
                  refine z_iadd X dL_isSound_93 ?_
                  refine z_istore (ls' := [(4, .int ((nI (inN i p)) + 1)), (8, .int 1), (7, .int (a_pal0 n i x y (nI p))), (0, .ref 1), (1, .int (nI (n 5))), (2, .ref 16), (3, .int (nI (n 8))), (5, .int (a_soon n i x y)), (6, .int (nI p))]) X dL_isSound_94 (by decide) rfl ?_
                  refine z_iload X 2 dL_isSound_96 rfl ?_
                  refine z_aload_n X 3 dL_isSound_98 rfl rfl ?_
                  refine z_iload X 8 dL_isSound_99 rfl ?_
                  refine z_iconst (v := 1) X dL_isSound_101 (by decide) ?_
                  refine z_callSWiN (As := [.ref 1, .int (nI p), .int 1]) (rest := [.int (a_pal0 n i x y (nI p))]) (n1 := 3) X dL_isSound_102 (zC_ri (h_pal1 l hl0 h ol od (nI p)) zCok_cmm rfl) gL_isSound_L_pallet rfl rfl (by decide +kernel) ⟨by decide, by decide⟩ rfl (Nat.le_of_ble_eq_true rfl) ⟨by omega, by omega⟩ ?_
                  rintro _ _ ⟨rfl, rfl⟩
                  refine z_icmp_ne X 179 dL_isSound_105 (by decide) (fun c_105 => ?_) (fun c_105 => ?_)
                  · exact absurd ((v_pal0 h hp_44).trans (v_pal1 h hp_44).symm) c_105
                  · skip
                    refine z_iload X 2 dL_isSound_108 rfl ?_
                    refine z_if_lt X 179 dL_isSound_110 (by decide) (fun c_110 => ?_) (fun c_110 => ?_)
                    · exact absurd c_110 (by rw [v_pal0 h hp_44]; exact v_nn h hp_44)
                    · skip
                      refine z_iload X 1 dL_isSound_113 rfl ?_
                      refine z_aload_n X 3 dL_isSound_115 rfl rfl ?_
                      refine z_iload X 8 dL_isSound_116 rfl ?_
                      refine z_iconst (v := 3) X dL_isSound_118 (by decide) ?_
                      refine z_callSWiN (As := [.ref 1, .int (nI p), .int 3]) (rest := [.int 1]) (n1 := 3) X dL_isSound_119 (zC_ri (h_pal3 l hl0 h ol od (nI p)) zCok_cmm rfl) gL_isSound_L_pallet rfl rfl (by decide +kernel) ⟨by decide, by decide⟩ rfl (Nat.le_of_ble_eq_true rfl) ⟨by omega, by omega⟩ ?_
                      rintro _ _ ⟨rfl, rfl⟩
                      refine z_if_lt X 129 dL_isSound_122 (by decide) (fun c_122 => ?_) (fun c_122 => ?_)
                      · exact absurd c_122 (by rw [v_pal3 h hp_44, if_pos ((v_pal2 h hp_44).symm.trans c_71)]; exact v_room h hp_44)
                      · skip
                        refine z_iconst (v := 1) X dL_isSound_125 (by decide) ?_
                        refine z_goto (tgt := 130) X dL_isSound_126 (by decide) ?_
                        refine z_icmp_ne X 179 dL_isSound_130 (by decide) (fun c_130 => ?_) (fun c_130 => ?_)
                        · exact absurd c_130 (by decide)
                        · skip
                          refine z_iload X 1 dL_isSound_133 rfl ?_
                          refine z_if_eq X 181 dL_isSound_135 (by decide) (fun c_135 => ?_) (fun c_135 => ?_)
                          · exact absurd c_135 (by decide)
                          · skip
                            refine z_aload_n X 3 dL_isSound_138 rfl rfl ?_
                            refine z_iload X 8 dL_isSound_139 rfl ?_
                            refine z_iconst (v := 0) X dL_isSound_141 (by decide) ?_
                            refine z_callSWiN (As := [.ref 1, .int (nI p), .int 0]) (rest := []) (n1 := 3) X dL_isSound_142 (zC_ri (h_fore l hl0 h ol od (nI p) 0) zCok_cmm rfl) gL_isSound_L_forecast rfl rfl (by decide +kernel) ⟨by decide, by decide⟩ rfl (Nat.le_of_ble_eq_true rfl) ⟨by omega, by omega⟩ ?_
                            rintro _ _ ⟨rfl, rfl⟩
                            refine z_iload X 2 dL_isSound_145 rfl ?_
                            refine z_icmp_ne X 179 dL_isSound_147 (by decide) (fun c_147 => ?_) (fun c_147 => ?_)
                            · exact absurd ((v_fore0 h hp_44 ((v_pal2 h hp_44).symm.trans c_71)).trans (v_pal0 h hp_44).symm) c_147
                            · skip
                              refine z_aload_n X 3 dL_isSound_150 rfl rfl ?_
                              refine z_iload X 8 dL_isSound_151 rfl ?_
                              refine z_iconst (v := 5) X dL_isSound_153 (by decide) ?_
                              refine z_callSWiN (As := [.ref 1, .int (nI p), .int 5]) (rest := []) (n1 := 3) X dL_isSound_154 (zC_ri (h_fore l hl0 h ol od (nI p) 5) zCok_cmm rfl) gL_isSound_L_forecast rfl rfl (by decide +kernel) ⟨by decide, by decide⟩ rfl (Nat.le_of_ble_eq_true rfl) ⟨by omega, by omega⟩ ?_
                              rintro _ _ ⟨rfl, rfl⟩
                              refine z_iload X 2 dL_isSound_157 rfl ?_
                              refine z_icmp_gt X 179 dL_isSound_159 (by decide) (fun c_159 => ?_) (fun c_159 => ?_)
                              · exact absurd c_159 (by rw [v_pal0 h hp_44]; exact v_fore5 h hp_44 ((v_pal2 h hp_44).symm.trans c_71))
                              · skip
                                refine z_iload X 7 dL_isSound_162 rfl ?_
                                refine z_if_lt X 179 dL_isSound_164 (by decide) (fun c_164 => ?_) (fun c_164 => ?_)
                                · exact absurd c_164 (v_soon_in h hp_44 ((v_pal2 h hp_44).symm.trans c_71)).1
                                · skip
                                  refine z_aload_n X 3 dL_isSound_167 rfl rfl ?_
                                  refine z_iload X 7 dL_isSound_168 rfl ?_
                                  refine z_iconst (v := 0) X dL_isSound_170 (by decide) ?_
                                  refine z_callSWiN (As := [.ref 1, .int (a_soon n i x y), .int 0]) (rest := []) (n1 := 3) X dL_isSound_171 (zC_ri (h_pal0 l hl0 h ol od (a_soon n i x y)) zCok_cmm rfl) gL_isSound_L_pallet rfl rfl (by decide +kernel) ⟨by decide, by decide⟩ rfl (Nat.le_of_ble_eq_true rfl) ⟨by omega, by omega⟩ ?_
                                  rintro _ _ ⟨rfl, rfl⟩
                                  refine z_iload X 2 dL_isSound_174 rfl ?_
                                  refine z_icmp_le X 181 dL_isSound_176 (by decide) (fun c_176 => ?_) (fun c_176 => ?_)
                                  · skip
                                    refine z_iinc (ls' := [(6, .int (nI (p + 1))), (4, .int ((nI (inN i p)) + 1)), (8, .int 1), (7, .int (a_pal0 n i x y (nI p))), (0, .ref 1), (1, .int (nI (n 5))), (2, .ref 16), (3, .int (nI (n 8))), (5, .int (a_soon n i x y))]) (v := nI (p + 1)) X 8 dL_isSound_181 rfl (nI_1 _) (by decide) rfl ?_
                                    refine z_goto (tgt := 44) X dL_isSound_184 (by decide) ?_
                                    refine z_sub (ls' := [(0, .ref 1), (1, .int (nI (n 5))), (2, .ref 16), (3, .int (nI (n 8))), (4, .int ((nI (inN i p)) + 1)), (5, .int (a_soon n i x y)), (6, .int (nI (p + 1)))]) [4, 5, 6, 7, 1, 8, 0] rfl ?_
                                    refine z_lse (ls' := [(0, .ref 1), (1, .int (nI (n 5))), (2, .ref 16), (3, .int (nI (n 8))), (4, .int (nI (inN i (p + 1)))), (5, .int (a_soon n i x y)), (6, .int (nI (p + 1)))]) (by rw [inN_t ((v_pal2 h hp_44).symm.trans c_71), nI_1]) ?_
                                    exact ih44 _ _ (by omega) (by omega)
                                  · exact absurd (by rw [v_pal0 h hp_44]; exact (v_soon_in h hp_44 ((v_pal2 h hp_44).symm.trans c_71)).2) c_176
        refine z_sub (ls' := [(0, .ref 1), (1, .int (nI (n 5))), (2, .ref 16), (3, .int (nI (n 8))), (4, .int 0), (5, .int (a_soon n i x y)), (6, .int 0)]) [3, 4, 5, 6, 2, 1, 0] rfl ?_
        refine z_lse (ls' := [(0, .ref 1), (1, .int (nI (n 5))), (2, .ref 16), (3, .int (nI (n 8))), (4, .int (nI (inN i 0))), (5, .int (a_soon n i x y)), (6, .int (nI 0))]) (rfl) ?_
        exact hloop44 0 (Nat.zero_le _) _ _ (by omega) (by omega)
      · exact absurd (Int32.not_lt.mp h.2.2.2.2.2.2.1) c_27
