/-! PART 98e: one step of the law's loop -/
section ZLC8
variable {g : zCtx} {l0 : Launch} {nm : String} {M00 : zMem} {post : Option Value → zMem → Prop} {tab : List ExceptionTableEntry} {kk nn : Nat}
variable {n : Nat → Nat} {i x : Nat → Nat → Int32} {lm : Nat → Nat → Int64} {y : Nat → Nat → Nat} {t : Nat} {pr : Nat → Int32}
theorem xr_2 {W : Nat} (hW : W < 5000000) : nI W / 12 - nI W / 12 / 2 * 2 = 0 ∨ nI W / 12 - nI W / 12 / 2 * 2 = 1 := by
  have h9 := Nat.div_le_self W 12
  rw [show (12 : Int32) = nI 12 by decide, show (2 : Int32) = nI 2 by decide, xr_div (by omega) (by omega) (by omega), xr_rem (by omega) (by omega) (by omega)]
  rcases (show W / 12 % 2 = 0 ∨ W / 12 % 2 = 1 by omega) with e | e
  · rw [e]; exact Or.inl nI_0
  · rw [e]; exact Or.inr (by decide)

set_option maxRecDepth 100000 in
set_option maxHeartbeats 8000000 in
theorem zl_disp (hl0 : l0.stackTraces = false) (X : zLX g l0 nm M00 post tab) (h : xSI n i x lm y t) (hpr : ∀ o, o < n 8 → pr o = i 138 o) {v wt : Int32} {bf : Int64} {W : Nat} (hW : W < 5000000) (hw : wt = 0 ∨ wt = 1) (hb : wt = 1 → bf = xsum n i x lm y) (ZS : zStg g) {st9 k9 K9 N9 : Nat} (hk9 : k9 < 58) (Kc : zKL g st9 (k9 + 1) K9 N9) (hkk : kk + 7760 ≤ K9 ∧ nn + 78000 ≤ N9) (hmx : K9 ≤ 590000 ∧ N9 ≤ 7100000) : zE g 19 98 [(0, .ref 17), (1, .ref 1), (2, .int (nI (n 5))), (3, .int (nI (n 6))), (4, .int (nI (n 8))), (5, .ref 16), (6, .int (nI st9)), (7, .int (nI k9)), (8, .int v), (9, .int (nI W)), (10, .int wt), (11, .long bf)] [] (zmg (cmm n i x lm y 0 0) (pM pr)) kk nn := by
  have h7 := h.1.1.2.1.2.2.1
  have h5 := h.1.1.2.1.1
  have h6 := h.1.1.2.1.2.1
  have h8 := h.1.1.2.1.2.2.2
  refine z_iload X 9 dL_law_98 rfl ?_
  refine z_iconst (v := 1) X dL_law_100 (by decide) ?_
  refine z_iload_n X 2 dL_law_101 rfl rfl ?_
  refine z_mmax X dL_law_102 hmx1 hmx2 hmx3 hmx4 (by decide) (Nat.le_of_ble_eq_true rfl) (by omega) (by omega) ?_
  refine z_irem X dL_law_105 (xr_max (nI_nn _ (by omega))) ?_
  refine z_nm (fun r9 _ => ?_)
  refine z_istore (ls' := [(13, .int r9), (0, .ref 17), (1, .ref 1), (2, .int (nI (n 5))), (3, .int (nI (n 6))), (4, .int (nI (n 8))), (5, .ref 16), (6, .int (nI st9)), (7, .int (nI k9)), (8, .int v), (9, .int (nI W)), (10, .int wt), (11, .long bf)]) X dL_law_106 (by decide) rfl ?_
  refine z_iload X 10 dL_law_108 rfl ?_
  refine z_iconst (v := 1) X dL_law_110 (by decide) ?_
  refine z_aload_n X 2 dL_law_111 rfl rfl ?_
  refine z_callViN (As := []) (rest := [.int 1, .int (nI W)]) (n1 := 0) (ci := 10) X dL_law_112 (zC_ri (c_X7_pallets l0 hl0 n i x lm y 0 0 h.1.1) zCok_cmm rfl) gL_law_X7_pallets rfl rfl (by decide +kernel) ⟨by decide, by decide⟩ zp1 rfl rfl (Nat.le_of_ble_eq_true rfl) ⟨by omega, by omega⟩ ?_
  rintro _ _ ⟨rfl, rfl⟩
  refine z_mmax X dL_law_115 hmx1 hmx2 hmx3 hmx4 (by decide) (Nat.le_of_ble_eq_true rfl) (by omega) (by omega) ?_
  refine z_irem X dL_law_118 (xr_max (nI_nn _ (by omega))) ?_
  refine z_nm (fun p9 _ => ?_)
  refine z_istore (ls' := [(14, .int p9), (13, .int r9), (0, .ref 17), (1, .ref 1), (2, .int (nI (n 5))), (3, .int (nI (n 6))), (4, .int (nI (n 8))), (5, .ref 16), (6, .int (nI st9)), (7, .int (nI k9)), (8, .int v), (9, .int (nI W)), (10, .int wt), (11, .long bf)]) X dL_law_119 (by decide) rfl ?_
  refine z_iconst (v := 0) X dL_law_121 (by decide) ?_
  refine z_istore (ls' := [(15, .int 0), (14, .int p9), (13, .int r9), (0, .ref 17), (1, .ref 1), (2, .int (nI (n 5))), (3, .int (nI (n 6))), (4, .int (nI (n 8))), (5, .ref 16), (6, .int (nI st9)), (7, .int (nI k9)), (8, .int v), (9, .int (nI W)), (10, .int wt), (11, .long bf)]) X dL_law_122 (by decide) rfl ?_
  refine z_iload X 10 dL_law_124 rfl ?_
  refine z_iconst (v := 2) X dL_law_126 (by decide) ?_
  refine z_icmp_ge X 134 dL_law_127 (by decide) (fun c_127 => ?_) (fun c_127 => ?_)
  · skip
    refine z_iload X 10 dL_law_134 rfl ?_
    refine z_iconst (v := 4) X dL_law_136 (by decide) ?_
    refine z_icmp_ge X 144 dL_law_137 (by decide) (fun c_137 => ?_) (fun c_137 => ?_)
    · skip
      refine z_iload X 10 dL_law_144 rfl ?_
      refine z_bipush (v := 8) X dL_law_146 (by decide) ?_
      refine z_icmp_ge X 155 dL_law_148 (by decide) (fun c_148 => ?_) (fun c_148 => ?_)
      · skip
        refine z_iload X 11 dL_law_155 rfl ?_
        refine z_bipush (v := 24) X dL_law_157 (by decide) ?_
        refine z_irem X dL_law_159 (by decide) ?_
        refine z_nm (fun kd9 _ => ?_)
        refine z_istore (ls' := [(16, .int kd9), (15, .int 0), (14, .int p9), (13, .int r9), (0, .ref 17), (1, .ref 1), (2, .int (nI (n 5))), (3, .int (nI (n 6))), (4, .int (nI (n 8))), (5, .ref 16), (6, .int (nI st9)), (7, .int (nI k9)), (8, .int v), (9, .int (nI W)), (10, .int wt), (11, .long bf)]) X dL_law_160 (by decide) rfl ?_
        refine z_iload X 0 dL_law_162 rfl ?_
        refine z_iconst (v := 1) X dL_law_164 (by decide) ?_
        refine z_icmp_ge X 218 dL_law_165 (by decide) (fun c_165 => ?_) (fun c_165 => ?_)
        · skip
          refine z_iload X 0 dL_law_218 rfl ?_
          refine z_iconst (v := 2) X dL_law_220 (by decide) ?_
          refine z_icmp_ge X 282 dL_law_221 (by decide) (fun c_221 => ?_) (fun c_221 => ?_)
          · skip
            refine z_iload X 0 dL_law_282 rfl ?_
            refine z_bipush (v := 6) X dL_law_284 (by decide) ?_
            refine z_icmp_ge X 312 dL_law_286 (by decide) (fun c_286 => ?_) (fun c_286 => ?_)
            · skip
              refine z_iload X 0 dL_law_312 rfl ?_
              refine z_bipush (v := 8) X dL_law_314 (by decide) ?_
              refine z_icmp_ge X 343 dL_law_316 (by decide) (fun c_316 => ?_) (fun c_316 => ?_)
              · skip
                refine z_iload X 0 dL_law_343 rfl ?_
                refine z_bipush (v := 9) X dL_law_345 (by decide) ?_
                refine z_icmp_ge X 362 dL_law_347 (by decide) (fun c_347 => ?_) (fun c_347 => ?_)
                · skip
                  refine z_iload X 0 dL_law_362 rfl ?_
                  refine z_bipush (v := 12) X dL_law_364 (by decide) ?_
                  refine z_icmp_ge X 438 dL_law_366 (by decide) (fun c_366 => ?_) (fun c_366 => ?_)
                  · skip
                    refine z_iload X 0 dL_law_438 rfl ?_
                    refine z_bipush (v := 14) X dL_law_440 (by decide) ?_
                    refine z_icmp_ge X 525 dL_law_442 (by decide) (fun c_442 => ?_) (fun c_442 => ?_)
                    · skip
                      refine z_iload X 0 dL_law_525 rfl ?_
                      refine z_bipush (v := 15) X dL_law_527 (by decide) ?_
                      refine z_icmp_ge X 593 dL_law_529 (by decide) (fun c_529 => ?_) (fun c_529 => ?_)
                      · skip
                        refine z_iload X 0 dL_law_593 rfl ?_
                        refine z_bipush (v := 16) X dL_law_595 (by decide) ?_
                        refine z_icmp_ge X 634 dL_law_597 (by decide) (fun c_597 => ?_) (fun c_597 => ?_)
                        · skip
                          refine z_iload X 0 dL_law_634 rfl ?_
                          refine z_bipush (v := 17) X dL_law_636 (by decide) ?_
                          refine z_icmp_ge X 669 dL_law_638 (by decide) (fun c_638 => ?_) (fun c_638 => ?_)
                          · skip
                            refine z_iload X 0 dL_law_669 rfl ?_
                            refine z_bipush (v := 18) X dL_law_671 (by decide) ?_
                            refine z_icmp_ge X 720 dL_law_673 (by decide) (fun c_673 => ?_) (fun c_673 => ?_)
                            · skip
                              refine z_iload X 0 dL_law_720 rfl ?_
                              refine z_bipush (v := 19) X dL_law_722 (by decide) ?_
                              refine z_icmp_ge X 769 dL_law_724 (by decide) (fun c_724 => ?_) (fun c_724 => ?_)
                              · skip
                                refine z_sub (ls' := [(0, .ref 17), (1, .ref 1), (2, .int (nI (n 5))), (3, .int (nI (n 6))), (4, .int (nI (n 8))), (5, .ref 16), (6, .int (nI st9)), (7, .int (nI k9)), (8, .int v), (9, .int (nI W)), (10, .int wt), (11, .long bf), (13, .int r9), (14, .int p9), (15, .int 0), (16, .int kd9)]) [4, 5, 6, 7, 8, 9, 10, 11, 12, 13, 14, 15, 3, 2, 1, 0] rfl ?_
                                exact kc_pass hl0 X h hpr hW hw hb hk9 Kc hkk hmx
                              · skip
                                refine z_sub (ls' := [(0, .ref 17), (1, .ref 1), (2, .int (nI (n 5))), (3, .int (nI (n 6))), (4, .int (nI (n 8))), (5, .ref 16), (6, .int (nI st9)), (7, .int (nI k9)), (8, .int v), (9, .int (nI W)), (10, .int wt), (11, .long bf), (13, .int r9), (14, .int p9), (15, .int 0), (16, .int kd9)]) [4, 5, 6, 7, 8, 9, 10, 11, 12, 13, 14, 15, 3, 2, 1, 0] rfl ?_
                                exact kc_prices hl0 X h hpr hW hw hb hk9 Kc hkk hmx
                            · skip
                              refine z_sub (ls' := [(0, .ref 17), (1, .ref 1), (2, .int (nI (n 5))), (3, .int (nI (n 6))), (4, .int (nI (n 8))), (5, .ref 16), (6, .int (nI st9)), (7, .int (nI k9)), (8, .int v), (9, .int (nI W)), (10, .int wt), (11, .long bf), (13, .int r9), (14, .int p9), (15, .int 0), (16, .int kd9)]) [4, 5, 6, 7, 8, 9, 10, 11, 12, 13, 14, 15, 3, 2, 1, 0] rfl ?_
                              rcases (show W % 3 = 0 ∨ W % 3 = 1 ∨ W % 3 = 2 by omega) with hq | hq | hq
                              · exact kc_setO hl0 X h hpr hW hw hb hk9 Kc hkk hmx ZS hq
                              · exact kc_setC hl0 X h hpr hW hw hb hk9 Kc hkk hmx ZS hq
                              · exact kc_setP hl0 X h hpr hW hw hb hk9 Kc hkk hmx ZS hq
                          · skip
                            refine z_sub (ls' := [(0, .ref 17), (1, .ref 1), (2, .int (nI (n 5))), (3, .int (nI (n 6))), (4, .int (nI (n 8))), (5, .ref 16), (6, .int (nI st9)), (7, .int (nI k9)), (8, .int v), (9, .int (nI W)), (10, .int wt), (11, .long bf), (13, .int r9), (14, .int p9), (15, .int 0), (16, .int kd9)]) [4, 5, 6, 7, 8, 9, 10, 11, 12, 13, 14, 15, 3, 2, 1, 0] rfl ?_
                            exact kc_setD hl0 X h hpr hW hw hb hk9 Kc hkk hmx
                        · skip
                          refine z_sub (ls' := [(0, .ref 17), (1, .ref 1), (2, .int (nI (n 5))), (3, .int (nI (n 6))), (4, .int (nI (n 8))), (5, .ref 16), (6, .int (nI st9)), (7, .int (nI k9)), (8, .int v), (9, .int (nI W)), (10, .int wt), (11, .long bf), (13, .int r9), (14, .int p9), (15, .int 0), (16, .int kd9)]) [4, 5, 6, 7, 8, 9, 10, 11, 12, 13, 14, 15, 3, 2, 1, 0] rfl ?_
                          exact kc_mode hl0 X h hpr hW hw hb hk9 Kc hkk hmx ZS
                      · skip
                        refine z_sub (ls' := [(0, .ref 17), (1, .ref 1), (2, .int (nI (n 5))), (3, .int (nI (n 6))), (4, .int (nI (n 8))), (5, .ref 16), (6, .int (nI st9)), (7, .int (nI k9)), (8, .int v), (9, .int (nI W)), (10, .int wt), (11, .long bf), (13, .int r9), (14, .int p9), (15, .int 0), (16, .int kd9)]) [4, 5, 6, 7, 8, 9, 10, 11, 12, 13, 14, 15, 3, 2, 1, 0] rfl ?_
                        exact kc_setL hl0 X h hpr hW hw hb hk9 Kc hkk hmx
                    · skip
                      refine z_sub (ls' := [(0, .ref 17), (1, .ref 1), (2, .int (nI (n 5))), (3, .int (nI (n 6))), (4, .int (nI (n 8))), (5, .ref 16), (6, .int (nI st9)), (7, .int (nI k9)), (8, .int v), (9, .int (nI W)), (10, .int wt), (11, .long bf), (13, .int r9), (14, .int p9), (15, .int 0), (16, .int kd9)]) [4, 5, 6, 7, 8, 9, 10, 11, 12, 13, 14, 15, 3, 2, 1, 0] rfl ?_
                      rcases xr_2 hW with hE | hE
                      · exact kc_cancel hl0 X h hpr hW hw hb hk9 Kc hkk hmx hE
                      · exact kc_ship hl0 X h hpr hW hw hb hk9 Kc hkk hmx hE
                  · skip
                    refine z_sub (ls' := [(0, .ref 17), (1, .ref 1), (2, .int (nI (n 5))), (3, .int (nI (n 6))), (4, .int (nI (n 8))), (5, .ref 16), (6, .int (nI st9)), (7, .int (nI k9)), (8, .int v), (9, .int (nI W)), (10, .int wt), (11, .long bf), (13, .int r9), (14, .int p9), (15, .int 0), (16, .int kd9)]) [4, 5, 6, 7, 8, 9, 10, 11, 12, 13, 14, 15, 3, 2, 1, 0] rfl ?_
                    exact kc_order hl0 X h hpr hW hw hb hk9 Kc hkk hmx
                · skip
                  refine z_sub (ls' := [(0, .ref 17), (1, .ref 1), (2, .int (nI (n 5))), (3, .int (nI (n 6))), (4, .int (nI (n 8))), (5, .ref 16), (6, .int (nI st9)), (7, .int (nI k9)), (8, .int v), (9, .int (nI W)), (10, .int wt), (11, .long bf), (13, .int r9), (14, .int p9), (15, .int 0), (16, .int kd9)]) [4, 5, 6, 7, 8, 9, 10, 11, 12, 13, 14, 15, 3, 2, 1, 0] rfl ?_
                  exact kc_scrap hl0 X h hpr hW hw hb hk9 Kc hkk hmx
              · skip
                refine z_sub (ls' := [(0, .ref 17), (1, .ref 1), (2, .int (nI (n 5))), (3, .int (nI (n 6))), (4, .int (nI (n 8))), (5, .ref 16), (6, .int (nI st9)), (7, .int (nI k9)), (8, .int v), (9, .int (nI W)), (10, .int wt), (11, .long bf), (13, .int r9), (14, .int p9), (15, .int 0), (16, .int kd9)]) [4, 5, 6, 7, 8, 9, 10, 11, 12, 13, 14, 15, 3, 2, 1, 0] rfl ?_
                exact kc_putM hl0 X h hpr hW hw hb hk9 Kc hkk hmx
            · skip
              refine z_sub (ls' := [(0, .ref 17), (1, .ref 1), (2, .int (nI (n 5))), (3, .int (nI (n 6))), (4, .int (nI (n 8))), (5, .ref 16), (6, .int (nI st9)), (7, .int (nI k9)), (8, .int v), (9, .int (nI W)), (10, .int wt), (11, .long bf), (13, .int r9), (14, .int p9), (15, .int 0), (16, .int kd9)]) [4, 5, 6, 7, 8, 9, 10, 11, 12, 13, 14, 15, 3, 2, 1, 0] rfl ?_
              exact kc_putP hl0 X h hpr hW hw hb hk9 Kc hkk hmx
          · skip
            refine z_sub (ls' := [(0, .ref 17), (1, .ref 1), (2, .int (nI (n 5))), (3, .int (nI (n 6))), (4, .int (nI (n 8))), (5, .ref 16), (6, .int (nI st9)), (7, .int (nI k9)), (8, .int v), (9, .int (nI W)), (10, .int wt), (11, .long bf), (13, .int r9), (14, .int p9), (15, .int 0), (16, .int kd9)]) [4, 5, 6, 7, 8, 9, 10, 11, 12, 13, 14, 15, 3, 2, 1, 0] rfl ?_
            exact kc_kind hl0 X h hpr hW hw hb hk9 Kc hkk hmx
        · skip
          refine z_sub (ls' := [(0, .ref 17), (1, .ref 1), (2, .int (nI (n 5))), (3, .int (nI (n 6))), (4, .int (nI (n 8))), (5, .ref 16), (6, .int (nI st9)), (7, .int (nI k9)), (8, .int v), (9, .int (nI W)), (10, .int wt), (11, .long bf), (13, .int r9), (14, .int p9), (15, .int 0), (16, .int kd9)]) [4, 5, 6, 7, 8, 9, 10, 11, 12, 13, 14, 15, 3, 2, 1, 0] rfl ?_
          exact kc_room hl0 X h hpr hW hw hb hk9 Kc hkk hmx
      · skip
        refine z_iconst (v := 2) X dL_law_151 (by decide) ?_
        refine z_goto (tgt := 160) X dL_law_152 (by decide) ?_
        refine z_istore (ls' := [(16, .int 2), (15, .int 0), (14, .int p9), (13, .int r9), (0, .ref 17), (1, .ref 1), (2, .int (nI (n 5))), (3, .int (nI (n 6))), (4, .int (nI (n 8))), (5, .ref 16), (6, .int (nI st9)), (7, .int (nI k9)), (8, .int v), (9, .int (nI W)), (10, .int wt), (11, .long bf)]) X dL_law_160 (by decide) rfl ?_
        refine z_iload X 0 dL_law_162 rfl ?_
        refine z_iconst (v := 1) X dL_law_164 (by decide) ?_
        refine z_icmp_ge X 218 dL_law_165 (by decide) (fun c_165 => ?_) (fun c_165 => ?_)
        · skip
          refine z_iload X 0 dL_law_218 rfl ?_
          refine z_iconst (v := 2) X dL_law_220 (by decide) ?_
          refine z_icmp_ge X 282 dL_law_221 (by decide) (fun c_221 => ?_) (fun c_221 => ?_)
          · skip
            refine z_iload X 0 dL_law_282 rfl ?_
            refine z_bipush (v := 6) X dL_law_284 (by decide) ?_
            refine z_icmp_ge X 312 dL_law_286 (by decide) (fun c_286 => ?_) (fun c_286 => ?_)
            · exact absurd c_286 (by decide)
            · skip
              refine z_sub (ls' := [(0, .ref 17), (1, .ref 1), (2, .int (nI (n 5))), (3, .int (nI (n 6))), (4, .int (nI (n 8))), (5, .ref 16), (6, .int (nI st9)), (7, .int (nI k9)), (8, .int v), (9, .int (nI W)), (10, .int wt), (11, .long bf), (13, .int r9), (14, .int p9), (15, .int 0), (16, .int 2)]) [4, 5, 6, 7, 8, 9, 10, 11, 12, 13, 14, 15, 3, 2, 1, 0] rfl ?_
              exact kc_putP hl0 X h hpr hW hw hb hk9 Kc hkk hmx
          · exact absurd c_221 (by decide)
        · exact absurd c_165 (by decide)
    · skip
      refine z_iconst (v := 1) X dL_law_140 (by decide) ?_
      refine z_goto (tgt := 160) X dL_law_141 (by decide) ?_
      refine z_istore (ls' := [(16, .int 1), (15, .int 0), (14, .int p9), (13, .int r9), (0, .ref 17), (1, .ref 1), (2, .int (nI (n 5))), (3, .int (nI (n 6))), (4, .int (nI (n 8))), (5, .ref 16), (6, .int (nI st9)), (7, .int (nI k9)), (8, .int v), (9, .int (nI W)), (10, .int wt), (11, .long bf)]) X dL_law_160 (by decide) rfl ?_
      refine z_iload X 0 dL_law_162 rfl ?_
      refine z_iconst (v := 1) X dL_law_164 (by decide) ?_
      refine z_icmp_ge X 218 dL_law_165 (by decide) (fun c_165 => ?_) (fun c_165 => ?_)
      · skip
        refine z_iload X 0 dL_law_218 rfl ?_
        refine z_iconst (v := 2) X dL_law_220 (by decide) ?_
        refine z_icmp_ge X 282 dL_law_221 (by decide) (fun c_221 => ?_) (fun c_221 => ?_)
        · exact absurd c_221 (by decide)
        · skip
          refine z_sub (ls' := [(0, .ref 17), (1, .ref 1), (2, .int (nI (n 5))), (3, .int (nI (n 6))), (4, .int (nI (n 8))), (5, .ref 16), (6, .int (nI st9)), (7, .int (nI k9)), (8, .int v), (9, .int (nI W)), (10, .int wt), (11, .long bf), (13, .int r9), (14, .int p9), (15, .int 0), (16, .int 1)]) [4, 5, 6, 7, 8, 9, 10, 11, 12, 13, 14, 15, 3, 2, 1, 0] rfl ?_
          exact kc_kind hl0 X h hpr hW hw hb hk9 Kc hkk hmx
      · exact absurd c_165 (by decide)
  · skip
    refine z_iconst (v := 0) X dL_law_130 (by decide) ?_
    refine z_goto (tgt := 160) X dL_law_131 (by decide) ?_
    refine z_istore (ls' := [(16, .int 0), (15, .int 0), (14, .int p9), (13, .int r9), (0, .ref 17), (1, .ref 1), (2, .int (nI (n 5))), (3, .int (nI (n 6))), (4, .int (nI (n 8))), (5, .ref 16), (6, .int (nI st9)), (7, .int (nI k9)), (8, .int v), (9, .int (nI W)), (10, .int wt), (11, .long bf)]) X dL_law_160 (by decide) rfl ?_
    refine z_iload X 0 dL_law_162 rfl ?_
    refine z_iconst (v := 1) X dL_law_164 (by decide) ?_
    refine z_icmp_ge X 218 dL_law_165 (by decide) (fun c_165 => ?_) (fun c_165 => ?_)
    · exact absurd c_165 (by decide)
    · skip
      refine z_sub (ls' := [(0, .ref 17), (1, .ref 1), (2, .int (nI (n 5))), (3, .int (nI (n 6))), (4, .int (nI (n 8))), (5, .ref 16), (6, .int (nI st9)), (7, .int (nI k9)), (8, .int v), (9, .int (nI W)), (10, .int wt), (11, .long bf), (13, .int r9), (14, .int p9), (15, .int 0), (16, .int 0)]) [4, 5, 6, 7, 8, 9, 10, 11, 12, 13, 14, 15, 3, 2, 1, 0] rfl ?_
      exact kc_room hl0 X h hpr hW hw hb hk9 Kc hkk hmx

set_option maxRecDepth 100000 in
set_option maxHeartbeats 8000000 in
theorem zl_step (hl0 : l0.stackTraces = false) (X : zLX g l0 nm M00 post tab) (h : xSI n i x lm y t) (hpr : ∀ o, o < n 8 → pr o = i 138 o) {L : Nat} {xs : Nat → Int32} (S : zScr g L xs) (hL : L < 2 ^ 30) (ZS : zStg g) {st9 k9 K9 N9 : Nat} (hst : st9 < 58) (hk9 : k9 < st9) (Kc : zKL g st9 (k9 + 1) K9 N9) (hkk : kk + 8300 ≤ K9 ∧ nn + 83000 ≤ N9) (hmx : K9 ≤ 590000 ∧ N9 ≤ 7100000) : zE g 19 36 [(0, .ref 17), (1, .ref 1), (2, .int (nI (n 5))), (3, .int (nI (n 6))), (4, .int (nI (n 8))), (5, .ref 16), (6, .int (nI st9)), (7, .int (nI k9))] [] (zmg (cmm n i x lm y 0 0) (pM pr)) kk nn := by
  have h7 := h.1.1.2.1.2.2.1
  have h5 := h.1.1.2.1.1
  have h6 := h.1.1.2.1.2.1
  have h8 := h.1.1.2.1.2.2.2
  refine z_iload X 7 dL_law_36 rfl ?_
  refine z_iload X 6 dL_law_38 rfl ?_
  refine z_icmp_ge X 868 dL_law_40 (by decide) (fun c_40 => ?_) (fun c_40 => ?_)
  · exact absurd c_40 (Int32.not_le.mpr (nI_lt hk9 (by omega)))
  · skip
    refine z_aload_n X 0 dL_law_43 rfl rfl ?_
    refine z_iconst (v := 1) X dL_law_44 (by decide) ?_
    refine z_iload X 7 dL_law_45 rfl ?_
    refine z_iadd X dL_law_47 ?_
    refine z_ste (st' := [.int (nI (1 + k9)), .ref 17]) (by rw [show (1 : Int32) + nI k9 = nI (1 + k9) from nI_add 1 k9]) ?_
    refine z_at X S hL (k9 := 1 + k9) (by omega) dL_law_48 gL_law_L_at ⟨by decide, by decide⟩ (Nat.le_of_ble_eq_true rfl) ⟨by omega, by omega⟩ (fun v9 => ?_)
    refine z_ldcI (v := 100000000) X dL_law_51 hcs196 ?_
    refine z_callSiN (As := [.int v9, .int 100000000]) (rest := []) (n1 := 2) X dL_law_53 (c_some100000000 l0 (zmg (cmm n i x lm y 0 0) (pM pr)) v9) gL_law_L_some rfl rfl (by decide +kernel) ⟨by decide, by decide⟩ rfl (Nat.le_of_ble_eq_true rfl) ⟨by omega, by omega⟩ ?_
    rintro _ _ ⟨⟨j9, j1, rfl⟩, rfl⟩
    refine z_istore (ls' := [(8, .int (nI j9)), (0, .ref 17), (1, .ref 1), (2, .int (nI (n 5))), (3, .int (nI (n 6))), (4, .int (nI (n 8))), (5, .ref 16), (6, .int (nI st9)), (7, .int (nI k9))]) X dL_law_56 (by decide) rfl ?_
    refine z_iload X 0 dL_law_58 rfl ?_
    refine z_bipush (v := 24) X dL_law_60 (by decide) ?_
    refine z_idiv X dL_law_62 (by decide) ?_
    refine z_top (w := .int (nI (j9 / 24))) (by rw [show (24 : Int32) = nI 24 by decide, xr_div (by omega) (by omega) (by omega)]) ?_
    refine z_istore (ls' := [(9, .int (nI (j9 / 24))), (8, .int (nI j9)), (0, .ref 17), (1, .ref 1), (2, .int (nI (n 5))), (3, .int (nI (n 6))), (4, .int (nI (n 8))), (5, .ref 16), (6, .int (nI st9)), (7, .int (nI k9))]) X dL_law_63 (by decide) rfl ?_
    refine z_iload X 9 dL_law_65 rfl ?_
    refine z_iconst (v := 2) X dL_law_67 (by decide) ?_
    refine z_irem X dL_law_68 (by decide) ?_
    refine z_if_ne X 76 dL_law_69 (by decide) (fun c_69 => ?_) (fun c_69 => ?_)
    · skip
      refine z_iconst (v := 0) X dL_law_76 (by decide) ?_
      refine z_istore (ls' := [(10, .int 0), (9, .int (nI (j9 / 24))), (8, .int (nI j9)), (0, .ref 17), (1, .ref 1), (2, .int (nI (n 5))), (3, .int (nI (n 6))), (4, .int (nI (n 8))), (5, .ref 16), (6, .int (nI st9)), (7, .int (nI k9))]) X dL_law_77 (by decide) rfl ?_
      refine z_iload X 0 dL_law_79 rfl ?_
      refine z_if_eq X 95 dL_law_81 (by decide) (fun c_81 => ?_) (fun c_81 => ?_)
      · skip
        refine z_lconst (v := 0) X dL_law_95 (by decide) ?_
        refine z_lstore (ls' := [(11, .long 0), (10, .int 0), (9, .int (nI (j9 / 24))), (8, .int (nI j9)), (0, .ref 17), (1, .ref 1), (2, .int (nI (n 5))), (3, .int (nI (n 6))), (4, .int (nI (n 8))), (5, .ref 16), (6, .int (nI st9)), (7, .int (nI k9))]) X dL_law_96 (by decide) rfl ?_
        refine z_sub (ls' := [(0, .ref 17), (1, .ref 1), (2, .int (nI (n 5))), (3, .int (nI (n 6))), (4, .int (nI (n 8))), (5, .ref 16), (6, .int (nI st9)), (7, .int (nI k9)), (8, .int (nI j9)), (9, .int (nI (j9 / 24))), (10, .int 0), (11, .long 0)]) [4, 5, 6, 7, 8, 9, 10, 11, 3, 2, 1, 0] rfl ?_
        exact zl_disp hl0 X h hpr (W := j9 / 24) (by omega) (Or.inl rfl) (fun q => absurd q (by decide)) ZS (by omega) Kc ⟨by omega, by omega⟩ hmx
      · exact absurd c_81 (by decide)
    · skip
      refine z_iconst (v := 1) X dL_law_72 (by decide) ?_
      refine z_goto (tgt := 77) X dL_law_73 (by decide) ?_
      refine z_istore (ls' := [(10, .int 1), (9, .int (nI (j9 / 24))), (8, .int (nI j9)), (0, .ref 17), (1, .ref 1), (2, .int (nI (n 5))), (3, .int (nI (n 6))), (4, .int (nI (n 8))), (5, .ref 16), (6, .int (nI st9)), (7, .int (nI k9))]) X dL_law_77 (by decide) rfl ?_
      refine z_iload X 0 dL_law_79 rfl ?_
      refine z_if_eq X 95 dL_law_81 (by decide) (fun c_81 => ?_) (fun c_81 => ?_)
      · exact absurd c_81 (by decide)
      · skip
        refine z_aload_n X 4 dL_law_84 rfl rfl ?_
        refine z_iload_n X 5 dL_law_85 rfl rfl ?_
        refine z_iload_n X 6 dL_law_86 rfl rfl ?_
        refine z_iload X 7 dL_law_87 rfl ?_
        refine z_callSlN (As := [.ref 1, .int (nI (n 5)), .int (nI (n 6)), .int (nI (n 8))]) (rest := []) (n1 := 4) X dL_law_89 (zC_rl (h_sum l0 hl0 h 0 0) zCok_cmm rfl) gL_law_L_sum rfl rfl (by decide +kernel) ⟨by decide, by decide⟩ rfl (Nat.le_of_ble_eq_true rfl) ⟨by omega, by omega⟩ ?_
        rintro _ _ ⟨rfl, rfl⟩
        refine z_goto (tgt := 96) X dL_law_92 (by decide) ?_
        refine z_lstore (ls' := [(11, .long (xsum n i x lm y)), (10, .int 1), (9, .int (nI (j9 / 24))), (8, .int (nI j9)), (0, .ref 17), (1, .ref 1), (2, .int (nI (n 5))), (3, .int (nI (n 6))), (4, .int (nI (n 8))), (5, .ref 16), (6, .int (nI st9)), (7, .int (nI k9))]) X dL_law_96 (by decide) rfl ?_
        refine z_sub (ls' := [(0, .ref 17), (1, .ref 1), (2, .int (nI (n 5))), (3, .int (nI (n 6))), (4, .int (nI (n 8))), (5, .ref 16), (6, .int (nI st9)), (7, .int (nI k9)), (8, .int (nI j9)), (9, .int (nI (j9 / 24))), (10, .int 1), (11, .long (xsum n i x lm y))]) [4, 5, 6, 7, 8, 9, 10, 11, 3, 2, 1, 0] rfl ?_
        exact zl_disp hl0 X h hpr (W := j9 / 24) (by omega) (Or.inr rfl) (fun _ => rfl) ZS (by omega) Kc ⟨by omega, by omega⟩ hmx
end ZLC8
