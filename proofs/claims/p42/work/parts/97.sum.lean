/-! PART 97s: the law's sum -/
/-- a sum over the first p things -/
def xs1 (f : Nat → Int64 → Int64) (a : Int64) : Nat → Int64
  | 0 => a
  | p + 1 => f p (xs1 f a p)
def x_s0 (n : Nat → Nat) (i : Nat → Nat → Int32) (lm : Nat → Nat → Int64) : Int64 := ((((i 1 0).toInt64 + (31 * (lm 1 26 + (i 1 25).toInt64 * (i 1 22).toInt64))) + (961 * (nI (n 7)).toInt64)) + (7 * (i 1 24).toInt64)) + (11 * (i 1 25).toInt64)
def f_s1 (n : Nat → Nat) (i x : Nat → Nat → Int32) (y : Nat → Nat → Nat) (p : Nat) (a : Int64) : Int64 := ((((31 * a) + (a_of0 n i x y (nI p)).toInt64) + (3 * (a_of1 n i x y (nI p)).toInt64)) + (5 * (a_of2 n i x y (nI p)).toInt64)) + (7 * (a_of3 n i x y (nI p)).toInt64)
def f_s2 (n : Nat → Nat) (i x : Nat → Nat → Int32) (y : Nat → Nat → Nat) (p : Nat) (a : Int64) : Int64 := (((31 * a) + (a_pal0 n i x y (nI p)).toInt64) + (3 * (a_pal2 n i x y (nI p)).toInt64)) + (5 * (a_pal3 n i x y (nI p)).toInt64)
def f_s3 (n : Nat → Nat) (i x : Nat → Nat → Int32) (y : Nat → Nat → Nat) (p : Nat) (a : Int64) : Int64 := (((31 * a) + (a_ord3 n i x y (nI p)).toInt64) + (3 * (a_ord2 n i x y (nI p)).toInt64)) + (5 * (a_ord4 n i x y (nI p)).toInt64)
def xsum (n : Nat → Nat) (i x : Nat → Nat → Int32) (lm : Nat → Nat → Int64) (y : Nat → Nat → Nat) : Int64 := xs1 (f_s3 n i x y) (xs1 (f_s2 n i x y) (xs1 (f_s1 n i x y) (x_s0 n i lm) (n 5)) (n 7)) (n 8) + (nI (n 6)).toInt64

set_option maxRecDepth 100000 in
set_option maxHeartbeats 4000000 in
theorem h_sum (l : Launch) (hl0 : l.stackTraces = false) {n : Nat → Nat} {i x : Nat → Nat → Int32} {lm : Nat → Nat → Int64} {y : Nat → Nat → Nat} {t : Nat} (h : xSI n i x lm y t) (ol : Int64) (od : UInt64) : zS l yL_sum wsL_sum 12 222 496 4960 [.ref 1, .int (nI (n 5)), .int (nI (n 6)), .int (nI (n 8))] (cmm n i x lm y ol od) (zpj (fun v M1 => v = xsum n i x lm y ∧ M1 = cmm n i x lm y ol od)) zno := by
  refine z_intro (cc := cL_sum) (maxL := 7) (ret := (some .long)) (by decide +kernel) rfl (Nat.le_of_ble_eq_true rfl) ?_
  have h7 := h.1.1.2.1.2.2.1
  have h5 := h.1.1.2.1.1
  have h8 := h.1.1.2.1.2.2.2
  intro g X
  show zE g 7 0 [(0, .ref 1), (1, .int (nI (n 5))), (2, .int (nI (n 6))), (3, .int (nI (n 8)))] [] (cmm n i x lm y ol od) 0 0
  refine z_aload_n X 0 dL_sum_0 rfl rfl ?_
  refine z_callViN (As := []) (rest := []) (n1 := 0) (ci := 10) X dL_sum_1 (c_X7_now l hl0 n i x lm y ol od h.1.1) gL_sum_X7_now rfl rfl (by decide +kernel) ⟨by decide, by decide⟩ ck_1 rfl rfl (Nat.le_of_ble_eq_true rfl) ⟨by omega, by omega⟩ ?_
  rintro _ _ ⟨rfl, rfl⟩
  refine z_i2l X dL_sum_4 ?_
  refine z_ldcJ (v := 31) X dL_sum_5 (by decide +kernel) ?_
  refine z_aload_n X 0 dL_sum_8 rfl rfl ?_
  refine z_callVlN (As := []) (rest := [.long 31, .long ((i 1 0).toInt64)]) (n1 := 0) (ci := 10) X dL_sum_9 (c_X7_bill l hl0 n i x lm y ol od h.1.1) gL_sum_X7_bill rfl rfl (by decide +kernel) ⟨by decide, by decide⟩ ck_1 rfl rfl (Nat.le_of_ble_eq_true rfl) ⟨by omega, by omega⟩ ?_
  rintro _ _ ⟨rfl, rfl⟩
  refine z_lmul X dL_sum_12 ?_
  refine z_ladd X dL_sum_13 ?_
  refine z_ldcJ (v := 961) X dL_sum_14 (by decide +kernel) ?_
  refine z_aload_n X 0 dL_sum_17 rfl rfl ?_
  refine z_callViN (As := []) (rest := [.long 961, .long (((i 1 0).toInt64) + (31 * (lm 1 26 + (i 1 25).toInt64 * (i 1 22).toInt64)))]) (n1 := 0) (ci := 10) X dL_sum_18 (c_X7_pallets l hl0 n i x lm y ol od h.1.1) gL_sum_X7_pallets rfl rfl (by decide +kernel) ⟨by decide, by decide⟩ ck_1 rfl rfl (Nat.le_of_ble_eq_true rfl) ⟨by omega, by omega⟩ ?_
  rintro _ _ ⟨rfl, rfl⟩
  refine z_i2l X dL_sum_21 ?_
  refine z_lmul X dL_sum_22 ?_
  refine z_ladd X dL_sum_23 ?_
  refine z_ldcJ (v := 7) X dL_sum_24 (by decide +kernel) ?_
  refine z_aload_n X 0 dL_sum_27 rfl rfl ?_
  refine z_callViN (As := []) (rest := [.long 7, .long ((((i 1 0).toInt64) + (31 * (lm 1 26 + (i 1 25).toInt64 * (i 1 22).toInt64))) + (961 * ((nI (n 7)).toInt64)))]) (n1 := 0) (ci := 10) X dL_sum_28 (c_X7_power l hl0 n i x lm y ol od h.1.1) gL_sum_X7_power rfl rfl (by decide +kernel) ⟨by decide, by decide⟩ ck_1 rfl rfl (Nat.le_of_ble_eq_true rfl) ⟨by omega, by omega⟩ ?_
  rintro _ _ ⟨rfl, rfl⟩
  refine z_i2l X dL_sum_31 ?_
  refine z_lmul X dL_sum_32 ?_
  refine z_ladd X dL_sum_33 ?_
  refine z_ldcJ (v := 11) X dL_sum_34 (by decide +kernel) ?_
  refine z_aload_n X 0 dL_sum_37 rfl rfl ?_
  refine z_callViN (As := []) (rest := [.long 11, .long (((((i 1 0).toInt64) + (31 * (lm 1 26 + (i 1 25).toInt64 * (i 1 22).toInt64))) + (961 * ((nI (n 7)).toInt64))) + (7 * ((i 1 24).toInt64)))]) (n1 := 0) (ci := 10) X dL_sum_38 (c_X7_greatestPower l hl0 n i x lm y ol od h.1.1) gL_sum_X7_greatestPower rfl rfl (by decide +kernel) ⟨by decide, by decide⟩ ck_1 rfl rfl (Nat.le_of_ble_eq_true rfl) ⟨by omega, by omega⟩ ?_
  rintro _ _ ⟨rfl, rfl⟩
  refine z_i2l X dL_sum_41 ?_
  refine z_lmul X dL_sum_42 ?_
  refine z_ladd X dL_sum_43 ?_
  refine z_lstore (ls' := [(4, .long ((((((i 1 0).toInt64) + (31 * (lm 1 26 + (i 1 25).toInt64 * (i 1 22).toInt64))) + (961 * ((nI (n 7)).toInt64))) + (7 * ((i 1 24).toInt64))) + (11 * ((i 1 25).toInt64)))), (0, .ref 1), (1, .int (nI (n 5))), (2, .int (nI (n 6))), (3, .int (nI (n 8)))]) X dL_sum_44 (by decide) rfl ?_
  refine z_iconst (v := 0) X dL_sum_46 (by decide) ?_
  refine z_istore (ls' := [(6, .int 0), (4, .long ((((((i 1 0).toInt64) + (31 * (lm 1 26 + (i 1 25).toInt64 * (i 1 22).toInt64))) + (961 * ((nI (n 7)).toInt64))) + (7 * ((i 1 24).toInt64))) + (11 * ((i 1 25).toInt64)))), (0, .ref 1), (1, .int (nI (n 5))), (2, .int (nI (n 6))), (3, .int (nI (n 8)))]) X dL_sum_47 (by decide) rfl ?_
  have hloop49 : ∀ p : Nat, p ≤ n 5 → ∀ k_49 n_49 : Nat, k_49 ≤ 16 * p → n_49 ≤ 160 * p → zE g 7 49 [(0, .ref 1), (1, .int (nI (n 5))), (2, .int (nI (n 6))), (3, .int (nI (n 8))), (4, .long (xs1 (f_s1 n i x y) (x_s0 n i lm) p)), (6, .int (nI p))] [] (cmm n i x lm y ol od) k_49 n_49 := by
    refine z_loop (fun p => ∀ k_49 n_49 : Nat, k_49 ≤ 16 * p → n_49 ≤ 160 * p → zE g 7 49 [(0, .ref 1), (1, .int (nI (n 5))), (2, .int (nI (n 6))), (3, .int (nI (n 8))), (4, .long (xs1 (f_s1 n i x y) (x_s0 n i lm) p)), (6, .int (nI p))] [] (cmm n i x lm y ol od) k_49 n_49) (n 5) ?_ ?_
    · intro k_49 n_49 hk_49 hn_49
      show zE g 7 49 [(0, .ref 1), (1, .int (nI (n 5))), (2, .int (nI (n 6))), (3, .int (nI (n 8))), (4, .long (xs1 (f_s1 n i x y) (x_s0 n i lm) (n 5))), (6, .int (nI (n 5)))] [] (cmm n i x lm y ol od) k_49 n_49
      refine z_iload X 5 dL_sum_49 rfl ?_
      refine z_iload_n X 1 dL_sum_51 rfl rfl ?_
      refine z_icmp_ge X 117 dL_sum_52 (by decide) (fun c_52 => ?_) (fun c_52 => ?_)
      · skip
        refine z_iconst (v := 0) X dL_sum_117 (by decide) ?_
        refine z_istore (ls' := [(6, .int 0), (0, .ref 1), (1, .int (nI (n 5))), (2, .int (nI (n 6))), (3, .int (nI (n 8))), (4, .long (xs1 (f_s1 n i x y) (x_s0 n i lm) (n 5)))]) X dL_sum_118 (by decide) rfl ?_
        have hloop120 : ∀ p : Nat, p ≤ n 7 → ∀ k_120 n_120 : Nat, k_120 ≤ 64 + 12 * p → n_120 ≤ 640 + 120 * p → zE g 7 120 [(0, .ref 1), (1, .int (nI (n 5))), (2, .int (nI (n 6))), (3, .int (nI (n 8))), (4, .long (xs1 (f_s2 n i x y) (xs1 (f_s1 n i x y) (x_s0 n i lm) (n 5)) p)), (6, .int (nI p))] [] (cmm n i x lm y ol od) k_120 n_120 := by
          refine z_loop (fun p => ∀ k_120 n_120 : Nat, k_120 ≤ 64 + 12 * p → n_120 ≤ 640 + 120 * p → zE g 7 120 [(0, .ref 1), (1, .int (nI (n 5))), (2, .int (nI (n 6))), (3, .int (nI (n 8))), (4, .long (xs1 (f_s2 n i x y) (xs1 (f_s1 n i x y) (x_s0 n i lm) (n 5)) p)), (6, .int (nI p))] [] (cmm n i x lm y ol od) k_120 n_120) (n 7) ?_ ?_
          · intro k_120 n_120 hk_120 hn_120
            show zE g 7 120 [(0, .ref 1), (1, .int (nI (n 5))), (2, .int (nI (n 6))), (3, .int (nI (n 8))), (4, .long (xs1 (f_s2 n i x y) (xs1 (f_s1 n i x y) (x_s0 n i lm) (n 5)) (n 7))), (6, .int (nI (n 7)))] [] (cmm n i x lm y ol od) k_120 n_120
            refine z_iload X 5 dL_sum_120 rfl ?_
            refine z_aload_n X 0 dL_sum_122 rfl rfl ?_
            refine z_callViN (As := []) (rest := [.int (nI (n 7))]) (n1 := 0) (ci := 10) X dL_sum_123 (c_X7_pallets l hl0 n i x lm y ol od h.1.1) gL_sum_X7_pallets rfl rfl (by decide +kernel) ⟨by decide, by decide⟩ ck_1 rfl rfl (Nat.le_of_ble_eq_true rfl) ⟨by omega, by omega⟩ ?_
            rintro _ _ ⟨rfl, rfl⟩
            refine z_icmp_ge X 178 dL_sum_126 (by decide) (fun c_126 => ?_) (fun c_126 => ?_)
            · skip
              refine z_iconst (v := 0) X dL_sum_178 (by decide) ?_
              refine z_istore (ls' := [(6, .int 0), (0, .ref 1), (1, .int (nI (n 5))), (2, .int (nI (n 6))), (3, .int (nI (n 8))), (4, .long (xs1 (f_s2 n i x y) (xs1 (f_s1 n i x y) (x_s0 n i lm) (n 5)) (n 7)))]) X dL_sum_179 (by decide) rfl ?_
              have hloop181 : ∀ p : Nat, p ≤ n 8 → ∀ k_181 n_181 : Nat, k_181 ≤ 352 + 12 * p → n_181 ≤ 3520 + 120 * p → zE g 7 181 [(0, .ref 1), (1, .int (nI (n 5))), (2, .int (nI (n 6))), (3, .int (nI (n 8))), (4, .long (xs1 (f_s3 n i x y) (xs1 (f_s2 n i x y) (xs1 (f_s1 n i x y) (x_s0 n i lm) (n 5)) (n 7)) p)), (6, .int (nI p))] [] (cmm n i x lm y ol od) k_181 n_181 := by
                refine z_loop (fun p => ∀ k_181 n_181 : Nat, k_181 ≤ 352 + 12 * p → n_181 ≤ 3520 + 120 * p → zE g 7 181 [(0, .ref 1), (1, .int (nI (n 5))), (2, .int (nI (n 6))), (3, .int (nI (n 8))), (4, .long (xs1 (f_s3 n i x y) (xs1 (f_s2 n i x y) (xs1 (f_s1 n i x y) (x_s0 n i lm) (n 5)) (n 7)) p)), (6, .int (nI p))] [] (cmm n i x lm y ol od) k_181 n_181) (n 8) ?_ ?_
                · intro k_181 n_181 hk_181 hn_181
                  show zE g 7 181 [(0, .ref 1), (1, .int (nI (n 5))), (2, .int (nI (n 6))), (3, .int (nI (n 8))), (4, .long (xs1 (f_s3 n i x y) (xs1 (f_s2 n i x y) (xs1 (f_s1 n i x y) (x_s0 n i lm) (n 5)) (n 7)) (n 8))), (6, .int (nI (n 8)))] [] (cmm n i x lm y ol od) k_181 n_181
                  refine z_iload X 5 dL_sum_181 rfl ?_
                  refine z_iload_n X 3 dL_sum_183 rfl rfl ?_
                  refine z_icmp_ge X 236 dL_sum_184 (by decide) (fun c_184 => ?_) (fun c_184 => ?_)
                  · skip
                    refine z_lload X 4 dL_sum_236 rfl ?_
                    refine z_iload_n X 2 dL_sum_238 rfl rfl ?_
                    refine z_i2l X dL_sum_239 ?_
                    refine z_ladd X dL_sum_240 ?_
                    refine z_lret X rfl (by omega) (by omega) dL_sum_241 ?_
                    exact ⟨_, rfl, rfl, rfl⟩
                  · exact absurd (Int32.le_refl _) c_184
                · intro p hp_181 ih181 k_181 n_181 hk_181 hn_181
                  show zE g 7 181 [(0, .ref 1), (1, .int (nI (n 5))), (2, .int (nI (n 6))), (3, .int (nI (n 8))), (4, .long (xs1 (f_s3 n i x y) (xs1 (f_s2 n i x y) (xs1 (f_s1 n i x y) (x_s0 n i lm) (n 5)) (n 7)) p)), (6, .int (nI p))] [] (cmm n i x lm y ol od) k_181 n_181
                  refine z_iload X 5 dL_sum_181 rfl ?_
                  refine z_iload_n X 3 dL_sum_183 rfl rfl ?_
                  refine z_icmp_ge X 236 dL_sum_184 (by decide) (fun c_184 => ?_) (fun c_184 => ?_)
                  · exact absurd c_184 (Int32.not_le.mpr (nI_lt (by omega) (by omega)))
                  · skip
                    refine z_ldcJ (v := 31) X dL_sum_187 (by decide +kernel) ?_
                    refine z_lload X 4 dL_sum_190 rfl ?_
                    refine z_lmul X dL_sum_192 ?_
                    refine z_aload_n X 0 dL_sum_193 rfl rfl ?_
                    refine z_iload X 5 dL_sum_194 rfl ?_
                    refine z_iconst (v := 3) X dL_sum_196 (by decide) ?_
                    refine z_callSWiN (As := [.ref 1, .int (nI p), .int 3]) (rest := [.long (31 * (xs1 (f_s3 n i x y) (xs1 (f_s2 n i x y) (xs1 (f_s1 n i x y) (x_s0 n i lm) (n 5)) (n 7)) p))]) (n1 := 3) X dL_sum_197 (h_ord3 l hl0 h ol od (nI p)) gL_sum_L_orders rfl rfl (by decide +kernel) ⟨by decide, by decide⟩ rfl (Nat.le_of_ble_eq_true rfl) ⟨by omega, by omega⟩ ?_
                    rintro _ _ ⟨rfl, rfl⟩
                    refine z_i2l X dL_sum_200 ?_
                    refine z_ladd X dL_sum_201 ?_
                    refine z_ldcJ (v := 3) X dL_sum_202 (by decide +kernel) ?_
                    refine z_aload_n X 0 dL_sum_205 rfl rfl ?_
                    refine z_iload X 5 dL_sum_206 rfl ?_
                    refine z_iconst (v := 2) X dL_sum_208 (by decide) ?_
                    refine z_callSWiN (As := [.ref 1, .int (nI p), .int 2]) (rest := [.long 3, .long ((31 * (xs1 (f_s3 n i x y) (xs1 (f_s2 n i x y) (xs1 (f_s1 n i x y) (x_s0 n i lm) (n 5)) (n 7)) p)) + ((a_ord3 n i x y (nI p)).toInt64))]) (n1 := 3) X dL_sum_209 (h_ord2 l hl0 h ol od (nI p)) gL_sum_L_orders rfl rfl (by decide +kernel) ⟨by decide, by decide⟩ rfl (Nat.le_of_ble_eq_true rfl) ⟨by omega, by omega⟩ ?_
                    rintro _ _ ⟨rfl, rfl⟩
                    refine z_i2l X dL_sum_212 ?_
                    refine z_lmul X dL_sum_213 ?_
                    refine z_ladd X dL_sum_214 ?_
                    refine z_ldcJ (v := 5) X dL_sum_215 (by decide +kernel) ?_
                    refine z_aload_n X 0 dL_sum_218 rfl rfl ?_
                    refine z_iload X 5 dL_sum_219 rfl ?_
                    refine z_iconst (v := 4) X dL_sum_221 (by decide) ?_
                    refine z_callSWiN (As := [.ref 1, .int (nI p), .int 4]) (rest := [.long 5, .long (((31 * (xs1 (f_s3 n i x y) (xs1 (f_s2 n i x y) (xs1 (f_s1 n i x y) (x_s0 n i lm) (n 5)) (n 7)) p)) + ((a_ord3 n i x y (nI p)).toInt64)) + (3 * ((a_ord2 n i x y (nI p)).toInt64)))]) (n1 := 3) X dL_sum_222 (h_ord4 l hl0 h ol od (nI p)) gL_sum_L_orders rfl rfl (by decide +kernel) ⟨by decide, by decide⟩ rfl (Nat.le_of_ble_eq_true rfl) ⟨by omega, by omega⟩ ?_
                    rintro _ _ ⟨rfl, rfl⟩
                    refine z_i2l X dL_sum_225 ?_
                    refine z_lmul X dL_sum_226 ?_
                    refine z_ladd X dL_sum_227 ?_
                    refine z_lstore (ls' := [(4, .long ((((31 * (xs1 (f_s3 n i x y) (xs1 (f_s2 n i x y) (xs1 (f_s1 n i x y) (x_s0 n i lm) (n 5)) (n 7)) p)) + ((a_ord3 n i x y (nI p)).toInt64)) + (3 * ((a_ord2 n i x y (nI p)).toInt64))) + (5 * ((a_ord4 n i x y (nI p)).toInt64)))), (0, .ref 1), (1, .int (nI (n 5))), (2, .int (nI (n 6))), (3, .int (nI (n 8))), (6, .int (nI p))]) X dL_sum_228 (by decide) rfl ?_
                    refine z_iinc (ls' := [(6, .int (nI (p + 1))), (4, .long ((((31 * (xs1 (f_s3 n i x y) (xs1 (f_s2 n i x y) (xs1 (f_s1 n i x y) (x_s0 n i lm) (n 5)) (n 7)) p)) + ((a_ord3 n i x y (nI p)).toInt64)) + (3 * ((a_ord2 n i x y (nI p)).toInt64))) + (5 * ((a_ord4 n i x y (nI p)).toInt64)))), (0, .ref 1), (1, .int (nI (n 5))), (2, .int (nI (n 6))), (3, .int (nI (n 8)))]) (v := nI (p + 1)) X 5 dL_sum_230 rfl (nI_1 _) (by decide) rfl ?_
                    refine z_goto (tgt := 181) X dL_sum_233 (by decide) ?_
                    refine z_sub (ls' := [(0, .ref 1), (1, .int (nI (n 5))), (2, .int (nI (n 6))), (3, .int (nI (n 8))), (4, .long ((((31 * (xs1 (f_s3 n i x y) (xs1 (f_s2 n i x y) (xs1 (f_s1 n i x y) (x_s0 n i lm) (n 5)) (n 7)) p)) + ((a_ord3 n i x y (nI p)).toInt64)) + (3 * ((a_ord2 n i x y (nI p)).toInt64))) + (5 * ((a_ord4 n i x y (nI p)).toInt64)))), (6, .int (nI (p + 1)))]) [2, 3, 4, 5, 1, 0] rfl ?_
                    refine z_lse (ls' := [(0, .ref 1), (1, .int (nI (n 5))), (2, .int (nI (n 6))), (3, .int (nI (n 8))), (4, .long (xs1 (f_s3 n i x y) (xs1 (f_s2 n i x y) (xs1 (f_s1 n i x y) (x_s0 n i lm) (n 5)) (n 7)) (p + 1))), (6, .int (nI (p + 1)))]) (rfl) ?_
                    exact ih181 _ _ (by omega) (by omega)
              refine z_sub (ls' := [(0, .ref 1), (1, .int (nI (n 5))), (2, .int (nI (n 6))), (3, .int (nI (n 8))), (4, .long (xs1 (f_s2 n i x y) (xs1 (f_s1 n i x y) (x_s0 n i lm) (n 5)) (n 7))), (6, .int 0)]) [1, 2, 3, 4, 5, 0] rfl ?_
              refine z_lse (ls' := [(0, .ref 1), (1, .int (nI (n 5))), (2, .int (nI (n 6))), (3, .int (nI (n 8))), (4, .long (xs1 (f_s3 n i x y) (xs1 (f_s2 n i x y) (xs1 (f_s1 n i x y) (x_s0 n i lm) (n 5)) (n 7)) 0)), (6, .int (nI 0))]) (rfl) ?_
              exact hloop181 0 (Nat.zero_le _) _ _ (by omega) (by omega)
            · exact absurd (Int32.le_refl _) c_126
          · intro p hp_120 ih120 k_120 n_120 hk_120 hn_120
            show zE g 7 120 [(0, .ref 1), (1, .int (nI (n 5))), (2, .int (nI (n 6))), (3, .int (nI (n 8))), (4, .long (xs1 (f_s2 n i x y) (xs1 (f_s1 n i x y) (x_s0 n i lm) (n 5)) p)), (6, .int (nI p))] [] (cmm n i x lm y ol od) k_120 n_120
            refine z_iload X 5 dL_sum_120 rfl ?_
            refine z_aload_n X 0 dL_sum_122 rfl rfl ?_
            refine z_callViN (As := []) (rest := [.int (nI p)]) (n1 := 0) (ci := 10) X dL_sum_123 (c_X7_pallets l hl0 n i x lm y ol od h.1.1) gL_sum_X7_pallets rfl rfl (by decide +kernel) ⟨by decide, by decide⟩ ck_1 rfl rfl (Nat.le_of_ble_eq_true rfl) ⟨by omega, by omega⟩ ?_
            rintro _ _ ⟨rfl, rfl⟩
            refine z_icmp_ge X 178 dL_sum_126 (by decide) (fun c_126 => ?_) (fun c_126 => ?_)
            · exact absurd c_126 (Int32.not_le.mpr (nI_lt (by omega) (by omega)))
            · skip
              refine z_ldcJ (v := 31) X dL_sum_129 (by decide +kernel) ?_
              refine z_lload X 4 dL_sum_132 rfl ?_
              refine z_lmul X dL_sum_134 ?_
              refine z_aload_n X 0 dL_sum_135 rfl rfl ?_
              refine z_iload X 5 dL_sum_136 rfl ?_
              refine z_iconst (v := 0) X dL_sum_138 (by decide) ?_
              refine z_callSWiN (As := [.ref 1, .int (nI p), .int 0]) (rest := [.long (31 * (xs1 (f_s2 n i x y) (xs1 (f_s1 n i x y) (x_s0 n i lm) (n 5)) p))]) (n1 := 3) X dL_sum_139 (h_pal0 l hl0 h ol od (nI p)) gL_sum_L_pallet rfl rfl (by decide +kernel) ⟨by decide, by decide⟩ rfl (Nat.le_of_ble_eq_true rfl) ⟨by omega, by omega⟩ ?_
              rintro _ _ ⟨rfl, rfl⟩
              refine z_i2l X dL_sum_142 ?_
              refine z_ladd X dL_sum_143 ?_
              refine z_ldcJ (v := 3) X dL_sum_144 (by decide +kernel) ?_
              refine z_aload_n X 0 dL_sum_147 rfl rfl ?_
              refine z_iload X 5 dL_sum_148 rfl ?_
              refine z_iconst (v := 2) X dL_sum_150 (by decide) ?_
              refine z_callSWiN (As := [.ref 1, .int (nI p), .int 2]) (rest := [.long 3, .long ((31 * (xs1 (f_s2 n i x y) (xs1 (f_s1 n i x y) (x_s0 n i lm) (n 5)) p)) + ((a_pal0 n i x y (nI p)).toInt64))]) (n1 := 3) X dL_sum_151 (h_pal2 l hl0 h ol od (nI p)) gL_sum_L_pallet rfl rfl (by decide +kernel) ⟨by decide, by decide⟩ rfl (Nat.le_of_ble_eq_true rfl) ⟨by omega, by omega⟩ ?_
              rintro _ _ ⟨rfl, rfl⟩
              refine z_i2l X dL_sum_154 ?_
              refine z_lmul X dL_sum_155 ?_
              refine z_ladd X dL_sum_156 ?_
              refine z_ldcJ (v := 5) X dL_sum_157 (by decide +kernel) ?_
              refine z_aload_n X 0 dL_sum_160 rfl rfl ?_
              refine z_iload X 5 dL_sum_161 rfl ?_
              refine z_iconst (v := 3) X dL_sum_163 (by decide) ?_
              refine z_callSWiN (As := [.ref 1, .int (nI p), .int 3]) (rest := [.long 5, .long (((31 * (xs1 (f_s2 n i x y) (xs1 (f_s1 n i x y) (x_s0 n i lm) (n 5)) p)) + ((a_pal0 n i x y (nI p)).toInt64)) + (3 * ((a_pal2 n i x y (nI p)).toInt64)))]) (n1 := 3) X dL_sum_164 (h_pal3 l hl0 h ol od (nI p)) gL_sum_L_pallet rfl rfl (by decide +kernel) ⟨by decide, by decide⟩ rfl (Nat.le_of_ble_eq_true rfl) ⟨by omega, by omega⟩ ?_
              rintro _ _ ⟨rfl, rfl⟩
              refine z_i2l X dL_sum_167 ?_
              refine z_lmul X dL_sum_168 ?_
              refine z_ladd X dL_sum_169 ?_
              refine z_lstore (ls' := [(4, .long ((((31 * (xs1 (f_s2 n i x y) (xs1 (f_s1 n i x y) (x_s0 n i lm) (n 5)) p)) + ((a_pal0 n i x y (nI p)).toInt64)) + (3 * ((a_pal2 n i x y (nI p)).toInt64))) + (5 * ((a_pal3 n i x y (nI p)).toInt64)))), (0, .ref 1), (1, .int (nI (n 5))), (2, .int (nI (n 6))), (3, .int (nI (n 8))), (6, .int (nI p))]) X dL_sum_170 (by decide) rfl ?_
              refine z_iinc (ls' := [(6, .int (nI (p + 1))), (4, .long ((((31 * (xs1 (f_s2 n i x y) (xs1 (f_s1 n i x y) (x_s0 n i lm) (n 5)) p)) + ((a_pal0 n i x y (nI p)).toInt64)) + (3 * ((a_pal2 n i x y (nI p)).toInt64))) + (5 * ((a_pal3 n i x y (nI p)).toInt64)))), (0, .ref 1), (1, .int (nI (n 5))), (2, .int (nI (n 6))), (3, .int (nI (n 8)))]) (v := nI (p + 1)) X 5 dL_sum_172 rfl (nI_1 _) (by decide) rfl ?_
              refine z_goto (tgt := 120) X dL_sum_175 (by decide) ?_
              refine z_sub (ls' := [(0, .ref 1), (1, .int (nI (n 5))), (2, .int (nI (n 6))), (3, .int (nI (n 8))), (4, .long ((((31 * (xs1 (f_s2 n i x y) (xs1 (f_s1 n i x y) (x_s0 n i lm) (n 5)) p)) + ((a_pal0 n i x y (nI p)).toInt64)) + (3 * ((a_pal2 n i x y (nI p)).toInt64))) + (5 * ((a_pal3 n i x y (nI p)).toInt64)))), (6, .int (nI (p + 1)))]) [2, 3, 4, 5, 1, 0] rfl ?_
              refine z_lse (ls' := [(0, .ref 1), (1, .int (nI (n 5))), (2, .int (nI (n 6))), (3, .int (nI (n 8))), (4, .long (xs1 (f_s2 n i x y) (xs1 (f_s1 n i x y) (x_s0 n i lm) (n 5)) (p + 1))), (6, .int (nI (p + 1)))]) (rfl) ?_
              exact ih120 _ _ (by omega) (by omega)
        refine z_sub (ls' := [(0, .ref 1), (1, .int (nI (n 5))), (2, .int (nI (n 6))), (3, .int (nI (n 8))), (4, .long (xs1 (f_s1 n i x y) (x_s0 n i lm) (n 5))), (6, .int 0)]) [1, 2, 3, 4, 5, 0] rfl ?_
        refine z_lse (ls' := [(0, .ref 1), (1, .int (nI (n 5))), (2, .int (nI (n 6))), (3, .int (nI (n 8))), (4, .long (xs1 (f_s2 n i x y) (xs1 (f_s1 n i x y) (x_s0 n i lm) (n 5)) 0)), (6, .int (nI 0))]) (rfl) ?_
        exact hloop120 0 (Nat.zero_le _) _ _ (by omega) (by omega)
      · exact absurd (Int32.le_refl _) c_52
    · intro p hp_49 ih49 k_49 n_49 hk_49 hn_49
      show zE g 7 49 [(0, .ref 1), (1, .int (nI (n 5))), (2, .int (nI (n 6))), (3, .int (nI (n 8))), (4, .long (xs1 (f_s1 n i x y) (x_s0 n i lm) p)), (6, .int (nI p))] [] (cmm n i x lm y ol od) k_49 n_49
      refine z_iload X 5 dL_sum_49 rfl ?_
      refine z_iload_n X 1 dL_sum_51 rfl rfl ?_
      refine z_icmp_ge X 117 dL_sum_52 (by decide) (fun c_52 => ?_) (fun c_52 => ?_)
      · exact absurd c_52 (Int32.not_le.mpr (nI_lt (by omega) (by omega)))
      · skip
        refine z_ldcJ (v := 31) X dL_sum_55 (by decide +kernel) ?_
        refine z_lload X 4 dL_sum_58 rfl ?_
        refine z_lmul X dL_sum_60 ?_
        refine z_aload_n X 0 dL_sum_61 rfl rfl ?_
        refine z_iload X 5 dL_sum_62 rfl ?_
        refine z_iconst (v := 0) X dL_sum_64 (by decide) ?_
        refine z_callSWiN (As := [.ref 1, .int (nI p), .int 0]) (rest := [.long (31 * (xs1 (f_s1 n i x y) (x_s0 n i lm) p))]) (n1 := 3) X dL_sum_65 (h_of0 l hl0 h ol od (nI p)) gL_sum_L_of rfl rfl (by decide +kernel) ⟨by decide, by decide⟩ rfl (Nat.le_of_ble_eq_true rfl) ⟨by omega, by omega⟩ ?_
        rintro _ _ ⟨rfl, rfl⟩
        refine z_i2l X dL_sum_68 ?_
        refine z_ladd X dL_sum_69 ?_
        refine z_ldcJ (v := 3) X dL_sum_70 (by decide +kernel) ?_
        refine z_aload_n X 0 dL_sum_73 rfl rfl ?_
        refine z_iload X 5 dL_sum_74 rfl ?_
        refine z_iconst (v := 1) X dL_sum_76 (by decide) ?_
        refine z_callSWiN (As := [.ref 1, .int (nI p), .int 1]) (rest := [.long 3, .long ((31 * (xs1 (f_s1 n i x y) (x_s0 n i lm) p)) + ((a_of0 n i x y (nI p)).toInt64))]) (n1 := 3) X dL_sum_77 (h_of1 l hl0 h ol od (nI p)) gL_sum_L_of rfl rfl (by decide +kernel) ⟨by decide, by decide⟩ rfl (Nat.le_of_ble_eq_true rfl) ⟨by omega, by omega⟩ ?_
        rintro _ _ ⟨rfl, rfl⟩
        refine z_i2l X dL_sum_80 ?_
        refine z_lmul X dL_sum_81 ?_
        refine z_ladd X dL_sum_82 ?_
        refine z_ldcJ (v := 5) X dL_sum_83 (by decide +kernel) ?_
        refine z_aload_n X 0 dL_sum_86 rfl rfl ?_
        refine z_iload X 5 dL_sum_87 rfl ?_
        refine z_iconst (v := 2) X dL_sum_89 (by decide) ?_
        refine z_callSWiN (As := [.ref 1, .int (nI p), .int 2]) (rest := [.long 5, .long (((31 * (xs1 (f_s1 n i x y) (x_s0 n i lm) p)) + ((a_of0 n i x y (nI p)).toInt64)) + (3 * ((a_of1 n i x y (nI p)).toInt64)))]) (n1 := 3) X dL_sum_90 (h_of2 l hl0 h ol od (nI p)) gL_sum_L_of rfl rfl (by decide +kernel) ⟨by decide, by decide⟩ rfl (Nat.le_of_ble_eq_true rfl) ⟨by omega, by omega⟩ ?_
        rintro _ _ ⟨rfl, rfl⟩
        refine z_i2l X dL_sum_93 ?_
        refine z_lmul X dL_sum_94 ?_
        refine z_ladd X dL_sum_95 ?_
        refine z_ldcJ (v := 7) X dL_sum_96 (by decide +kernel) ?_
        refine z_aload_n X 0 dL_sum_99 rfl rfl ?_
        refine z_iload X 5 dL_sum_100 rfl ?_
        refine z_iconst (v := 3) X dL_sum_102 (by decide) ?_
        refine z_callSWiN (As := [.ref 1, .int (nI p), .int 3]) (rest := [.long 7, .long ((((31 * (xs1 (f_s1 n i x y) (x_s0 n i lm) p)) + ((a_of0 n i x y (nI p)).toInt64)) + (3 * ((a_of1 n i x y (nI p)).toInt64))) + (5 * ((a_of2 n i x y (nI p)).toInt64)))]) (n1 := 3) X dL_sum_103 (h_of3 l hl0 h ol od (nI p)) gL_sum_L_of rfl rfl (by decide +kernel) ⟨by decide, by decide⟩ rfl (Nat.le_of_ble_eq_true rfl) ⟨by omega, by omega⟩ ?_
        rintro _ _ ⟨rfl, rfl⟩
        refine z_i2l X dL_sum_106 ?_
        refine z_lmul X dL_sum_107 ?_
        refine z_ladd X dL_sum_108 ?_
        refine z_lstore (ls' := [(4, .long (((((31 * (xs1 (f_s1 n i x y) (x_s0 n i lm) p)) + ((a_of0 n i x y (nI p)).toInt64)) + (3 * ((a_of1 n i x y (nI p)).toInt64))) + (5 * ((a_of2 n i x y (nI p)).toInt64))) + (7 * ((a_of3 n i x y (nI p)).toInt64)))), (0, .ref 1), (1, .int (nI (n 5))), (2, .int (nI (n 6))), (3, .int (nI (n 8))), (6, .int (nI p))]) X dL_sum_109 (by decide) rfl ?_
        refine z_iinc (ls' := [(6, .int (nI (p + 1))), (4, .long (((((31 * (xs1 (f_s1 n i x y) (x_s0 n i lm) p)) + ((a_of0 n i x y (nI p)).toInt64)) + (3 * ((a_of1 n i x y (nI p)).toInt64))) + (5 * ((a_of2 n i x y (nI p)).toInt64))) + (7 * ((a_of3 n i x y (nI p)).toInt64)))), (0, .ref 1), (1, .int (nI (n 5))), (2, .int (nI (n 6))), (3, .int (nI (n 8)))]) (v := nI (p + 1)) X 5 dL_sum_111 rfl (nI_1 _) (by decide) rfl ?_
        refine z_goto (tgt := 49) X dL_sum_114 (by decide) ?_
        refine z_sub (ls' := [(0, .ref 1), (1, .int (nI (n 5))), (2, .int (nI (n 6))), (3, .int (nI (n 8))), (4, .long (((((31 * (xs1 (f_s1 n i x y) (x_s0 n i lm) p)) + ((a_of0 n i x y (nI p)).toInt64)) + (3 * ((a_of1 n i x y (nI p)).toInt64))) + (5 * ((a_of2 n i x y (nI p)).toInt64))) + (7 * ((a_of3 n i x y (nI p)).toInt64)))), (6, .int (nI (p + 1)))]) [2, 3, 4, 5, 1, 0] rfl ?_
        refine z_lse (ls' := [(0, .ref 1), (1, .int (nI (n 5))), (2, .int (nI (n 6))), (3, .int (nI (n 8))), (4, .long (xs1 (f_s1 n i x y) (x_s0 n i lm) (p + 1))), (6, .int (nI (p + 1)))]) (rfl) ?_
        exact ih49 _ _ (by omega) (by omega)
  refine z_sub (ls' := [(0, .ref 1), (1, .int (nI (n 5))), (2, .int (nI (n 6))), (3, .int (nI (n 8))), (4, .long ((((((i 1 0).toInt64) + (31 * (lm 1 26 + (i 1 25).toInt64 * (i 1 22).toInt64))) + (961 * ((nI (n 7)).toInt64))) + (7 * ((i 1 24).toInt64))) + (11 * ((i 1 25).toInt64)))), (6, .int 0)]) [2, 3, 4, 5, 1, 0] rfl ?_
  refine z_lse (ls' := [(0, .ref 1), (1, .int (nI (n 5))), (2, .int (nI (n 6))), (3, .int (nI (n 8))), (4, .long (xs1 (f_s1 n i x y) (x_s0 n i lm) 0)), (6, .int (nI 0))]) (rfl) ?_
  exact hloop49 0 (Nat.zero_le _) _ _ (by omega) (by omega)
