/-! PART 60: what the class's records tell -/
def c_rc (x : Nat → Nat → Int32) : Nat → Int64
  | 0 => 0
  | k + 1 => c_rc x k + (x 1 k).toInt64 * (x 2 k).toInt64
def c_rg (x : Nat → Nat → Int32) : Nat → Int32
  | 0 => 0
  | k + 1 => if c_rg x k < x 1 k then x 1 k else c_rg x k
set_option maxRecDepth 100000 in
set_option maxHeartbeats 4000000 in
theorem c_X2_recordedCosts (l : Launch) (n : Nat → Nat) (i x : Nat → Nat → Int32) (lm : Nat → Nat → Int64) (y : Nat → Nat → Nat) (ol : Int64) (od : UInt64) (tk : Nat) (htk : tk ≤ 960) : zS l yX2_recordedCosts wsX2_recordedCosts 0 0 0 0 [.ref 5, .int (nI tk)] (cmm n i x lm y ol od) (zpj (fun q M1 => q = c_rc x tk ∧ M1 = cmm n i x lm y ol od)) zno := by
  refine z_intro (cc := cX2_recordedCosts) (maxL := 5) (ret := (some .long)) (by decide +kernel) rfl (Nat.le_of_ble_eq_true rfl) ?_
  have hlk_9 : Cond.fieldLink RX2 9 "ColdStore$Meter" "powers" "[I" ∈ wsX2_recordedCosts := by decide +kernel
  have hlk_15 : Cond.fieldLink RX2 15 "ColdStore$Meter" "prices" "[I" ∈ wsX2_recordedCosts := by decide +kernel
  intro g X
  show zE g 5 0 [(0, .ref 5), (1, .int (nI tk))] [] (cmm n i x lm y ol od) 0 0
  refine z_lconst (v := 0) X dX2_recordedCosts_0 (by decide) ?_
  refine z_lstore_n (ls' := [(2, .long 0), (0, .ref 5), (1, .int (nI tk))]) X dX2_recordedCosts_1 rfl (by decide) rfl ?_
  refine z_iconst (v := 0) X dX2_recordedCosts_2 (by decide) ?_
  refine z_istore (ls' := [(4, .int 0), (2, .long 0), (0, .ref 5), (1, .int (nI tk))]) X dX2_recordedCosts_3 (by decide) rfl ?_
  have hloop5 : ∀ k : Nat, k ≤ tk → zE g 5 5 [(0, .ref 5), (1, .int (nI tk)), (2, .long (c_rc x k)), (4, .int (nI k))] [] (cmm n i x lm y ol od) 0 0 := by
    refine z_loop (fun k => zE g 5 5 [(0, .ref 5), (1, .int (nI tk)), (2, .long (c_rc x k)), (4, .int (nI k))] [] (cmm n i x lm y ol od) 0 0) tk ?_ ?_
    · show zE g 5 5 [(0, .ref 5), (1, .int (nI tk)), (2, .long (c_rc x tk)), (4, .int (nI tk))] [] (cmm n i x lm y ol od) 0 0
      refine z_iload X 3 dX2_recordedCosts_5 rfl ?_
      refine z_iload_n X 1 dX2_recordedCosts_7 rfl rfl ?_
      refine z_icmp_ge X 57 dX2_recordedCosts_8 (by decide) (fun c_8 => ?_) (fun c_8 => ?_)
      · skip
        refine z_lload_n X 2 dX2_recordedCosts_57 rfl rfl ?_
        refine z_lret X rfl (Nat.le_of_ble_eq_true rfl) (Nat.le_of_ble_eq_true rfl) dX2_recordedCosts_58 ?_
        exact ⟨_, rfl, rfl, rfl⟩
      · exact absurd (Int32.le_refl _) c_8
    · intro k hk_5 ih5
      have ih5 : zE g 5 5 [(0, .ref 5), (1, .int (nI tk)), (2, .long (c_rc x (k + 1))), (4, .int (nI (k + 1)))] [] (cmm n i x lm y ol od) 0 0 := ih5
      show zE g 5 5 [(0, .ref 5), (1, .int (nI tk)), (2, .long (c_rc x k)), (4, .int (nI k))] [] (cmm n i x lm y ol od) 0 0
      refine z_iload X 3 dX2_recordedCosts_5 rfl ?_
      refine z_iload_n X 1 dX2_recordedCosts_7 rfl rfl ?_
      refine z_icmp_ge X 57 dX2_recordedCosts_8 (by decide) (fun c_8 => ?_) (fun c_8 => ?_)
      · exact absurd c_8 (nI_ge hk_5 (by omega))
      · skip
        refine z_iload X 3 dX2_recordedCosts_11 rfl ?_
        refine z_aload_n X 0 dX2_recordedCosts_13 rfl rfl ?_
        refine z_getR (ci := 5) (j := 0) (o' := 6) X dX2_recordedCosts_14 ck_5 rfl (by decide) hlk_9 (Or.inl rfl) (fun _ => rfl) (cr_5_0) ?_
        refine z_alen (t := 0) (v := 960) X dX2_recordedCosts_17 ck_6 (by decide) (by rw [cn_6]; decide) ?_
        refine z_icmp_ge X 57 dX2_recordedCosts_18 (by decide) (fun c_18 => ?_) (fun c_18 => ?_)
        · exact absurd c_18 (nI_ge (b := 960) (by omega) (by decide))
        · skip
          refine z_iload X 3 dX2_recordedCosts_21 rfl ?_
          refine z_aload_n X 0 dX2_recordedCosts_23 rfl rfl ?_
          refine z_getR (ci := 5) (j := 1) (o' := 7) X dX2_recordedCosts_24 ck_5 rfl (by decide) hlk_15 (Or.inl rfl) (fun _ => rfl) (cr_5_1) ?_
          refine z_alen (t := 0) (v := 960) X dX2_recordedCosts_27 ck_7 (by decide) (by rw [cn_7]; decide) ?_
          refine z_icmp_ge X 57 dX2_recordedCosts_28 (by decide) (fun c_28 => ?_) (fun c_28 => ?_)
          · exact absurd c_28 (nI_ge (b := 960) (by omega) (by decide))
          · skip
            refine z_lload_n X 2 dX2_recordedCosts_31 rfl rfl ?_
            refine z_aload_n X 0 dX2_recordedCosts_32 rfl rfl ?_
            refine z_getR (ci := 5) (j := 0) (o' := 6) X dX2_recordedCosts_33 ck_5 rfl (by decide) hlk_9 (Or.inl rfl) (fun _ => rfl) (cr_5_0) ?_
            refine z_iload X 3 dX2_recordedCosts_36 rfl ?_
            refine z_iald (j := k) (x := x 1 k) X dX2_recordedCosts_38 ck_6 (by rw [cn_6]; exact vp_in_nI (by omega) (by decide)) (nI_clamp (by omega)) (ci_6) ?_
            refine z_i2l X dX2_recordedCosts_39 ?_
            refine z_aload_n X 0 dX2_recordedCosts_40 rfl rfl ?_
            refine z_getR (ci := 5) (j := 1) (o' := 7) X dX2_recordedCosts_41 ck_5 rfl (by decide) hlk_15 (Or.inl rfl) (fun _ => rfl) (cr_5_1) ?_
            refine z_iload X 3 dX2_recordedCosts_44 rfl ?_
            refine z_iald (j := k) (x := x 2 k) X dX2_recordedCosts_46 ck_7 (by rw [cn_7]; exact vp_in_nI (by omega) (by decide)) (nI_clamp (by omega)) (ci_7) ?_
            refine z_i2l X dX2_recordedCosts_47 ?_
            refine z_lmul X dX2_recordedCosts_48 ?_
            refine z_ladd X dX2_recordedCosts_49 ?_
            refine z_lstore_n (ls' := [(2, .long ((c_rc x k) + (((x 1 k).toInt64) * ((x 2 k).toInt64)))), (0, .ref 5), (1, .int (nI tk)), (4, .int (nI k))]) X dX2_recordedCosts_50 rfl (by decide) rfl ?_
            refine z_iinc (ls' := [(4, .int (nI (k + 1))), (2, .long ((c_rc x k) + (((x 1 k).toInt64) * ((x 2 k).toInt64)))), (0, .ref 5), (1, .int (nI tk))]) (v := nI (k + 1)) X 3 dX2_recordedCosts_51 rfl (nI_1 _) (by decide) rfl ?_
            refine z_goto (tgt := 5) X dX2_recordedCosts_54 (by decide) ?_
            refine z_sub (ls' := [(0, .ref 5), (1, .int (nI tk)), (2, .long ((c_rc x k) + (((x 1 k).toInt64) * ((x 2 k).toInt64)))), (4, .int (nI (k + 1)))]) [2, 3, 1, 0] rfl ?_
            refine z_lse (ls' := [(0, .ref 5), (1, .int (nI tk)), (2, .long (c_rc x (k + 1))), (4, .int (nI (k + 1)))]) (rfl) ?_
            exact ih5
  refine z_sub (ls' := [(0, .ref 5), (1, .int (nI tk)), (2, .long 0), (4, .int 0)]) [2, 3, 1, 0] rfl ?_
  refine z_lse (ls' := [(0, .ref 5), (1, .int (nI tk)), (2, .long (c_rc x 0)), (4, .int (nI 0))]) (rfl) ?_
  exact hloop5 0 (Nat.zero_le _)

set_option maxRecDepth 100000 in
set_option maxHeartbeats 4000000 in
theorem c_X2_recordedGreatest (l : Launch) (n : Nat → Nat) (i x : Nat → Nat → Int32) (lm : Nat → Nat → Int64) (y : Nat → Nat → Nat) (ol : Int64) (od : UInt64) (tk : Nat) (htk : tk ≤ 960) : zS l yX2_recordedGreatest wsX2_recordedGreatest 1 21 0 0 [.ref 5, .int (nI tk)] (cmm n i x lm y ol od) (zpi (fun q M1 => q = c_rg x tk ∧ M1 = cmm n i x lm y ol od)) zno := by
  refine z_intro (cc := cX2_recordedGreatest) (maxL := 4) (ret := (some .int)) (by decide +kernel) rfl (Nat.le_of_ble_eq_true rfl) ?_
  have hlk_9 : Cond.fieldLink RX2 9 "ColdStore$Meter" "powers" "[I" ∈ wsX2_recordedGreatest := by decide +kernel
  intro g X
  show zE g 4 0 [(0, .ref 5), (1, .int (nI tk))] [] (cmm n i x lm y ol od) 0 0
  refine z_iconst (v := 0) X dX2_recordedGreatest_0 (by decide) ?_
  refine z_istore_n (ls' := [(2, .int 0), (0, .ref 5), (1, .int (nI tk))]) X dX2_recordedGreatest_1 rfl (by decide) rfl ?_
  refine z_iconst (v := 0) X dX2_recordedGreatest_2 (by decide) ?_
  refine z_istore_n (ls' := [(3, .int 0), (2, .int 0), (0, .ref 5), (1, .int (nI tk))]) X dX2_recordedGreatest_3 rfl (by decide) rfl ?_
  have hloop4 : ∀ k : Nat, k ≤ tk → zE g 4 4 [(0, .ref 5), (1, .int (nI tk)), (2, .int (c_rg x k)), (3, .int (nI k))] [] (cmm n i x lm y ol od) 0 0 := by
    refine z_loop (fun k => zE g 4 4 [(0, .ref 5), (1, .int (nI tk)), (2, .int (c_rg x k)), (3, .int (nI k))] [] (cmm n i x lm y ol od) 0 0) tk ?_ ?_
    · show zE g 4 4 [(0, .ref 5), (1, .int (nI tk)), (2, .int (c_rg x tk)), (3, .int (nI tk))] [] (cmm n i x lm y ol od) 0 0
      refine z_iload_n X 3 dX2_recordedGreatest_4 rfl rfl ?_
      refine z_iload_n X 1 dX2_recordedGreatest_5 rfl rfl ?_
      refine z_icmp_ge X 35 dX2_recordedGreatest_6 (by decide) (fun c_6 => ?_) (fun c_6 => ?_)
      · skip
        refine z_iload_n X 2 dX2_recordedGreatest_35 rfl rfl ?_
        refine z_iret X rfl rfl (Nat.le_of_ble_eq_true rfl) (Nat.le_of_ble_eq_true rfl) dX2_recordedGreatest_36 ?_
        exact ⟨_, rfl, rfl, rfl⟩
      · exact absurd (Int32.le_refl _) c_6
    · intro k hk_4 ih4
      have ih4 : zE g 4 4 [(0, .ref 5), (1, .int (nI tk)), (2, .int (c_rg x (k + 1))), (3, .int (nI (k + 1)))] [] (cmm n i x lm y ol od) 0 0 := ih4
      show zE g 4 4 [(0, .ref 5), (1, .int (nI tk)), (2, .int (c_rg x k)), (3, .int (nI k))] [] (cmm n i x lm y ol od) 0 0
      refine z_iload_n X 3 dX2_recordedGreatest_4 rfl rfl ?_
      refine z_iload_n X 1 dX2_recordedGreatest_5 rfl rfl ?_
      refine z_icmp_ge X 35 dX2_recordedGreatest_6 (by decide) (fun c_6 => ?_) (fun c_6 => ?_)
      · exact absurd c_6 (nI_ge hk_4 (by omega))
      · skip
        refine z_iload_n X 3 dX2_recordedGreatest_9 rfl rfl ?_
        refine z_aload_n X 0 dX2_recordedGreatest_10 rfl rfl ?_
        refine z_getR (ci := 5) (j := 0) (o' := 6) X dX2_recordedGreatest_11 ck_5 rfl (by decide) hlk_9 (Or.inl rfl) (fun _ => rfl) (cr_5_0) ?_
        refine z_alen (t := 0) (v := 960) X dX2_recordedGreatest_14 ck_6 (by decide) (by rw [cn_6]; decide) ?_
        refine z_icmp_ge X 35 dX2_recordedGreatest_15 (by decide) (fun c_15 => ?_) (fun c_15 => ?_)
        · exact absurd c_15 (nI_ge (b := 960) (by omega) (by decide))
        · skip
          refine z_iload_n X 2 dX2_recordedGreatest_18 rfl rfl ?_
          refine z_aload_n X 0 dX2_recordedGreatest_19 rfl rfl ?_
          refine z_getR (ci := 5) (j := 0) (o' := 6) X dX2_recordedGreatest_20 ck_5 rfl (by decide) hlk_9 (Or.inl rfl) (fun _ => rfl) (cr_5_0) ?_
          refine z_iload_n X 3 dX2_recordedGreatest_23 rfl rfl ?_
          refine z_iald (j := k) (x := x 1 k) X dX2_recordedGreatest_24 ck_6 (by rw [cn_6]; exact vp_in_nI (by omega) (by decide)) (nI_clamp (by omega)) (ci_6) ?_
          refine z_mmax X dX2_recordedGreatest_25 (by decide +kernel) (by decide +kernel) (by decide +kernel) (by decide +kernel) (by decide) (Nat.le_of_ble_eq_true rfl) (Nat.le_of_ble_eq_true rfl) (Nat.le_of_ble_eq_true rfl) ?_
          refine z_istore_n (ls' := [(2, .int (if (c_rg x k) < (x 1 k) then (x 1 k) else (c_rg x k))), (0, .ref 5), (1, .int (nI tk)), (3, .int (nI k))]) X dX2_recordedGreatest_28 rfl (by decide) rfl ?_
          refine z_iinc (ls' := [(3, .int (nI (k + 1))), (2, .int (if (c_rg x k) < (x 1 k) then (x 1 k) else (c_rg x k))), (0, .ref 5), (1, .int (nI tk))]) (v := nI (k + 1)) X 3 dX2_recordedGreatest_29 rfl (nI_1 _) (by decide) rfl ?_
          refine z_goto (tgt := 4) X dX2_recordedGreatest_32 (by decide) ?_
          refine z_sub (ls' := [(0, .ref 5), (1, .int (nI tk)), (2, .int (if (c_rg x k) < (x 1 k) then (x 1 k) else (c_rg x k))), (3, .int (nI (k + 1)))]) [2, 3, 1, 0] rfl ?_
          refine z_lse (ls' := [(0, .ref 5), (1, .int (nI tk)), (2, .int (c_rg x (k + 1))), (3, .int (nI (k + 1)))]) (rfl) ?_
          exact ih4
  refine z_sub (ls' := [(0, .ref 5), (1, .int (nI tk)), (2, .int 0), (3, .int 0)]) [2, 3, 1, 0] rfl ?_
  refine z_lse (ls' := [(0, .ref 5), (1, .int (nI tk)), (2, .int (c_rg x 0)), (3, .int (nI 0))]) (rfl) ?_
  exact hloop4 0 (Nat.zero_le _)

set_option maxRecDepth 100000 in
set_option maxHeartbeats 4000000 in
theorem c_X5_recordedAt (l : Launch) (n : Nat → Nat) (i x : Nat → Nat → Int32) (lm : Nat → Nat → Int64) (y : Nat → Nat → Nat) (ol : Int64) (od : UInt64) (j : Nat) (hj : j < n 0) (tk : Nat) (htk : tk < 960) : zS l yX5_recordedAt wsX5_recordedAt 0 0 0 0 [.ref (32 * j + 8), .int (nI tk)] (cmm n i x lm y ol od) (zpi (fun q M1 => q = x (10 + j) tk ∧ M1 = cmm n i x lm y ol od)) zno := by
  refine z_intro (cc := cX5_recordedAt) (maxL := 2) (ret := (some .int)) (by decide +kernel) rfl (Nat.le_of_ble_eq_true rfl) ?_
  have hlk_9 : Cond.fieldLink RX5 9 "ColdStore$Room" "records" "[I" ∈ wsX5_recordedAt := by decide +kernel
  intro g X
  show zE g 2 0 [(0, .ref (32 * j + 8)), (1, .int (nI tk))] [] (cmm n i x lm y ol od) 0 0
  refine z_iload_n X 1 dX5_recordedAt_0 rfl rfl ?_
  refine z_if_lt X 22 dX5_recordedAt_1 (by decide) (fun c_1 => ?_) (fun c_1 => ?_)
  · exact absurd c_1 (nI_nn _ (by omega))
  · skip
    refine z_iload_n X 1 dX5_recordedAt_4 rfl rfl ?_
    refine z_aload_n X 0 dX5_recordedAt_5 rfl rfl ?_
    refine z_getR (ci := 8) (j := 4) (o' := 32 * j + 9) X dX5_recordedAt_6 (ck_8 (by omega)) rfl (by decide) hlk_9 (Or.inl rfl) (fun _ => rfl) (cr_8_4) ?_
    refine z_alen (t := 0) (v := 960) X dX5_recordedAt_9 (ck_9 (by omega)) (by decide) (by rw [cn_9]; decide) ?_
    refine z_icmp_ge X 22 dX5_recordedAt_10 (by decide) (fun c_10 => ?_) (fun c_10 => ?_)
    · exact absurd c_10 (nI_ge (b := 960) htk (by decide))
    · skip
      refine z_aload_n X 0 dX5_recordedAt_13 rfl rfl ?_
      refine z_getR (ci := 8) (j := 4) (o' := 32 * j + 9) X dX5_recordedAt_14 (ck_8 (by omega)) rfl (by decide) hlk_9 (Or.inl rfl) (fun _ => rfl) (cr_8_4) ?_
      refine z_iload_n X 1 dX5_recordedAt_17 rfl rfl ?_
      refine z_iald (j := tk) (x := x (10 + j) tk) X dX5_recordedAt_18 (ck_9 (by omega)) (by rw [cn_9]; exact vp_in_nI (by omega) (by decide)) (nI_clamp (by omega)) (ci_9) ?_
      refine z_goto (tgt := 26) X dX5_recordedAt_19 (by decide) ?_
      refine z_iret X rfl rfl (Nat.le_of_ble_eq_true rfl) (Nat.le_of_ble_eq_true rfl) dX5_recordedAt_26 ?_
      exact ⟨_, rfl, rfl, rfl⟩

set_option maxRecDepth 100000 in
set_option maxHeartbeats 4000000 in
theorem c_X7_billByRecords (l : Launch) (hl0 : l.stackTraces = false) (n : Nat → Nat) (i x : Nat → Nat → Int32) (lm : Nat → Nat → Int64) (y : Nat → Nat → Nat) (ol : Int64) (od : UInt64) (hW : cW n i y) (tk : Nat) (htk : tk ≤ 960) (hti : i 1 0 = nI tk) : zS l yX7_billByRecords wsX7_billByRecords 2 44 0 0 [.ref 1] (cmm n i x lm y ol od) (zpj (fun v9 M1 => v9 = c_rc x tk + (c_rg x tk).toInt64 * (i 1 22).toInt64 ∧ M1 = cmm n i x lm y ol od)) zno := by
  refine z_intro (cc := cX7_billByRecords) (maxL := 1) (ret := (some .long)) (by decide +kernel) rfl (Nat.le_of_ble_eq_true rfl) ?_
  have hlk_35 : Cond.fieldLink RX7 35 "ColdStore" "meter" "LColdStore$Meter;" ∈ wsX7_billByRecords := by decide +kernel
  have hlk_39 : Cond.fieldLink RX7 39 "ColdStore" "time" "I" ∈ wsX7_billByRecords := by decide +kernel
  have hlk_28 : Cond.fieldLink RX7 28 "ColdStore" "contract" "LColdStore$Contract;" ∈ wsX7_billByRecords := by decide +kernel
  have hlk_140 : Cond.fieldLink RX7 140 "ColdStore$Contract" "charge" "I" ∈ wsX7_billByRecords := by decide +kernel
  intro g X
  show zE g 1 0 [(0, .ref 1)] [] (cmm n i x lm y ol od) 0 0
  obtain ⟨⟨hn0, hn1, hn2, hn3⟩, ⟨hb5, hb6, hb7, hb8⟩, hp9, hs9, ho9⟩ := hW
  refine z_aload_n X 0 dX7_billByRecords_0 rfl rfl ?_
  refine z_getR (ci := 10) (j := 5) (o' := 5) X dX7_billByRecords_1 ck_1 rfl (by decide) hlk_35 (Or.inl rfl) (fun _ => rfl) (cr_1_5) ?_
  refine z_aload_n X 0 dX7_billByRecords_4 rfl rfl ?_
  refine z_getI (ci := 10) (j := 6) (x := nI tk) X dX7_billByRecords_5 ck_1 rfl (by decide) hlk_39 (Or.inl rfl) (fun _ => rfl) (by rw [ci_1_6]; exact hti) ?_
  refine z_callVl (As := [.int (nI tk)]) (rest := []) (n1 := 1) (ci := 5) X dX7_billByRecords_8 (c_X2_recordedCosts l n i x lm y ol od tk htk) gX7_billByRecords_X2_recordedCosts rfl rfl (by decide +kernel) ⟨by decide, by decide⟩ ck_5 rfl rfl (Nat.le_of_ble_eq_true rfl) ⟨by decide, by decide⟩ (fun _ h => h.elim) ?_
  rintro _ _ ⟨rfl, rfl⟩
  refine z_aload_n X 0 dX7_billByRecords_11 rfl rfl ?_
  refine z_getR (ci := 10) (j := 5) (o' := 5) X dX7_billByRecords_12 ck_1 rfl (by decide) hlk_35 (Or.inl rfl) (fun _ => rfl) (cr_1_5) ?_
  refine z_aload_n X 0 dX7_billByRecords_15 rfl rfl ?_
  refine z_getI (ci := 10) (j := 6) (x := nI tk) X dX7_billByRecords_16 ck_1 rfl (by decide) hlk_39 (Or.inl rfl) (fun _ => rfl) (by rw [ci_1_6]; exact hti) ?_
  refine z_callVi (As := [.int (nI tk)]) (rest := [.long (c_rc x tk)]) (n1 := 1) (ci := 5) X dX7_billByRecords_19 (c_X2_recordedGreatest l n i x lm y ol od tk htk) gX7_billByRecords_X2_recordedGreatest rfl rfl (by decide +kernel) ⟨by decide, by decide⟩ ck_5 rfl rfl (Nat.le_of_ble_eq_true rfl) ⟨by decide, by decide⟩ (fun _ h => h.elim) ?_
  rintro _ _ ⟨rfl, rfl⟩
  refine z_i2l X dX7_billByRecords_22 ?_
  refine z_aload_n X 0 dX7_billByRecords_23 rfl rfl ?_
  refine z_getR (ci := 10) (j := 4) (o' := 4) X dX7_billByRecords_24 ck_1 rfl (by decide) hlk_28 (Or.inl rfl) (fun _ => rfl) (cr_1_4) ?_
  refine z_getI (ci := 3) (j := 4) (x := i 1 22) X dX7_billByRecords_27 ck_4 rfl (by decide) hlk_140 (Or.inl rfl) (fun _ => rfl) (ci_4_4) ?_
  refine z_i2l X dX7_billByRecords_30 ?_
  refine z_lmul X dX7_billByRecords_31 ?_
  refine z_ladd X dX7_billByRecords_32 ?_
  refine z_lret X rfl (Nat.le_of_ble_eq_true rfl) (Nat.le_of_ble_eq_true rfl) dX7_billByRecords_33 ?_
  exact ⟨_, rfl, rfl, rfl⟩
