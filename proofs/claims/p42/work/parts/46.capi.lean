/-! PART 46: calls of the class -/
theorem find_no {v : Int32} {N : Nat} (hN : N ≤ 30) (h : v < 0 ∨ ¬ v < nI N) : ¬ (cl v < N ∧ v = nI (cl v)) := fun ⟨h1, h2⟩ => by
  rcases h with h | h
  · rw [h2] at h
    exact nI_nn _ (by omega) h
  · exact h (by rw [h2]; exact nI_lt h1 (by omega))
theorem c43 {n : Nat → Nat} {i x : Nat → Nat → Int32} {lm : Nat → Nat → Int64} {y : Nat → Nat → Nat} {ol : Int64} {od : UInt64} {v : Int32} : cmm n (zup i 1 43 v) x lm y ol od = cmm n i x lm y ol od := by
  unfold cmm
  have e : ∀ t j k, cI n (zup i 1 43 v) x t j k = cI n i x t j k := fun t j k => by
    unfold cI
    split
    · rfl
    · split
      · rfl
      · split
        · rfl
        · unfold cI0
          have h1 : ∀ q ∈ cTl, q.2.2 ≠ 2043 ∧ q.2.2 ≠ 1001 := by decide +kernel
          split
          · rfl
          · split
            · rfl
            · split
              · rfl
              · split
                · split
                  · exact zup_n (fun a => (h1 _ (cTc_mem (t := t) (k := k) rfl (by omega))).1 (by simp only; omega))
                  · rfl
                · split
                  · exact zup_n (fun a => (h1 _ (cTc_mem (t := t) (k := k) rfl (by omega))).2 (by simp only; omega))
                  · rfl
  have eR : ∀ t j k, cR n (zup i 1 43 v) y t j k = cR n i y t j k := fun t j k => by
    unfold cR
    rw [show zup i 1 43 v 131 j = i 131 j from zup_n (by omega), show zup i 1 43 v 136 j = i 136 j from zup_n (by omega)]
  refine Prod.ext rfl (Prod.ext rfl (Prod.ext (funext fun p => funext fun q => eR _ _ _) (Prod.ext (funext fun p => funext fun q => e _ _ _) rfl)))
set_option maxRecDepth 100000 in
set_option maxHeartbeats 4000000 in
theorem c_X7_now (l : Launch) (hl0 : l.stackTraces = false) (n : Nat → Nat) (i x : Nat → Nat → Int32) (lm : Nat → Nat → Int64) (y : Nat → Nat → Nat) (ol : Int64) (od : UInt64) (hW : cW n i y) : zS l yX7_now wsX7_now 0 0 0 0 [.ref 1] (cmm n i x lm y ol od) (zpi (fun v9 M1 => v9 = i 1 0 ∧ M1 = cmm n i x lm y ol od)) zno := by
  refine z_intro (cc := cX7_now) (maxL := 1) (ret := (some .int)) (by decide +kernel) rfl (Nat.le_of_ble_eq_true rfl) ?_
  have hlk_39 : Cond.fieldLink RX7 39 "ColdStore" "time" "I" ∈ wsX7_now := by decide +kernel
  intro g X
  show zE g 1 0 [(0, .ref 1)] [] (cmm n i x lm y ol od) 0 0
  obtain ⟨⟨hn0, hn1, hn2, hn3⟩, ⟨hb5, hb6, hb7, hb8⟩, hp9, hs9, ho9⟩ := hW
  refine z_aload_n X 0 dX7_now_0 rfl rfl ?_
  refine z_getI (ci := 10) (j := 6) (x := i 1 0) X dX7_now_1 ck_1 rfl (by decide) hlk_39 (Or.inl rfl) (fun _ => rfl) (ci_1_6) ?_
  refine z_iret X rfl rfl (Nat.le_of_ble_eq_true rfl) (Nat.le_of_ble_eq_true rfl) dX7_now_4 ?_
  exact ⟨_, rfl, rfl, rfl⟩

set_option maxRecDepth 100000 in
set_option maxHeartbeats 4000000 in
theorem c_X7_power (l : Launch) (hl0 : l.stackTraces = false) (n : Nat → Nat) (i x : Nat → Nat → Int32) (lm : Nat → Nat → Int64) (y : Nat → Nat → Nat) (ol : Int64) (od : UInt64) (hW : cW n i y) : zS l yX7_power wsX7_power 0 0 0 0 [.ref 1] (cmm n i x lm y ol od) (zpi (fun v9 M1 => v9 = i 1 24 ∧ M1 = cmm n i x lm y ol od)) zno := by
  refine z_intro (cc := cX7_power) (maxL := 1) (ret := (some .int)) (by decide +kernel) rfl (Nat.le_of_ble_eq_true rfl) ?_
  have hlk_35 : Cond.fieldLink RX7 35 "ColdStore" "meter" "LColdStore$Meter;" ∈ wsX7_power := by decide +kernel
  have hlk_146 : Cond.fieldLink RX7 146 "ColdStore$Meter" "latest" "I" ∈ wsX7_power := by decide +kernel
  intro g X
  show zE g 1 0 [(0, .ref 1)] [] (cmm n i x lm y ol od) 0 0
  obtain ⟨⟨hn0, hn1, hn2, hn3⟩, ⟨hb5, hb6, hb7, hb8⟩, hp9, hs9, ho9⟩ := hW
  refine z_aload_n X 0 dX7_power_0 rfl rfl ?_
  refine z_getR (ci := 10) (j := 5) (o' := 5) X dX7_power_1 ck_1 rfl (by decide) hlk_35 (Or.inl rfl) (fun _ => rfl) (cr_1_5) ?_
  refine z_getI (ci := 5) (j := 2) (x := i 1 24) X dX7_power_4 ck_5 rfl (by decide) hlk_146 (Or.inl rfl) (fun _ => rfl) (ci_5_2) ?_
  refine z_iret X rfl rfl (Nat.le_of_ble_eq_true rfl) (Nat.le_of_ble_eq_true rfl) dX7_power_7 ?_
  exact ⟨_, rfl, rfl, rfl⟩

set_option maxRecDepth 100000 in
set_option maxHeartbeats 4000000 in
theorem c_X7_greatestPower (l : Launch) (hl0 : l.stackTraces = false) (n : Nat → Nat) (i x : Nat → Nat → Int32) (lm : Nat → Nat → Int64) (y : Nat → Nat → Nat) (ol : Int64) (od : UInt64) (hW : cW n i y) : zS l yX7_greatestPower wsX7_greatestPower 0 0 0 0 [.ref 1] (cmm n i x lm y ol od) (zpi (fun v9 M1 => v9 = i 1 25 ∧ M1 = cmm n i x lm y ol od)) zno := by
  refine z_intro (cc := cX7_greatestPower) (maxL := 1) (ret := (some .int)) (by decide +kernel) rfl (Nat.le_of_ble_eq_true rfl) ?_
  have hlk_35 : Cond.fieldLink RX7 35 "ColdStore" "meter" "LColdStore$Meter;" ∈ wsX7_greatestPower := by decide +kernel
  have hlk_149 : Cond.fieldLink RX7 149 "ColdStore$Meter" "greatest" "I" ∈ wsX7_greatestPower := by decide +kernel
  intro g X
  show zE g 1 0 [(0, .ref 1)] [] (cmm n i x lm y ol od) 0 0
  obtain ⟨⟨hn0, hn1, hn2, hn3⟩, ⟨hb5, hb6, hb7, hb8⟩, hp9, hs9, ho9⟩ := hW
  refine z_aload_n X 0 dX7_greatestPower_0 rfl rfl ?_
  refine z_getR (ci := 10) (j := 5) (o' := 5) X dX7_greatestPower_1 ck_1 rfl (by decide) hlk_35 (Or.inl rfl) (fun _ => rfl) (cr_1_5) ?_
  refine z_getI (ci := 5) (j := 3) (x := i 1 25) X dX7_greatestPower_4 ck_5 rfl (by decide) hlk_149 (Or.inl rfl) (fun _ => rfl) (ci_5_3) ?_
  refine z_iret X rfl rfl (Nat.le_of_ble_eq_true rfl) (Nat.le_of_ble_eq_true rfl) dX7_greatestPower_7 ?_
  exact ⟨_, rfl, rfl, rfl⟩

set_option maxRecDepth 100000 in
set_option maxHeartbeats 4000000 in
theorem c_X7_pallets (l : Launch) (hl0 : l.stackTraces = false) (n : Nat → Nat) (i x : Nat → Nat → Int32) (lm : Nat → Nat → Int64) (y : Nat → Nat → Nat) (ol : Int64) (od : UInt64) (hW : cW n i y) : zS l yX7_pallets wsX7_pallets 1 20 0 0 [.ref 1] (cmm n i x lm y ol od) (zpi (fun v9 M1 => v9 = nI (n 7) ∧ M1 = cmm n i x lm y ol od)) zno := by
  refine z_intro (cc := cX7_pallets) (maxL := 1) (ret := (some .int)) (by decide +kernel) rfl (Nat.le_of_ble_eq_true rfl) ?_
  have hlk_19 : Cond.fieldLink RX7 19 "ColdStore" "pallets" "Ljava/util/ArrayList;" ∈ wsX7_pallets := by decide +kernel
  intro g X
  show zE g 1 0 [(0, .ref 1)] [] (cmm n i x lm y ol od) 0 0
  obtain ⟨⟨hn0, hn1, hn2, hn3⟩, ⟨hb5, hb6, hb7, hb8⟩, hp9, hs9, ho9⟩ := hW
  refine z_aload_n X 0 dX7_pallets_0 rfl rfl ?_
  refine z_getR (ci := 10) (j := 2) (o' := 66) X dX7_pallets_1 ck_1 rfl (by decide) hlk_19 (Or.inl rfl) (fun _ => rfl) (cr_1_2) ?_
  refine z_callVi (As := []) (rest := []) (n1 := 0) (ci := 2) X dX7_pallets_4 (c_size2 l _ _ _ _ _ _ _) gX7_pallets_Jx4a65c_size_8abf5 rfl rfl (by decide +kernel) ⟨by decide, by decide⟩ (ck_2 (j := 2) (by decide)) rfl rfl (Nat.le_of_ble_eq_true rfl) ⟨by decide, by decide⟩ (fun _ h => h.elim) ?_
  rintro _ _ ⟨rfl, rfl⟩
  refine z_iret X rfl rfl (Nat.le_of_ble_eq_true rfl) (Nat.le_of_ble_eq_true rfl) dX7_pallets_7 ?_
  exact ⟨_, rfl, rfl, rfl⟩

set_option maxRecDepth 100000 in
set_option maxHeartbeats 4000000 in
theorem c_X7_setOutside (l : Launch) (hl0 : l.stackTraces = false) (n : Nat → Nat) (i x : Nat → Nat → Int32) (lm : Nat → Nat → Int64) (y : Nat → Nat → Nat) (ol : Int64) (od : UInt64) (hW : cW n i y) (t : Int32) : zS l yX7_setOutside wsX7_setOutside 7 112 4 40 [.ref 1, .int t] (cmm n i x lm y ol od) (zpi (fun v9 M1 => (zin t (-300) 450) ∧ v9 = i 1 1 ∧ M1 = cmm n (zup i 1 1 t) x lm y ol od)) (fun E => (E = "java/lang/IllegalArgumentException" ∧ ¬ (zin t (-300) 450))) := by
  refine z_intro (cc := cX7_setOutside) (maxL := 3) (ret := (some .int)) (by decide +kernel) rfl (Nat.le_of_ble_eq_true rfl) ?_
  have hlk_43 : Cond.fieldLink RX7 43 "ColdStore" "outside" "I" ∈ wsX7_setOutside := by decide +kernel
  intro g X
  show zE g 3 0 [(0, .ref 1), (1, .int t)] [] (cmm n i x lm y ol od) 0 0
  obtain ⟨⟨hn0, hn1, hn2, hn3⟩, ⟨hb5, hb6, hb7, hb8⟩, hp9, hs9, ho9⟩ := hW
  refine z_iload_n X 1 dX7_setOutside_0 rfl rfl ?_
  refine z_sipush (v := (-300)) X dX7_setOutside_1 (by decide) ?_
  refine z_sipush (v := 450) X dX7_setOutside_4 (by decide) ?_
  refine z_callSv (As := [.int t, .int (-300), .int 450]) (rest := []) (n1 := 3) X dX7_setOutside_7 (c_X7_requireRange l hl0 (cmm n i x lm y ol od) t (-300) 450) gX7_setOutside_X7_requireRange rfl rfl (by decide +kernel) ⟨by decide, by decide⟩ rfl (Nat.le_of_ble_eq_true rfl) ⟨by decide, by decide⟩ (fun E h => ⟨⟨h.1, h.2⟩, rfl⟩) ?_
  rintro _ ⟨rfl, hz0⟩
  refine z_aload_n X 0 dX7_setOutside_10 rfl rfl ?_
  refine z_getI (ci := 10) (j := 7) (x := i 1 1) X dX7_setOutside_11 ck_1 rfl (by decide) hlk_43 (Or.inl rfl) (fun _ => rfl) (ci_1_7) ?_
  refine z_istore_n (ls' := [(2, .int (i 1 1)), (0, .ref 1), (1, .int t)]) X dX7_setOutside_14 rfl (by decide) rfl ?_
  refine z_aload_n X 1 dX7_setOutside_15 rfl rfl ?_
  refine z_iload_n X 2 dX7_setOutside_16 rfl rfl ?_
  refine z_putI (ci := 10) (j := 7) X dX7_setOutside_17 ck_1 rfl (by decide) hlk_43 (Or.inl rfl) (Or.inl rfl) (fun _ => rfl) rfl rfl ?_
  obtain ⟨i_1, hi_1⟩ : ∃ q, q = zup i 1 1 t := ⟨_, rfl⟩
  refine z_mem (M' := cmm n i_1 x lm y ol od) (by rw [hi_1]; exact cw_g 1 7 1) ?_
  refine z_iload_n X 0 dX7_setOutside_20 rfl rfl ?_
  refine z_iret X rfl rfl (Nat.le_of_ble_eq_true rfl) (Nat.le_of_ble_eq_true rfl) dX7_setOutside_21 ?_
  subst hi_1
  exact ⟨_, rfl, hz0, rfl, rfl⟩

set_option maxRecDepth 100000 in
set_option maxHeartbeats 4000000 in
theorem c_X7_setLimits (l : Launch) (hl0 : l.stackTraces = false) (n : Nat → Nat) (i x : Nat → Nat → Int32) (lm : Nat → Nat → Int64) (y : Nat → Nat → Nat) (ol : Int64) (od : UInt64) (hW : cW n i y) (r : Int32) (a : Int32) (b : Int32) : zS l yX7_setLimits wsX7_setLimits 10 175 4 40 [.ref 1, .int r, .int a, .int b] (cmm n i x lm y ol od) (zpi (fun v9 M1 => (cl r < n 5 ∧ r = nI (cl r)) ∧ (zin a (-300) 300 ∧ zin b a 300) ∧ v9 = i 105 (cl r) ∧ M1 = cmm n (zup (zup i 105 (cl r) a) 106 (cl r) b) x lm y ol od)) (fun E => (E = "java/lang/IndexOutOfBoundsException" ∧ ¬ (cl r < n 5 ∧ r = nI (cl r))) ∨ (E = "java/lang/IllegalArgumentException" ∧ (cl r < n 5 ∧ r = nI (cl r)) ∧ ¬ (zin a (-300) 300 ∧ zin b a 300))) := by
  refine z_intro (cc := cX7_setLimits) (maxL := 6) (ret := (some .int)) (by decide +kernel) rfl (Nat.le_of_ble_eq_true rfl) ?_
  have hlk_79 : Cond.fieldLink RX7 79 "ColdStore$Room" "lower" "I" ∈ wsX7_setLimits := by decide +kernel
  have hlk_82 : Cond.fieldLink RX7 82 "ColdStore$Room" "upper" "I" ∈ wsX7_setLimits := by decide +kernel
  intro g X
  show zE g 6 0 [(0, .ref 1), (1, .int r), (2, .int a), (3, .int b)] [] (cmm n i x lm y ol od) 0 0
  obtain ⟨⟨hn0, hn1, hn2, hn3⟩, ⟨hb5, hb6, hb7, hb8⟩, hp9, hs9, ho9⟩ := hW
  refine z_aload_n X 0 dX7_setLimits_0 rfl rfl ?_
  refine z_iload_n X 1 dX7_setLimits_1 rfl rfl ?_
  refine z_callVr (As := [.int r]) (rest := []) (n1 := 1) (ci := 10) X dX7_setLimits_2 (c_X7_findRoom l hl0 n i x lm y ol od ⟨by omega, by omega⟩ r) gX7_setLimits_X7_findRoom rfl rfl (by decide +kernel) ⟨by decide, by decide⟩ ck_1 rfl rfl (Nat.le_of_ble_eq_true rfl) ⟨by decide, by decide⟩ (fun E h => ⟨Or.inl (⟨h.1, find_no (by omega) h.2⟩), rfl⟩) ?_
  rintro _ _ ⟨rfl, rfl, hf0, hg0⟩
  refine z_astore (ls' := [(4, .ref (32 * (cl r) + 8)), (0, .ref 1), (1, .int r), (2, .int a), (3, .int b)]) X dX7_setLimits_5 (by decide) rfl ?_
  refine z_iload_n X 3 dX7_setLimits_7 rfl rfl ?_
  refine z_sipush (v := (-300)) X dX7_setLimits_8 (by decide) ?_
  refine z_sipush (v := 300) X dX7_setLimits_11 (by decide) ?_
  refine z_callSv (As := [.int a, .int (-300), .int 300]) (rest := []) (n1 := 3) X dX7_setLimits_14 (c_X7_requireRange l hl0 (cmm n i x lm y ol od) a (-300) 300) gX7_setLimits_X7_requireRange rfl rfl (by decide +kernel) ⟨by decide, by decide⟩ rfl (Nat.le_of_ble_eq_true rfl) ⟨by decide, by decide⟩ (fun E h => ⟨Or.inr (⟨h.1, ⟨hf0, hg0⟩, fun h9 => h.2 h9.1⟩), rfl⟩) ?_
  rintro _ ⟨rfl, hz1⟩
  refine z_iload_n X 4 dX7_setLimits_17 rfl rfl ?_
  refine z_iload_n X 3 dX7_setLimits_18 rfl rfl ?_
  refine z_sipush (v := 300) X dX7_setLimits_19 (by decide) ?_
  refine z_callSv (As := [.int b, .int a, .int 300]) (rest := []) (n1 := 3) X dX7_setLimits_22 (c_X7_requireRange l hl0 (cmm n i x lm y ol od) b a 300) gX7_setLimits_X7_requireRange rfl rfl (by decide +kernel) ⟨by decide, by decide⟩ rfl (Nat.le_of_ble_eq_true rfl) ⟨by decide, by decide⟩ (fun E h => ⟨Or.inr (⟨h.1, ⟨hf0, hg0⟩, fun h9 => h.2 h9.2⟩), rfl⟩) ?_
  rintro _ ⟨rfl, hz2⟩
  refine z_aload X 0 dX7_setLimits_25 rfl ?_
  refine z_getI (ci := 8) (j := 5) (x := i 105 (cl r)) X dX7_setLimits_27 (ck_8 (by omega)) rfl (by decide) hlk_79 (Or.inl rfl) (fun _ => rfl) (ci_8_5) ?_
  refine z_istore (ls' := [(5, .int (i 105 (cl r))), (4, .ref (32 * (cl r) + 8)), (0, .ref 1), (1, .int r), (2, .int a), (3, .int b)]) X dX7_setLimits_30 (by decide) rfl ?_
  refine z_aload X 1 dX7_setLimits_32 rfl ?_
  refine z_iload_n X 4 dX7_setLimits_34 rfl rfl ?_
  refine z_putI (ci := 8) (j := 5) X dX7_setLimits_35 (ck_8 (by omega)) rfl (by decide) hlk_79 (Or.inl rfl) (Or.inl rfl) (fun _ => rfl) rfl rfl ?_
  obtain ⟨i_1, hi_1⟩ : ∃ q, q = zup i 105 (cl r) a := ⟨_, rfl⟩
  refine z_mem (M' := cmm n i_1 x lm y ol od) (by rw [hi_1]; exact cw_i 8 5 105) ?_
  refine z_aload X 1 dX7_setLimits_38 rfl ?_
  refine z_iload_n X 5 dX7_setLimits_40 rfl rfl ?_
  refine z_putI (ci := 8) (j := 6) X dX7_setLimits_41 (ck_8 (by omega)) rfl (by decide) hlk_82 (Or.inl rfl) (Or.inl rfl) (fun _ => rfl) rfl rfl ?_
  obtain ⟨i_2, hi_2⟩ : ∃ q, q = zup i_1 106 (cl r) b := ⟨_, rfl⟩
  refine z_mem (M' := cmm n i_2 x lm y ol od) (by rw [hi_2]; exact cw_i 8 6 106) ?_
  refine z_iload X 0 dX7_setLimits_44 rfl ?_
  refine z_iret X rfl rfl (Nat.le_of_ble_eq_true rfl) (Nat.le_of_ble_eq_true rfl) dX7_setLimits_46 ?_
  subst hi_2
  subst hi_1
  exact ⟨_, rfl, ⟨hf0, hg0⟩, ⟨hz1, hz2⟩, rfl, rfl⟩

set_option maxRecDepth 100000 in
set_option maxHeartbeats 4000000 in
theorem c_X7_setMode (l : Launch) (hl0 : l.stackTraces = false) (n : Nat → Nat) (i x : Nat → Nat → Int32) (lm : Nat → Nat → Int64) (y : Nat → Nat → Nat) (ol : Int64) (od : UInt64) (hW : cW n i y) (r : Int32) (m : Int32) (hm : narrow .char (.int m) = .int m) (hrow : ∀ j, narrow .char (.int (i 109 j)) = .int (i 109 j)) : zS l yX7_setMode wsX7_setMode 10 175 4 40 [.ref 1, .int r, .int m] (cmm n i x lm y ol od) (zpi (fun v9 M1 => (cl r < n 5 ∧ r = nI (cl r)) ∧ (m = 97 ∨ m = 111 ∨ m = 110) ∧ v9 = i 109 (cl r) ∧ M1 = cmm n (zup i 109 (cl r) m) x lm y ol od)) (fun E => (E = "java/lang/IndexOutOfBoundsException" ∧ ¬ (cl r < n 5 ∧ r = nI (cl r))) ∨ (E = "java/lang/IllegalArgumentException" ∧ (cl r < n 5 ∧ r = nI (cl r)) ∧ ¬ (m = 97 ∨ m = 111 ∨ m = 110))) := by
  refine z_intro (cc := cX7_setMode) (maxL := 5) (ret := (some .char)) (by decide +kernel) rfl (Nat.le_of_ble_eq_true rfl) ?_
  have hlk_90 : Cond.fieldLink RX7 90 "ColdStore$Room" "mode" "C" ∈ wsX7_setMode := by decide +kernel
  intro g X
  show zE g 5 0 [(0, .ref 1), (1, .int r), (2, .int m)] [] (cmm n i x lm y ol od) 0 0
  obtain ⟨⟨hn0, hn1, hn2, hn3⟩, ⟨hb5, hb6, hb7, hb8⟩, hp9, hs9, ho9⟩ := hW
  refine z_aload_n X 0 dX7_setMode_0 rfl rfl ?_
  refine z_iload_n X 1 dX7_setMode_1 rfl rfl ?_
  refine z_callVr (As := [.int r]) (rest := []) (n1 := 1) (ci := 10) X dX7_setMode_2 (c_X7_findRoom l hl0 n i x lm y ol od ⟨by omega, by omega⟩ r) gX7_setMode_X7_findRoom rfl rfl (by decide +kernel) ⟨by decide, by decide⟩ ck_1 rfl rfl (Nat.le_of_ble_eq_true rfl) ⟨by decide, by decide⟩ (fun E h => ⟨Or.inl (⟨h.1, find_no (by omega) h.2⟩), rfl⟩) ?_
  rintro _ _ ⟨rfl, rfl, hf0, hg0⟩
  refine z_astore_n (ls' := [(3, .ref (32 * (cl r) + 8)), (0, .ref 1), (1, .int r), (2, .int m)]) X dX7_setMode_5 rfl (by decide) rfl ?_
  refine z_iload_n X 3 dX7_setMode_6 rfl rfl ?_
  refine z_bipush (v := 97) X dX7_setMode_7 (by decide) ?_
  refine z_icmp_eq X 34 dX7_setMode_9 (by decide) (fun c_9 => ?_) (fun c_9 => ?_)
  · skip
    refine z_aload_n X 0 dX7_setMode_34 rfl rfl ?_
    refine z_getI (ci := 8) (j := 7) (x := i 109 (cl r)) X dX7_setMode_35 (ck_8 (by omega)) rfl (by decide) hlk_90 (Or.inl rfl) (fun _ => rfl) (ci_8_7) ?_
    refine z_istore (ls' := [(4, .int (i 109 (cl r))), (3, .ref (32 * (cl r) + 8)), (0, .ref 1), (1, .int r), (2, .int m)]) X dX7_setMode_38 (by decide) rfl ?_
    refine z_aload_n X 1 dX7_setMode_40 rfl rfl ?_
    refine z_iload_n X 4 dX7_setMode_41 rfl rfl ?_
    refine z_putI (ci := 8) (j := 7) X dX7_setMode_42 (ck_8 (by omega)) rfl (by decide) hlk_90 (Or.inl rfl) (Or.inl rfl) (fun _ => rfl) (hm) (by first | (rw [c_9]; rfl) | (rw [c_15]; rfl) | (rw [c_21]; rfl)) ?_
    obtain ⟨i_1, hi_1⟩ : ∃ q, q = zup i 109 (cl r) m := ⟨_, rfl⟩
    refine z_mem (M' := cmm n i_1 x lm y ol od) (by rw [hi_1]; exact cw_i 8 7 109) ?_
    refine z_iload X 0 dX7_setMode_45 rfl ?_
    refine z_iret X rfl (hrow _) (Nat.le_of_ble_eq_true rfl) (Nat.le_of_ble_eq_true rfl) dX7_setMode_47 ?_
    subst hi_1
    exact ⟨_, rfl, ⟨hf0, hg0⟩, (by first | exact Or.inl (by assumption) | exact Or.inr (Or.inl (by assumption)) | exact Or.inr (Or.inr (by assumption))), rfl, rfl⟩
  · skip
    refine z_iload_n X 3 dX7_setMode_12 rfl rfl ?_
    refine z_bipush (v := 111) X dX7_setMode_13 (by decide) ?_
    refine z_icmp_eq X 34 dX7_setMode_15 (by decide) (fun c_15 => ?_) (fun c_15 => ?_)
    · skip
      refine z_aload_n X 0 dX7_setMode_34 rfl rfl ?_
      refine z_getI (ci := 8) (j := 7) (x := i 109 (cl r)) X dX7_setMode_35 (ck_8 (by omega)) rfl (by decide) hlk_90 (Or.inl rfl) (fun _ => rfl) (ci_8_7) ?_
      refine z_istore (ls' := [(4, .int (i 109 (cl r))), (3, .ref (32 * (cl r) + 8)), (0, .ref 1), (1, .int r), (2, .int m)]) X dX7_setMode_38 (by decide) rfl ?_
      refine z_aload_n X 1 dX7_setMode_40 rfl rfl ?_
      refine z_iload_n X 4 dX7_setMode_41 rfl rfl ?_
      refine z_putI (ci := 8) (j := 7) X dX7_setMode_42 (ck_8 (by omega)) rfl (by decide) hlk_90 (Or.inl rfl) (Or.inl rfl) (fun _ => rfl) (hm) (by first | (rw [c_9]; rfl) | (rw [c_15]; rfl) | (rw [c_21]; rfl)) ?_
      obtain ⟨i_2, hi_2⟩ : ∃ q, q = zup i 109 (cl r) m := ⟨_, rfl⟩
      refine z_mem (M' := cmm n i_2 x lm y ol od) (by rw [hi_2]; exact cw_i 8 7 109) ?_
      refine z_iload X 0 dX7_setMode_45 rfl ?_
      refine z_iret X rfl (hrow _) (Nat.le_of_ble_eq_true rfl) (Nat.le_of_ble_eq_true rfl) dX7_setMode_47 ?_
      subst hi_2
      exact ⟨_, rfl, ⟨hf0, hg0⟩, (by first | exact Or.inl (by assumption) | exact Or.inr (Or.inl (by assumption)) | exact Or.inr (Or.inr (by assumption))), rfl, rfl⟩
    · skip
      refine z_iload_n X 3 dX7_setMode_18 rfl rfl ?_
      refine z_bipush (v := 110) X dX7_setMode_19 (by decide) ?_
      refine z_icmp_eq X 34 dX7_setMode_21 (by decide) (fun c_21 => ?_) (fun c_21 => ?_)
      · skip
        refine z_aload_n X 0 dX7_setMode_34 rfl rfl ?_
        refine z_getI (ci := 8) (j := 7) (x := i 109 (cl r)) X dX7_setMode_35 (ck_8 (by omega)) rfl (by decide) hlk_90 (Or.inl rfl) (fun _ => rfl) (ci_8_7) ?_
        refine z_istore (ls' := [(4, .int (i 109 (cl r))), (3, .ref (32 * (cl r) + 8)), (0, .ref 1), (1, .int r), (2, .int m)]) X dX7_setMode_38 (by decide) rfl ?_
        refine z_aload_n X 1 dX7_setMode_40 rfl rfl ?_
        refine z_iload_n X 4 dX7_setMode_41 rfl rfl ?_
        refine z_putI (ci := 8) (j := 7) X dX7_setMode_42 (ck_8 (by omega)) rfl (by decide) hlk_90 (Or.inl rfl) (Or.inl rfl) (fun _ => rfl) (hm) (by first | (rw [c_9]; rfl) | (rw [c_15]; rfl) | (rw [c_21]; rfl)) ?_
        obtain ⟨i_3, hi_3⟩ : ∃ q, q = zup i 109 (cl r) m := ⟨_, rfl⟩
        refine z_mem (M' := cmm n i_3 x lm y ol od) (by rw [hi_3]; exact cw_i 8 7 109) ?_
        refine z_iload X 0 dX7_setMode_45 rfl ?_
        refine z_iret X rfl (hrow _) (Nat.le_of_ble_eq_true rfl) (Nat.le_of_ble_eq_true rfl) dX7_setMode_47 ?_
        subst hi_3
        exact ⟨_, rfl, ⟨hf0, hg0⟩, (by first | exact Or.inl (by assumption) | exact Or.inr (Or.inl (by assumption)) | exact Or.inr (Or.inr (by assumption))), rfl, rfl⟩
      · skip
        exact z_throwS X hl0 (cls := "java/lang/IllegalArgumentException") (text := "there is no such mode") (ik := 85) (is := 87) (ic := 89) (by decide +kernel) (by decide +kernel) (by decide +kernel) rfl dX7_setMode_24 dX7_setMode_27 dX7_setMode_28 dX7_setMode_30 dX7_setMode_33 (by decide) (by decide) ⟨by decide, by decide⟩ rfl (Or.inr (⟨rfl, ⟨hf0, hg0⟩, fun h9 => h9.elim c_9 (fun h9 => h9.elim c_15 c_21)⟩))

set_option maxRecDepth 100000 in
set_option maxHeartbeats 4000000 in
theorem c_X7_setLead (l : Launch) (hl0 : l.stackTraces = false) (n : Nat → Nat) (i x : Nat → Nat → Int32) (lm : Nat → Nat → Int64) (y : Nat → Nat → Nat) (ol : Int64) (od : UInt64) (hW : cW n i y) (r : Int32) (a : Int32) (b : Int32) : zS l yX7_setLead wsX7_setLead 10 175 4 40 [.ref 1, .int r, .int a, .int b] (cmm n i x lm y ol od) (zpi (fun v9 M1 => (cl r < n 5 ∧ r = nI (cl r)) ∧ (zin a 0 16 ∧ zin b 0 100) ∧ v9 = i 107 (cl r) ∧ M1 = cmm n (zup (zup i 107 (cl r) a) 108 (cl r) b) x lm y ol od)) (fun E => (E = "java/lang/IndexOutOfBoundsException" ∧ ¬ (cl r < n 5 ∧ r = nI (cl r))) ∨ (E = "java/lang/IllegalArgumentException" ∧ (cl r < n 5 ∧ r = nI (cl r)) ∧ ¬ (zin a 0 16 ∧ zin b 0 100))) := by
  refine z_intro (cc := cX7_setLead) (maxL := 6) (ret := (some .int)) (by decide +kernel) rfl (Nat.le_of_ble_eq_true rfl) ?_
  have hlk_94 : Cond.fieldLink RX7 94 "ColdStore$Room" "leadTicks" "I" ∈ wsX7_setLead := by decide +kernel
  have hlk_97 : Cond.fieldLink RX7 97 "ColdStore$Room" "leadDepth" "I" ∈ wsX7_setLead := by decide +kernel
  intro g X
  show zE g 6 0 [(0, .ref 1), (1, .int r), (2, .int a), (3, .int b)] [] (cmm n i x lm y ol od) 0 0
  obtain ⟨⟨hn0, hn1, hn2, hn3⟩, ⟨hb5, hb6, hb7, hb8⟩, hp9, hs9, ho9⟩ := hW
  refine z_aload_n X 0 dX7_setLead_0 rfl rfl ?_
  refine z_iload_n X 1 dX7_setLead_1 rfl rfl ?_
  refine z_callVr (As := [.int r]) (rest := []) (n1 := 1) (ci := 10) X dX7_setLead_2 (c_X7_findRoom l hl0 n i x lm y ol od ⟨by omega, by omega⟩ r) gX7_setLead_X7_findRoom rfl rfl (by decide +kernel) ⟨by decide, by decide⟩ ck_1 rfl rfl (Nat.le_of_ble_eq_true rfl) ⟨by decide, by decide⟩ (fun E h => ⟨Or.inl (⟨h.1, find_no (by omega) h.2⟩), rfl⟩) ?_
  rintro _ _ ⟨rfl, rfl, hf0, hg0⟩
  refine z_astore (ls' := [(4, .ref (32 * (cl r) + 8)), (0, .ref 1), (1, .int r), (2, .int a), (3, .int b)]) X dX7_setLead_5 (by decide) rfl ?_
  refine z_iload_n X 3 dX7_setLead_7 rfl rfl ?_
  refine z_iconst (v := 0) X dX7_setLead_8 (by decide) ?_
  refine z_bipush (v := 16) X dX7_setLead_9 (by decide) ?_
  refine z_callSv (As := [.int a, .int 0, .int 16]) (rest := []) (n1 := 3) X dX7_setLead_11 (c_X7_requireRange l hl0 (cmm n i x lm y ol od) a 0 16) gX7_setLead_X7_requireRange rfl rfl (by decide +kernel) ⟨by decide, by decide⟩ rfl (Nat.le_of_ble_eq_true rfl) ⟨by decide, by decide⟩ (fun E h => ⟨Or.inr (⟨h.1, ⟨hf0, hg0⟩, fun h9 => h.2 h9.1⟩), rfl⟩) ?_
  rintro _ ⟨rfl, hz1⟩
  refine z_iload_n X 4 dX7_setLead_14 rfl rfl ?_
  refine z_iconst (v := 0) X dX7_setLead_15 (by decide) ?_
  refine z_bipush (v := 100) X dX7_setLead_16 (by decide) ?_
  refine z_callSv (As := [.int b, .int 0, .int 100]) (rest := []) (n1 := 3) X dX7_setLead_18 (c_X7_requireRange l hl0 (cmm n i x lm y ol od) b 0 100) gX7_setLead_X7_requireRange rfl rfl (by decide +kernel) ⟨by decide, by decide⟩ rfl (Nat.le_of_ble_eq_true rfl) ⟨by decide, by decide⟩ (fun E h => ⟨Or.inr (⟨h.1, ⟨hf0, hg0⟩, fun h9 => h.2 h9.2⟩), rfl⟩) ?_
  rintro _ ⟨rfl, hz2⟩
  refine z_aload X 0 dX7_setLead_21 rfl ?_
  refine z_getI (ci := 8) (j := 8) (x := i 107 (cl r)) X dX7_setLead_23 (ck_8 (by omega)) rfl (by decide) hlk_94 (Or.inl rfl) (fun _ => rfl) (ci_8_8) ?_
  refine z_istore (ls' := [(5, .int (i 107 (cl r))), (4, .ref (32 * (cl r) + 8)), (0, .ref 1), (1, .int r), (2, .int a), (3, .int b)]) X dX7_setLead_26 (by decide) rfl ?_
  refine z_aload X 1 dX7_setLead_28 rfl ?_
  refine z_iload_n X 4 dX7_setLead_30 rfl rfl ?_
  refine z_putI (ci := 8) (j := 8) X dX7_setLead_31 (ck_8 (by omega)) rfl (by decide) hlk_94 (Or.inl rfl) (Or.inl rfl) (fun _ => rfl) rfl rfl ?_
  obtain ⟨i_1, hi_1⟩ : ∃ q, q = zup i 107 (cl r) a := ⟨_, rfl⟩
  refine z_mem (M' := cmm n i_1 x lm y ol od) (by rw [hi_1]; exact cw_i 8 8 107) ?_
  refine z_aload X 1 dX7_setLead_34 rfl ?_
  refine z_iload_n X 5 dX7_setLead_36 rfl rfl ?_
  refine z_putI (ci := 8) (j := 9) X dX7_setLead_37 (ck_8 (by omega)) rfl (by decide) hlk_97 (Or.inl rfl) (Or.inl rfl) (fun _ => rfl) rfl rfl ?_
  obtain ⟨i_2, hi_2⟩ : ∃ q, q = zup i_1 108 (cl r) b := ⟨_, rfl⟩
  refine z_mem (M' := cmm n i_2 x lm y ol od) (by rw [hi_2]; exact cw_i 8 9 108) ?_
  refine z_iload X 0 dX7_setLead_40 rfl ?_
  refine z_iret X rfl rfl (Nat.le_of_ble_eq_true rfl) (Nat.le_of_ble_eq_true rfl) dX7_setLead_42 ?_
  subst hi_2
  subst hi_1
  exact ⟨_, rfl, ⟨hf0, hg0⟩, ⟨hz1, hz2⟩, rfl, rfl⟩

set_option maxRecDepth 100000 in
set_option maxHeartbeats 4000000 in
theorem c_X7_temperature (l : Launch) (hl0 : l.stackTraces = false) (n : Nat → Nat) (i x : Nat → Nat → Int32) (lm : Nat → Nat → Int64) (y : Nat → Nat → Nat) (ol : Int64) (od : UInt64) (hW : cW n i y) (r : Int32) : zS l yX7_temperature wsX7_temperature 10 175 4 40 [.ref 1, .int r] (cmm n i x lm y ol od) (zpi (fun v9 M1 => (cl r < n 5 ∧ r = nI (cl r)) ∧ v9 = i 110 (cl r) ∧ M1 = cmm n i x lm y ol od)) (fun E => (E = "java/lang/IndexOutOfBoundsException" ∧ ¬ (cl r < n 5 ∧ r = nI (cl r)))) := by
  refine z_intro (cc := cX7_temperature) (maxL := 2) (ret := (some .int)) (by decide +kernel) rfl (Nat.le_of_ble_eq_true rfl) ?_
  have hlk_100 : Cond.fieldLink RX7 100 "ColdStore$Room" "degrees" "I" ∈ wsX7_temperature := by decide +kernel
  intro g X
  show zE g 2 0 [(0, .ref 1), (1, .int r)] [] (cmm n i x lm y ol od) 0 0
  obtain ⟨⟨hn0, hn1, hn2, hn3⟩, ⟨hb5, hb6, hb7, hb8⟩, hp9, hs9, ho9⟩ := hW
  refine z_aload_n X 0 dX7_temperature_0 rfl rfl ?_
  refine z_iload_n X 1 dX7_temperature_1 rfl rfl ?_
  refine z_callVr (As := [.int r]) (rest := []) (n1 := 1) (ci := 10) X dX7_temperature_2 (c_X7_findRoom l hl0 n i x lm y ol od ⟨by omega, by omega⟩ r) gX7_temperature_X7_findRoom rfl rfl (by decide +kernel) ⟨by decide, by decide⟩ ck_1 rfl rfl (Nat.le_of_ble_eq_true rfl) ⟨by decide, by decide⟩ (fun E h => ⟨⟨h.1, find_no (by omega) h.2⟩, rfl⟩) ?_
  rintro _ _ ⟨rfl, rfl, hf0, hg0⟩
  refine z_getI (ci := 8) (j := 10) (x := i 110 (cl r)) X dX7_temperature_5 (ck_8 (by omega)) rfl (by decide) hlk_100 (Or.inl rfl) (fun _ => rfl) (ci_8_10) ?_
  refine z_iret X rfl rfl (Nat.le_of_ble_eq_true rfl) (Nat.le_of_ble_eq_true rfl) dX7_temperature_8 ?_
  exact ⟨_, rfl, ⟨hf0, hg0⟩, rfl, rfl⟩

set_option maxRecDepth 100000 in
set_option maxHeartbeats 4000000 in
theorem c_X7_isCooled (l : Launch) (hl0 : l.stackTraces = false) (n : Nat → Nat) (i x : Nat → Nat → Int32) (lm : Nat → Nat → Int64) (y : Nat → Nat → Nat) (ol : Int64) (od : UInt64) (hW : cW n i y) (r : Int32) (hrow : ∀ j, narrow .boolean (.int (i 112 j)) = .int (i 112 j)) : zS l yX7_isCooled wsX7_isCooled 10 175 4 40 [.ref 1, .int r] (cmm n i x lm y ol od) (zpi (fun v9 M1 => (cl r < n 5 ∧ r = nI (cl r)) ∧ v9 = i 112 (cl r) ∧ M1 = cmm n i x lm y ol od)) (fun E => (E = "java/lang/IndexOutOfBoundsException" ∧ ¬ (cl r < n 5 ∧ r = nI (cl r)))) := by
  refine z_intro (cc := cX7_isCooled) (maxL := 2) (ret := (some .boolean)) (by decide +kernel) rfl (Nat.le_of_ble_eq_true rfl) ?_
  have hlk_103 : Cond.fieldLink RX7 103 "ColdStore$Room" "cooled" "Z" ∈ wsX7_isCooled := by decide +kernel
  intro g X
  show zE g 2 0 [(0, .ref 1), (1, .int r)] [] (cmm n i x lm y ol od) 0 0
  obtain ⟨⟨hn0, hn1, hn2, hn3⟩, ⟨hb5, hb6, hb7, hb8⟩, hp9, hs9, ho9⟩ := hW
  refine z_aload_n X 0 dX7_isCooled_0 rfl rfl ?_
  refine z_iload_n X 1 dX7_isCooled_1 rfl rfl ?_
  refine z_callVr (As := [.int r]) (rest := []) (n1 := 1) (ci := 10) X dX7_isCooled_2 (c_X7_findRoom l hl0 n i x lm y ol od ⟨by omega, by omega⟩ r) gX7_isCooled_X7_findRoom rfl rfl (by decide +kernel) ⟨by decide, by decide⟩ ck_1 rfl rfl (Nat.le_of_ble_eq_true rfl) ⟨by decide, by decide⟩ (fun E h => ⟨⟨h.1, find_no (by omega) h.2⟩, rfl⟩) ?_
  rintro _ _ ⟨rfl, rfl, hf0, hg0⟩
  refine z_getI (ci := 8) (j := 13) (x := i 112 (cl r)) X dX7_isCooled_5 (ck_8 (by omega)) rfl (by decide) hlk_103 (Or.inl rfl) (fun _ => rfl) (ci_8_13) ?_
  refine z_iret X rfl (hrow _) (Nat.le_of_ble_eq_true rfl) (Nat.le_of_ble_eq_true rfl) dX7_isCooled_8 ?_
  exact ⟨_, rfl, ⟨hf0, hg0⟩, rfl, rfl⟩

set_option maxRecDepth 100000 in
set_option maxHeartbeats 4000000 in
theorem c_X7_warmest (l : Launch) (hl0 : l.stackTraces = false) (n : Nat → Nat) (i x : Nat → Nat → Int32) (lm : Nat → Nat → Int64) (y : Nat → Nat → Nat) (ol : Int64) (od : UInt64) (hW : cW n i y) (r : Int32) : zS l yX7_warmest wsX7_warmest 10 175 4 40 [.ref 1, .int r] (cmm n i x lm y ol od) (zpi (fun v9 M1 => (cl r < n 5 ∧ r = nI (cl r)) ∧ (¬ i 116 (cl r) = 0) ∧ v9 = x 5 (cl r) ∧ M1 = cmm n i x lm y ol od)) (fun E => (E = "java/lang/IndexOutOfBoundsException" ∧ ¬ (cl r < n 5 ∧ r = nI (cl r))) ∨ (E = "java/util/NoSuchElementException" ∧ (cl r < n 5 ∧ r = nI (cl r)) ∧ ¬ (¬ i 116 (cl r) = 0))) := by
  refine z_intro (cc := cX7_warmest) (maxL := 3) (ret := (some .int)) (by decide +kernel) rfl (Nat.le_of_ble_eq_true rfl) ?_
  have hlk_107 : Cond.fieldLink RX7 107 "ColdStore$Room" "ticks" "I" ∈ wsX7_warmest := by decide +kernel
  have hlk_115 : Cond.fieldLink RX7 115 "ColdStore$Room" "greatest" "I" ∈ wsX7_warmest := by decide +kernel
  intro g X
  show zE g 3 0 [(0, .ref 1), (1, .int r)] [] (cmm n i x lm y ol od) 0 0
  obtain ⟨⟨hn0, hn1, hn2, hn3⟩, ⟨hb5, hb6, hb7, hb8⟩, hp9, hs9, ho9⟩ := hW
  refine z_aload_n X 0 dX7_warmest_0 rfl rfl ?_
  refine z_iload_n X 1 dX7_warmest_1 rfl rfl ?_
  refine z_callVr (As := [.int r]) (rest := []) (n1 := 1) (ci := 10) X dX7_warmest_2 (c_X7_findRoom l hl0 n i x lm y ol od ⟨by omega, by omega⟩ r) gX7_warmest_X7_findRoom rfl rfl (by decide +kernel) ⟨by decide, by decide⟩ ck_1 rfl rfl (Nat.le_of_ble_eq_true rfl) ⟨by decide, by decide⟩ (fun E h => ⟨Or.inl (⟨h.1, find_no (by omega) h.2⟩), rfl⟩) ?_
  rintro _ _ ⟨rfl, rfl, hf0, hg0⟩
  refine z_astore_n (ls' := [(2, .ref (32 * (cl r) + 8)), (0, .ref 1), (1, .int r)]) X dX7_warmest_5 rfl (by decide) rfl ?_
  refine z_aload_n X 0 dX7_warmest_6 rfl rfl ?_
  refine z_getI (ci := 8) (j := 14) (x := i 116 (cl r)) X dX7_warmest_7 (ck_8 (by omega)) rfl (by decide) hlk_107 (Or.inl rfl) (fun _ => rfl) (ci_8_14) ?_
  refine z_if_ne X 23 dX7_warmest_10 (by decide) (fun c_10 => ?_) (fun c_10 => ?_)
  · skip
    refine z_aload_n X 0 dX7_warmest_23 rfl rfl ?_
    refine z_getI (ci := 8) (j := 16) (x := x 5 (cl r)) X dX7_warmest_24 (ck_8 (by omega)) rfl (by decide) hlk_115 (Or.inl rfl) (fun _ => rfl) (ci_8_16) ?_
    refine z_iret X rfl rfl (Nat.le_of_ble_eq_true rfl) (Nat.le_of_ble_eq_true rfl) dX7_warmest_27 ?_
    exact ⟨_, rfl, ⟨hf0, hg0⟩, c_10, rfl, rfl⟩
  · skip
    exact z_throwS X hl0 (cls := "java/util/NoSuchElementException") (text := "there was no tick since the room was added") (ik := 110) (is := 112) (ic := 114) (by decide +kernel) (by decide +kernel) (by decide +kernel) rfl dX7_warmest_13 dX7_warmest_16 dX7_warmest_17 dX7_warmest_19 dX7_warmest_22 (by decide) (by decide) ⟨by decide, by decide⟩ rfl (Or.inr (⟨rfl, ⟨hf0, hg0⟩, fun h9 => absurd (by assumption) h9⟩))

set_option maxRecDepth 100000 in
set_option maxHeartbeats 4000000 in
theorem c_X7_meanTemperature (l : Launch) (hl0 : l.stackTraces = false) (n : Nat → Nat) (i x : Nat → Nat → Int32) (lm : Nat → Nat → Int64) (y : Nat → Nat → Nat) (ol : Int64) (od : UInt64) (hW : cW n i y) (r : Int32) : zS l yX7_meanTemperature wsX7_meanTemperature 10 175 4 40 [.ref 1, .int r] (cmm n i x lm y ol od) (zpd (fun v9 M1 => (cl r < n 5 ∧ r = nI (cl r)) ∧ (¬ i 116 (cl r) = 0) ∧ v9 = FP.ddiv (FP.i2d (x 6 (cl r))) (FP.i2d (i 116 (cl r))) ∧ M1 = cmm n i x lm y ol od)) (fun E => (E = "java/lang/IndexOutOfBoundsException" ∧ ¬ (cl r < n 5 ∧ r = nI (cl r))) ∨ (E = "java/lang/ArithmeticException" ∧ (cl r < n 5 ∧ r = nI (cl r)) ∧ ¬ (¬ i 116 (cl r) = 0))) := by
  refine z_intro (cc := cX7_meanTemperature) (maxL := 3) (ret := (some .double)) (by decide +kernel) rfl (Nat.le_of_ble_eq_true rfl) ?_
  have hlk_107 : Cond.fieldLink RX7 107 "ColdStore$Room" "ticks" "I" ∈ wsX7_meanTemperature := by decide +kernel
  have hlk_121 : Cond.fieldLink RX7 121 "ColdStore$Room" "sum" "I" ∈ wsX7_meanTemperature := by decide +kernel
  intro g X
  show zE g 3 0 [(0, .ref 1), (1, .int r)] [] (cmm n i x lm y ol od) 0 0
  obtain ⟨⟨hn0, hn1, hn2, hn3⟩, ⟨hb5, hb6, hb7, hb8⟩, hp9, hs9, ho9⟩ := hW
  refine z_aload_n X 0 dX7_meanTemperature_0 rfl rfl ?_
  refine z_iload_n X 1 dX7_meanTemperature_1 rfl rfl ?_
  refine z_callVr (As := [.int r]) (rest := []) (n1 := 1) (ci := 10) X dX7_meanTemperature_2 (c_X7_findRoom l hl0 n i x lm y ol od ⟨by omega, by omega⟩ r) gX7_meanTemperature_X7_findRoom rfl rfl (by decide +kernel) ⟨by decide, by decide⟩ ck_1 rfl rfl (Nat.le_of_ble_eq_true rfl) ⟨by decide, by decide⟩ (fun E h => ⟨Or.inl (⟨h.1, find_no (by omega) h.2⟩), rfl⟩) ?_
  rintro _ _ ⟨rfl, rfl, hf0, hg0⟩
  refine z_astore_n (ls' := [(2, .ref (32 * (cl r) + 8)), (0, .ref 1), (1, .int r)]) X dX7_meanTemperature_5 rfl (by decide) rfl ?_
  refine z_aload_n X 0 dX7_meanTemperature_6 rfl rfl ?_
  refine z_getI (ci := 8) (j := 14) (x := i 116 (cl r)) X dX7_meanTemperature_7 (ck_8 (by omega)) rfl (by decide) hlk_107 (Or.inl rfl) (fun _ => rfl) (ci_8_14) ?_
  refine z_if_ne X 23 dX7_meanTemperature_10 (by decide) (fun c_10 => ?_) (fun c_10 => ?_)
  · skip
    refine z_aload_n X 0 dX7_meanTemperature_23 rfl rfl ?_
    refine z_getI (ci := 8) (j := 15) (x := x 6 (cl r)) X dX7_meanTemperature_24 (ck_8 (by omega)) rfl (by decide) hlk_121 (Or.inl rfl) (fun _ => rfl) (ci_8_15) ?_
    refine z_i2d X dX7_meanTemperature_27 ?_
    refine z_aload_n X 0 dX7_meanTemperature_28 rfl rfl ?_
    refine z_getI (ci := 8) (j := 14) (x := i 116 (cl r)) X dX7_meanTemperature_29 (ck_8 (by omega)) rfl (by decide) hlk_107 (Or.inl rfl) (fun _ => rfl) (ci_8_14) ?_
    refine z_i2d X dX7_meanTemperature_32 ?_
    refine z_ddiv X dX7_meanTemperature_33 (zf_meanI _ c_10) ?_
    refine z_dret X rfl (Nat.le_of_ble_eq_true rfl) (Nat.le_of_ble_eq_true rfl) dX7_meanTemperature_34 ?_
    exact ⟨_, rfl, ⟨hf0, hg0⟩, c_10, rfl, rfl⟩
  · skip
    exact z_throwS X hl0 (cls := "java/lang/ArithmeticException") (text := "there was no tick since the room was added") (ik := 118) (is := 112) (ic := 120) (by decide +kernel) (by decide +kernel) (by decide +kernel) rfl dX7_meanTemperature_13 dX7_meanTemperature_16 dX7_meanTemperature_17 dX7_meanTemperature_19 dX7_meanTemperature_22 (by decide) (by decide) ⟨by decide, by decide⟩ rfl (Or.inr (⟨rfl, ⟨hf0, hg0⟩, fun h9 => absurd (by assumption) h9⟩))

set_option maxRecDepth 100000 in
set_option maxHeartbeats 4000000 in
theorem c_X7_freeSpace (l : Launch) (hl0 : l.stackTraces = false) (n : Nat → Nat) (i x : Nat → Nat → Int32) (lm : Nat → Nat → Int64) (y : Nat → Nat → Nat) (ol : Int64) (od : UInt64) (hW : cW n i y) (r : Int32) : zS l yX7_freeSpace wsX7_freeSpace 10 178 4 40 [.ref 1, .int r] (cmm n i x lm y ol od) (zpi (fun v9 M1 => (cl r < n 5 ∧ r = nI (cl r)) ∧ v9 = 8 - m_filled i (nI (cl r)) (n 7) ∧ M1 = cmm n i x lm y ol od)) (fun E => (E = "java/lang/IndexOutOfBoundsException" ∧ ¬ (cl r < n 5 ∧ r = nI (cl r)))) := by
  refine z_intro (cc := cX7_freeSpace) (maxL := 2) (ret := (some .int)) (by decide +kernel) rfl (Nat.le_of_ble_eq_true rfl) ?_
  intro g X
  show zE g 2 0 [(0, .ref 1), (1, .int r)] [] (cmm n i x lm y ol od) 0 0
  obtain ⟨⟨hn0, hn1, hn2, hn3⟩, ⟨hb5, hb6, hb7, hb8⟩, hp9, hs9, ho9⟩ := hW
  refine z_aload_n X 0 dX7_freeSpace_0 rfl rfl ?_
  refine z_aload_n X 0 dX7_freeSpace_1 rfl rfl ?_
  refine z_iload_n X 1 dX7_freeSpace_2 rfl rfl ?_
  refine z_callVr (As := [.int r]) (rest := [.ref 1]) (n1 := 1) (ci := 10) X dX7_freeSpace_3 (c_X7_findRoom l hl0 n i x lm y ol od ⟨by omega, by omega⟩ r) gX7_freeSpace_X7_findRoom rfl rfl (by decide +kernel) ⟨by decide, by decide⟩ ck_1 rfl rfl (Nat.le_of_ble_eq_true rfl) ⟨by decide, by decide⟩ (fun E h => ⟨⟨h.1, find_no (by omega) h.2⟩, rfl⟩) ?_
  rintro _ _ ⟨rfl, rfl, hf0, hg0⟩
  refine z_callVi (As := [.ref (32 * (cl r) + 8)]) (rest := []) (n1 := 1) (ci := 10) X dX7_freeSpace_6 (c_X7_spaceIn l n i x lm y ol od (⟨⟨hn0, hn1, hn2, hn3⟩, ⟨hb5, hb6, hb7, hb8⟩, hp9, hs9, ho9⟩) (cl r) (by omega)) gX7_freeSpace_X7_spaceIn rfl rfl (by decide +kernel) ⟨by decide, by decide⟩ ck_1 rfl rfl (Nat.le_of_ble_eq_true rfl) ⟨by decide, by decide⟩ (fun _ h => h.elim) ?_
  rintro _ _ ⟨rfl, rfl⟩
  refine z_iret X rfl rfl (Nat.le_of_ble_eq_true rfl) (Nat.le_of_ble_eq_true rfl) dX7_freeSpace_9 ?_
  exact ⟨_, rfl, ⟨hf0, hg0⟩, rfl, rfl⟩

set_option maxRecDepth 100000 in
set_option maxHeartbeats 4000000 in
theorem c_X7_setPrices (l : Launch) (hl0 : l.stackTraces = false) (n : Nat → Nat) (i x : Nat → Nat → Int32) (lm : Nat → Nat → Int64) (y : Nat → Nat → Nat) (ol : Int64) (od : UInt64) (hW : cW n i y) (a : Int32) (b : Int32) (f : Int32) (e : Int32) : zS l yX7_setPrices wsX7_setPrices 7 112 4 40 [.ref 1, .int a, .int b, .int f, .int e] (cmm n i x lm y ol od) (zpi (fun v9 M1 => (zin a 0 1000 ∧ zin b 0 1000 ∧ zin f 0 95 ∧ zin e f 95) ∧ v9 = i 1 18 ∧ M1 = cmm n (zup (zup (zup i 1 18 a) 1 19 b) 1 21 e) (zup x 7 0 f) lm y ol od)) (fun E => (E = "java/lang/IllegalArgumentException" ∧ ¬ (zin a 0 1000 ∧ zin b 0 1000 ∧ zin f 0 95 ∧ zin e f 95))) := by
  refine z_intro (cc := cX7_setPrices) (maxL := 6) (ret := (some .int)) (by decide +kernel) rfl (Nat.le_of_ble_eq_true rfl) ?_
  have hlk_28 : Cond.fieldLink RX7 28 "ColdStore" "contract" "LColdStore$Contract;" ∈ wsX7_setPrices := by decide +kernel
  have hlk_128 : Cond.fieldLink RX7 128 "ColdStore$Contract" "normalPrice" "I" ∈ wsX7_setPrices := by decide +kernel
  have hlk_131 : Cond.fieldLink RX7 131 "ColdStore$Contract" "peakPrice" "I" ∈ wsX7_setPrices := by decide +kernel
  have hlk_134 : Cond.fieldLink RX7 134 "ColdStore$Contract" "firstPeak" "I" ∈ wsX7_setPrices := by decide +kernel
  have hlk_137 : Cond.fieldLink RX7 137 "ColdStore$Contract" "lastPeak" "I" ∈ wsX7_setPrices := by decide +kernel
  intro g X
  show zE g 6 0 [(0, .ref 1), (1, .int a), (2, .int b), (3, .int f), (4, .int e)] [] (cmm n i x lm y ol od) 0 0
  obtain ⟨⟨hn0, hn1, hn2, hn3⟩, ⟨hb5, hb6, hb7, hb8⟩, hp9, hs9, ho9⟩ := hW
  refine z_iload_n X 1 dX7_setPrices_0 rfl rfl ?_
  refine z_iconst (v := 0) X dX7_setPrices_1 (by decide) ?_
  refine z_sipush (v := 1000) X dX7_setPrices_2 (by decide) ?_
  refine z_callSv (As := [.int a, .int 0, .int 1000]) (rest := []) (n1 := 3) X dX7_setPrices_5 (c_X7_requireRange l hl0 (cmm n i x lm y ol od) a 0 1000) gX7_setPrices_X7_requireRange rfl rfl (by decide +kernel) ⟨by decide, by decide⟩ rfl (Nat.le_of_ble_eq_true rfl) ⟨by decide, by decide⟩ (fun E h => ⟨⟨h.1, fun h9 => h.2 h9.1⟩, rfl⟩) ?_
  rintro _ ⟨rfl, hz0⟩
  refine z_iload_n X 2 dX7_setPrices_8 rfl rfl ?_
  refine z_iconst (v := 0) X dX7_setPrices_9 (by decide) ?_
  refine z_sipush (v := 1000) X dX7_setPrices_10 (by decide) ?_
  refine z_callSv (As := [.int b, .int 0, .int 1000]) (rest := []) (n1 := 3) X dX7_setPrices_13 (c_X7_requireRange l hl0 (cmm n i x lm y ol od) b 0 1000) gX7_setPrices_X7_requireRange rfl rfl (by decide +kernel) ⟨by decide, by decide⟩ rfl (Nat.le_of_ble_eq_true rfl) ⟨by decide, by decide⟩ (fun E h => ⟨⟨h.1, fun h9 => h.2 h9.2.1⟩, rfl⟩) ?_
  rintro _ ⟨rfl, hz1⟩
  refine z_iload_n X 3 dX7_setPrices_16 rfl rfl ?_
  refine z_iconst (v := 0) X dX7_setPrices_17 (by decide) ?_
  refine z_bipush (v := 95) X dX7_setPrices_18 (by decide) ?_
  refine z_callSv (As := [.int f, .int 0, .int 95]) (rest := []) (n1 := 3) X dX7_setPrices_20 (c_X7_requireRange l hl0 (cmm n i x lm y ol od) f 0 95) gX7_setPrices_X7_requireRange rfl rfl (by decide +kernel) ⟨by decide, by decide⟩ rfl (Nat.le_of_ble_eq_true rfl) ⟨by decide, by decide⟩ (fun E h => ⟨⟨h.1, fun h9 => h.2 h9.2.2.1⟩, rfl⟩) ?_
  rintro _ ⟨rfl, hz2⟩
  refine z_iload X 4 dX7_setPrices_23 rfl ?_
  refine z_iload_n X 3 dX7_setPrices_25 rfl rfl ?_
  refine z_bipush (v := 95) X dX7_setPrices_26 (by decide) ?_
  refine z_callSv (As := [.int e, .int f, .int 95]) (rest := []) (n1 := 3) X dX7_setPrices_28 (c_X7_requireRange l hl0 (cmm n i x lm y ol od) e f 95) gX7_setPrices_X7_requireRange rfl rfl (by decide +kernel) ⟨by decide, by decide⟩ rfl (Nat.le_of_ble_eq_true rfl) ⟨by decide, by decide⟩ (fun E h => ⟨⟨h.1, fun h9 => h.2 h9.2.2.2⟩, rfl⟩) ?_
  rintro _ ⟨rfl, hz3⟩
  refine z_aload_n X 0 dX7_setPrices_31 rfl rfl ?_
  refine z_getR (ci := 10) (j := 4) (o' := 4) X dX7_setPrices_32 ck_1 rfl (by decide) hlk_28 (Or.inl rfl) (fun _ => rfl) (cr_1_4) ?_
  refine z_getI (ci := 3) (j := 0) (x := i 1 18) X dX7_setPrices_35 ck_4 rfl (by decide) hlk_128 (Or.inl rfl) (fun _ => rfl) (ci_4_0) ?_
  refine z_istore (ls' := [(5, .int (i 1 18)), (0, .ref 1), (1, .int a), (2, .int b), (3, .int f), (4, .int e)]) X dX7_setPrices_38 (by decide) rfl ?_
  refine z_aload_n X 1 dX7_setPrices_40 rfl rfl ?_
  refine z_getR (ci := 10) (j := 4) (o' := 4) X dX7_setPrices_41 ck_1 rfl (by decide) hlk_28 (Or.inl rfl) (fun _ => rfl) (cr_1_4) ?_
  refine z_iload_n X 2 dX7_setPrices_44 rfl rfl ?_
  refine z_putI (ci := 3) (j := 0) X dX7_setPrices_45 ck_4 rfl (by decide) hlk_128 (Or.inl rfl) (Or.inl rfl) (fun _ => rfl) rfl rfl ?_
  obtain ⟨i_1, hi_1⟩ : ∃ q, q = zup i 1 18 a := ⟨_, rfl⟩
  refine z_mem (M' := cmm n i_1 x lm y ol od) (by rw [hi_1]; exact cw_g 4 0 18) ?_
  refine z_aload_n X 1 dX7_setPrices_48 rfl rfl ?_
  refine z_getR (ci := 10) (j := 4) (o' := 4) X dX7_setPrices_49 ck_1 rfl (by decide) hlk_28 (Or.inl rfl) (fun _ => rfl) (cr_1_4) ?_
  refine z_iload_n X 3 dX7_setPrices_52 rfl rfl ?_
  refine z_putI (ci := 3) (j := 1) X dX7_setPrices_53 ck_4 rfl (by decide) hlk_131 (Or.inl rfl) (Or.inl rfl) (fun _ => rfl) rfl rfl ?_
  obtain ⟨i_2, hi_2⟩ : ∃ q, q = zup i_1 1 19 b := ⟨_, rfl⟩
  refine z_mem (M' := cmm n i_2 x lm y ol od) (by rw [hi_2]; exact cw_g 4 1 19) ?_
  refine z_aload_n X 1 dX7_setPrices_56 rfl rfl ?_
  refine z_getR (ci := 10) (j := 4) (o' := 4) X dX7_setPrices_57 ck_1 rfl (by decide) hlk_28 (Or.inl rfl) (fun _ => rfl) (cr_1_4) ?_
  refine z_iload_n X 4 dX7_setPrices_60 rfl rfl ?_
  refine z_putI (ci := 3) (j := 2) X dX7_setPrices_61 ck_4 rfl (by decide) hlk_134 (Or.inl rfl) (Or.inl rfl) (fun _ => rfl) rfl rfl ?_
  obtain ⟨x_3, hx_3⟩ : ∃ q, q = zup x 7 0 f := ⟨_, rfl⟩
  refine z_mem (M' := cmm n i_2 x_3 lm y ol od) (by rw [hx_3]; exact cw_x 4 2 7 (j := 0)) ?_
  refine z_aload_n X 1 dX7_setPrices_64 rfl rfl ?_
  refine z_getR (ci := 10) (j := 4) (o' := 4) X dX7_setPrices_65 ck_1 rfl (by decide) hlk_28 (Or.inl rfl) (fun _ => rfl) (cr_1_4) ?_
  refine z_iload X 5 dX7_setPrices_68 rfl ?_
  refine z_putI (ci := 3) (j := 3) X dX7_setPrices_70 ck_4 rfl (by decide) hlk_137 (Or.inl rfl) (Or.inl rfl) (fun _ => rfl) rfl rfl ?_
  obtain ⟨i_4, hi_4⟩ : ∃ q, q = zup i_2 1 21 e := ⟨_, rfl⟩
  refine z_mem (M' := cmm n i_4 x_3 lm y ol od) (by rw [hi_4]; exact cw_g 4 3 21) ?_
  refine z_iload X 0 dX7_setPrices_73 rfl ?_
  refine z_iret X rfl rfl (Nat.le_of_ble_eq_true rfl) (Nat.le_of_ble_eq_true rfl) dX7_setPrices_75 ?_
  subst hi_4
  subst hi_2
  subst hi_1
  subst hx_3
  exact ⟨_, rfl, ⟨hz0, hz1, hz2, hz3⟩, rfl, rfl⟩

set_option maxRecDepth 100000 in
set_option maxHeartbeats 4000000 in
theorem c_X7_setCharge (l : Launch) (hl0 : l.stackTraces = false) (n : Nat → Nat) (i x : Nat → Nat → Int32) (lm : Nat → Nat → Int64) (y : Nat → Nat → Nat) (ol : Int64) (od : UInt64) (hW : cW n i y) (a : Int32) : zS l yX7_setCharge wsX7_setCharge 7 112 4 40 [.ref 1, .int a] (cmm n i x lm y ol od) (zpi (fun v9 M1 => (zin a 0 1000) ∧ v9 = i 1 22 ∧ M1 = cmm n (zup i 1 22 a) x lm y ol od)) (fun E => (E = "java/lang/IllegalArgumentException" ∧ ¬ (zin a 0 1000))) := by
  refine z_intro (cc := cX7_setCharge) (maxL := 3) (ret := (some .int)) (by decide +kernel) rfl (Nat.le_of_ble_eq_true rfl) ?_
  have hlk_28 : Cond.fieldLink RX7 28 "ColdStore" "contract" "LColdStore$Contract;" ∈ wsX7_setCharge := by decide +kernel
  have hlk_140 : Cond.fieldLink RX7 140 "ColdStore$Contract" "charge" "I" ∈ wsX7_setCharge := by decide +kernel
  intro g X
  show zE g 3 0 [(0, .ref 1), (1, .int a)] [] (cmm n i x lm y ol od) 0 0
  obtain ⟨⟨hn0, hn1, hn2, hn3⟩, ⟨hb5, hb6, hb7, hb8⟩, hp9, hs9, ho9⟩ := hW
  refine z_iload_n X 1 dX7_setCharge_0 rfl rfl ?_
  refine z_iconst (v := 0) X dX7_setCharge_1 (by decide) ?_
  refine z_sipush (v := 1000) X dX7_setCharge_2 (by decide) ?_
  refine z_callSv (As := [.int a, .int 0, .int 1000]) (rest := []) (n1 := 3) X dX7_setCharge_5 (c_X7_requireRange l hl0 (cmm n i x lm y ol od) a 0 1000) gX7_setCharge_X7_requireRange rfl rfl (by decide +kernel) ⟨by decide, by decide⟩ rfl (Nat.le_of_ble_eq_true rfl) ⟨by decide, by decide⟩ (fun E h => ⟨⟨h.1, h.2⟩, rfl⟩) ?_
  rintro _ ⟨rfl, hz0⟩
  refine z_aload_n X 0 dX7_setCharge_8 rfl rfl ?_
  refine z_getR (ci := 10) (j := 4) (o' := 4) X dX7_setCharge_9 ck_1 rfl (by decide) hlk_28 (Or.inl rfl) (fun _ => rfl) (cr_1_4) ?_
  refine z_getI (ci := 3) (j := 4) (x := i 1 22) X dX7_setCharge_12 ck_4 rfl (by decide) hlk_140 (Or.inl rfl) (fun _ => rfl) (ci_4_4) ?_
  refine z_istore_n (ls' := [(2, .int (i 1 22)), (0, .ref 1), (1, .int a)]) X dX7_setCharge_15 rfl (by decide) rfl ?_
  refine z_aload_n X 1 dX7_setCharge_16 rfl rfl ?_
  refine z_getR (ci := 10) (j := 4) (o' := 4) X dX7_setCharge_17 ck_1 rfl (by decide) hlk_28 (Or.inl rfl) (fun _ => rfl) (cr_1_4) ?_
  refine z_iload_n X 2 dX7_setCharge_20 rfl rfl ?_
  refine z_putI (ci := 3) (j := 4) X dX7_setCharge_21 ck_4 rfl (by decide) hlk_140 (Or.inl rfl) (Or.inl rfl) (fun _ => rfl) rfl rfl ?_
  obtain ⟨i_1, hi_1⟩ : ∃ q, q = zup i 1 22 a := ⟨_, rfl⟩
  refine z_mem (M' := cmm n i_1 x lm y ol od) (by rw [hi_1]; exact cw_g 4 4 22) ?_
  refine z_iload_n X 0 dX7_setCharge_24 rfl rfl ?_
  refine z_iret X rfl rfl (Nat.le_of_ble_eq_true rfl) (Nat.le_of_ble_eq_true rfl) dX7_setCharge_25 ?_
  subst hi_1
  exact ⟨_, rfl, hz0, rfl, rfl⟩

set_option maxRecDepth 100000 in
set_option maxHeartbeats 4000000 in
theorem c_X7_setPowerLimit (l : Launch) (hl0 : l.stackTraces = false) (n : Nat → Nat) (i x : Nat → Nat → Int32) (lm : Nat → Nat → Int64) (y : Nat → Nat → Nat) (ol : Int64) (od : UInt64) (hW : cW n i y) (a : Int32) : zS l yX7_setPowerLimit wsX7_setPowerLimit 7 112 4 40 [.ref 1, .int a] (cmm n i x lm y ol od) (zpi (fun v9 M1 => (zin a 0 400) ∧ v9 = i 1 23 ∧ M1 = cmm n (zup i 1 23 a) x lm y ol od)) (fun E => (E = "java/lang/IllegalArgumentException" ∧ ¬ (zin a 0 400))) := by
  refine z_intro (cc := cX7_setPowerLimit) (maxL := 3) (ret := (some .int)) (by decide +kernel) rfl (Nat.le_of_ble_eq_true rfl) ?_
  have hlk_28 : Cond.fieldLink RX7 28 "ColdStore" "contract" "LColdStore$Contract;" ∈ wsX7_setPowerLimit := by decide +kernel
  have hlk_143 : Cond.fieldLink RX7 143 "ColdStore$Contract" "limit" "I" ∈ wsX7_setPowerLimit := by decide +kernel
  intro g X
  show zE g 3 0 [(0, .ref 1), (1, .int a)] [] (cmm n i x lm y ol od) 0 0
  obtain ⟨⟨hn0, hn1, hn2, hn3⟩, ⟨hb5, hb6, hb7, hb8⟩, hp9, hs9, ho9⟩ := hW
  refine z_iload_n X 1 dX7_setPowerLimit_0 rfl rfl ?_
  refine z_iconst (v := 0) X dX7_setPowerLimit_1 (by decide) ?_
  refine z_sipush (v := 400) X dX7_setPowerLimit_2 (by decide) ?_
  refine z_callSv (As := [.int a, .int 0, .int 400]) (rest := []) (n1 := 3) X dX7_setPowerLimit_5 (c_X7_requireRange l hl0 (cmm n i x lm y ol od) a 0 400) gX7_setPowerLimit_X7_requireRange rfl rfl (by decide +kernel) ⟨by decide, by decide⟩ rfl (Nat.le_of_ble_eq_true rfl) ⟨by decide, by decide⟩ (fun E h => ⟨⟨h.1, h.2⟩, rfl⟩) ?_
  rintro _ ⟨rfl, hz0⟩
  refine z_aload_n X 0 dX7_setPowerLimit_8 rfl rfl ?_
  refine z_getR (ci := 10) (j := 4) (o' := 4) X dX7_setPowerLimit_9 ck_1 rfl (by decide) hlk_28 (Or.inl rfl) (fun _ => rfl) (cr_1_4) ?_
  refine z_getI (ci := 3) (j := 5) (x := i 1 23) X dX7_setPowerLimit_12 ck_4 rfl (by decide) hlk_143 (Or.inl rfl) (fun _ => rfl) (ci_4_5) ?_
  refine z_istore_n (ls' := [(2, .int (i 1 23)), (0, .ref 1), (1, .int a)]) X dX7_setPowerLimit_15 rfl (by decide) rfl ?_
  refine z_aload_n X 1 dX7_setPowerLimit_16 rfl rfl ?_
  refine z_getR (ci := 10) (j := 4) (o' := 4) X dX7_setPowerLimit_17 ck_1 rfl (by decide) hlk_28 (Or.inl rfl) (fun _ => rfl) (cr_1_4) ?_
  refine z_iload_n X 2 dX7_setPowerLimit_20 rfl rfl ?_
  refine z_putI (ci := 3) (j := 5) X dX7_setPowerLimit_21 ck_4 rfl (by decide) hlk_143 (Or.inl rfl) (Or.inl rfl) (fun _ => rfl) rfl rfl ?_
  obtain ⟨i_1, hi_1⟩ : ∃ q, q = zup i 1 23 a := ⟨_, rfl⟩
  refine z_mem (M' := cmm n i_1 x lm y ol od) (by rw [hi_1]; exact cw_g 4 5 23) ?_
  refine z_iload_n X 0 dX7_setPowerLimit_24 rfl rfl ?_
  refine z_iret X rfl rfl (Nat.le_of_ble_eq_true rfl) (Nat.le_of_ble_eq_true rfl) dX7_setPowerLimit_25 ?_
  subst hi_1
  exact ⟨_, rfl, hz0, rfl, rfl⟩

set_option maxRecDepth 100000 in
set_option maxHeartbeats 4000000 in
theorem c_X7_bill (l : Launch) (hl0 : l.stackTraces = false) (n : Nat → Nat) (i x : Nat → Nat → Int32) (lm : Nat → Nat → Int64) (y : Nat → Nat → Nat) (ol : Int64) (od : UInt64) (hW : cW n i y) : zS l yX7_bill wsX7_bill 0 0 0 0 [.ref 1] (cmm n i x lm y ol od) (zpj (fun v9 M1 => v9 = lm 1 26 + (i 1 25).toInt64 * (i 1 22).toInt64 ∧ M1 = cmm n i x lm y ol od)) zno := by
  refine z_intro (cc := cX7_bill) (maxL := 1) (ret := (some .long)) (by decide +kernel) rfl (Nat.le_of_ble_eq_true rfl) ?_
  have hlk_35 : Cond.fieldLink RX7 35 "ColdStore" "meter" "LColdStore$Meter;" ∈ wsX7_bill := by decide +kernel
  have hlk_150 : Cond.fieldLink RX7 150 "ColdStore$Meter" "costs" "J" ∈ wsX7_bill := by decide +kernel
  have hlk_149 : Cond.fieldLink RX7 149 "ColdStore$Meter" "greatest" "I" ∈ wsX7_bill := by decide +kernel
  have hlk_28 : Cond.fieldLink RX7 28 "ColdStore" "contract" "LColdStore$Contract;" ∈ wsX7_bill := by decide +kernel
  have hlk_140 : Cond.fieldLink RX7 140 "ColdStore$Contract" "charge" "I" ∈ wsX7_bill := by decide +kernel
  intro g X
  show zE g 1 0 [(0, .ref 1)] [] (cmm n i x lm y ol od) 0 0
  obtain ⟨⟨hn0, hn1, hn2, hn3⟩, ⟨hb5, hb6, hb7, hb8⟩, hp9, hs9, ho9⟩ := hW
  refine z_aload_n X 0 dX7_bill_0 rfl rfl ?_
  refine z_getR (ci := 10) (j := 5) (o' := 5) X dX7_bill_1 ck_1 rfl (by decide) hlk_35 (Or.inl rfl) (fun _ => rfl) (cr_1_5) ?_
  refine z_getL (ci := 5) (j := 4) (x := lm 1 26) X dX7_bill_4 ck_5 rfl (by decide) hlk_150 (Or.inl rfl) (fun _ => rfl) (cl_5_4) ?_
  refine z_aload_n X 0 dX7_bill_7 rfl rfl ?_
  refine z_getR (ci := 10) (j := 5) (o' := 5) X dX7_bill_8 ck_1 rfl (by decide) hlk_35 (Or.inl rfl) (fun _ => rfl) (cr_1_5) ?_
  refine z_getI (ci := 5) (j := 3) (x := i 1 25) X dX7_bill_11 ck_5 rfl (by decide) hlk_149 (Or.inl rfl) (fun _ => rfl) (ci_5_3) ?_
  refine z_i2l X dX7_bill_14 ?_
  refine z_aload_n X 0 dX7_bill_15 rfl rfl ?_
  refine z_getR (ci := 10) (j := 4) (o' := 4) X dX7_bill_16 ck_1 rfl (by decide) hlk_28 (Or.inl rfl) (fun _ => rfl) (cr_1_4) ?_
  refine z_getI (ci := 3) (j := 4) (x := i 1 22) X dX7_bill_19 ck_4 rfl (by decide) hlk_140 (Or.inl rfl) (fun _ => rfl) (ci_4_4) ?_
  refine z_i2l X dX7_bill_22 ?_
  refine z_lmul X dX7_bill_23 ?_
  refine z_ladd X dX7_bill_24 ?_
  refine z_lret X rfl (Nat.le_of_ble_eq_true rfl) (Nat.le_of_ble_eq_true rfl) dX7_bill_25 ?_
  exact ⟨_, rfl, rfl, rfl⟩

set_option maxRecDepth 100000 in
set_option maxHeartbeats 4000000 in
theorem c_X4_leave (l : Launch) (n : Nat → Nat) (i x : Nat → Nat → Int32) (lm : Nat → Nat → Int64) (y : Nat → Nat → Nat) (ol : Int64) (od : UInt64) (p : Nat) (hp : p < n 2) (s t : Int32) (hs : narrow .char (.int s) = .int s) (hs2 : fits .char (.int s) = true) : zS l yX4_leave wsX4_leave 0 0 0 0 [.ref (32 * p + 11), .int s, .int t] (cmm n i x lm y ol od) (zpv (fun M1 => M1 = cmm n (zup i 134 p s) (zup x 3 p t) lm y ol od)) zno := by
  refine z_intro (cc := cX4_leave) (maxL := 3) (ret := none) (by decide +kernel) rfl (Nat.le_of_ble_eq_true rfl) ?_
  have hlk_9 : Cond.fieldLink RX4 9 "ColdStore$Pallet" "status" "C" ∈ wsX4_leave := by decide +kernel
  have hlk_15 : Cond.fieldLink RX4 15 "ColdStore$Pallet" "leftAt" "I" ∈ wsX4_leave := by decide +kernel
  intro g X
  show zE g 3 0 [(0, .ref (32 * p + 11)), (1, .int s), (2, .int t)] [] (cmm n i x lm y ol od) 0 0
  refine z_aload_n X 0 dX4_leave_0 rfl rfl ?_
  refine z_iload_n X 1 dX4_leave_1 rfl rfl ?_
  refine z_putI (ci := 7) (j := 3) X dX4_leave_2 (ck_11 (by omega)) rfl (by decide) hlk_9 (Or.inl rfl) (Or.inl rfl) (fun _ => rfl) (hs) hs2 ?_
  obtain ⟨i_1, hi_1⟩ : ∃ q, q = zup i 134 p s := ⟨_, rfl⟩
  refine z_mem (M' := cmm n i_1 x lm y ol od) (by rw [hi_1]; exact cw_i 11 3 134) ?_
  refine z_aload_n X 0 dX4_leave_5 rfl rfl ?_
  refine z_iload_n X 2 dX4_leave_6 rfl rfl ?_
  refine z_putI (ci := 7) (j := 4) X dX4_leave_7 (ck_11 (by omega)) rfl (by decide) hlk_15 (Or.inl rfl) (Or.inl rfl) (fun _ => rfl) rfl rfl ?_
  obtain ⟨x_2, hx_2⟩ : ∃ q, q = zup x 3 p t := ⟨_, rfl⟩
  refine z_mem (M' := cmm n i_1 x_2 lm y ol od) (by rw [hx_2]; exact cw_x 11 4 3) ?_
  refine z_vret X rfl (Nat.le_of_ble_eq_true rfl) (Nat.le_of_ble_eq_true rfl) dX4_leave_10 ?_
  subst hi_1
  subst hx_2
  exact ⟨rfl, rfl⟩

set_option maxRecDepth 100000 in
set_option maxHeartbeats 4000000 in
theorem c_X7_scrap (l : Launch) (hl0 : l.stackTraces = false) (n : Nat → Nat) (i x : Nat → Nat → Int32) (lm : Nat → Nat → Int64) (y : Nat → Nat → Nat) (ol : Int64) (od : UInt64) (hW : cW n i y) (p : Int32) : zS l yX7_scrap wsX7_scrap 10 175 4 40 [.ref 1, .int p] (cmm n i x lm y ol od) (zpi (fun v9 M1 => (cl p < n 7 ∧ p = nI (cl p)) ∧ (i 134 (cl p) = 114) ∧ v9 = i 133 (cl p) ∧ M1 = cmm n (zup i 134 (cl p) 120) (zup x 3 (cl p) (i 1 0)) lm y ol od)) (fun E => (E = "java/lang/IndexOutOfBoundsException" ∧ ¬ (cl p < n 7 ∧ p = nI (cl p))) ∨ (E = "java/util/NoSuchElementException" ∧ (cl p < n 7 ∧ p = nI (cl p)) ∧ ¬ (i 134 (cl p) = 114))) := by
  refine z_intro (cc := cX7_scrap) (maxL := 3) (ret := (some .int)) (by decide +kernel) rfl (Nat.le_of_ble_eq_true rfl) ?_
  have hlk_39 : Cond.fieldLink RX7 39 "ColdStore" "time" "I" ∈ wsX7_scrap := by decide +kernel
  have hlk_212 : Cond.fieldLink RX7 212 "ColdStore$Pallet" "lifeLeft" "I" ∈ wsX7_scrap := by decide +kernel
  intro g X
  show zE g 3 0 [(0, .ref 1), (1, .int p)] [] (cmm n i x lm y ol od) 0 0
  obtain ⟨⟨hn0, hn1, hn2, hn3⟩, ⟨hb5, hb6, hb7, hb8⟩, hp9, hs9, ho9⟩ := hW
  refine z_aload_n X 0 dX7_scrap_0 rfl rfl ?_
  refine z_iload_n X 1 dX7_scrap_1 rfl rfl ?_
  refine z_callVr (As := [.int p]) (rest := []) (n1 := 1) (ci := 10) X dX7_scrap_2 (c_X7_findPallet l hl0 n i x lm y ol od ⟨by omega, by omega⟩ p) gX7_scrap_X7_findPallet rfl rfl (by decide +kernel) ⟨by decide, by decide⟩ ck_1 rfl rfl (Nat.le_of_ble_eq_true rfl) ⟨by decide, by decide⟩ (fun E h => ⟨Or.inl (⟨h.1, find_no (by omega) h.2⟩), rfl⟩) ?_
  rintro _ _ ⟨rfl, rfl, hf0, hg0⟩
  refine z_astore_n (ls' := [(2, .ref (32 * (cl p) + 11)), (0, .ref 1), (1, .int p)]) X dX7_scrap_5 rfl (by decide) rfl ?_
  refine z_aload_n X 0 dX7_scrap_6 rfl rfl ?_
  refine z_callSv (As := [.ref (32 * (cl p) + 11)]) (rest := []) (n1 := 1) X dX7_scrap_7 (c_X7_requireInRoom l hl0 n i x lm y ol od (⟨⟨hn0, hn1, hn2, hn3⟩, ⟨hb5, hb6, hb7, hb8⟩, hp9, hs9, ho9⟩) (cl p) (by omega)) gX7_scrap_X7_requireInRoom rfl rfl (by decide +kernel) ⟨by decide, by decide⟩ rfl (Nat.le_of_ble_eq_true rfl) ⟨by decide, by decide⟩ (fun E h => ⟨Or.inr (⟨h.1, ⟨hf0, hg0⟩, h.2⟩), rfl⟩) ?_
  rintro _ ⟨rfl, hz1⟩
  refine z_aload_n X 0 dX7_scrap_10 rfl rfl ?_
  refine z_bipush (v := 120) X dX7_scrap_11 (by decide) ?_
  refine z_aload_n X 1 dX7_scrap_13 rfl rfl ?_
  refine z_getI (ci := 10) (j := 6) (x := i 1 0) X dX7_scrap_14 ck_1 rfl (by decide) hlk_39 (Or.inl rfl) (fun _ => rfl) (ci_1_6) ?_
  refine z_callVv (As := [.int 120, .int (i 1 0)]) (rest := []) (n1 := 2) (ci := 7) X dX7_scrap_17 (c_X4_leave l n i x lm y ol od (cl p) (by omega) 120 (i 1 0) rfl rfl) gX7_scrap_X4_leave rfl rfl (by decide +kernel) ⟨by decide, by decide⟩ (ck_11 (by omega)) rfl rfl (Nat.le_of_ble_eq_true rfl) ⟨by decide, by decide⟩ (fun _ h => h.elim) ?_
  rintro _ rfl
  obtain ⟨i_1, hi_1⟩ : ∃ q, q = zup i 134 (cl p) 120 := ⟨_, rfl⟩
  obtain ⟨x_2, hx_2⟩ : ∃ q, q = zup x 3 (cl p) (i 1 0) := ⟨_, rfl⟩
  refine z_mem (M' := cmm n i_1 x_2 lm y ol od) (by rw [hi_1, hx_2]) ?_
  refine z_aload_n X 0 dX7_scrap_20 rfl rfl ?_
  refine z_getI (ci := 7) (j := 5) (x := i 133 (cl p)) X dX7_scrap_21 (ck_11 (by omega)) rfl (by decide) hlk_212 (Or.inl rfl) (fun _ => rfl) (by rw [ci_11_5]; rw [hi_1, zup_n (by omega)]) ?_
  refine z_iret X rfl rfl (Nat.le_of_ble_eq_true rfl) (Nat.le_of_ble_eq_true rfl) dX7_scrap_24 ?_
  subst hi_1
  subst hx_2
  exact ⟨_, rfl, ⟨hf0, hg0⟩, hz1, rfl, rfl⟩

set_option maxRecDepth 100000 in
set_option maxHeartbeats 4000000 in
theorem c_X7_state (l : Launch) (hl0 : l.stackTraces = false) (n : Nat → Nat) (i x : Nat → Nat → Int32) (lm : Nat → Nat → Int64) (y : Nat → Nat → Nat) (ol : Int64) (od : UInt64) (hW : cW n i y) (p : Int32) (hrow : ∀ j, narrow .char (.int (i 134 j)) = .int (i 134 j)) : zS l yX7_state wsX7_state 10 175 4 40 [.ref 1, .int p] (cmm n i x lm y ol od) (zpi (fun v9 M1 => (cl p < n 7 ∧ p = nI (cl p)) ∧ v9 = i 134 (cl p) ∧ M1 = cmm n i x lm y ol od)) (fun E => (E = "java/lang/IndexOutOfBoundsException" ∧ ¬ (cl p < n 7 ∧ p = nI (cl p)))) := by
  refine z_intro (cc := cX7_state) (maxL := 2) (ret := (some .char)) (by decide +kernel) rfl (Nat.le_of_ble_eq_true rfl) ?_
  have hlk_215 : Cond.fieldLink RX7 215 "ColdStore$Pallet" "status" "C" ∈ wsX7_state := by decide +kernel
  intro g X
  show zE g 2 0 [(0, .ref 1), (1, .int p)] [] (cmm n i x lm y ol od) 0 0
  obtain ⟨⟨hn0, hn1, hn2, hn3⟩, ⟨hb5, hb6, hb7, hb8⟩, hp9, hs9, ho9⟩ := hW
  refine z_aload_n X 0 dX7_state_0 rfl rfl ?_
  refine z_iload_n X 1 dX7_state_1 rfl rfl ?_
  refine z_callVr (As := [.int p]) (rest := []) (n1 := 1) (ci := 10) X dX7_state_2 (c_X7_findPallet l hl0 n i x lm y ol od ⟨by omega, by omega⟩ p) gX7_state_X7_findPallet rfl rfl (by decide +kernel) ⟨by decide, by decide⟩ ck_1 rfl rfl (Nat.le_of_ble_eq_true rfl) ⟨by decide, by decide⟩ (fun E h => ⟨⟨h.1, find_no (by omega) h.2⟩, rfl⟩) ?_
  rintro _ _ ⟨rfl, rfl, hf0, hg0⟩
  refine z_getI (ci := 7) (j := 3) (x := i 134 (cl p)) X dX7_state_5 (ck_11 (by omega)) rfl (by decide) hlk_215 (Or.inl rfl) (fun _ => rfl) (ci_11_3) ?_
  refine z_iret X rfl (hrow _) (Nat.le_of_ble_eq_true rfl) (Nat.le_of_ble_eq_true rfl) dX7_state_8 ?_
  exact ⟨_, rfl, ⟨hf0, hg0⟩, rfl, rfl⟩

set_option maxRecDepth 100000 in
set_option maxHeartbeats 4000000 in
theorem c_X7_roomOf (l : Launch) (hl0 : l.stackTraces = false) (n : Nat → Nat) (i x : Nat → Nat → Int32) (lm : Nat → Nat → Int64) (y : Nat → Nat → Nat) (ol : Int64) (od : UInt64) (hW : cW n i y) (p : Int32) : zS l yX7_roomOf wsX7_roomOf 10 175 4 40 [.ref 1, .int p] (cmm n i x lm y ol od) (zpi (fun v9 M1 => (cl p < n 7 ∧ p = nI (cl p)) ∧ (i 134 (cl p) = 114) ∧ v9 = i 132 (cl p) ∧ M1 = cmm n i x lm y ol od)) (fun E => (E = "java/lang/IndexOutOfBoundsException" ∧ ¬ (cl p < n 7 ∧ p = nI (cl p))) ∨ (E = "java/util/NoSuchElementException" ∧ (cl p < n 7 ∧ p = nI (cl p)) ∧ ¬ (i 134 (cl p) = 114))) := by
  refine z_intro (cc := cX7_roomOf) (maxL := 3) (ret := (some .int)) (by decide +kernel) rfl (Nat.le_of_ble_eq_true rfl) ?_
  have hlk_191 : Cond.fieldLink RX7 191 "ColdStore$Pallet" "stay" "LColdStore$Stay;" ∈ wsX7_roomOf := by decide +kernel
  have hlk_195 : Cond.fieldLink RX7 195 "ColdStore$Stay" "room" "LColdStore$Room;" ∈ wsX7_roomOf := by decide +kernel
  have hlk_205 : Cond.fieldLink RX7 205 "ColdStore$Room" "number" "I" ∈ wsX7_roomOf := by decide +kernel
  intro g X
  show zE g 3 0 [(0, .ref 1), (1, .int p)] [] (cmm n i x lm y ol od) 0 0
  obtain ⟨⟨hn0, hn1, hn2, hn3⟩, ⟨hb5, hb6, hb7, hb8⟩, hp9, hs9, ho9⟩ := hW
  refine z_aload_n X 0 dX7_roomOf_0 rfl rfl ?_
  refine z_iload_n X 1 dX7_roomOf_1 rfl rfl ?_
  refine z_callVr (As := [.int p]) (rest := []) (n1 := 1) (ci := 10) X dX7_roomOf_2 (c_X7_findPallet l hl0 n i x lm y ol od ⟨by omega, by omega⟩ p) gX7_roomOf_X7_findPallet rfl rfl (by decide +kernel) ⟨by decide, by decide⟩ ck_1 rfl rfl (Nat.le_of_ble_eq_true rfl) ⟨by decide, by decide⟩ (fun E h => ⟨Or.inl (⟨h.1, find_no (by omega) h.2⟩), rfl⟩) ?_
  rintro _ _ ⟨rfl, rfl, hf0, hg0⟩
  refine z_astore_n (ls' := [(2, .ref (32 * (cl p) + 11)), (0, .ref 1), (1, .int p)]) X dX7_roomOf_5 rfl (by decide) rfl ?_
  refine z_aload_n X 0 dX7_roomOf_6 rfl rfl ?_
  refine z_callSv (As := [.ref (32 * (cl p) + 11)]) (rest := []) (n1 := 1) X dX7_roomOf_7 (c_X7_requireInRoom l hl0 n i x lm y ol od (⟨⟨hn0, hn1, hn2, hn3⟩, ⟨hb5, hb6, hb7, hb8⟩, hp9, hs9, ho9⟩) (cl p) (by omega)) gX7_roomOf_X7_requireInRoom rfl rfl (by decide +kernel) ⟨by decide, by decide⟩ rfl (Nat.le_of_ble_eq_true rfl) ⟨by decide, by decide⟩ (fun E h => ⟨Or.inr (⟨h.1, ⟨hf0, hg0⟩, h.2⟩), rfl⟩) ?_
  rintro _ ⟨rfl, hz1⟩
  refine z_aload_n X 0 dX7_roomOf_10 rfl rfl ?_
  refine z_getR (ci := 7) (j := 2) (o' := 32 * (y 0 (cl p)) + 12) X dX7_roomOf_11 (ck_11 (by omega)) rfl (by decide) hlk_191 (Or.inl rfl) (fun _ => rfl) (cr_11_2) ?_
  refine z_getR (ci := 9) (j := 0) (o' := 32 * (y 1 (y 0 (cl p))) + 8) X dX7_roomOf_14 (ck_12 (by have := (hp9 (cl p) (by omega)).2.1; omega)) rfl (by decide) hlk_195 (Or.inl rfl) (fun _ => rfl) (cr_12_0) ?_
  refine z_getI (ci := 8) (j := 0) (x := nI (y 1 (y 0 (cl p)))) X dX7_roomOf_17 (ck_8 (by have := (hp9 (cl p) (by omega)).2.1; have := (hs9 (y 0 (cl p)) (by omega)).1; omega)) rfl (by decide) hlk_205 (Or.inl rfl) (fun _ => rfl) (ci_8_0) ?_
  refine z_iret X rfl rfl (Nat.le_of_ble_eq_true rfl) (Nat.le_of_ble_eq_true rfl) dX7_roomOf_20 ?_
  exact ⟨_, rfl, ⟨hf0, hg0⟩, hz1, (hp9 _ hf0).2.2.symm, rfl⟩

set_option maxRecDepth 100000 in
set_option maxHeartbeats 4000000 in
theorem c_X7_life (l : Launch) (hl0 : l.stackTraces = false) (n : Nat → Nat) (i x : Nat → Nat → Int32) (lm : Nat → Nat → Int64) (y : Nat → Nat → Nat) (ol : Int64) (od : UInt64) (hW : cW n i y) (p : Int32) : zS l yX7_life wsX7_life 10 175 4 40 [.ref 1, .int p] (cmm n i x lm y ol od) (zpi (fun v9 M1 => (cl p < n 7 ∧ p = nI (cl p)) ∧ v9 = i 133 (cl p) ∧ M1 = cmm n i x lm y ol od)) (fun E => (E = "java/lang/IndexOutOfBoundsException" ∧ ¬ (cl p < n 7 ∧ p = nI (cl p)))) := by
  refine z_intro (cc := cX7_life) (maxL := 2) (ret := (some .int)) (by decide +kernel) rfl (Nat.le_of_ble_eq_true rfl) ?_
  have hlk_212 : Cond.fieldLink RX7 212 "ColdStore$Pallet" "lifeLeft" "I" ∈ wsX7_life := by decide +kernel
  intro g X
  show zE g 2 0 [(0, .ref 1), (1, .int p)] [] (cmm n i x lm y ol od) 0 0
  obtain ⟨⟨hn0, hn1, hn2, hn3⟩, ⟨hb5, hb6, hb7, hb8⟩, hp9, hs9, ho9⟩ := hW
  refine z_aload_n X 0 dX7_life_0 rfl rfl ?_
  refine z_iload_n X 1 dX7_life_1 rfl rfl ?_
  refine z_callVr (As := [.int p]) (rest := []) (n1 := 1) (ci := 10) X dX7_life_2 (c_X7_findPallet l hl0 n i x lm y ol od ⟨by omega, by omega⟩ p) gX7_life_X7_findPallet rfl rfl (by decide +kernel) ⟨by decide, by decide⟩ ck_1 rfl rfl (Nat.le_of_ble_eq_true rfl) ⟨by decide, by decide⟩ (fun E h => ⟨⟨h.1, find_no (by omega) h.2⟩, rfl⟩) ?_
  rintro _ _ ⟨rfl, rfl, hf0, hg0⟩
  refine z_getI (ci := 7) (j := 5) (x := i 133 (cl p)) X dX7_life_5 (ck_11 (by omega)) rfl (by decide) hlk_212 (Or.inl rfl) (fun _ => rfl) (ci_11_5) ?_
  refine z_iret X rfl rfl (Nat.le_of_ble_eq_true rfl) (Nat.le_of_ble_eq_true rfl) dX7_life_8 ?_
  exact ⟨_, rfl, ⟨hf0, hg0⟩, rfl, rfl⟩

set_option maxRecDepth 100000 in
set_option maxHeartbeats 4000000 in
theorem c_X7_orderState (l : Launch) (hl0 : l.stackTraces = false) (n : Nat → Nat) (i x : Nat → Nat → Int32) (lm : Nat → Nat → Int64) (y : Nat → Nat → Nat) (ol : Int64) (od : UInt64) (hW : cW n i y) (o : Int32) (hrow : ∀ j, narrow .char (.int (i 140 j)) = .int (i 140 j)) : zS l yX7_orderState wsX7_orderState 10 175 4 40 [.ref 1, .int o] (cmm n i x lm y ol od) (zpi (fun v9 M1 => (cl o < n 8 ∧ o = nI (cl o)) ∧ v9 = i 140 (cl o) ∧ M1 = cmm n i x lm y ol od)) (fun E => (E = "java/lang/IndexOutOfBoundsException" ∧ ¬ (cl o < n 8 ∧ o = nI (cl o)))) := by
  refine z_intro (cc := cX7_orderState) (maxL := 2) (ret := (some .char)) (by decide +kernel) rfl (Nat.le_of_ble_eq_true rfl) ?_
  have hlk_269 : Cond.fieldLink RX7 269 "ColdStore$Order" "status" "C" ∈ wsX7_orderState := by decide +kernel
  intro g X
  show zE g 2 0 [(0, .ref 1), (1, .int o)] [] (cmm n i x lm y ol od) 0 0
  obtain ⟨⟨hn0, hn1, hn2, hn3⟩, ⟨hb5, hb6, hb7, hb8⟩, hp9, hs9, ho9⟩ := hW
  refine z_aload_n X 0 dX7_orderState_0 rfl rfl ?_
  refine z_iload_n X 1 dX7_orderState_1 rfl rfl ?_
  refine z_callVr (As := [.int o]) (rest := []) (n1 := 1) (ci := 10) X dX7_orderState_2 (c_X7_findOrder l hl0 n i x lm y ol od ⟨by omega, by omega⟩ o) gX7_orderState_X7_findOrder rfl rfl (by decide +kernel) ⟨by decide, by decide⟩ ck_1 rfl rfl (Nat.le_of_ble_eq_true rfl) ⟨by decide, by decide⟩ (fun E h => ⟨⟨h.1, find_no (by omega) h.2⟩, rfl⟩) ?_
  rintro _ _ ⟨rfl, rfl, hf0, hg0⟩
  refine z_getI (ci := 6) (j := 4) (x := i 140 (cl o)) X dX7_orderState_5 (ck_13 (by omega)) rfl (by decide) hlk_269 (Or.inl rfl) (fun _ => rfl) (ci_13_4) ?_
  refine z_iret X rfl (hrow _) (Nat.le_of_ble_eq_true rfl) (Nat.le_of_ble_eq_true rfl) dX7_orderState_8 ?_
  exact ⟨_, rfl, ⟨hf0, hg0⟩, rfl, rfl⟩

set_option maxRecDepth 100000 in
set_option maxHeartbeats 4000000 in
theorem c_X7_leastShipped (l : Launch) (hl0 : l.stackTraces = false) (n : Nat → Nat) (i x : Nat → Nat → Int32) (lm : Nat → Nat → Int64) (y : Nat → Nat → Nat) (ol : Int64) (od : UInt64) (hW : cW n i y) (o : Int32) : zS l yX7_leastShipped wsX7_leastShipped 10 175 4 40 [.ref 1, .int o] (cmm n i x lm y ol od) (zpi (fun v9 M1 => (cl o < n 8 ∧ o = nI (cl o)) ∧ (i 140 (cl o) = 115) ∧ v9 = i 141 (cl o) ∧ M1 = cmm n i x lm y ol od)) (fun E => (E = "java/lang/IndexOutOfBoundsException" ∧ ¬ (cl o < n 8 ∧ o = nI (cl o))) ∨ (E = "java/util/NoSuchElementException" ∧ (cl o < n 8 ∧ o = nI (cl o)) ∧ ¬ (i 140 (cl o) = 115))) := by
  refine z_intro (cc := cX7_leastShipped) (maxL := 3) (ret := (some .int)) (by decide +kernel) rfl (Nat.le_of_ble_eq_true rfl) ?_
  have hlk_269 : Cond.fieldLink RX7 269 "ColdStore$Order" "status" "C" ∈ wsX7_leastShipped := by decide +kernel
  have hlk_297 : Cond.fieldLink RX7 297 "ColdStore$Order" "leastLife" "I" ∈ wsX7_leastShipped := by decide +kernel
  intro g X
  show zE g 3 0 [(0, .ref 1), (1, .int o)] [] (cmm n i x lm y ol od) 0 0
  obtain ⟨⟨hn0, hn1, hn2, hn3⟩, ⟨hb5, hb6, hb7, hb8⟩, hp9, hs9, ho9⟩ := hW
  refine z_aload_n X 0 dX7_leastShipped_0 rfl rfl ?_
  refine z_iload_n X 1 dX7_leastShipped_1 rfl rfl ?_
  refine z_callVr (As := [.int o]) (rest := []) (n1 := 1) (ci := 10) X dX7_leastShipped_2 (c_X7_findOrder l hl0 n i x lm y ol od ⟨by omega, by omega⟩ o) gX7_leastShipped_X7_findOrder rfl rfl (by decide +kernel) ⟨by decide, by decide⟩ ck_1 rfl rfl (Nat.le_of_ble_eq_true rfl) ⟨by decide, by decide⟩ (fun E h => ⟨Or.inl (⟨h.1, find_no (by omega) h.2⟩), rfl⟩) ?_
  rintro _ _ ⟨rfl, rfl, hf0, hg0⟩
  refine z_astore_n (ls' := [(2, .ref (32 * (cl o) + 13)), (0, .ref 1), (1, .int o)]) X dX7_leastShipped_5 rfl (by decide) rfl ?_
  refine z_aload_n X 0 dX7_leastShipped_6 rfl rfl ?_
  refine z_getI (ci := 6) (j := 4) (x := i 140 (cl o)) X dX7_leastShipped_7 (ck_13 (by omega)) rfl (by decide) hlk_269 (Or.inl rfl) (fun _ => rfl) (ci_13_4) ?_
  refine z_bipush (v := 115) X dX7_leastShipped_10 (by decide) ?_
  refine z_icmp_eq X 26 dX7_leastShipped_12 (by decide) (fun c_12 => ?_) (fun c_12 => ?_)
  · skip
    refine z_aload_n X 0 dX7_leastShipped_26 rfl rfl ?_
    refine z_getI (ci := 6) (j := 5) (x := i 141 (cl o)) X dX7_leastShipped_27 (ck_13 (by omega)) rfl (by decide) hlk_297 (Or.inl rfl) (fun _ => rfl) (ci_13_5) ?_
    refine z_iret X rfl rfl (Nat.le_of_ble_eq_true rfl) (Nat.le_of_ble_eq_true rfl) dX7_leastShipped_30 ?_
    exact ⟨_, rfl, ⟨hf0, hg0⟩, (by assumption), rfl, rfl⟩
  · skip
    exact z_throwSW X hl0 (cls := "java/util/NoSuchElementException") (text := "the order is not shipped") (ik := 110) (is := 295) (ic := 114) (by decide +kernel) (by decide +kernel) (by decide +kernel) rfl dX7_leastShipped_15 dX7_leastShipped_18 dX7_leastShipped_19 dX7_leastShipped_22 dX7_leastShipped_25 (by decide) (by decide) ⟨by decide, by decide⟩ rfl (Or.inr (⟨rfl, ⟨hf0, hg0⟩, by assumption⟩))

set_option maxRecDepth 100000 in
set_option maxHeartbeats 4000000 in
theorem c_X7_candidates (l : Launch) (hl0 : l.stackTraces = false) (n : Nat → Nat) (i x : Nat → Nat → Int32) (lm : Nat → Nat → Int64) (y : Nat → Nat → Nat) (ol : Int64) (od : UInt64) (hW : cW n i y) (o : Int32) : zS l yX7_candidates wsX7_candidates 10 177 4 40 [.ref 1, .int o] (cmm n i x lm y ol od) (zpi (fun v9 M1 => (cl o < n 8 ∧ o = nI (cl o)) ∧ v9 = m_cnt i (cl o) (n 7) ∧ M1 = cmm n i x lm y ol od)) (fun E => (E = "java/lang/IndexOutOfBoundsException" ∧ ¬ (cl o < n 8 ∧ o = nI (cl o)))) := by
  refine z_intro (cc := cX7_candidates) (maxL := 2) (ret := (some .int)) (by decide +kernel) rfl (Nat.le_of_ble_eq_true rfl) ?_
  intro g X
  show zE g 2 0 [(0, .ref 1), (1, .int o)] [] (cmm n i x lm y ol od) 0 0
  obtain ⟨⟨hn0, hn1, hn2, hn3⟩, ⟨hb5, hb6, hb7, hb8⟩, hp9, hs9, ho9⟩ := hW
  refine z_aload_n X 0 dX7_candidates_0 rfl rfl ?_
  refine z_aload_n X 0 dX7_candidates_1 rfl rfl ?_
  refine z_iload_n X 1 dX7_candidates_2 rfl rfl ?_
  refine z_callVr (As := [.int o]) (rest := [.ref 1]) (n1 := 1) (ci := 10) X dX7_candidates_3 (c_X7_findOrder l hl0 n i x lm y ol od ⟨by omega, by omega⟩ o) gX7_candidates_X7_findOrder rfl rfl (by decide +kernel) ⟨by decide, by decide⟩ ck_1 rfl rfl (Nat.le_of_ble_eq_true rfl) ⟨by decide, by decide⟩ (fun E h => ⟨⟨h.1, find_no (by omega) h.2⟩, rfl⟩) ?_
  rintro _ _ ⟨rfl, rfl, hf0, hg0⟩
  refine z_callVi (As := [.ref (32 * (cl o) + 13)]) (rest := []) (n1 := 1) (ci := 10) X dX7_candidates_6 (c_X7_countCandidates l n i x lm y ol od (⟨⟨hn0, hn1, hn2, hn3⟩, ⟨hb5, hb6, hb7, hb8⟩, hp9, hs9, ho9⟩) (cl o) (by omega)) gX7_candidates_X7_countCandidates rfl rfl (by decide +kernel) ⟨by decide, by decide⟩ ck_1 rfl rfl (Nat.le_of_ble_eq_true rfl) ⟨by decide, by decide⟩ (fun _ h => h.elim) ?_
  rintro _ _ ⟨rfl, rfl⟩
  refine z_iret X rfl rfl (Nat.le_of_ble_eq_true rfl) (Nat.le_of_ble_eq_true rfl) dX7_candidates_9 ?_
  exact ⟨_, rfl, ⟨hf0, hg0⟩, rfl, rfl⟩

set_option maxRecDepth 100000 in
set_option maxHeartbeats 4000000 in
theorem c_X7_cancel (l : Launch) (hl0 : l.stackTraces = false) (n : Nat → Nat) (i x : Nat → Nat → Int32) (lm : Nat → Nat → Int64) (y : Nat → Nat → Nat) (ol : Int64) (od : UInt64) (hW : cW n i y) (o : Int32) : zS l yX7_cancel wsX7_cancel 10 176 4 40 [.ref 1, .int o] (cmm n i x lm y ol od) (zpi (fun v9 M1 => (cl o < n 8 ∧ o = nI (cl o)) ∧ (i 140 (cl o) = 111) ∧ v9 = m_openN (zup i 140 (cl o) 99) (n 8) ∧ M1 = cmm n (zup i 140 (cl o) 99) x lm y ol od)) (fun E => (E = "java/lang/IndexOutOfBoundsException" ∧ ¬ (cl o < n 8 ∧ o = nI (cl o))) ∨ (E = "java/lang/IllegalStateException" ∧ (cl o < n 8 ∧ o = nI (cl o)) ∧ ¬ (i 140 (cl o) = 111))) := by
  refine z_intro (cc := cX7_cancel) (maxL := 3) (ret := (some .int)) (by decide +kernel) rfl (Nat.le_of_ble_eq_true rfl) ?_
  have hlk_269 : Cond.fieldLink RX7 269 "ColdStore$Order" "status" "C" ∈ wsX7_cancel := by decide +kernel
  intro g X
  show zE g 3 0 [(0, .ref 1), (1, .int o)] [] (cmm n i x lm y ol od) 0 0
  obtain ⟨⟨hn0, hn1, hn2, hn3⟩, ⟨hb5, hb6, hb7, hb8⟩, hp9, hs9, ho9⟩ := hW
  refine z_aload_n X 0 dX7_cancel_0 rfl rfl ?_
  refine z_iload_n X 1 dX7_cancel_1 rfl rfl ?_
  refine z_callVr (As := [.int o]) (rest := []) (n1 := 1) (ci := 10) X dX7_cancel_2 (c_X7_findOrder l hl0 n i x lm y ol od ⟨by omega, by omega⟩ o) gX7_cancel_X7_findOrder rfl rfl (by decide +kernel) ⟨by decide, by decide⟩ ck_1 rfl rfl (Nat.le_of_ble_eq_true rfl) ⟨by decide, by decide⟩ (fun E h => ⟨Or.inl (⟨h.1, find_no (by omega) h.2⟩), rfl⟩) ?_
  rintro _ _ ⟨rfl, rfl, hf0, hg0⟩
  refine z_astore_n (ls' := [(2, .ref (32 * (cl o) + 13)), (0, .ref 1), (1, .int o)]) X dX7_cancel_5 rfl (by decide) rfl ?_
  refine z_aload_n X 0 dX7_cancel_6 rfl rfl ?_
  refine z_callSv (As := [.ref (32 * (cl o) + 13)]) (rest := []) (n1 := 1) X dX7_cancel_7 (c_X7_requireOpen l hl0 n i x lm y ol od (⟨⟨hn0, hn1, hn2, hn3⟩, ⟨hb5, hb6, hb7, hb8⟩, hp9, hs9, ho9⟩) (cl o) (by omega)) gX7_cancel_X7_requireOpen rfl rfl (by decide +kernel) ⟨by decide, by decide⟩ rfl (Nat.le_of_ble_eq_true rfl) ⟨by decide, by decide⟩ (fun E h => ⟨Or.inr (⟨h.1, ⟨hf0, hg0⟩, h.2⟩), rfl⟩) ?_
  rintro _ ⟨rfl, hz1⟩
  refine z_aload_n X 0 dX7_cancel_10 rfl rfl ?_
  refine z_bipush (v := 99) X dX7_cancel_11 (by decide) ?_
  refine z_putI (ci := 6) (j := 4) X dX7_cancel_13 (ck_13 (by omega)) rfl (by decide) hlk_269 (Or.inl rfl) (Or.inl rfl) (fun _ => rfl) (rfl) rfl ?_
  obtain ⟨i_1, hi_1⟩ : ∃ q, q = zup i 140 (cl o) 99 := ⟨_, rfl⟩
  refine z_mem (M' := cmm n i_1 x lm y ol od) (by rw [hi_1]; exact cw_i 13 4 140) ?_
  refine z_aload_n X 1 dX7_cancel_16 rfl rfl ?_
  refine z_callVi (As := []) (rest := []) (n1 := 0) (ci := 10) X dX7_cancel_17 (c_X7_countOpenOrders l n i_1 x lm y ol od (cW.of ⟨⟨hn0, hn1, hn2, hn3⟩, ⟨hb5, hb6, hb7, hb8⟩, hp9, hs9, ho9⟩ (fun b => ⟨by rw [hi_1, zup_n (by omega)], by rw [hi_1, zup_n (by omega)], by rw [hi_1, zup_n (by omega)]⟩))) gX7_cancel_X7_countOpenOrders rfl rfl (by decide +kernel) ⟨by decide, by decide⟩ ck_1 rfl rfl (Nat.le_of_ble_eq_true rfl) ⟨by decide, by decide⟩ (fun _ h => h.elim) ?_
  rintro _ _ ⟨rfl, rfl⟩
  refine z_iret X rfl rfl (Nat.le_of_ble_eq_true rfl) (Nat.le_of_ble_eq_true rfl) dX7_cancel_20 ?_
  subst hi_1
  exact ⟨_, rfl, ⟨hf0, hg0⟩, hz1, rfl, rfl⟩
