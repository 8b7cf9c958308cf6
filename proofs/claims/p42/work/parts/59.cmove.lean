/-! PART 59: movePallet -/
set_option maxRecDepth 100000 in
set_option maxHeartbeats 4000000 in
theorem c_X7_movePallet (l : Launch) (hl0 : l.stackTraces = false) (n : Nat → Nat) (i x : Nat → Nat → Int32) (lm : Nat → Nat → Int64) (y : Nat → Nat → Nat) (ol : Int64) (od : UInt64) (hW : cW n i y) (p : Int32) (r : Int32) : zS l yX7_movePallet wsX7_movePallet 11 199 8 1100 [.ref 1, .int p, .int r] (cmm n i x lm y ol od) (zpi (fun v9 M1 => (cl p < n 7 ∧ p = nI (cl p)) ∧ (cl r < n 5 ∧ r = nI (cl r)) ∧ (i 134 (cl p) = 114) ∧ (y 1 (y 0 (cl p)) = cl r ∨ 0 < 8 - m_filled i (nI (cl r)) (n 7)) ∧ v9 = i 132 (cl p) ∧ M1 = if y 1 (y 0 (cl p)) = cl r then cmm n i x lm y ol od else cmm (nup n 4 (n 4 + 1)) i (zup x 4 (n 4) (i 1 0)) lm (zup (zup (zup y 1 (n 4) (cl r)) 2 (n 4) (if x 4 (y 0 (cl p)) = i 1 0 then y 2 (y 0 (cl p)) else y 0 (cl p) + 1)) 0 (cl p) (n 4)) ol od)) (fun E => (E = "java/lang/IndexOutOfBoundsException" ∧ ¬ (cl p < n 7 ∧ p = nI (cl p))) ∨ (E = "java/lang/IndexOutOfBoundsException" ∧ (cl p < n 7 ∧ p = nI (cl p)) ∧ ¬ (cl r < n 5 ∧ r = nI (cl r))) ∨ (E = "java/util/NoSuchElementException" ∧ (cl p < n 7 ∧ p = nI (cl p)) ∧ (cl r < n 5 ∧ r = nI (cl r)) ∧ ¬ (i 134 (cl p) = 114)) ∨ (E = "java/lang/IllegalStateException" ∧ (cl p < n 7 ∧ p = nI (cl p)) ∧ (cl r < n 5 ∧ r = nI (cl r)) ∧ (i 134 (cl p) = 114) ∧ ¬ (y 1 (y 0 (cl p)) = cl r ∨ 0 < 8 - m_filled i (nI (cl r)) (n 7)))) := by
  refine z_intro (cc := cX7_movePallet) (maxL := 6) (ret := (some .int)) (by decide +kernel) rfl (Nat.le_of_ble_eq_true rfl) ?_
  have hlk_191 : Cond.fieldLink RX7 191 "ColdStore$Pallet" "stay" "LColdStore$Stay;" ∈ wsX7_movePallet := by decide +kernel
  have hlk_195 : Cond.fieldLink RX7 195 "ColdStore$Stay" "room" "LColdStore$Room;" ∈ wsX7_movePallet := by decide +kernel
  have hlk_205 : Cond.fieldLink RX7 205 "ColdStore$Room" "number" "I" ∈ wsX7_movePallet := by decide +kernel
  have hlk_39 : Cond.fieldLink RX7 39 "ColdStore" "time" "I" ∈ wsX7_movePallet := by decide +kernel
  intro g X
  show zE g 6 0 [(0, .ref 1), (1, .int p), (2, .int r)] [] (cmm n i x lm y ol od) 0 0
  obtain ⟨⟨hn0, hn1, hn2, hn3⟩, ⟨hb5, hb6, hb7, hb8⟩, hp9, hs9, ho9⟩ := hW
  refine z_aload_n X 0 dX7_movePallet_0 rfl rfl ?_
  refine z_iload_n X 1 dX7_movePallet_1 rfl rfl ?_
  refine z_callVr (As := [.int p]) (rest := []) (n1 := 1) (ci := 10) X dX7_movePallet_2 (c_X7_findPallet l hl0 n i x lm y ol od ⟨by omega, by omega⟩ p) gX7_movePallet_X7_findPallet rfl rfl (by decide +kernel) ⟨by decide, by decide⟩ ck_1 rfl rfl (Nat.le_of_ble_eq_true rfl) ⟨by decide, by decide⟩ (fun E h => ⟨Or.inl (⟨h.1, find_no (by omega) h.2⟩), rfl⟩) ?_
  rintro _ _ ⟨rfl, rfl, hf0, hg0⟩
  refine z_astore_n (ls' := [(3, .ref (32 * (cl p) + 11)), (0, .ref 1), (1, .int p), (2, .int r)]) X dX7_movePallet_5 rfl (by decide) rfl ?_
  refine z_aload_n X 1 dX7_movePallet_6 rfl rfl ?_
  refine z_iload_n X 3 dX7_movePallet_7 rfl rfl ?_
  refine z_callVr (As := [.int r]) (rest := []) (n1 := 1) (ci := 10) X dX7_movePallet_8 (c_X7_findRoom l hl0 n i x lm y ol od ⟨by omega, by omega⟩ r) gX7_movePallet_X7_findRoom rfl rfl (by decide +kernel) ⟨by decide, by decide⟩ ck_1 rfl rfl (Nat.le_of_ble_eq_true rfl) ⟨by decide, by decide⟩ (fun E h => ⟨Or.inr (Or.inl (⟨h.1, ⟨hf0, hg0⟩, find_no (by omega) h.2⟩)), rfl⟩) ?_
  rintro _ _ ⟨rfl, rfl, hf1, hg1⟩
  refine z_astore (ls' := [(4, .ref (32 * (cl r) + 8)), (3, .ref (32 * (cl p) + 11)), (0, .ref 1), (1, .int p), (2, .int r)]) X dX7_movePallet_11 (by decide) rfl ?_
  refine z_aload_n X 1 dX7_movePallet_13 rfl rfl ?_
  refine z_callSv (As := [.ref (32 * (cl p) + 11)]) (rest := []) (n1 := 1) X dX7_movePallet_14 (c_X7_requireInRoom l hl0 n i x lm y ol od (⟨⟨hn0, hn1, hn2, hn3⟩, ⟨hb5, hb6, hb7, hb8⟩, hp9, hs9, ho9⟩) (cl p) (by omega)) gX7_movePallet_X7_requireInRoom rfl rfl (by decide +kernel) ⟨by decide, by decide⟩ rfl (Nat.le_of_ble_eq_true rfl) ⟨by decide, by decide⟩ (fun E h => ⟨Or.inr (Or.inr (Or.inl (⟨h.1, ⟨hf0, hg0⟩, ⟨hf1, hg1⟩, h.2⟩))), rfl⟩) ?_
  rintro _ ⟨rfl, hz2⟩
  refine z_aload_n X 1 dX7_movePallet_17 rfl rfl ?_
  refine z_getR (ci := 7) (j := 2) (o' := 32 * (y 0 (cl p)) + 12) X dX7_movePallet_18 (ck_11 (by omega)) rfl (by decide) hlk_191 (Or.inl rfl) (fun _ => rfl) (cr_11_2) ?_
  refine z_getR (ci := 9) (j := 0) (o' := 32 * (y 1 (y 0 (cl p))) + 8) X dX7_movePallet_21 (ck_12 (by have := (hp9 (cl p) (by omega)).2.1; omega)) rfl (by decide) hlk_195 (Or.inl rfl) (fun _ => rfl) (cr_12_0) ?_
  refine z_astore (ls' := [(5, .ref (32 * (y 1 (y 0 (cl p))) + 8)), (4, .ref (32 * (cl r) + 8)), (3, .ref (32 * (cl p) + 11)), (0, .ref 1), (1, .int p), (2, .int r)]) X dX7_movePallet_24 (by decide) rfl ?_
  refine z_aload X 1 dX7_movePallet_26 rfl ?_
  refine z_aload X 0 dX7_movePallet_28 rfl ?_
  refine z_acmp_eq X 49 (by rw [(ck_8 (by omega))]; decide) (by rw [(ck_8 (by have := (hp9 (cl p) (by omega)).2.1; have := (hs9 (y 0 (cl p)) (by omega)).1; omega))]; decide) dX7_movePallet_30 (by decide) (fun c_30 => ?_) (fun c_30 => ?_)
  · skip
    refine z_aload X 0 dX7_movePallet_49 rfl ?_
    refine z_getI (ci := 8) (j := 0) (x := nI (y 1 (y 0 (cl p)))) X dX7_movePallet_51 (ck_8 (by have := (hp9 (cl p) (by omega)).2.1; have := (hs9 (y 0 (cl p)) (by omega)).1; omega)) rfl (by decide) hlk_205 (Or.inl rfl) (fun _ => rfl) (ci_8_0) ?_
    refine z_iret X rfl rfl (Nat.le_of_ble_eq_true rfl) (Nat.le_of_ble_eq_true rfl) dX7_movePallet_54 ?_
    exact ⟨_, rfl, ⟨hf0, hg0⟩, ⟨hf1, hg1⟩, hz2, Or.inl (by omega), (hp9 _ hf0).2.2.symm, (if_pos (by omega)).symm⟩
  · skip
    refine z_aload_n X 3 dX7_movePallet_33 rfl rfl ?_
    refine z_aload X 1 dX7_movePallet_34 rfl ?_
    refine z_callVv (As := [.ref (32 * (cl r) + 8)]) (rest := []) (n1 := 1) (ci := 10) X dX7_movePallet_36 (c_X7_requireSpace l hl0 n i x lm y ol od (⟨⟨hn0, hn1, hn2, hn3⟩, ⟨hb5, hb6, hb7, hb8⟩, hp9, hs9, ho9⟩) (cl r) (by omega)) gX7_movePallet_X7_requireSpace rfl rfl (by decide +kernel) ⟨by decide, by decide⟩ ck_1 rfl rfl (Nat.le_of_ble_eq_true rfl) ⟨by decide, by decide⟩ (fun E h => ⟨Or.inr (Or.inr (Or.inr (⟨h.1, ⟨hf0, hg0⟩, ⟨hf1, hg1⟩, hz2, fun h9 => h9.elim (fun e => c_30 (by rw [e])) h.2⟩))), rfl⟩) ?_
    rintro _ ⟨rfl, hz3⟩
    refine z_aload_n X 2 dX7_movePallet_39 rfl rfl ?_
    refine z_aload X 1 dX7_movePallet_40 rfl ?_
    refine z_aload_n X 3 dX7_movePallet_42 rfl rfl ?_
    refine z_getI (ci := 10) (j := 6) (x := i 1 0) X dX7_movePallet_43 ck_1 rfl (by decide) hlk_39 (Or.inl rfl) (fun _ => rfl) (ci_1_6) ?_
    refine z_callVv (As := [.ref (32 * (cl r) + 8), .int (i 1 0)]) (rest := []) (n1 := 2) (ci := 7) X dX7_movePallet_46 (c_X4_enter l n i x lm y ol od (⟨⟨hn0, hn1, hn2, hn3⟩, ⟨hb5, hb6, hb7, hb8⟩, hp9, hs9, ho9⟩) (cl p) (cl r) (by omega) (by omega) (i 1 0)) gX7_movePallet_X4_enter rfl rfl (by decide +kernel) ⟨by decide, by decide⟩ (ck_11 (by omega)) rfl rfl (Nat.le_of_ble_eq_true rfl) ⟨by decide, by decide⟩ (fun _ h => h.elim) ?_
    rintro _ ⟨rfl, rfl⟩
    refine z_aload X 0 dX7_movePallet_49 rfl ?_
    refine z_getI (ci := 8) (j := 0) (x := nI (y 1 (y 0 (cl p)))) X dX7_movePallet_51 (ck_8 (by rw [nup_n (by decide)]; have := (hp9 (cl p) (by omega)).2.1; have := (hs9 (y 0 (cl p)) (by omega)).1; omega)) rfl (by decide) hlk_205 (Or.inl rfl) (fun _ => rfl) (ci_8_0) ?_
    refine z_iret X rfl rfl (Nat.le_of_ble_eq_true rfl) (Nat.le_of_ble_eq_true rfl) dX7_movePallet_54 ?_
    exact ⟨_, rfl, ⟨hf0, hg0⟩, ⟨hf1, hg1⟩, hz2, Or.inr hz3, (hp9 _ hf0).2.2.symm, (if_neg (fun e => c_30 (by rw [e]))).symm⟩
