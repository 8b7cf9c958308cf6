/-! PART 49: the class's tick -/
def c_shift (i x : Nat → Nat → Int32) (j : Nat) (q : Int32) : Int32 := if c_peak i x q then i 108 j else if q < x 7 0 ∧ ¬ i 107 j < x 7 0 - q then -(i 108 j) else 0
def c_want (i x : Nat → Nat → Int32) (j : Nat) (q : Int32) : Int32 := if i 109 j = 111 then 1 else if i 109 j = 110 then 0 else if i 106 j + c_shift i x j q < i 110 j then 1 else if i 110 j ≤ i 105 j + c_shift i x j q then 0 else i 111 j
def c_t1 (i : Nat → Nat → Int32) (j : Nat) (o : Int32) : Int32 := if i 112 j = 0 then i 110 j + (o - i 110 j) * i 102 j / 100 else i 110 j + (o - i 110 j) * i 102 j / 100 - i 103 j
def c_t (i : Nat → Nat → Int32) (j : Nat) (o : Int32) : Int32 := if (-400) < c_t1 i j o then c_t1 i j o else -400
def c_chI (i : Nat → Nat → Int32) (j : Nat) (o : Int32) : Nat → Nat → Int32 := zup (zup i 110 j (c_t i j o)) 116 j (i 116 j + 1)
def c_chX (i x : Nat → Nat → Int32) (j : Nat) (o : Int32) (tk : Nat) : Nat → Nat → Int32 := zup (zup (zup x (10 + j) tk (c_t i j o)) 6 j (x 6 j + c_t i j o)) 5 j (if x 5 j < c_t i j o then c_t i j o else x 5 j)
def c_loss (i : Nat → Nat → Int32) (k : Nat) (d : Int32) : Int32 := if d < i 129 k then 10 else if i 128 k < d then 1 + (d - i 128 k) / 20 else 1
def c_age1 (i : Nat → Nat → Int32) (y : Nat → Nat → Nat) (p : Nat) : Int32 := if i 134 p = 114 then (if 0 < i 133 p - c_loss i (cl (i 131 p)) (i 110 (y 1 (y 0 p))) then i 133 p - c_loss i (cl (i 131 p)) (i 110 (y 1 (y 0 p))) else 0) else i 133 p
def c_recI (i : Nat → Nat → Int32) (u : Int32) : Nat → Nat → Int32 := zup (zup i 1 24 u) 1 25 (if i 1 25 < u then u else i 1 25)
def c_recX (x : Nat → Nat → Int32) (tk : Nat) (u p : Int32) : Nat → Nat → Int32 := zup (zup x 1 tk u) 2 tk p
set_option maxRecDepth 100000 in
set_option maxHeartbeats 4000000 in
theorem c_X5_decide (l : Launch) (n : Nat → Nat) (i x : Nat → Nat → Int32) (lm : Nat → Nat → Int64) (y : Nat → Nat → Nat) (ol : Int64) (od : UInt64) (j : Nat) (hj : j < n 0) (q : Int32) : zS l yX5_decide wsX5_decide 2 44 0 0 [.ref (32 * j + 8), .ref 4, .int q] (cmm n i x lm y ol od) (zpv (fun M1 => M1 = cmm n (zup i 111 j (c_want i x j q)) x lm y ol od)) zno := by
  refine z_intro (cc := cX5_decide) (maxL := 4) (ret := none) (by decide +kernel) rfl (Nat.le_of_ble_eq_true rfl) ?_
  have hlk_22 : Cond.fieldLink RX5 22 "ColdStore$Room" "mode" "C" ∈ wsX5_decide := by decide +kernel
  have hlk_63 : Cond.fieldLink RX5 63 "ColdStore$Room" "degrees" "I" ∈ wsX5_decide := by decide +kernel
  have hlk_19 : Cond.fieldLink RX5 19 "ColdStore$Room" "upper" "I" ∈ wsX5_decide := by decide +kernel
  have hlk_15 : Cond.fieldLink RX5 15 "ColdStore$Room" "lower" "I" ∈ wsX5_decide := by decide +kernel
  have hlk_32 : Cond.fieldLink RX5 32 "ColdStore$Room" "wanting" "Z" ∈ wsX5_decide := by decide +kernel
  intro g X
  show zE g 4 0 [(0, .ref (32 * j + 8)), (1, .ref 4), (2, .int q)] [] (cmm n i x lm y ol od) 0 0
  refine z_aload_n X 0 dX5_decide_0 rfl rfl ?_
  refine z_getI (ci := 8) (j := 7) (x := i 109 j) X dX5_decide_1 (ck_8 (by omega)) rfl (by decide) hlk_22 (Or.inl rfl) (fun _ => rfl) (ci_8_7) ?_
  refine z_bipush (v := 111) X dX5_decide_4 (by decide) ?_
  refine z_icmp_ne X 17 dX5_decide_6 (by decide) (fun c_6 => ?_) (fun c_6 => ?_)
  · skip
    refine z_aload_n X 0 dX5_decide_17 rfl rfl ?_
    refine z_getI (ci := 8) (j := 7) (x := i 109 j) X dX5_decide_18 (ck_8 (by omega)) rfl (by decide) hlk_22 (Or.inl rfl) (fun _ => rfl) (ci_8_7) ?_
    refine z_bipush (v := 110) X dX5_decide_21 (by decide) ?_
    refine z_icmp_ne X 34 dX5_decide_23 (by decide) (fun c_23 => ?_) (fun c_23 => ?_)
    · skip
      refine z_aload_n X 0 dX5_decide_34 rfl rfl ?_
      refine z_aload_n X 1 dX5_decide_35 rfl rfl ?_
      refine z_iload_n X 2 dX5_decide_36 rfl rfl ?_
      refine z_callVi (As := [.ref 4, .int q]) (rest := []) (n1 := 2) (ci := 8) X dX5_decide_37 (c_X5_shiftIn l n i x lm y ol od j (by omega) q) gX5_decide_X5_shiftIn rfl rfl (by decide +kernel) ⟨by decide, by decide⟩ (ck_8 (by omega)) rfl rfl (Nat.le_of_ble_eq_true rfl) ⟨by decide, by decide⟩ (fun _ h => h.elim) ?_
      rintro _ _ ⟨rfl, rfl⟩
      refine z_istore_n (ls' := [(3, .int (c_shift i x j q)), (0, .ref (32 * j + 8)), (1, .ref 4), (2, .int q)]) X dX5_decide_40 rfl (by decide) rfl ?_
      refine z_aload_n X 1 dX5_decide_41 rfl rfl ?_
      refine z_getI (ci := 8) (j := 10) (x := i 110 j) X dX5_decide_42 (ck_8 (by omega)) rfl (by decide) hlk_63 (Or.inl rfl) (fun _ => rfl) (ci_8_10) ?_
      refine z_aload_n X 1 dX5_decide_45 rfl rfl ?_
      refine z_getI (ci := 8) (j := 6) (x := i 106 j) X dX5_decide_46 (ck_8 (by omega)) rfl (by decide) hlk_19 (Or.inl rfl) (fun _ => rfl) (ci_8_6) ?_
      refine z_iload_n X 0 dX5_decide_49 rfl rfl ?_
      refine z_iadd X dX5_decide_50 ?_
      refine z_icmp_le X 62 dX5_decide_51 (by decide) (fun c_51 => ?_) (fun c_51 => ?_)
      · skip
        refine z_aload_n X 1 dX5_decide_62 rfl rfl ?_
        refine z_getI (ci := 8) (j := 10) (x := i 110 j) X dX5_decide_63 (ck_8 (by omega)) rfl (by decide) hlk_63 (Or.inl rfl) (fun _ => rfl) (ci_8_10) ?_
        refine z_aload_n X 1 dX5_decide_66 rfl rfl ?_
        refine z_getI (ci := 8) (j := 5) (x := i 105 j) X dX5_decide_67 (ck_8 (by omega)) rfl (by decide) hlk_15 (Or.inl rfl) (fun _ => rfl) (ci_8_5) ?_
        refine z_iload_n X 0 dX5_decide_70 rfl rfl ?_
        refine z_iadd X dX5_decide_71 ?_
        refine z_icmp_gt X 80 dX5_decide_72 (by decide) (fun c_72 => ?_) (fun c_72 => ?_)
        · skip
          refine z_vret X rfl (Nat.le_of_ble_eq_true rfl) (Nat.le_of_ble_eq_true rfl) dX5_decide_80 ?_
          exact ⟨rfl, by rw [show c_want i x j q = i 111 j from by unfold c_want; (try simp only [← Int32.not_lt, Classical.not_not] at c_6 c_23 c_51 c_72 ⊢); (first | rfl | (simp only [Int32.lt_irrefl, if_true, if_false, not_true_eq_false, not_false_eq_true, and_true, true_and, and_false, false_and, or_true, true_or, or_false, false_or, and_self, ite_self, zb, c_6, c_23, c_51, c_72, eq_true c_6, eq_true c_23, eq_true c_51, eq_true c_72]; done) | (simp only [Int32.lt_irrefl, if_true, if_false, not_true_eq_false, not_false_eq_true, and_true, true_and, and_false, false_and, or_true, true_or, or_false, false_or, and_self, ite_self, zb, c_6, c_23, c_51, c_72, eq_true c_6, eq_true c_23, eq_true c_51, eq_true c_72]; rfl))]; rw [zup_id]⟩
        · skip
          refine z_aload_n X 1 dX5_decide_75 rfl rfl ?_
          refine z_iconst (v := 0) X dX5_decide_76 (by decide) ?_
          refine z_putI (ci := 8) (j := 11) X dX5_decide_77 (ck_8 (by omega)) rfl (by decide) hlk_32 (Or.inl rfl) (Or.inl rfl) (fun _ => rfl) (rfl) rfl ?_
          obtain ⟨i_1, hi_1⟩ : ∃ q, q = zup i 111 j 0 := ⟨_, rfl⟩
          refine z_mem (M' := cmm n i_1 x lm y ol od) (by rw [hi_1]; exact cw_i 8 11 111) ?_
          refine z_vret X rfl (Nat.le_of_ble_eq_true rfl) (Nat.le_of_ble_eq_true rfl) dX5_decide_80 ?_
          subst hi_1
          exact ⟨rfl, by rw [show c_want i x j q = 0 from by unfold c_want; (try simp only [← Int32.not_lt, Classical.not_not] at c_6 c_23 c_51 c_72 ⊢); (first | rfl | (simp only [Int32.lt_irrefl, if_true, if_false, not_true_eq_false, not_false_eq_true, and_true, true_and, and_false, false_and, or_true, true_or, or_false, false_or, and_self, ite_self, zb, c_6, c_23, c_51, c_72, eq_true c_6, eq_true c_23, eq_true c_51, eq_true c_72]; done) | (simp only [Int32.lt_irrefl, if_true, if_false, not_true_eq_false, not_false_eq_true, and_true, true_and, and_false, false_and, or_true, true_or, or_false, false_or, and_self, ite_self, zb, c_6, c_23, c_51, c_72, eq_true c_6, eq_true c_23, eq_true c_51, eq_true c_72]; rfl))]⟩
      · skip
        refine z_aload_n X 1 dX5_decide_54 rfl rfl ?_
        refine z_iconst (v := 1) X dX5_decide_55 (by decide) ?_
        refine z_putI (ci := 8) (j := 11) X dX5_decide_56 (ck_8 (by omega)) rfl (by decide) hlk_32 (Or.inl rfl) (Or.inl rfl) (fun _ => rfl) (rfl) rfl ?_
        obtain ⟨i_2, hi_2⟩ : ∃ q, q = zup i 111 j 1 := ⟨_, rfl⟩
        refine z_mem (M' := cmm n i_2 x lm y ol od) (by rw [hi_2]; exact cw_i 8 11 111) ?_
        refine z_goto (tgt := 80) X dX5_decide_59 (by decide) ?_
        refine z_vret X rfl (Nat.le_of_ble_eq_true rfl) (Nat.le_of_ble_eq_true rfl) dX5_decide_80 ?_
        subst hi_2
        exact ⟨rfl, by rw [show c_want i x j q = 1 from by unfold c_want; (try simp only [← Int32.not_lt, Classical.not_not] at c_6 c_23 c_51 ⊢); (first | rfl | (simp only [Int32.lt_irrefl, if_true, if_false, not_true_eq_false, not_false_eq_true, and_true, true_and, and_false, false_and, or_true, true_or, or_false, false_or, and_self, ite_self, zb, c_6, c_23, c_51, eq_true c_6, eq_true c_23, eq_true c_51]; done) | (simp only [Int32.lt_irrefl, if_true, if_false, not_true_eq_false, not_false_eq_true, and_true, true_and, and_false, false_and, or_true, true_or, or_false, false_or, and_self, ite_self, zb, c_6, c_23, c_51, eq_true c_6, eq_true c_23, eq_true c_51]; rfl))]⟩
    · skip
      refine z_aload_n X 0 dX5_decide_26 rfl rfl ?_
      refine z_iconst (v := 0) X dX5_decide_27 (by decide) ?_
      refine z_putI (ci := 8) (j := 11) X dX5_decide_28 (ck_8 (by omega)) rfl (by decide) hlk_32 (Or.inl rfl) (Or.inl rfl) (fun _ => rfl) (rfl) rfl ?_
      obtain ⟨i_3, hi_3⟩ : ∃ q, q = zup i 111 j 0 := ⟨_, rfl⟩
      refine z_mem (M' := cmm n i_3 x lm y ol od) (by rw [hi_3]; exact cw_i 8 11 111) ?_
      refine z_goto (tgt := 80) X dX5_decide_31 (by decide) ?_
      refine z_vret X rfl (Nat.le_of_ble_eq_true rfl) (Nat.le_of_ble_eq_true rfl) dX5_decide_80 ?_
      subst hi_3
      exact ⟨rfl, by rw [show c_want i x j q = 0 from by unfold c_want; (try simp only [← Int32.not_lt, Classical.not_not] at c_6 c_23 ⊢); (first | rfl | (simp only [Int32.lt_irrefl, if_true, if_false, not_true_eq_false, not_false_eq_true, and_true, true_and, and_false, false_and, or_true, true_or, or_false, false_or, and_self, ite_self, zb, c_6, c_23, eq_true c_6, eq_true c_23]; done) | (simp only [Int32.lt_irrefl, if_true, if_false, not_true_eq_false, not_false_eq_true, and_true, true_and, and_false, false_and, or_true, true_or, or_false, false_or, and_self, ite_self, zb, c_6, c_23, eq_true c_6, eq_true c_23]; rfl))]⟩
  · skip
    refine z_aload_n X 0 dX5_decide_9 rfl rfl ?_
    refine z_iconst (v := 1) X dX5_decide_10 (by decide) ?_
    refine z_putI (ci := 8) (j := 11) X dX5_decide_11 (ck_8 (by omega)) rfl (by decide) hlk_32 (Or.inl rfl) (Or.inl rfl) (fun _ => rfl) (rfl) rfl ?_
    obtain ⟨i_4, hi_4⟩ : ∃ q, q = zup i 111 j 1 := ⟨_, rfl⟩
    refine z_mem (M' := cmm n i_4 x lm y ol od) (by rw [hi_4]; exact cw_i 8 11 111) ?_
    refine z_goto (tgt := 80) X dX5_decide_14 (by decide) ?_
    refine z_vret X rfl (Nat.le_of_ble_eq_true rfl) (Nat.le_of_ble_eq_true rfl) dX5_decide_80 ?_
    subst hi_4
    exact ⟨rfl, by rw [show c_want i x j q = 1 from by unfold c_want; (try simp only [← Int32.not_lt, Classical.not_not] at c_6 ⊢); (first | rfl | (simp only [Int32.lt_irrefl, if_true, if_false, not_true_eq_false, not_false_eq_true, and_true, true_and, and_false, false_and, or_true, true_or, or_false, false_or, and_self, ite_self, zb, c_6, eq_true c_6]; done) | (simp only [Int32.lt_irrefl, if_true, if_false, not_true_eq_false, not_false_eq_true, and_true, true_and, and_false, false_and, or_true, true_or, or_false, false_or, and_self, ite_self, zb, c_6, eq_true c_6]; rfl))]⟩

set_option maxRecDepth 100000 in
set_option maxHeartbeats 4000000 in
theorem c_X5_changeTemperature (l : Launch) (n : Nat → Nat) (i x : Nat → Nat → Int32) (lm : Nat → Nat → Int64) (y : Nat → Nat → Nat) (ol : Int64) (od : UInt64) (j : Nat) (hj : j < n 0) (o : Int32) (tk : Nat) (htk : tk < 960) : zS l yX5_changeTemperature wsX5_changeTemperature 1 21 0 0 [.ref (32 * j + 8), .int o, .int (nI tk)] (cmm n i x lm y ol od) (zpv (fun M1 => M1 = cmm n (c_chI i j o) (c_chX i x j o tk) lm y ol od)) zno := by
  refine z_intro (cc := cX5_changeTemperature) (maxL := 4) (ret := none) (by decide +kernel) rfl (Nat.le_of_ble_eq_true rfl) ?_
  have hlk_63 : Cond.fieldLink RX5 63 "ColdStore$Room" "degrees" "I" ∈ wsX5_changeTemperature := by decide +kernel
  have hlk_54 : Cond.fieldLink RX5 54 "ColdStore$Room" "leak" "I" ∈ wsX5_changeTemperature := by decide +kernel
  have hlk_39 : Cond.fieldLink RX5 39 "ColdStore$Room" "cooled" "Z" ∈ wsX5_changeTemperature := by decide +kernel
  have hlk_9 : Cond.fieldLink RX5 9 "ColdStore$Room" "records" "[I" ∈ wsX5_changeTemperature := by decide +kernel
  have hlk_42 : Cond.fieldLink RX5 42 "ColdStore$Room" "ticks" "I" ∈ wsX5_changeTemperature := by decide +kernel
  have hlk_45 : Cond.fieldLink RX5 45 "ColdStore$Room" "sum" "I" ∈ wsX5_changeTemperature := by decide +kernel
  have hlk_48 : Cond.fieldLink RX5 48 "ColdStore$Room" "greatest" "I" ∈ wsX5_changeTemperature := by decide +kernel
  have hlk_57 : Cond.fieldLink RX5 57 "ColdStore$Room" "strength" "I" ∈ wsX5_changeTemperature := by decide +kernel
  intro g X
  show zE g 4 0 [(0, .ref (32 * j + 8)), (1, .int o), (2, .int (nI tk))] [] (cmm n i x lm y ol od) 0 0
  refine z_aload_n X 0 dX5_changeTemperature_0 rfl rfl ?_
  refine z_getI (ci := 8) (j := 10) (x := i 110 j) X dX5_changeTemperature_1 (ck_8 (by omega)) rfl (by decide) hlk_63 (Or.inl rfl) (fun _ => rfl) (ci_8_10) ?_
  refine z_iload_n X 1 dX5_changeTemperature_4 rfl rfl ?_
  refine z_aload_n X 0 dX5_changeTemperature_5 rfl rfl ?_
  refine z_getI (ci := 8) (j := 10) (x := i 110 j) X dX5_changeTemperature_6 (ck_8 (by omega)) rfl (by decide) hlk_63 (Or.inl rfl) (fun _ => rfl) (ci_8_10) ?_
  refine z_isub X dX5_changeTemperature_9 ?_
  refine z_aload_n X 0 dX5_changeTemperature_10 rfl rfl ?_
  refine z_getI (ci := 8) (j := 1) (x := i 102 j) X dX5_changeTemperature_11 (ck_8 (by omega)) rfl (by decide) hlk_54 (Or.inl rfl) (fun _ => rfl) (ci_8_1) ?_
  refine z_imul X dX5_changeTemperature_14 ?_
  refine z_bipush (v := 100) X dX5_changeTemperature_15 (by decide) ?_
  refine z_idiv X dX5_changeTemperature_17 (by decide) ?_
  refine z_iadd X dX5_changeTemperature_18 ?_
  refine z_istore_n (ls' := [(3, .int ((i 110 j) + (((o - (i 110 j)) * (i 102 j)) / 100))), (0, .ref (32 * j + 8)), (1, .int o), (2, .int (nI tk))]) X dX5_changeTemperature_19 rfl (by decide) rfl ?_
  refine z_aload_n X 1 dX5_changeTemperature_20 rfl rfl ?_
  refine z_getI (ci := 8) (j := 13) (x := i 112 j) X dX5_changeTemperature_21 (ck_8 (by omega)) rfl (by decide) hlk_39 (Or.inl rfl) (fun _ => rfl) (ci_8_13) ?_
  refine z_if_eq X 34 dX5_changeTemperature_24 (by decide) (fun c_24 => ?_) (fun c_24 => ?_)
  · skip
    refine z_aload_n X 1 dX5_changeTemperature_34 rfl rfl ?_
    refine z_sipush (v := (-400)) X dX5_changeTemperature_35 (by decide) ?_
    refine z_iload_n X 0 dX5_changeTemperature_38 rfl rfl ?_
    refine z_mmax X dX5_changeTemperature_39 (by decide +kernel) (by decide +kernel) (by decide +kernel) (by decide +kernel) (by decide) (Nat.le_of_ble_eq_true rfl) (Nat.le_of_ble_eq_true rfl) (Nat.le_of_ble_eq_true rfl) ?_
    have hT : c_t i j o = (if (-400) < ((i 110 j) + (((o - (i 110 j)) * (i 102 j)) / 100)) then ((i 110 j) + (((o - (i 110 j)) * (i 102 j)) / 100)) else (-400)) := by unfold c_t c_t1; rw [if_pos c_24]
    obtain ⟨T9, hT9⟩ : ∃ q, q = (if (-400) < ((i 110 j) + (((o - (i 110 j)) * (i 102 j)) / 100)) then ((i 110 j) + (((o - (i 110 j)) * (i 102 j)) / 100)) else (-400)) := ⟨_, rfl⟩
    rw [← hT9] at hT
    refine z_top (w := .int T9) (by rw [hT9]) ?_
    refine z_putI (ci := 8) (j := 10) X dX5_changeTemperature_42 (ck_8 (by omega)) rfl (by decide) hlk_63 (Or.inl rfl) (Or.inl rfl) (fun _ => rfl) rfl rfl ?_
    obtain ⟨i_1, hi_1⟩ : ∃ q, q = zup i 110 j T9 := ⟨_, rfl⟩
    refine z_mem (M' := cmm n i_1 x lm y ol od) (by rw [hi_1]; exact cw_i 8 10 110) ?_
    refine z_iload_n X 3 dX5_changeTemperature_45 rfl rfl ?_
    refine z_if_lt X 68 dX5_changeTemperature_46 (by decide) (fun c_46 => ?_) (fun c_46 => ?_)
    · exact absurd c_46 (nI_nn _ (by omega))
    · skip
      refine z_iload_n X 3 dX5_changeTemperature_49 rfl rfl ?_
      refine z_aload_n X 1 dX5_changeTemperature_50 rfl rfl ?_
      refine z_getR (ci := 8) (j := 4) (o' := 32 * j + 9) X dX5_changeTemperature_51 (ck_8 (by omega)) rfl (by decide) hlk_9 (Or.inl rfl) (fun _ => rfl) (cr_8_4) ?_
      refine z_alen (t := 0) (v := 960) X dX5_changeTemperature_54 (ck_9 (by omega)) (by decide) (by rw [cn_9]; decide) ?_
      refine z_icmp_ge X 68 dX5_changeTemperature_55 (by decide) (fun c_55 => ?_) (fun c_55 => ?_)
      · exact absurd c_55 (nI_ge (b := 960) htk (by decide))
      · skip
        refine z_aload_n X 1 dX5_changeTemperature_58 rfl rfl ?_
        refine z_getR (ci := 8) (j := 4) (o' := 32 * j + 9) X dX5_changeTemperature_59 (ck_8 (by omega)) rfl (by decide) hlk_9 (Or.inl rfl) (fun _ => rfl) (cr_8_4) ?_
        refine z_iload_n X 3 dX5_changeTemperature_62 rfl rfl ?_
        refine z_aload_n X 1 dX5_changeTemperature_63 rfl rfl ?_
        refine z_getI (ci := 8) (j := 10) (x := T9) X dX5_changeTemperature_64 (ck_8 (by omega)) rfl (by decide) hlk_63 (Or.inl rfl) (fun _ => rfl) (by rw [ci_8_10]; rw [hi_1, zup_s]) ?_
        refine z_iast (j := tk) X dX5_changeTemperature_67 (ck_9 (by omega)) (by rw [cn_9]; exact vp_in_nI (by omega) (by decide)) (nI_clamp (by omega)) ?_
        obtain ⟨x_2, hx_2⟩ : ∃ q, q = zup x (10 + j) tk T9 := ⟨_, rfl⟩
        refine z_mem (M' := cmm n i_1 x_2 lm y ol od) (by rw [hx_2]; exact cw_9) ?_
        refine z_aload_n X 1 dX5_changeTemperature_68 rfl rfl ?_
        refine z_dup X dX5_changeTemperature_69 rfl ?_
        refine z_getI (ci := 8) (j := 14) (x := i 116 j) X dX5_changeTemperature_70 (ck_8 (by omega)) rfl (by decide) hlk_42 (Or.inl rfl) (fun _ => rfl) (by rw [ci_8_14]; rw [hi_1, zup_n (by omega)]) ?_
        refine z_iconst (v := 1) X dX5_changeTemperature_73 (by decide) ?_
        refine z_iadd X dX5_changeTemperature_74 ?_
        refine z_putI (ci := 8) (j := 14) X dX5_changeTemperature_75 (ck_8 (by omega)) rfl (by decide) hlk_42 (Or.inl rfl) (Or.inl rfl) (fun _ => rfl) rfl rfl ?_
        obtain ⟨i_3, hi_3⟩ : ∃ q, q = zup i_1 116 j ((i 116 j) + 1) := ⟨_, rfl⟩
        refine z_mem (M' := cmm n i_3 x_2 lm y ol od) (by rw [hi_3]; exact cw_i 8 14 116) ?_
        refine z_aload_n X 1 dX5_changeTemperature_78 rfl rfl ?_
        refine z_dup X dX5_changeTemperature_79 rfl ?_
        refine z_getI (ci := 8) (j := 15) (x := x 6 j) X dX5_changeTemperature_80 (ck_8 (by omega)) rfl (by decide) hlk_45 (Or.inl rfl) (fun _ => rfl) (by rw [ci_8_15]; rw [hx_2, zup_n (by omega)]) ?_
        refine z_aload_n X 1 dX5_changeTemperature_83 rfl rfl ?_
        refine z_getI (ci := 8) (j := 10) (x := T9) X dX5_changeTemperature_84 (ck_8 (by omega)) rfl (by decide) hlk_63 (Or.inl rfl) (fun _ => rfl) (by rw [ci_8_10]; rw [hi_3, zup_n (by omega)]; rw [hi_1, zup_s]) ?_
        refine z_iadd X dX5_changeTemperature_87 ?_
        refine z_putI (ci := 8) (j := 15) X dX5_changeTemperature_88 (ck_8 (by omega)) rfl (by decide) hlk_45 (Or.inl rfl) (Or.inl rfl) (fun _ => rfl) rfl rfl ?_
        obtain ⟨x_4, hx_4⟩ : ∃ q, q = zup x_2 6 j ((x 6 j) + T9) := ⟨_, rfl⟩
        refine z_mem (M' := cmm n i_3 x_4 lm y ol od) (by rw [hx_4]; exact cw_x 8 15 6) ?_
        refine z_aload_n X 1 dX5_changeTemperature_91 rfl rfl ?_
        refine z_aload_n X 1 dX5_changeTemperature_92 rfl rfl ?_
        refine z_getI (ci := 8) (j := 16) (x := x 5 j) X dX5_changeTemperature_93 (ck_8 (by omega)) rfl (by decide) hlk_48 (Or.inl rfl) (fun _ => rfl) (by rw [ci_8_16]; rw [hx_4, zup_n (by omega)]; rw [hx_2, zup_n (by omega)]) ?_
        refine z_aload_n X 1 dX5_changeTemperature_96 rfl rfl ?_
        refine z_getI (ci := 8) (j := 10) (x := T9) X dX5_changeTemperature_97 (ck_8 (by omega)) rfl (by decide) hlk_63 (Or.inl rfl) (fun _ => rfl) (by rw [ci_8_10]; rw [hi_3, zup_n (by omega)]; rw [hi_1, zup_s]) ?_
        refine z_mmax X dX5_changeTemperature_100 (by decide +kernel) (by decide +kernel) (by decide +kernel) (by decide +kernel) (by decide) (Nat.le_of_ble_eq_true rfl) (Nat.le_of_ble_eq_true rfl) (Nat.le_of_ble_eq_true rfl) ?_
        refine z_putI (ci := 8) (j := 16) X dX5_changeTemperature_103 (ck_8 (by omega)) rfl (by decide) hlk_48 (Or.inl rfl) (Or.inl rfl) (fun _ => rfl) rfl rfl ?_
        obtain ⟨x_5, hx_5⟩ : ∃ q, q = zup x_4 5 j (if (x 5 j) < T9 then T9 else (x 5 j)) := ⟨_, rfl⟩
        refine z_mem (M' := cmm n i_3 x_5 lm y ol od) (by rw [hx_5]; exact cw_x 8 16 5) ?_
        refine z_vret X rfl (Nat.le_of_ble_eq_true rfl) (Nat.le_of_ble_eq_true rfl) dX5_changeTemperature_106 ?_
        subst hi_3
        subst hi_1
        subst hx_5
        subst hx_4
        subst hx_2
        exact ⟨rfl, by unfold c_chI c_chX; rw [hT]⟩
  · skip
    refine z_iload_n X 0 dX5_changeTemperature_27 rfl rfl ?_
    refine z_aload_n X 1 dX5_changeTemperature_28 rfl rfl ?_
    refine z_getI (ci := 8) (j := 2) (x := i 103 j) X dX5_changeTemperature_29 (ck_8 (by omega)) rfl (by decide) hlk_57 (Or.inl rfl) (fun _ => rfl) (ci_8_2) ?_
    refine z_isub X dX5_changeTemperature_32 ?_
    refine z_istore_n (ls' := [(3, .int (((i 110 j) + (((o - (i 110 j)) * (i 102 j)) / 100)) - (i 103 j))), (0, .ref (32 * j + 8)), (1, .int o), (2, .int (nI tk))]) X dX5_changeTemperature_33 rfl (by decide) rfl ?_
    refine z_aload_n X 1 dX5_changeTemperature_34 rfl rfl ?_
    refine z_sipush (v := (-400)) X dX5_changeTemperature_35 (by decide) ?_
    refine z_iload_n X 0 dX5_changeTemperature_38 rfl rfl ?_
    refine z_mmax X dX5_changeTemperature_39 (by decide +kernel) (by decide +kernel) (by decide +kernel) (by decide +kernel) (by decide) (Nat.le_of_ble_eq_true rfl) (Nat.le_of_ble_eq_true rfl) (Nat.le_of_ble_eq_true rfl) ?_
    have hT : c_t i j o = (if (-400) < (((i 110 j) + (((o - (i 110 j)) * (i 102 j)) / 100)) - (i 103 j)) then (((i 110 j) + (((o - (i 110 j)) * (i 102 j)) / 100)) - (i 103 j)) else (-400)) := by unfold c_t c_t1; rw [if_neg c_24]
    obtain ⟨T9, hT9⟩ : ∃ q, q = (if (-400) < (((i 110 j) + (((o - (i 110 j)) * (i 102 j)) / 100)) - (i 103 j)) then (((i 110 j) + (((o - (i 110 j)) * (i 102 j)) / 100)) - (i 103 j)) else (-400)) := ⟨_, rfl⟩
    rw [← hT9] at hT
    refine z_top (w := .int T9) (by rw [hT9]) ?_
    refine z_putI (ci := 8) (j := 10) X dX5_changeTemperature_42 (ck_8 (by omega)) rfl (by decide) hlk_63 (Or.inl rfl) (Or.inl rfl) (fun _ => rfl) rfl rfl ?_
    obtain ⟨i_6, hi_6⟩ : ∃ q, q = zup i 110 j T9 := ⟨_, rfl⟩
    refine z_mem (M' := cmm n i_6 x lm y ol od) (by rw [hi_6]; exact cw_i 8 10 110) ?_
    refine z_iload_n X 3 dX5_changeTemperature_45 rfl rfl ?_
    refine z_if_lt X 68 dX5_changeTemperature_46 (by decide) (fun c_46 => ?_) (fun c_46 => ?_)
    · exact absurd c_46 (nI_nn _ (by omega))
    · skip
      refine z_iload_n X 3 dX5_changeTemperature_49 rfl rfl ?_
      refine z_aload_n X 1 dX5_changeTemperature_50 rfl rfl ?_
      refine z_getR (ci := 8) (j := 4) (o' := 32 * j + 9) X dX5_changeTemperature_51 (ck_8 (by omega)) rfl (by decide) hlk_9 (Or.inl rfl) (fun _ => rfl) (cr_8_4) ?_
      refine z_alen (t := 0) (v := 960) X dX5_changeTemperature_54 (ck_9 (by omega)) (by decide) (by rw [cn_9]; decide) ?_
      refine z_icmp_ge X 68 dX5_changeTemperature_55 (by decide) (fun c_55 => ?_) (fun c_55 => ?_)
      · exact absurd c_55 (nI_ge (b := 960) htk (by decide))
      · skip
        refine z_aload_n X 1 dX5_changeTemperature_58 rfl rfl ?_
        refine z_getR (ci := 8) (j := 4) (o' := 32 * j + 9) X dX5_changeTemperature_59 (ck_8 (by omega)) rfl (by decide) hlk_9 (Or.inl rfl) (fun _ => rfl) (cr_8_4) ?_
        refine z_iload_n X 3 dX5_changeTemperature_62 rfl rfl ?_
        refine z_aload_n X 1 dX5_changeTemperature_63 rfl rfl ?_
        refine z_getI (ci := 8) (j := 10) (x := T9) X dX5_changeTemperature_64 (ck_8 (by omega)) rfl (by decide) hlk_63 (Or.inl rfl) (fun _ => rfl) (by rw [ci_8_10]; rw [hi_6, zup_s]) ?_
        refine z_iast (j := tk) X dX5_changeTemperature_67 (ck_9 (by omega)) (by rw [cn_9]; exact vp_in_nI (by omega) (by decide)) (nI_clamp (by omega)) ?_
        obtain ⟨x_7, hx_7⟩ : ∃ q, q = zup x (10 + j) tk T9 := ⟨_, rfl⟩
        refine z_mem (M' := cmm n i_6 x_7 lm y ol od) (by rw [hx_7]; exact cw_9) ?_
        refine z_aload_n X 1 dX5_changeTemperature_68 rfl rfl ?_
        refine z_dup X dX5_changeTemperature_69 rfl ?_
        refine z_getI (ci := 8) (j := 14) (x := i 116 j) X dX5_changeTemperature_70 (ck_8 (by omega)) rfl (by decide) hlk_42 (Or.inl rfl) (fun _ => rfl) (by rw [ci_8_14]; rw [hi_6, zup_n (by omega)]) ?_
        refine z_iconst (v := 1) X dX5_changeTemperature_73 (by decide) ?_
        refine z_iadd X dX5_changeTemperature_74 ?_
        refine z_putI (ci := 8) (j := 14) X dX5_changeTemperature_75 (ck_8 (by omega)) rfl (by decide) hlk_42 (Or.inl rfl) (Or.inl rfl) (fun _ => rfl) rfl rfl ?_
        obtain ⟨i_8, hi_8⟩ : ∃ q, q = zup i_6 116 j ((i 116 j) + 1) := ⟨_, rfl⟩
        refine z_mem (M' := cmm n i_8 x_7 lm y ol od) (by rw [hi_8]; exact cw_i 8 14 116) ?_
        refine z_aload_n X 1 dX5_changeTemperature_78 rfl rfl ?_
        refine z_dup X dX5_changeTemperature_79 rfl ?_
        refine z_getI (ci := 8) (j := 15) (x := x 6 j) X dX5_changeTemperature_80 (ck_8 (by omega)) rfl (by decide) hlk_45 (Or.inl rfl) (fun _ => rfl) (by rw [ci_8_15]; rw [hx_7, zup_n (by omega)]) ?_
        refine z_aload_n X 1 dX5_changeTemperature_83 rfl rfl ?_
        refine z_getI (ci := 8) (j := 10) (x := T9) X dX5_changeTemperature_84 (ck_8 (by omega)) rfl (by decide) hlk_63 (Or.inl rfl) (fun _ => rfl) (by rw [ci_8_10]; rw [hi_8, zup_n (by omega)]; rw [hi_6, zup_s]) ?_
        refine z_iadd X dX5_changeTemperature_87 ?_
        refine z_putI (ci := 8) (j := 15) X dX5_changeTemperature_88 (ck_8 (by omega)) rfl (by decide) hlk_45 (Or.inl rfl) (Or.inl rfl) (fun _ => rfl) rfl rfl ?_
        obtain ⟨x_9, hx_9⟩ : ∃ q, q = zup x_7 6 j ((x 6 j) + T9) := ⟨_, rfl⟩
        refine z_mem (M' := cmm n i_8 x_9 lm y ol od) (by rw [hx_9]; exact cw_x 8 15 6) ?_
        refine z_aload_n X 1 dX5_changeTemperature_91 rfl rfl ?_
        refine z_aload_n X 1 dX5_changeTemperature_92 rfl rfl ?_
        refine z_getI (ci := 8) (j := 16) (x := x 5 j) X dX5_changeTemperature_93 (ck_8 (by omega)) rfl (by decide) hlk_48 (Or.inl rfl) (fun _ => rfl) (by rw [ci_8_16]; rw [hx_9, zup_n (by omega)]; rw [hx_7, zup_n (by omega)]) ?_
        refine z_aload_n X 1 dX5_changeTemperature_96 rfl rfl ?_
        refine z_getI (ci := 8) (j := 10) (x := T9) X dX5_changeTemperature_97 (ck_8 (by omega)) rfl (by decide) hlk_63 (Or.inl rfl) (fun _ => rfl) (by rw [ci_8_10]; rw [hi_8, zup_n (by omega)]; rw [hi_6, zup_s]) ?_
        refine z_mmax X dX5_changeTemperature_100 (by decide +kernel) (by decide +kernel) (by decide +kernel) (by decide +kernel) (by decide) (Nat.le_of_ble_eq_true rfl) (Nat.le_of_ble_eq_true rfl) (Nat.le_of_ble_eq_true rfl) ?_
        refine z_putI (ci := 8) (j := 16) X dX5_changeTemperature_103 (ck_8 (by omega)) rfl (by decide) hlk_48 (Or.inl rfl) (Or.inl rfl) (fun _ => rfl) rfl rfl ?_
        obtain ⟨x_10, hx_10⟩ : ∃ q, q = zup x_9 5 j (if (x 5 j) < T9 then T9 else (x 5 j)) := ⟨_, rfl⟩
        refine z_mem (M' := cmm n i_8 x_10 lm y ol od) (by rw [hx_10]; exact cw_x 8 16 5) ?_
        refine z_vret X rfl (Nat.le_of_ble_eq_true rfl) (Nat.le_of_ble_eq_true rfl) dX5_changeTemperature_106 ?_
        subst hi_8
        subst hi_6
        subst hx_10
        subst hx_9
        subst hx_7
        exact ⟨rfl, by unfold c_chI c_chX; rw [hT]⟩

set_option maxRecDepth 100000 in
set_option maxHeartbeats 4000000 in
theorem c_X2_record (l : Launch) (n : Nat → Nat) (i x : Nat → Nat → Int32) (lm : Nat → Nat → Int64) (y : Nat → Nat → Nat) (ol : Int64) (od : UInt64) (tk : Nat) (htk : tk < 960) (u p : Int32) : zS l yX2_record wsX2_record 1 21 0 0 [.ref 5, .int (nI tk), .int u, .int p] (cmm n i x lm y ol od) (zpv (fun M1 => M1 = cmm n (c_recI i u) (c_recX x tk u p) (zup lm 1 26 (lm 1 26 + u.toInt64 * p.toInt64)) y ol od)) zno := by
  refine z_intro (cc := cX2_record) (maxL := 4) (ret := none) (by decide +kernel) rfl (Nat.le_of_ble_eq_true rfl) ?_
  have hlk_9 : Cond.fieldLink RX2 9 "ColdStore$Meter" "powers" "[I" ∈ wsX2_record := by decide +kernel
  have hlk_15 : Cond.fieldLink RX2 15 "ColdStore$Meter" "prices" "[I" ∈ wsX2_record := by decide +kernel
  have hlk_18 : Cond.fieldLink RX2 18 "ColdStore$Meter" "latest" "I" ∈ wsX2_record := by decide +kernel
  have hlk_22 : Cond.fieldLink RX2 22 "ColdStore$Meter" "greatest" "I" ∈ wsX2_record := by decide +kernel
  have hlk_25 : Cond.fieldLink RX2 25 "ColdStore$Meter" "costs" "J" ∈ wsX2_record := by decide +kernel
  intro g X
  show zE g 4 0 [(0, .ref 5), (1, .int (nI tk)), (2, .int u), (3, .int p)] [] (cmm n i x lm y ol od) 0 0
  refine z_iload_n X 1 dX2_record_0 rfl rfl ?_
  refine z_if_lt X 36 dX2_record_1 (by decide) (fun c_1 => ?_) (fun c_1 => ?_)
  · exact absurd c_1 (nI_nn _ (by omega))
  · skip
    refine z_iload_n X 1 dX2_record_4 rfl rfl ?_
    refine z_aload_n X 0 dX2_record_5 rfl rfl ?_
    refine z_getR (ci := 5) (j := 0) (o' := 6) X dX2_record_6 ck_5 rfl (by decide) hlk_9 (Or.inl rfl) (fun _ => rfl) (cr_5_0) ?_
    refine z_alen (t := 0) (v := 960) X dX2_record_9 ck_6 (by decide) (by rw [cn_6]; decide) ?_
    refine z_icmp_ge X 36 dX2_record_10 (by decide) (fun c_10 => ?_) (fun c_10 => ?_)
    · exact absurd c_10 (nI_ge (b := 960) htk (by decide))
    · skip
      refine z_iload_n X 1 dX2_record_13 rfl rfl ?_
      refine z_aload_n X 0 dX2_record_14 rfl rfl ?_
      refine z_getR (ci := 5) (j := 1) (o' := 7) X dX2_record_15 ck_5 rfl (by decide) hlk_15 (Or.inl rfl) (fun _ => rfl) (cr_5_1) ?_
      refine z_alen (t := 0) (v := 960) X dX2_record_18 ck_7 (by decide) (by rw [cn_7]; decide) ?_
      refine z_icmp_ge X 36 dX2_record_19 (by decide) (fun c_19 => ?_) (fun c_19 => ?_)
      · exact absurd c_19 (nI_ge (b := 960) htk (by decide))
      · skip
        refine z_aload_n X 0 dX2_record_22 rfl rfl ?_
        refine z_getR (ci := 5) (j := 0) (o' := 6) X dX2_record_23 ck_5 rfl (by decide) hlk_9 (Or.inl rfl) (fun _ => rfl) (cr_5_0) ?_
        refine z_iload_n X 1 dX2_record_26 rfl rfl ?_
        refine z_iload_n X 2 dX2_record_27 rfl rfl ?_
        refine z_iast (j := tk) X dX2_record_28 ck_6 (by rw [cn_6]; exact vp_in_nI (by omega) (by decide)) (nI_clamp (by omega)) ?_
        obtain ⟨x_1, hx_1⟩ : ∃ q, q = zup x 1 tk u := ⟨_, rfl⟩
        refine z_mem (M' := cmm n i x_1 lm y ol od) (by rw [hx_1]; exact cw_6) ?_
        refine z_aload_n X 0 dX2_record_29 rfl rfl ?_
        refine z_getR (ci := 5) (j := 1) (o' := 7) X dX2_record_30 ck_5 rfl (by decide) hlk_15 (Or.inl rfl) (fun _ => rfl) (cr_5_1) ?_
        refine z_iload_n X 1 dX2_record_33 rfl rfl ?_
        refine z_iload_n X 3 dX2_record_34 rfl rfl ?_
        refine z_iast (j := tk) X dX2_record_35 ck_7 (by rw [cn_7]; exact vp_in_nI (by omega) (by decide)) (nI_clamp (by omega)) ?_
        obtain ⟨x_2, hx_2⟩ : ∃ q, q = zup x_1 2 tk p := ⟨_, rfl⟩
        refine z_mem (M' := cmm n i x_2 lm y ol od) (by rw [hx_2]; exact cw_7) ?_
        refine z_aload_n X 0 dX2_record_36 rfl rfl ?_
        refine z_iload_n X 2 dX2_record_37 rfl rfl ?_
        refine z_putI (ci := 5) (j := 2) X dX2_record_38 ck_5 rfl (by decide) hlk_18 (Or.inl rfl) (Or.inl rfl) (fun _ => rfl) rfl rfl ?_
        obtain ⟨i_3, hi_3⟩ : ∃ q, q = zup i 1 24 u := ⟨_, rfl⟩
        refine z_mem (M' := cmm n i_3 x_2 lm y ol od) (by rw [hi_3]; exact cw_g 5 2 24) ?_
        refine z_aload_n X 0 dX2_record_41 rfl rfl ?_
        refine z_aload_n X 0 dX2_record_42 rfl rfl ?_
        refine z_getI (ci := 5) (j := 3) (x := i 1 25) X dX2_record_43 ck_5 rfl (by decide) hlk_22 (Or.inl rfl) (fun _ => rfl) (by rw [ci_5_3]; rw [hi_3, zup_n (by omega)]) ?_
        refine z_iload_n X 2 dX2_record_46 rfl rfl ?_
        refine z_mmax X dX2_record_47 (by decide +kernel) (by decide +kernel) (by decide +kernel) (by decide +kernel) (by decide) (Nat.le_of_ble_eq_true rfl) (Nat.le_of_ble_eq_true rfl) (Nat.le_of_ble_eq_true rfl) ?_
        refine z_putI (ci := 5) (j := 3) X dX2_record_50 ck_5 rfl (by decide) hlk_22 (Or.inl rfl) (Or.inl rfl) (fun _ => rfl) rfl rfl ?_
        obtain ⟨i_4, hi_4⟩ : ∃ q, q = zup i_3 1 25 (if (i 1 25) < u then u else (i 1 25)) := ⟨_, rfl⟩
        refine z_mem (M' := cmm n i_4 x_2 lm y ol od) (by rw [hi_4]; exact cw_g 5 3 25) ?_
        refine z_aload_n X 0 dX2_record_53 rfl rfl ?_
        refine z_dup X dX2_record_54 rfl ?_
        refine z_getL (ci := 5) (j := 4) (x := lm 1 26) X dX2_record_55 ck_5 rfl (by decide) hlk_25 (Or.inl rfl) (fun _ => rfl) (cl_5_4) ?_
        refine z_iload_n X 2 dX2_record_58 rfl rfl ?_
        refine z_i2l X dX2_record_59 ?_
        refine z_iload_n X 3 dX2_record_60 rfl rfl ?_
        refine z_i2l X dX2_record_61 ?_
        refine z_lmul X dX2_record_62 ?_
        refine z_ladd X dX2_record_63 ?_
        refine z_putL (ci := 5) (j := 4) X dX2_record_64 ck_5 rfl (by decide) hlk_25 (Or.inl rfl) (Or.inl rfl) (fun _ => rfl) rfl rfl ?_
        obtain ⟨l_5, hl_5⟩ : ∃ q, q = zup lm 1 26 ((lm 1 26) + (u.toInt64 * p.toInt64)) := ⟨_, rfl⟩
        refine z_mem (M' := cmm n i_4 x_2 l_5 y ol od) (by rw [hl_5]; exact cw_L) ?_
        refine z_vret X rfl (Nat.le_of_ble_eq_true rfl) (Nat.le_of_ble_eq_true rfl) dX2_record_67 ?_
        subst hi_4
        subst hi_3
        subst hx_2
        subst hx_1
        subst hl_5
        exact ⟨rfl, rfl⟩

set_option maxRecDepth 100000 in
set_option maxHeartbeats 4000000 in
theorem c_X4_loseLife (l : Launch) (n : Nat → Nat) (i x : Nat → Nat → Int32) (lm : Nat → Nat → Int64) (y : Nat → Nat → Nat) (ol : Int64) (od : UInt64) (hW : cW n i y) (p : Nat) (hp : p < n 7) : zS l yX4_loseLife wsX4_loseLife 1 21 0 0 [.ref (32 * p + 11)] (cmm n i x lm y ol od) (zpv (fun M1 => M1 = cmm n (zup i 133 p (c_age1 i y p)) x lm y ol od)) zno := by
  refine z_intro (cc := cX4_loseLife) (maxL := 1) (ret := none) (by decide +kernel) rfl (Nat.le_of_ble_eq_true rfl) ?_
  have hlk_40 : Cond.fieldLink RX4 40 "ColdStore$Pallet" "lifeLeft" "I" ∈ wsX4_loseLife := by decide +kernel
  have hlk_22 : Cond.fieldLink RX4 22 "ColdStore$Pallet" "kind" "LColdStore$Kind;" ∈ wsX4_loseLife := by decide +kernel
  have hlk_31 : Cond.fieldLink RX4 31 "ColdStore$Pallet" "stay" "LColdStore$Stay;" ∈ wsX4_loseLife := by decide +kernel
  have hlk_53 : Cond.fieldLink RX4 53 "ColdStore$Stay" "room" "LColdStore$Room;" ∈ wsX4_loseLife := by decide +kernel
  have hlk_57 : Cond.fieldLink RX4 57 "ColdStore$Room" "degrees" "I" ∈ wsX4_loseLife := by decide +kernel
  intro g X
  show zE g 1 0 [(0, .ref (32 * p + 11))] [] (cmm n i x lm y ol od) 0 0
  obtain ⟨⟨hn0, hn1, hn2, hn3⟩, ⟨hb5, hb6, hb7, hb8⟩, hp9, hs9, ho9⟩ := hW
  refine z_aload_n X 0 dX4_loseLife_0 rfl rfl ?_
  refine z_callVi (As := []) (rest := []) (n1 := 0) (ci := 7) X dX4_loseLife_1 (c_X4_isInRoom l n i x lm y ol od (⟨⟨hn0, hn1, hn2, hn3⟩, ⟨hb5, hb6, hb7, hb8⟩, hp9, hs9, ho9⟩) p (by omega)) gX4_loseLife_X4_isInRoom rfl rfl (by decide +kernel) ⟨by decide, by decide⟩ (ck_11 (by omega)) rfl rfl (Nat.le_of_ble_eq_true rfl) ⟨by decide, by decide⟩ (fun _ h => h.elim) ?_
  rintro _ _ ⟨rfl, rfl⟩
  refine z_if_eq X 37 dX4_loseLife_4 (by decide) (fun c_4 => ?_) (fun c_4 => ?_)
  · skip
    refine z_vret X rfl (Nat.le_of_ble_eq_true rfl) (Nat.le_of_ble_eq_true rfl) dX4_loseLife_37 ?_
    exact ⟨rfl, by rw [show c_age1 i y p = i 133 p from if_neg (zb_0.mp c_4), zup_id]⟩
  · skip
    refine z_aload_n X 0 dX4_loseLife_7 rfl rfl ?_
    refine z_iconst (v := 0) X dX4_loseLife_8 (by decide) ?_
    refine z_aload_n X 0 dX4_loseLife_9 rfl rfl ?_
    refine z_getI (ci := 7) (j := 5) (x := i 133 p) X dX4_loseLife_10 (ck_11 (by omega)) rfl (by decide) hlk_40 (Or.inl rfl) (fun _ => rfl) (ci_11_5) ?_
    refine z_aload_n X 0 dX4_loseLife_13 rfl rfl ?_
    refine z_getR (ci := 7) (j := 1) (o' := 32 * (cl (i 131 p)) + 10) X dX4_loseLife_14 (ck_11 (by omega)) rfl (by decide) hlk_22 (Or.inl rfl) (fun _ => rfl) (cr_11_1) ?_
    refine z_aload_n X 0 dX4_loseLife_17 rfl rfl ?_
    refine z_getR (ci := 7) (j := 2) (o' := 32 * (y 0 p) + 12) X dX4_loseLife_18 (ck_11 (by omega)) rfl (by decide) hlk_31 (Or.inl rfl) (fun _ => rfl) (cr_11_2) ?_
    refine z_getR (ci := 9) (j := 0) (o' := 32 * (y 1 (y 0 p)) + 8) X dX4_loseLife_21 (ck_12 (by have := (hp9 p (by omega)).2.1; omega)) rfl (by decide) hlk_53 (Or.inl rfl) (fun _ => rfl) (cr_12_0) ?_
    refine z_getI (ci := 8) (j := 10) (x := i 110 (y 1 (y 0 p))) X dX4_loseLife_24 (ck_8 (by have := (hp9 p (by omega)).2.1; have := (hs9 (y 0 p) (by omega)).1; omega)) rfl (by decide) hlk_57 (Or.inl rfl) (fun _ => rfl) (ci_8_10) ?_
    refine z_callVi (As := [.int (i 110 (y 1 (y 0 p)))]) (rest := [.int (i 133 p), .int 0, .ref (32 * p + 11)]) (n1 := 1) (ci := 4) X dX4_loseLife_27 (c_X1_lossAt l n i x lm y ol od (cl (i 131 p)) (by have := (hp9 p (by omega)).1.1; omega) (i 110 (y 1 (y 0 p)))) gX4_loseLife_X1_lossAt rfl rfl (by decide +kernel) ⟨by decide, by decide⟩ (ck_10 (by have := (hp9 p (by omega)).1.1; omega)) rfl rfl (Nat.le_of_ble_eq_true rfl) ⟨by decide, by decide⟩ (fun _ h => h.elim) ?_
    rintro _ _ ⟨rfl, rfl⟩
    refine z_isub X dX4_loseLife_30 ?_
    refine z_mmax X dX4_loseLife_31 (by decide +kernel) (by decide +kernel) (by decide +kernel) (by decide +kernel) (by decide) (Nat.le_of_ble_eq_true rfl) (Nat.le_of_ble_eq_true rfl) (Nat.le_of_ble_eq_true rfl) ?_
    refine z_putI (ci := 7) (j := 5) X dX4_loseLife_34 (ck_11 (by omega)) rfl (by decide) hlk_40 (Or.inl rfl) (Or.inl rfl) (fun _ => rfl) rfl rfl ?_
    obtain ⟨i_1, hi_1⟩ : ∃ q, q = zup i 133 p (if 0 < ((i 133 p) - (if (i 110 (y 1 (y 0 p))) < i 129 (cl (i 131 p)) then 10 else if i 128 (cl (i 131 p)) < (i 110 (y 1 (y 0 p))) then 1 + ((i 110 (y 1 (y 0 p))) - i 128 (cl (i 131 p))) / 20 else 1)) then ((i 133 p) - (if (i 110 (y 1 (y 0 p))) < i 129 (cl (i 131 p)) then 10 else if i 128 (cl (i 131 p)) < (i 110 (y 1 (y 0 p))) then 1 + ((i 110 (y 1 (y 0 p))) - i 128 (cl (i 131 p))) / 20 else 1)) else 0) := ⟨_, rfl⟩
    refine z_mem (M' := cmm n i_1 x lm y ol od) (by rw [hi_1]; exact cw_i 11 5 133) ?_
    refine z_vret X rfl (Nat.le_of_ble_eq_true rfl) (Nat.le_of_ble_eq_true rfl) dX4_loseLife_37 ?_
    subst hi_1
    exact ⟨rfl, by rw [show c_age1 i y p = _ from if_pos (zb_n0.mp c_4)]; rfl⟩
