set_option maxRecDepth 100000 in
set_option maxHeartbeats 4000000 in
theorem c_X8_now (l : Launch) (i : Nat → Nat → Int32) (lm : Nat → Nat → Int64) : zS l yX8_now wsX8_now 0 0 0 0 [.ref 1] (zmm i lm) (zpi (fun rr M1 => rr = q_nowV i ∧ M1 = zmm (q_nowF i) lm)) zno := by
  refine z_intro (cc := cX8_now) (maxL := 1) (ret := (some .int)) (by decide +kernel) rfl (Nat.le_of_ble_eq_true rfl) ?_
  have hlk_116 : Cond.fieldLink RX8 116 "ColdStoreModel" "thrown" "I" ∈ wsX8_now := by decide +kernel
  have hlk_132 : Cond.fieldLink RX8 132 "ColdStoreModel" "time" "I" ∈ wsX8_now := by decide +kernel
  intro g X
  show zE g 1 0 [(0, .ref 1)] [] (zmm i lm) 0 0
  refine z_aload_n X 0 dX8_now_0 rfl rfl ?_
  refine z_iconst (v := 0) X dX8_now_1 (by decide) ?_
  refine z_putI (ci := 11) (j := 43) X dX8_now_2 zmm_c1 rfl (by decide) hlk_116 (Or.inl rfl) (Or.inl rfl) (fun _ => rfl) rfl rfl ?_
  obtain ⟨i_1, hi_1⟩ : ∃ q, q = zup i 1 43 0 := ⟨_, rfl⟩
  refine z_mem (M' := zmm i_1 lm) (by rw [hi_1]; rfl) ?_
  refine z_aload_n X 0 dX8_now_5 rfl rfl ?_
  refine z_getI (ci := 11) (j := 0) (x := i 1 0) X dX8_now_6 zmm_c1 rfl (by decide) hlk_132 (Or.inl rfl) (fun _ => rfl) (by show i_1 1 0 = (i 1 0); rw [hi_1, zup_n (by decide)]) ?_
  refine z_iret X rfl rfl (Nat.le_refl _) (Nat.le_refl _) dX8_now_9 ?_
  subst hi_1
  skip
  exact ⟨_, rfl, by (first | rfl | (simp only [Int32.lt_irrefl, if_true, if_false, not_true_eq_false, not_false_eq_true, and_true, true_and, and_false, false_and, or_true, true_or, or_false, false_or, and_self, ite_self, zb, q_nowV, q_nowF]; done) | (simp only [Int32.lt_irrefl, if_true, if_false, not_true_eq_false, not_false_eq_true, and_true, true_and, and_false, false_and, or_true, true_or, or_false, false_or, and_self, ite_self, zb, q_nowV, q_nowF]; rfl)), by (first | rfl | (simp only [Int32.lt_irrefl, if_true, if_false, not_true_eq_false, not_false_eq_true, and_true, true_and, and_false, false_and, or_true, true_or, or_false, false_or, and_self, ite_self, zb, q_nowV, q_nowF]; done) | (simp only [Int32.lt_irrefl, if_true, if_false, not_true_eq_false, not_false_eq_true, and_true, true_and, and_false, false_and, or_true, true_or, or_false, false_or, and_self, ite_self, zb, q_nowV, q_nowF]; rfl))⟩

set_option maxRecDepth 100000 in
set_option maxHeartbeats 4000000 in
theorem c_X8_power (l : Launch) (i : Nat → Nat → Int32) (lm : Nat → Nat → Int64) : zS l yX8_power wsX8_power 0 0 0 0 [.ref 1] (zmm i lm) (zpi (fun rr M1 => rr = q_powerV i ∧ M1 = zmm (q_powerF i) lm)) zno := by
  refine z_intro (cc := cX8_power) (maxL := 1) (ret := (some .int)) (by decide +kernel) rfl (Nat.le_of_ble_eq_true rfl) ?_
  have hlk_116 : Cond.fieldLink RX8 116 "ColdStoreModel" "thrown" "I" ∈ wsX8_power := by decide +kernel
  have hlk_139 : Cond.fieldLink RX8 139 "ColdStoreModel" "powerNow" "I" ∈ wsX8_power := by decide +kernel
  intro g X
  show zE g 1 0 [(0, .ref 1)] [] (zmm i lm) 0 0
  refine z_aload_n X 0 dX8_power_0 rfl rfl ?_
  refine z_iconst (v := 0) X dX8_power_1 (by decide) ?_
  refine z_putI (ci := 11) (j := 43) X dX8_power_2 zmm_c1 rfl (by decide) hlk_116 (Or.inl rfl) (Or.inl rfl) (fun _ => rfl) rfl rfl ?_
  obtain ⟨i_1, hi_1⟩ : ∃ q, q = zup i 1 43 0 := ⟨_, rfl⟩
  refine z_mem (M' := zmm i_1 lm) (by rw [hi_1]; rfl) ?_
  refine z_aload_n X 0 dX8_power_5 rfl rfl ?_
  refine z_getI (ci := 11) (j := 24) (x := i 1 24) X dX8_power_6 zmm_c1 rfl (by decide) hlk_139 (Or.inl rfl) (fun _ => rfl) (by show i_1 1 24 = (i 1 24); rw [hi_1, zup_n (by decide)]) ?_
  refine z_iret X rfl rfl (Nat.le_refl _) (Nat.le_refl _) dX8_power_9 ?_
  subst hi_1
  skip
  exact ⟨_, rfl, by (first | rfl | (simp only [Int32.lt_irrefl, if_true, if_false, not_true_eq_false, not_false_eq_true, and_true, true_and, and_false, false_and, or_true, true_or, or_false, false_or, and_self, ite_self, zb, q_powerV, q_powerF]; done) | (simp only [Int32.lt_irrefl, if_true, if_false, not_true_eq_false, not_false_eq_true, and_true, true_and, and_false, false_and, or_true, true_or, or_false, false_or, and_self, ite_self, zb, q_powerV, q_powerF]; rfl)), by (first | rfl | (simp only [Int32.lt_irrefl, if_true, if_false, not_true_eq_false, not_false_eq_true, and_true, true_and, and_false, false_and, or_true, true_or, or_false, false_or, and_self, ite_self, zb, q_powerV, q_powerF]; done) | (simp only [Int32.lt_irrefl, if_true, if_false, not_true_eq_false, not_false_eq_true, and_true, true_and, and_false, false_and, or_true, true_or, or_false, false_or, and_self, ite_self, zb, q_powerV, q_powerF]; rfl))⟩

set_option maxRecDepth 100000 in
set_option maxHeartbeats 4000000 in
theorem c_X8_greatestPower (l : Launch) (i : Nat → Nat → Int32) (lm : Nat → Nat → Int64) : zS l yX8_greatestPower wsX8_greatestPower 0 0 0 0 [.ref 1] (zmm i lm) (zpi (fun rr M1 => rr = q_greatestPowerV i ∧ M1 = zmm (q_greatestPowerF i) lm)) zno := by
  refine z_intro (cc := cX8_greatestPower) (maxL := 1) (ret := (some .int)) (by decide +kernel) rfl (Nat.le_of_ble_eq_true rfl) ?_
  have hlk_116 : Cond.fieldLink RX8 116 "ColdStoreModel" "thrown" "I" ∈ wsX8_greatestPower := by decide +kernel
  have hlk_161 : Cond.fieldLink RX8 161 "ColdStoreModel" "powerMost" "I" ∈ wsX8_greatestPower := by decide +kernel
  intro g X
  show zE g 1 0 [(0, .ref 1)] [] (zmm i lm) 0 0
  refine z_aload_n X 0 dX8_greatestPower_0 rfl rfl ?_
  refine z_iconst (v := 0) X dX8_greatestPower_1 (by decide) ?_
  refine z_putI (ci := 11) (j := 43) X dX8_greatestPower_2 zmm_c1 rfl (by decide) hlk_116 (Or.inl rfl) (Or.inl rfl) (fun _ => rfl) rfl rfl ?_
  obtain ⟨i_1, hi_1⟩ : ∃ q, q = zup i 1 43 0 := ⟨_, rfl⟩
  refine z_mem (M' := zmm i_1 lm) (by rw [hi_1]; rfl) ?_
  refine z_aload_n X 0 dX8_greatestPower_5 rfl rfl ?_
  refine z_getI (ci := 11) (j := 25) (x := i 1 25) X dX8_greatestPower_6 zmm_c1 rfl (by decide) hlk_161 (Or.inl rfl) (fun _ => rfl) (by show i_1 1 25 = (i 1 25); rw [hi_1, zup_n (by decide)]) ?_
  refine z_iret X rfl rfl (Nat.le_refl _) (Nat.le_refl _) dX8_greatestPower_9 ?_
  subst hi_1
  skip
  exact ⟨_, rfl, by (first | rfl | (simp only [Int32.lt_irrefl, if_true, if_false, not_true_eq_false, not_false_eq_true, and_true, true_and, and_false, false_and, or_true, true_or, or_false, false_or, and_self, ite_self, zb, q_greatestPowerV, q_greatestPowerF]; done) | (simp only [Int32.lt_irrefl, if_true, if_false, not_true_eq_false, not_false_eq_true, and_true, true_and, and_false, false_and, or_true, true_or, or_false, false_or, and_self, ite_self, zb, q_greatestPowerV, q_greatestPowerF]; rfl)), by (first | rfl | (simp only [Int32.lt_irrefl, if_true, if_false, not_true_eq_false, not_false_eq_true, and_true, true_and, and_false, false_and, or_true, true_or, or_false, false_or, and_self, ite_self, zb, q_greatestPowerV, q_greatestPowerF]; done) | (simp only [Int32.lt_irrefl, if_true, if_false, not_true_eq_false, not_false_eq_true, and_true, true_and, and_false, false_and, or_true, true_or, or_false, false_or, and_self, ite_self, zb, q_greatestPowerV, q_greatestPowerF]; rfl))⟩

set_option maxRecDepth 100000 in
set_option maxHeartbeats 4000000 in
theorem c_X8_pallets (l : Launch) (i : Nat → Nat → Int32) (lm : Nat → Nat → Int64) : zS l yX8_pallets wsX8_pallets 0 0 0 0 [.ref 1] (zmm i lm) (zpi (fun rr M1 => rr = q_palletsV i ∧ M1 = zmm (q_palletsF i) lm)) zno := by
  refine z_intro (cc := cX8_pallets) (maxL := 1) (ret := (some .int)) (by decide +kernel) rfl (Nat.le_of_ble_eq_true rfl) ?_
  have hlk_116 : Cond.fieldLink RX8 116 "ColdStoreModel" "thrown" "I" ∈ wsX8_pallets := by decide +kernel
  have hlk_126 : Cond.fieldLink RX8 126 "ColdStoreModel" "pallets" "I" ∈ wsX8_pallets := by decide +kernel
  intro g X
  show zE g 1 0 [(0, .ref 1)] [] (zmm i lm) 0 0
  refine z_aload_n X 0 dX8_pallets_0 rfl rfl ?_
  refine z_iconst (v := 0) X dX8_pallets_1 (by decide) ?_
  refine z_putI (ci := 11) (j := 43) X dX8_pallets_2 zmm_c1 rfl (by decide) hlk_116 (Or.inl rfl) (Or.inl rfl) (fun _ => rfl) rfl rfl ?_
  obtain ⟨i_1, hi_1⟩ : ∃ q, q = zup i 1 43 0 := ⟨_, rfl⟩
  refine z_mem (M' := zmm i_1 lm) (by rw [hi_1]; rfl) ?_
  refine z_aload_n X 0 dX8_pallets_5 rfl rfl ?_
  refine z_getI (ci := 11) (j := 35) (x := i 1 35) X dX8_pallets_6 zmm_c1 rfl (by decide) hlk_126 (Or.inl rfl) (fun _ => rfl) (by show i_1 1 35 = (i 1 35); rw [hi_1, zup_n (by decide)]) ?_
  refine z_iret X rfl rfl (Nat.le_refl _) (Nat.le_refl _) dX8_pallets_9 ?_
  subst hi_1
  skip
  exact ⟨_, rfl, by (first | rfl | (simp only [Int32.lt_irrefl, if_true, if_false, not_true_eq_false, not_false_eq_true, and_true, true_and, and_false, false_and, or_true, true_or, or_false, false_or, and_self, ite_self, zb, q_palletsV, q_palletsF]; done) | (simp only [Int32.lt_irrefl, if_true, if_false, not_true_eq_false, not_false_eq_true, and_true, true_and, and_false, false_and, or_true, true_or, or_false, false_or, and_self, ite_self, zb, q_palletsV, q_palletsF]; rfl)), by (first | rfl | (simp only [Int32.lt_irrefl, if_true, if_false, not_true_eq_false, not_false_eq_true, and_true, true_and, and_false, false_and, or_true, true_or, or_false, false_or, and_self, ite_self, zb, q_palletsV, q_palletsF]; done) | (simp only [Int32.lt_irrefl, if_true, if_false, not_true_eq_false, not_false_eq_true, and_true, true_and, and_false, false_and, or_true, true_or, or_false, false_or, and_self, ite_self, zb, q_palletsV, q_palletsF]; rfl))⟩

set_option maxRecDepth 100000 in
set_option maxHeartbeats 4000000 in
theorem c_X8_bill (l : Launch) (i : Nat → Nat → Int32) (lm : Nat → Nat → Int64) : zS l yX8_bill wsX8_bill 0 0 0 0 [.ref 1] (zmm i lm) (zpj (fun rr M1 => rr = q_billV i lm ∧ M1 = zmm (q_billF i) lm)) zno := by
  refine z_intro (cc := cX8_bill) (maxL := 1) (ret := (some .long)) (by decide +kernel) rfl (Nat.le_of_ble_eq_true rfl) ?_
  have hlk_116 : Cond.fieldLink RX8 116 "ColdStoreModel" "thrown" "I" ∈ wsX8_bill := by decide +kernel
  have hlk_164 : Cond.fieldLink RX8 164 "ColdStoreModel" "costs" "J" ∈ wsX8_bill := by decide +kernel
  have hlk_161 : Cond.fieldLink RX8 161 "ColdStoreModel" "powerMost" "I" ∈ wsX8_bill := by decide +kernel
  have hlk_188 : Cond.fieldLink RX8 188 "ColdStoreModel" "charge" "I" ∈ wsX8_bill := by decide +kernel
  intro g X
  show zE g 1 0 [(0, .ref 1)] [] (zmm i lm) 0 0
  refine z_aload_n X 0 dX8_bill_0 rfl rfl ?_
  refine z_iconst (v := 0) X dX8_bill_1 (by decide) ?_
  refine z_putI (ci := 11) (j := 43) X dX8_bill_2 zmm_c1 rfl (by decide) hlk_116 (Or.inl rfl) (Or.inl rfl) (fun _ => rfl) rfl rfl ?_
  obtain ⟨i_1, hi_1⟩ : ∃ q, q = zup i 1 43 0 := ⟨_, rfl⟩
  refine z_mem (M' := zmm i_1 lm) (by rw [hi_1]; rfl) ?_
  refine z_aload_n X 0 dX8_bill_5 rfl rfl ?_
  refine z_getL (ci := 11) (j := 26) (x := lm 1 26) X dX8_bill_6 zmm_c1 rfl (by decide) hlk_164 (Or.inl rfl) (fun _ => rfl) (rfl) ?_
  refine z_aload_n X 0 dX8_bill_9 rfl rfl ?_
  refine z_getI (ci := 11) (j := 25) (x := i 1 25) X dX8_bill_10 zmm_c1 rfl (by decide) hlk_161 (Or.inl rfl) (fun _ => rfl) (by show i_1 1 25 = (i 1 25); rw [hi_1, zup_n (by decide)]) ?_
  refine z_i2l X dX8_bill_13 ?_
  refine z_aload_n X 0 dX8_bill_14 rfl rfl ?_
  refine z_getI (ci := 11) (j := 22) (x := i 1 22) X dX8_bill_15 zmm_c1 rfl (by decide) hlk_188 (Or.inl rfl) (fun _ => rfl) (by show i_1 1 22 = (i 1 22); rw [hi_1, zup_n (by decide)]) ?_
  refine z_i2l X dX8_bill_18 ?_
  refine z_lmul X dX8_bill_19 ?_
  refine z_ladd X dX8_bill_20 ?_
  refine z_lret X rfl (Nat.le_refl _) (Nat.le_refl _) dX8_bill_21 ?_
  subst hi_1
  skip
  exact ⟨_, rfl, by (first | rfl | (simp only [Int32.lt_irrefl, if_true, if_false, not_true_eq_false, not_false_eq_true, and_true, true_and, and_false, false_and, or_true, true_or, or_false, false_or, and_self, ite_self, zb, q_billV, q_billF]; done) | (simp only [Int32.lt_irrefl, if_true, if_false, not_true_eq_false, not_false_eq_true, and_true, true_and, and_false, false_and, or_true, true_or, or_false, false_or, and_self, ite_self, zb, q_billV, q_billF]; rfl)), by (first | rfl | (simp only [Int32.lt_irrefl, if_true, if_false, not_true_eq_false, not_false_eq_true, and_true, true_and, and_false, false_and, or_true, true_or, or_false, false_or, and_self, ite_self, zb, q_billV, q_billF]; done) | (simp only [Int32.lt_irrefl, if_true, if_false, not_true_eq_false, not_false_eq_true, and_true, true_and, and_false, false_and, or_true, true_or, or_false, false_or, and_self, ite_self, zb, q_billV, q_billF]; rfl))⟩

set_option maxRecDepth 100000 in
set_option maxHeartbeats 4000000 in
theorem c_X8_billByRecords (l : Launch) (i : Nat → Nat → Int32) (lm : Nat → Nat → Int64) : zS l yX8_billByRecords wsX8_billByRecords 1 20 0 0 [.ref 1] (zmm i lm) (zpj (fun rr M1 => rr = q_billByRecordsV i lm ∧ M1 = zmm (q_billByRecordsF i) lm)) zno := by
  refine z_intro (cc := cX8_billByRecords) (maxL := 1) (ret := (some .long)) (by decide +kernel) rfl (Nat.le_of_ble_eq_true rfl) ?_
  intro g X
  show zE g 1 0 [(0, .ref 1)] [] (zmm i lm) 0 0
  refine z_aload_n X 0 dX8_billByRecords_0 rfl rfl ?_
  refine z_callVl (As := []) (rest := []) (n1 := 0) (ci := 11) X dX8_billByRecords_1 (c_X8_bill l _ _) gX8_billByRecords_X8_bill rfl rfl (by decide +kernel) ⟨by decide, by decide⟩ zmm_c1 rfl rfl (Nat.le_of_ble_eq_true rfl) ⟨by decide, by decide⟩ (fun _ h => h.elim) ?_
  rintro _ _ ⟨rfl, rfl⟩
  refine z_lret X rfl (Nat.le_refl _) (Nat.le_refl _) dX8_billByRecords_4 ?_
  skip
  exact ⟨_, rfl, by (first | rfl | (simp only [Int32.lt_irrefl, if_true, if_false, not_true_eq_false, not_false_eq_true, and_true, true_and, and_false, false_and, or_true, true_or, or_false, false_or, and_self, ite_self, zb, q_billByRecordsV, q_billByRecordsF]; done) | (simp only [Int32.lt_irrefl, if_true, if_false, not_true_eq_false, not_false_eq_true, and_true, true_and, and_false, false_and, or_true, true_or, or_false, false_or, and_self, ite_self, zb, q_billByRecordsV, q_billByRecordsF]; rfl)), by (first | rfl | (simp only [Int32.lt_irrefl, if_true, if_false, not_true_eq_false, not_false_eq_true, and_true, true_and, and_false, false_and, or_true, true_or, or_false, false_or, and_self, ite_self, zb, q_billByRecordsV, q_billByRecordsF]; done) | (simp only [Int32.lt_irrefl, if_true, if_false, not_true_eq_false, not_false_eq_true, and_true, true_and, and_false, false_and, or_true, true_or, or_false, false_or, and_self, ite_self, zb, q_billByRecordsV, q_billByRecordsF]; rfl))⟩

set_option maxRecDepth 100000 in
set_option maxHeartbeats 4000000 in
theorem c_X8_isConsistent (l : Launch) (i : Nat → Nat → Int32) (lm : Nat → Nat → Int64) : zS l yX8_isConsistent wsX8_isConsistent 0 0 0 0 [.ref 1] (zmm i lm) (zpi (fun rr M1 => rr = q_isConsistentV i ∧ M1 = zmm (q_isConsistentF i) lm)) zno := by
  refine z_intro (cc := cX8_isConsistent) (maxL := 1) (ret := (some .boolean)) (by decide +kernel) rfl (Nat.le_of_ble_eq_true rfl) ?_
  have hlk_116 : Cond.fieldLink RX8 116 "ColdStoreModel" "thrown" "I" ∈ wsX8_isConsistent := by decide +kernel
  intro g X
  show zE g 1 0 [(0, .ref 1)] [] (zmm i lm) 0 0
  refine z_aload_n X 0 dX8_isConsistent_0 rfl rfl ?_
  refine z_iconst (v := 0) X dX8_isConsistent_1 (by decide) ?_
  refine z_putI (ci := 11) (j := 43) X dX8_isConsistent_2 zmm_c1 rfl (by decide) hlk_116 (Or.inl rfl) (Or.inl rfl) (fun _ => rfl) rfl rfl ?_
  obtain ⟨i_1, hi_1⟩ : ∃ q, q = zup i 1 43 0 := ⟨_, rfl⟩
  refine z_mem (M' := zmm i_1 lm) (by rw [hi_1]; rfl) ?_
  refine z_iconst (v := 1) X dX8_isConsistent_5 (by decide) ?_
  refine z_iret X rfl (rfl) (Nat.le_refl _) (Nat.le_refl _) dX8_isConsistent_6 ?_
  subst hi_1
  skip
  exact ⟨_, rfl, by (first | rfl | (simp only [Int32.lt_irrefl, if_true, if_false, not_true_eq_false, not_false_eq_true, and_true, true_and, and_false, false_and, or_true, true_or, or_false, false_or, and_self, ite_self, zb, q_isConsistentV, q_isConsistentF]; done) | (simp only [Int32.lt_irrefl, if_true, if_false, not_true_eq_false, not_false_eq_true, and_true, true_and, and_false, false_and, or_true, true_or, or_false, false_or, and_self, ite_self, zb, q_isConsistentV, q_isConsistentF]; rfl)), by (first | rfl | (simp only [Int32.lt_irrefl, if_true, if_false, not_true_eq_false, not_false_eq_true, and_true, true_and, and_false, false_and, or_true, true_or, or_false, false_or, and_self, ite_self, zb, q_isConsistentV, q_isConsistentF]; done) | (simp only [Int32.lt_irrefl, if_true, if_false, not_true_eq_false, not_false_eq_true, and_true, true_and, and_false, false_and, or_true, true_or, or_false, false_or, and_self, ite_self, zb, q_isConsistentV, q_isConsistentF]; rfl))⟩

set_option maxRecDepth 100000 in
set_option maxHeartbeats 4000000 in
theorem c_X8_setOutside (l : Launch) (i : Nat → Nat → Int32) (lm : Nat → Nat → Int64) (t : Int32) : zS l yX8_setOutside wsX8_setOutside 1 22 0 0 [.ref 1, .int t] (zmm i lm) (zpi (fun rr M1 => rr = q_setOutsideV i t ∧ M1 = zmm (q_setOutsideF i t) lm)) zno := by
  refine z_intro (cc := cX8_setOutside) (maxL := 3) (ret := (some .int)) (by decide +kernel) rfl (Nat.le_of_ble_eq_true rfl) ?_
  have hlk_116 : Cond.fieldLink RX8 116 "ColdStoreModel" "thrown" "I" ∈ wsX8_setOutside := by decide +kernel
  have hlk_7 : Cond.fieldLink RX8 7 "ColdStoreModel" "outside" "I" ∈ wsX8_setOutside := by decide +kernel
  intro g X
  show zE g 3 0 [(0, .ref 1), (1, .int t)] [] (zmm i lm) 0 0
  refine z_aload_n X 0 dX8_setOutside_0 rfl rfl ?_
  refine z_iload_n X 1 dX8_setOutside_1 rfl rfl ?_
  refine z_sipush (v := (-300)) X dX8_setOutside_2 (by decide) ?_
  refine z_sipush (v := 450) X dX8_setOutside_5 (by decide) ?_
  refine z_callSi (As := [.int t, .int (-300), .int 450]) (rest := [.ref 1]) (n1 := 3) X dX8_setOutside_8 (c_X8_in l _ t (-300) 450) gX8_setOutside_X8_in rfl rfl (by decide +kernel) ⟨by decide, by decide⟩ rfl (Nat.le_of_ble_eq_true rfl) ⟨by decide, by decide⟩ (fun _ h => h.elim) ?_
  rintro _ _ ⟨rfl, rfl⟩
  refine z_if_eq X 18 dX8_setOutside_11 (by decide) (fun c_11 => ?_) (fun c_11 => ?_)
  · skip
    refine z_iconst (v := 1) X dX8_setOutside_18 (by decide) ?_
    refine z_putI (ci := 11) (j := 43) X dX8_setOutside_19 zmm_c1 rfl (by decide) hlk_116 (Or.inl rfl) (Or.inl rfl) (fun _ => rfl) rfl rfl ?_
    obtain ⟨i_1, hi_1⟩ : ∃ q, q = zup i 1 43 1 := ⟨_, rfl⟩
    refine z_mem (M' := zmm i_1 lm) (by rw [hi_1]; rfl) ?_
    refine z_aload_n X 0 dX8_setOutside_22 rfl rfl ?_
    refine z_getI (ci := 11) (j := 43) (x := 1) X dX8_setOutside_23 zmm_c1 rfl (by decide) hlk_116 (Or.inl rfl) (fun _ => rfl) (by show i_1 1 43 = 1; rw [hi_1, zup_s]) ?_
    refine z_if_le X 31 dX8_setOutside_26 (by decide) (fun c_26 => ?_) (fun c_26 => ?_)
    · exact absurd c_26 (by decide)
    · skip
      refine z_iconst (v := 0) X dX8_setOutside_29 (by decide) ?_
      refine z_iret X rfl rfl (Nat.le_refl _) (Nat.le_refl _) dX8_setOutside_30 ?_
      subst hi_1
      (try simp only [zb_0, Classical.not_not] at c_11 c_26)
      exact ⟨_, rfl, by (first | rfl | (simp only [Int32.lt_irrefl, if_true, if_false, not_true_eq_false, not_false_eq_true, and_true, true_and, and_false, false_and, or_true, true_or, or_false, false_or, and_self, ite_self, zb, q_setOutsideV, q_setOutsideF, c_11, c_26, eq_true c_11, eq_true c_26]; done) | (simp only [Int32.lt_irrefl, if_true, if_false, not_true_eq_false, not_false_eq_true, and_true, true_and, and_false, false_and, or_true, true_or, or_false, false_or, and_self, ite_self, zb, q_setOutsideV, q_setOutsideF, c_11, c_26, eq_true c_11, eq_true c_26]; rfl)), by (first | rfl | (simp only [Int32.lt_irrefl, if_true, if_false, not_true_eq_false, not_false_eq_true, and_true, true_and, and_false, false_and, or_true, true_or, or_false, false_or, and_self, ite_self, zb, q_setOutsideV, q_setOutsideF, c_11, c_26, eq_true c_11, eq_true c_26]; done) | (simp only [Int32.lt_irrefl, if_true, if_false, not_true_eq_false, not_false_eq_true, and_true, true_and, and_false, false_and, or_true, true_or, or_false, false_or, and_self, ite_self, zb, q_setOutsideV, q_setOutsideF, c_11, c_26, eq_true c_11, eq_true c_26]; rfl))⟩
  · skip
    refine z_iconst (v := 0) X dX8_setOutside_14 (by decide) ?_
    refine z_goto (tgt := 19) X dX8_setOutside_15 (by decide) ?_
    refine z_putI (ci := 11) (j := 43) X dX8_setOutside_19 zmm_c1 rfl (by decide) hlk_116 (Or.inl rfl) (Or.inl rfl) (fun _ => rfl) rfl rfl ?_
    obtain ⟨i_2, hi_2⟩ : ∃ q, q = zup i 1 43 0 := ⟨_, rfl⟩
    refine z_mem (M' := zmm i_2 lm) (by rw [hi_2]; rfl) ?_
    refine z_aload_n X 0 dX8_setOutside_22 rfl rfl ?_
    refine z_getI (ci := 11) (j := 43) (x := 0) X dX8_setOutside_23 zmm_c1 rfl (by decide) hlk_116 (Or.inl rfl) (fun _ => rfl) (by show i_2 1 43 = 0; rw [hi_2, zup_s]) ?_
    refine z_if_le X 31 dX8_setOutside_26 (by decide) (fun c_26 => ?_) (fun c_26 => ?_)
    · skip
      refine z_aload_n X 0 dX8_setOutside_31 rfl rfl ?_
      refine z_getI (ci := 11) (j := 1) (x := i 1 1) X dX8_setOutside_32 zmm_c1 rfl (by decide) hlk_7 (Or.inl rfl) (fun _ => rfl) (by show i_2 1 1 = (i 1 1); rw [hi_2, zup_n (by decide)]) ?_
      refine z_istore_n (ls' := [(2, .int (i 1 1)), (0, .ref 1), (1, .int t)]) X dX8_setOutside_35 rfl (by decide) rfl ?_
      refine z_aload_n X 1 dX8_setOutside_36 rfl rfl ?_
      refine z_iload_n X 2 dX8_setOutside_37 rfl rfl ?_
      refine z_putI (ci := 11) (j := 1) X dX8_setOutside_38 zmm_c1 rfl (by decide) hlk_7 (Or.inl rfl) (Or.inl rfl) (fun _ => rfl) rfl rfl ?_
      obtain ⟨i_3, hi_3⟩ : ∃ q, q = zup i_2 1 1 t := ⟨_, rfl⟩
      refine z_mem (M' := zmm i_3 lm) (by rw [hi_3]; rfl) ?_
      refine z_iload_n X 0 dX8_setOutside_41 rfl rfl ?_
      refine z_iret X rfl rfl (Nat.le_refl _) (Nat.le_refl _) dX8_setOutside_42 ?_
      subst hi_3
      subst hi_2
      (try simp only [zb_0, Classical.not_not] at c_11 c_26)
      exact ⟨_, rfl, by (first | rfl | (simp only [Int32.lt_irrefl, if_true, if_false, not_true_eq_false, not_false_eq_true, and_true, true_and, and_false, false_and, or_true, true_or, or_false, false_or, and_self, ite_self, zb, q_setOutsideV, q_setOutsideF, c_11, c_26, eq_true c_11, eq_true c_26]; done) | (simp only [Int32.lt_irrefl, if_true, if_false, not_true_eq_false, not_false_eq_true, and_true, true_and, and_false, false_and, or_true, true_or, or_false, false_or, and_self, ite_self, zb, q_setOutsideV, q_setOutsideF, c_11, c_26, eq_true c_11, eq_true c_26]; rfl)), by (first | rfl | (simp only [Int32.lt_irrefl, if_true, if_false, not_true_eq_false, not_false_eq_true, and_true, true_and, and_false, false_and, or_true, true_or, or_false, false_or, and_self, ite_self, zb, q_setOutsideV, q_setOutsideF, c_11, c_26, eq_true c_11, eq_true c_26]; done) | (simp only [Int32.lt_irrefl, if_true, if_false, not_true_eq_false, not_false_eq_true, and_true, true_and, and_false, false_and, or_true, true_or, or_false, false_or, and_self, ite_self, zb, q_setOutsideV, q_setOutsideF, c_11, c_26, eq_true c_11, eq_true c_26]; rfl))⟩
    · exact absurd c_26 (by decide)

set_option maxRecDepth 100000 in
set_option maxHeartbeats 4000000 in
theorem c_X8_setCharge (l : Launch) (i : Nat → Nat → Int32) (lm : Nat → Nat → Int64) (c : Int32) : zS l yX8_setCharge wsX8_setCharge 1 22 0 0 [.ref 1, .int c] (zmm i lm) (zpi (fun rr M1 => rr = q_setChargeV i c ∧ M1 = zmm (q_setChargeF i c) lm)) zno := by
  refine z_intro (cc := cX8_setCharge) (maxL := 3) (ret := (some .int)) (by decide +kernel) rfl (Nat.le_of_ble_eq_true rfl) ?_
  have hlk_116 : Cond.fieldLink RX8 116 "ColdStoreModel" "thrown" "I" ∈ wsX8_setCharge := by decide +kernel
  have hlk_188 : Cond.fieldLink RX8 188 "ColdStoreModel" "charge" "I" ∈ wsX8_setCharge := by decide +kernel
  intro g X
  show zE g 3 0 [(0, .ref 1), (1, .int c)] [] (zmm i lm) 0 0
  refine z_aload_n X 0 dX8_setCharge_0 rfl rfl ?_
  refine z_iload_n X 1 dX8_setCharge_1 rfl rfl ?_
  refine z_iconst (v := 0) X dX8_setCharge_2 (by decide) ?_
  refine z_sipush (v := 1000) X dX8_setCharge_3 (by decide) ?_
  refine z_callSi (As := [.int c, .int 0, .int 1000]) (rest := [.ref 1]) (n1 := 3) X dX8_setCharge_6 (c_X8_in l _ c 0 1000) gX8_setCharge_X8_in rfl rfl (by decide +kernel) ⟨by decide, by decide⟩ rfl (Nat.le_of_ble_eq_true rfl) ⟨by decide, by decide⟩ (fun _ h => h.elim) ?_
  rintro _ _ ⟨rfl, rfl⟩
  refine z_if_eq X 16 dX8_setCharge_9 (by decide) (fun c_9 => ?_) (fun c_9 => ?_)
  · skip
    refine z_iconst (v := 1) X dX8_setCharge_16 (by decide) ?_
    refine z_putI (ci := 11) (j := 43) X dX8_setCharge_17 zmm_c1 rfl (by decide) hlk_116 (Or.inl rfl) (Or.inl rfl) (fun _ => rfl) rfl rfl ?_
    obtain ⟨i_1, hi_1⟩ : ∃ q, q = zup i 1 43 1 := ⟨_, rfl⟩
    refine z_mem (M' := zmm i_1 lm) (by rw [hi_1]; rfl) ?_
    refine z_aload_n X 0 dX8_setCharge_20 rfl rfl ?_
    refine z_getI (ci := 11) (j := 43) (x := 1) X dX8_setCharge_21 zmm_c1 rfl (by decide) hlk_116 (Or.inl rfl) (fun _ => rfl) (by show i_1 1 43 = 1; rw [hi_1, zup_s]) ?_
    refine z_if_le X 29 dX8_setCharge_24 (by decide) (fun c_24 => ?_) (fun c_24 => ?_)
    · exact absurd c_24 (by decide)
    · skip
      refine z_iconst (v := 0) X dX8_setCharge_27 (by decide) ?_
      refine z_iret X rfl rfl (Nat.le_refl _) (Nat.le_refl _) dX8_setCharge_28 ?_
      subst hi_1
      (try simp only [zb_0, Classical.not_not] at c_9 c_24)
      exact ⟨_, rfl, by (first | rfl | (simp only [Int32.lt_irrefl, if_true, if_false, not_true_eq_false, not_false_eq_true, and_true, true_and, and_false, false_and, or_true, true_or, or_false, false_or, and_self, ite_self, zb, q_setChargeV, q_setChargeF, c_9, c_24, eq_true c_9, eq_true c_24]; done) | (simp only [Int32.lt_irrefl, if_true, if_false, not_true_eq_false, not_false_eq_true, and_true, true_and, and_false, false_and, or_true, true_or, or_false, false_or, and_self, ite_self, zb, q_setChargeV, q_setChargeF, c_9, c_24, eq_true c_9, eq_true c_24]; rfl)), by (first | rfl | (simp only [Int32.lt_irrefl, if_true, if_false, not_true_eq_false, not_false_eq_true, and_true, true_and, and_false, false_and, or_true, true_or, or_false, false_or, and_self, ite_self, zb, q_setChargeV, q_setChargeF, c_9, c_24, eq_true c_9, eq_true c_24]; done) | (simp only [Int32.lt_irrefl, if_true, if_false, not_true_eq_false, not_false_eq_true, and_true, true_and, and_false, false_and, or_true, true_or, or_false, false_or, and_self, ite_self, zb, q_setChargeV, q_setChargeF, c_9, c_24, eq_true c_9, eq_true c_24]; rfl))⟩
  · skip
    refine z_iconst (v := 0) X dX8_setCharge_12 (by decide) ?_
    refine z_goto (tgt := 17) X dX8_setCharge_13 (by decide) ?_
    refine z_putI (ci := 11) (j := 43) X dX8_setCharge_17 zmm_c1 rfl (by decide) hlk_116 (Or.inl rfl) (Or.inl rfl) (fun _ => rfl) rfl rfl ?_
    obtain ⟨i_2, hi_2⟩ : ∃ q, q = zup i 1 43 0 := ⟨_, rfl⟩
    refine z_mem (M' := zmm i_2 lm) (by rw [hi_2]; rfl) ?_
    refine z_aload_n X 0 dX8_setCharge_20 rfl rfl ?_
    refine z_getI (ci := 11) (j := 43) (x := 0) X dX8_setCharge_21 zmm_c1 rfl (by decide) hlk_116 (Or.inl rfl) (fun _ => rfl) (by show i_2 1 43 = 0; rw [hi_2, zup_s]) ?_
    refine z_if_le X 29 dX8_setCharge_24 (by decide) (fun c_24 => ?_) (fun c_24 => ?_)
    · skip
      refine z_aload_n X 0 dX8_setCharge_29 rfl rfl ?_
      refine z_getI (ci := 11) (j := 22) (x := i 1 22) X dX8_setCharge_30 zmm_c1 rfl (by decide) hlk_188 (Or.inl rfl) (fun _ => rfl) (by show i_2 1 22 = (i 1 22); rw [hi_2, zup_n (by decide)]) ?_
      refine z_istore_n (ls' := [(2, .int (i 1 22)), (0, .ref 1), (1, .int c)]) X dX8_setCharge_33 rfl (by decide) rfl ?_
      refine z_aload_n X 1 dX8_setCharge_34 rfl rfl ?_
      refine z_iload_n X 2 dX8_setCharge_35 rfl rfl ?_
      refine z_putI (ci := 11) (j := 22) X dX8_setCharge_36 zmm_c1 rfl (by decide) hlk_188 (Or.inl rfl) (Or.inl rfl) (fun _ => rfl) rfl rfl ?_
      obtain ⟨i_3, hi_3⟩ : ∃ q, q = zup i_2 1 22 c := ⟨_, rfl⟩
      refine z_mem (M' := zmm i_3 lm) (by rw [hi_3]; rfl) ?_
      refine z_iload_n X 0 dX8_setCharge_39 rfl rfl ?_
      refine z_iret X rfl rfl (Nat.le_refl _) (Nat.le_refl _) dX8_setCharge_40 ?_
      subst hi_3
      subst hi_2
      (try simp only [zb_0, Classical.not_not] at c_9 c_24)
      exact ⟨_, rfl, by (first | rfl | (simp only [Int32.lt_irrefl, if_true, if_false, not_true_eq_false, not_false_eq_true, and_true, true_and, and_false, false_and, or_true, true_or, or_false, false_or, and_self, ite_self, zb, q_setChargeV, q_setChargeF, c_9, c_24, eq_true c_9, eq_true c_24]; done) | (simp only [Int32.lt_irrefl, if_true, if_false, not_true_eq_false, not_false_eq_true, and_true, true_and, and_false, false_and, or_true, true_or, or_false, false_or, and_self, ite_self, zb, q_setChargeV, q_setChargeF, c_9, c_24, eq_true c_9, eq_true c_24]; rfl)), by (first | rfl | (simp only [Int32.lt_irrefl, if_true, if_false, not_true_eq_false, not_false_eq_true, and_true, true_and, and_false, false_and, or_true, true_or, or_false, false_or, and_self, ite_self, zb, q_setChargeV, q_setChargeF, c_9, c_24, eq_true c_9, eq_true c_24]; done) | (simp only [Int32.lt_irrefl, if_true, if_false, not_true_eq_false, not_false_eq_true, and_true, true_and, and_false, false_and, or_true, true_or, or_false, false_or, and_self, ite_self, zb, q_setChargeV, q_setChargeF, c_9, c_24, eq_true c_9, eq_true c_24]; rfl))⟩
    · exact absurd c_24 (by decide)

set_option maxRecDepth 100000 in
set_option maxHeartbeats 4000000 in
theorem c_X8_setPowerLimit (l : Launch) (i : Nat → Nat → Int32) (lm : Nat → Nat → Int64) (c : Int32) : zS l yX8_setPowerLimit wsX8_setPowerLimit 1 22 0 0 [.ref 1, .int c] (zmm i lm) (zpi (fun rr M1 => rr = q_setPowerLimitV i c ∧ M1 = zmm (q_setPowerLimitF i c) lm)) zno := by
  refine z_intro (cc := cX8_setPowerLimit) (maxL := 3) (ret := (some .int)) (by decide +kernel) rfl (Nat.le_of_ble_eq_true rfl) ?_
  have hlk_116 : Cond.fieldLink RX8 116 "ColdStoreModel" "thrown" "I" ∈ wsX8_setPowerLimit := by decide +kernel
  have hlk_74 : Cond.fieldLink RX8 74 "ColdStoreModel" "limit" "I" ∈ wsX8_setPowerLimit := by decide +kernel
  intro g X
  show zE g 3 0 [(0, .ref 1), (1, .int c)] [] (zmm i lm) 0 0
  refine z_aload_n X 0 dX8_setPowerLimit_0 rfl rfl ?_
  refine z_iload_n X 1 dX8_setPowerLimit_1 rfl rfl ?_
  refine z_iconst (v := 0) X dX8_setPowerLimit_2 (by decide) ?_
  refine z_sipush (v := 400) X dX8_setPowerLimit_3 (by decide) ?_
  refine z_callSi (As := [.int c, .int 0, .int 400]) (rest := [.ref 1]) (n1 := 3) X dX8_setPowerLimit_6 (c_X8_in l _ c 0 400) gX8_setPowerLimit_X8_in rfl rfl (by decide +kernel) ⟨by decide, by decide⟩ rfl (Nat.le_of_ble_eq_true rfl) ⟨by decide, by decide⟩ (fun _ h => h.elim) ?_
  rintro _ _ ⟨rfl, rfl⟩
  refine z_if_eq X 16 dX8_setPowerLimit_9 (by decide) (fun c_9 => ?_) (fun c_9 => ?_)
  · skip
    refine z_iconst (v := 1) X dX8_setPowerLimit_16 (by decide) ?_
    refine z_putI (ci := 11) (j := 43) X dX8_setPowerLimit_17 zmm_c1 rfl (by decide) hlk_116 (Or.inl rfl) (Or.inl rfl) (fun _ => rfl) rfl rfl ?_
    obtain ⟨i_1, hi_1⟩ : ∃ q, q = zup i 1 43 1 := ⟨_, rfl⟩
    refine z_mem (M' := zmm i_1 lm) (by rw [hi_1]; rfl) ?_
    refine z_aload_n X 0 dX8_setPowerLimit_20 rfl rfl ?_
    refine z_getI (ci := 11) (j := 43) (x := 1) X dX8_setPowerLimit_21 zmm_c1 rfl (by decide) hlk_116 (Or.inl rfl) (fun _ => rfl) (by show i_1 1 43 = 1; rw [hi_1, zup_s]) ?_
    refine z_if_le X 29 dX8_setPowerLimit_24 (by decide) (fun c_24 => ?_) (fun c_24 => ?_)
    · exact absurd c_24 (by decide)
    · skip
      refine z_iconst (v := 0) X dX8_setPowerLimit_27 (by decide) ?_
      refine z_iret X rfl rfl (Nat.le_refl _) (Nat.le_refl _) dX8_setPowerLimit_28 ?_
      subst hi_1
      (try simp only [zb_0, Classical.not_not] at c_9 c_24)
      exact ⟨_, rfl, by (first | rfl | (simp only [Int32.lt_irrefl, if_true, if_false, not_true_eq_false, not_false_eq_true, and_true, true_and, and_false, false_and, or_true, true_or, or_false, false_or, and_self, ite_self, zb, q_setPowerLimitV, q_setPowerLimitF, c_9, c_24, eq_true c_9, eq_true c_24]; done) | (simp only [Int32.lt_irrefl, if_true, if_false, not_true_eq_false, not_false_eq_true, and_true, true_and, and_false, false_and, or_true, true_or, or_false, false_or, and_self, ite_self, zb, q_setPowerLimitV, q_setPowerLimitF, c_9, c_24, eq_true c_9, eq_true c_24]; rfl)), by (first | rfl | (simp only [Int32.lt_irrefl, if_true, if_false, not_true_eq_false, not_false_eq_true, and_true, true_and, and_false, false_and, or_true, true_or, or_false, false_or, and_self, ite_self, zb, q_setPowerLimitV, q_setPowerLimitF, c_9, c_24, eq_true c_9, eq_true c_24]; done) | (simp only [Int32.lt_irrefl, if_true, if_false, not_true_eq_false, not_false_eq_true, and_true, true_and, and_false, false_and, or_true, true_or, or_false, false_or, and_self, ite_self, zb, q_setPowerLimitV, q_setPowerLimitF, c_9, c_24, eq_true c_9, eq_true c_24]; rfl))⟩
  · skip
    refine z_iconst (v := 0) X dX8_setPowerLimit_12 (by decide) ?_
    refine z_goto (tgt := 17) X dX8_setPowerLimit_13 (by decide) ?_
    refine z_putI (ci := 11) (j := 43) X dX8_setPowerLimit_17 zmm_c1 rfl (by decide) hlk_116 (Or.inl rfl) (Or.inl rfl) (fun _ => rfl) rfl rfl ?_
    obtain ⟨i_2, hi_2⟩ : ∃ q, q = zup i 1 43 0 := ⟨_, rfl⟩
    refine z_mem (M' := zmm i_2 lm) (by rw [hi_2]; rfl) ?_
    refine z_aload_n X 0 dX8_setPowerLimit_20 rfl rfl ?_
    refine z_getI (ci := 11) (j := 43) (x := 0) X dX8_setPowerLimit_21 zmm_c1 rfl (by decide) hlk_116 (Or.inl rfl) (fun _ => rfl) (by show i_2 1 43 = 0; rw [hi_2, zup_s]) ?_
    refine z_if_le X 29 dX8_setPowerLimit_24 (by decide) (fun c_24 => ?_) (fun c_24 => ?_)
    · skip
      refine z_aload_n X 0 dX8_setPowerLimit_29 rfl rfl ?_
      refine z_getI (ci := 11) (j := 23) (x := i 1 23) X dX8_setPowerLimit_30 zmm_c1 rfl (by decide) hlk_74 (Or.inl rfl) (fun _ => rfl) (by show i_2 1 23 = (i 1 23); rw [hi_2, zup_n (by decide)]) ?_
      refine z_istore_n (ls' := [(2, .int (i 1 23)), (0, .ref 1), (1, .int c)]) X dX8_setPowerLimit_33 rfl (by decide) rfl ?_
      refine z_aload_n X 1 dX8_setPowerLimit_34 rfl rfl ?_
      refine z_iload_n X 2 dX8_setPowerLimit_35 rfl rfl ?_
      refine z_putI (ci := 11) (j := 23) X dX8_setPowerLimit_36 zmm_c1 rfl (by decide) hlk_74 (Or.inl rfl) (Or.inl rfl) (fun _ => rfl) rfl rfl ?_
      obtain ⟨i_3, hi_3⟩ : ∃ q, q = zup i_2 1 23 c := ⟨_, rfl⟩
      refine z_mem (M' := zmm i_3 lm) (by rw [hi_3]; rfl) ?_
      refine z_iload_n X 0 dX8_setPowerLimit_39 rfl rfl ?_
      refine z_iret X rfl rfl (Nat.le_refl _) (Nat.le_refl _) dX8_setPowerLimit_40 ?_
      subst hi_3
      subst hi_2
      (try simp only [zb_0, Classical.not_not] at c_9 c_24)
      exact ⟨_, rfl, by (first | rfl | (simp only [Int32.lt_irrefl, if_true, if_false, not_true_eq_false, not_false_eq_true, and_true, true_and, and_false, false_and, or_true, true_or, or_false, false_or, and_self, ite_self, zb, q_setPowerLimitV, q_setPowerLimitF, c_9, c_24, eq_true c_9, eq_true c_24]; done) | (simp only [Int32.lt_irrefl, if_true, if_false, not_true_eq_false, not_false_eq_true, and_true, true_and, and_false, false_and, or_true, true_or, or_false, false_or, and_self, ite_self, zb, q_setPowerLimitV, q_setPowerLimitF, c_9, c_24, eq_true c_9, eq_true c_24]; rfl)), by (first | rfl | (simp only [Int32.lt_irrefl, if_true, if_false, not_true_eq_false, not_false_eq_true, and_true, true_and, and_false, false_and, or_true, true_or, or_false, false_or, and_self, ite_self, zb, q_setPowerLimitV, q_setPowerLimitF, c_9, c_24, eq_true c_9, eq_true c_24]; done) | (simp only [Int32.lt_irrefl, if_true, if_false, not_true_eq_false, not_false_eq_true, and_true, true_and, and_false, false_and, or_true, true_or, or_false, false_or, and_self, ite_self, zb, q_setPowerLimitV, q_setPowerLimitF, c_9, c_24, eq_true c_9, eq_true c_24]; rfl))⟩
    · exact absurd c_24 (by decide)

set_option maxRecDepth 100000 in
set_option maxHeartbeats 4000000 in
theorem c_X8_setPrices (l : Launch) (i : Nat → Nat → Int32) (lm : Nat → Nat → Int64) (n : Int32) (p : Int32) (f : Int32) (e : Int32) : zS l yX8_setPrices wsX8_setPrices 1 22 0 0 [.ref 1, .int n, .int p, .int f, .int e] (zmm i lm) (zpi (fun rr M1 => rr = q_setPricesV i n p f e ∧ M1 = zmm (q_setPricesF i n p f e) lm)) zno := by
  refine z_intro (cc := cX8_setPrices) (maxL := 6) (ret := (some .int)) (by decide +kernel) rfl (Nat.le_of_ble_eq_true rfl) ?_
  have hlk_116 : Cond.fieldLink RX8 116 "ColdStoreModel" "thrown" "I" ∈ wsX8_setPrices := by decide +kernel
  have hlk_62 : Cond.fieldLink RX8 62 "ColdStoreModel" "normal" "I" ∈ wsX8_setPrices := by decide +kernel
  have hlk_65 : Cond.fieldLink RX8 65 "ColdStoreModel" "peak" "I" ∈ wsX8_setPrices := by decide +kernel
  have hlk_68 : Cond.fieldLink RX8 68 "ColdStoreModel" "first" "I" ∈ wsX8_setPrices := by decide +kernel
  have hlk_71 : Cond.fieldLink RX8 71 "ColdStoreModel" "last" "I" ∈ wsX8_setPrices := by decide +kernel
  intro g X
  show zE g 6 0 [(0, .ref 1), (1, .int n), (2, .int p), (3, .int f), (4, .int e)] [] (zmm i lm) 0 0
  refine z_aload_n X 0 dX8_setPrices_0 rfl rfl ?_
  refine z_iload_n X 1 dX8_setPrices_1 rfl rfl ?_
  refine z_iconst (v := 0) X dX8_setPrices_2 (by decide) ?_
  refine z_sipush (v := 1000) X dX8_setPrices_3 (by decide) ?_
  refine z_callSi (As := [.int n, .int 0, .int 1000]) (rest := [.ref 1]) (n1 := 3) X dX8_setPrices_6 (c_X8_in l _ n 0 1000) gX8_setPrices_X8_in rfl rfl (by decide +kernel) ⟨by decide, by decide⟩ rfl (Nat.le_of_ble_eq_true rfl) ⟨by decide, by decide⟩ (fun _ h => h.elim) ?_
  rintro _ _ ⟨rfl, rfl⟩
  refine z_if_eq X 48 dX8_setPrices_9 (by decide) (fun c_9 => ?_) (fun c_9 => ?_)
  · skip
    refine z_iconst (v := 1) X dX8_setPrices_48 (by decide) ?_
    refine z_putI (ci := 11) (j := 43) X dX8_setPrices_49 zmm_c1 rfl (by decide) hlk_116 (Or.inl rfl) (Or.inl rfl) (fun _ => rfl) rfl rfl ?_
    obtain ⟨i_1, hi_1⟩ : ∃ q, q = zup i 1 43 1 := ⟨_, rfl⟩
    refine z_mem (M' := zmm i_1 lm) (by rw [hi_1]; rfl) ?_
    refine z_aload_n X 0 dX8_setPrices_52 rfl rfl ?_
    refine z_getI (ci := 11) (j := 43) (x := 1) X dX8_setPrices_53 zmm_c1 rfl (by decide) hlk_116 (Or.inl rfl) (fun _ => rfl) (by show i_1 1 43 = 1; rw [hi_1, zup_s]) ?_
    refine z_if_le X 61 dX8_setPrices_56 (by decide) (fun c_56 => ?_) (fun c_56 => ?_)
    · exact absurd c_56 (by decide)
    · skip
      refine z_iconst (v := 0) X dX8_setPrices_59 (by decide) ?_
      refine z_iret X rfl rfl (Nat.le_refl _) (Nat.le_refl _) dX8_setPrices_60 ?_
      subst hi_1
      (try simp only [zb_0, Classical.not_not] at c_9 c_56)
      exact ⟨_, rfl, by (first | rfl | (simp only [Int32.lt_irrefl, if_true, if_false, not_true_eq_false, not_false_eq_true, and_true, true_and, and_false, false_and, or_true, true_or, or_false, false_or, and_self, ite_self, zb, q_setPricesV, q_setPricesF, c_9, c_56, eq_true c_9, eq_true c_56]; done) | (simp only [Int32.lt_irrefl, if_true, if_false, not_true_eq_false, not_false_eq_true, and_true, true_and, and_false, false_and, or_true, true_or, or_false, false_or, and_self, ite_self, zb, q_setPricesV, q_setPricesF, c_9, c_56, eq_true c_9, eq_true c_56]; rfl)), by (first | rfl | (simp only [Int32.lt_irrefl, if_true, if_false, not_true_eq_false, not_false_eq_true, and_true, true_and, and_false, false_and, or_true, true_or, or_false, false_or, and_self, ite_self, zb, q_setPricesV, q_setPricesF, c_9, c_56, eq_true c_9, eq_true c_56]; done) | (simp only [Int32.lt_irrefl, if_true, if_false, not_true_eq_false, not_false_eq_true, and_true, true_and, and_false, false_and, or_true, true_or, or_false, false_or, and_self, ite_self, zb, q_setPricesV, q_setPricesF, c_9, c_56, eq_true c_9, eq_true c_56]; rfl))⟩
  · skip
    refine z_iload_n X 2 dX8_setPrices_12 rfl rfl ?_
    refine z_iconst (v := 0) X dX8_setPrices_13 (by decide) ?_
    refine z_sipush (v := 1000) X dX8_setPrices_14 (by decide) ?_
    refine z_callSi (As := [.int p, .int 0, .int 1000]) (rest := [.ref 1]) (n1 := 3) X dX8_setPrices_17 (c_X8_in l _ p 0 1000) gX8_setPrices_X8_in rfl rfl (by decide +kernel) ⟨by decide, by decide⟩ rfl (Nat.le_of_ble_eq_true rfl) ⟨by decide, by decide⟩ (fun _ h => h.elim) ?_
    rintro _ _ ⟨rfl, rfl⟩
    refine z_if_eq X 48 dX8_setPrices_20 (by decide) (fun c_20 => ?_) (fun c_20 => ?_)
    · skip
      refine z_iconst (v := 1) X dX8_setPrices_48 (by decide) ?_
      refine z_putI (ci := 11) (j := 43) X dX8_setPrices_49 zmm_c1 rfl (by decide) hlk_116 (Or.inl rfl) (Or.inl rfl) (fun _ => rfl) rfl rfl ?_
      obtain ⟨i_2, hi_2⟩ : ∃ q, q = zup i 1 43 1 := ⟨_, rfl⟩
      refine z_mem (M' := zmm i_2 lm) (by rw [hi_2]; rfl) ?_
      refine z_aload_n X 0 dX8_setPrices_52 rfl rfl ?_
      refine z_getI (ci := 11) (j := 43) (x := 1) X dX8_setPrices_53 zmm_c1 rfl (by decide) hlk_116 (Or.inl rfl) (fun _ => rfl) (by show i_2 1 43 = 1; rw [hi_2, zup_s]) ?_
      refine z_if_le X 61 dX8_setPrices_56 (by decide) (fun c_56 => ?_) (fun c_56 => ?_)
      · exact absurd c_56 (by decide)
      · skip
        refine z_iconst (v := 0) X dX8_setPrices_59 (by decide) ?_
        refine z_iret X rfl rfl (Nat.le_refl _) (Nat.le_refl _) dX8_setPrices_60 ?_
        subst hi_2
        (try simp only [zb_0, Classical.not_not] at c_9 c_20 c_56)
        exact ⟨_, rfl, by (first | rfl | (simp only [Int32.lt_irrefl, if_true, if_false, not_true_eq_false, not_false_eq_true, and_true, true_and, and_false, false_and, or_true, true_or, or_false, false_or, and_self, ite_self, zb, q_setPricesV, q_setPricesF, c_9, c_20, c_56, eq_true c_9, eq_true c_20, eq_true c_56]; done) | (simp only [Int32.lt_irrefl, if_true, if_false, not_true_eq_false, not_false_eq_true, and_true, true_and, and_false, false_and, or_true, true_or, or_false, false_or, and_self, ite_self, zb, q_setPricesV, q_setPricesF, c_9, c_20, c_56, eq_true c_9, eq_true c_20, eq_true c_56]; rfl)), by (first | rfl | (simp only [Int32.lt_irrefl, if_true, if_false, not_true_eq_false, not_false_eq_true, and_true, true_and, and_false, false_and, or_true, true_or, or_false, false_or, and_self, ite_self, zb, q_setPricesV, q_setPricesF, c_9, c_20, c_56, eq_true c_9, eq_true c_20, eq_true c_56]; done) | (simp only [Int32.lt_irrefl, if_true, if_false, not_true_eq_false, not_false_eq_true, and_true, true_and, and_false, false_and, or_true, true_or, or_false, false_or, and_self, ite_self, zb, q_setPricesV, q_setPricesF, c_9, c_20, c_56, eq_true c_9, eq_true c_20, eq_true c_56]; rfl))⟩
    · skip
      refine z_iload_n X 3 dX8_setPrices_23 rfl rfl ?_
      refine z_iconst (v := 0) X dX8_setPrices_24 (by decide) ?_
      refine z_bipush (v := 95) X dX8_setPrices_25 (by decide) ?_
      refine z_callSi (As := [.int f, .int 0, .int 95]) (rest := [.ref 1]) (n1 := 3) X dX8_setPrices_27 (c_X8_in l _ f 0 95) gX8_setPrices_X8_in rfl rfl (by decide +kernel) ⟨by decide, by decide⟩ rfl (Nat.le_of_ble_eq_true rfl) ⟨by decide, by decide⟩ (fun _ h => h.elim) ?_
      rintro _ _ ⟨rfl, rfl⟩
      refine z_if_eq X 48 dX8_setPrices_30 (by decide) (fun c_30 => ?_) (fun c_30 => ?_)
      · skip
        refine z_iconst (v := 1) X dX8_setPrices_48 (by decide) ?_
        refine z_putI (ci := 11) (j := 43) X dX8_setPrices_49 zmm_c1 rfl (by decide) hlk_116 (Or.inl rfl) (Or.inl rfl) (fun _ => rfl) rfl rfl ?_
        obtain ⟨i_3, hi_3⟩ : ∃ q, q = zup i 1 43 1 := ⟨_, rfl⟩
        refine z_mem (M' := zmm i_3 lm) (by rw [hi_3]; rfl) ?_
        refine z_aload_n X 0 dX8_setPrices_52 rfl rfl ?_
        refine z_getI (ci := 11) (j := 43) (x := 1) X dX8_setPrices_53 zmm_c1 rfl (by decide) hlk_116 (Or.inl rfl) (fun _ => rfl) (by show i_3 1 43 = 1; rw [hi_3, zup_s]) ?_
        refine z_if_le X 61 dX8_setPrices_56 (by decide) (fun c_56 => ?_) (fun c_56 => ?_)
        · exact absurd c_56 (by decide)
        · skip
          refine z_iconst (v := 0) X dX8_setPrices_59 (by decide) ?_
          refine z_iret X rfl rfl (Nat.le_refl _) (Nat.le_refl _) dX8_setPrices_60 ?_
          subst hi_3
          (try simp only [zb_0, Classical.not_not] at c_9 c_20 c_30 c_56)
          exact ⟨_, rfl, by (first | rfl | (simp only [Int32.lt_irrefl, if_true, if_false, not_true_eq_false, not_false_eq_true, and_true, true_and, and_false, false_and, or_true, true_or, or_false, false_or, and_self, ite_self, zb, q_setPricesV, q_setPricesF, c_9, c_20, c_30, c_56, eq_true c_9, eq_true c_20, eq_true c_30, eq_true c_56]; done) | (simp only [Int32.lt_irrefl, if_true, if_false, not_true_eq_false, not_false_eq_true, and_true, true_and, and_false, false_and, or_true, true_or, or_false, false_or, and_self, ite_self, zb, q_setPricesV, q_setPricesF, c_9, c_20, c_30, c_56, eq_true c_9, eq_true c_20, eq_true c_30, eq_true c_56]; rfl)), by (first | rfl | (simp only [Int32.lt_irrefl, if_true, if_false, not_true_eq_false, not_false_eq_true, and_true, true_and, and_false, false_and, or_true, true_or, or_false, false_or, and_self, ite_self, zb, q_setPricesV, q_setPricesF, c_9, c_20, c_30, c_56, eq_true c_9, eq_true c_20, eq_true c_30, eq_true c_56]; done) | (simp only [Int32.lt_irrefl, if_true, if_false, not_true_eq_false, not_false_eq_true, and_true, true_and, and_false, false_and, or_true, true_or, or_false, false_or, and_self, ite_self, zb, q_setPricesV, q_setPricesF, c_9, c_20, c_30, c_56, eq_true c_9, eq_true c_20, eq_true c_30, eq_true c_56]; rfl))⟩
      · skip
        refine z_iload X 4 dX8_setPrices_33 rfl ?_
        refine z_iload_n X 3 dX8_setPrices_35 rfl rfl ?_
        refine z_bipush (v := 95) X dX8_setPrices_36 (by decide) ?_
        refine z_callSi (As := [.int e, .int f, .int 95]) (rest := [.ref 1]) (n1 := 3) X dX8_setPrices_38 (c_X8_in l _ e f 95) gX8_setPrices_X8_in rfl rfl (by decide +kernel) ⟨by decide, by decide⟩ rfl (Nat.le_of_ble_eq_true rfl) ⟨by decide, by decide⟩ (fun _ h => h.elim) ?_
        rintro _ _ ⟨rfl, rfl⟩
        refine z_if_eq X 48 dX8_setPrices_41 (by decide) (fun c_41 => ?_) (fun c_41 => ?_)
        · skip
          refine z_iconst (v := 1) X dX8_setPrices_48 (by decide) ?_
          refine z_putI (ci := 11) (j := 43) X dX8_setPrices_49 zmm_c1 rfl (by decide) hlk_116 (Or.inl rfl) (Or.inl rfl) (fun _ => rfl) rfl rfl ?_
          obtain ⟨i_4, hi_4⟩ : ∃ q, q = zup i 1 43 1 := ⟨_, rfl⟩
          refine z_mem (M' := zmm i_4 lm) (by rw [hi_4]; rfl) ?_
          refine z_aload_n X 0 dX8_setPrices_52 rfl rfl ?_
          refine z_getI (ci := 11) (j := 43) (x := 1) X dX8_setPrices_53 zmm_c1 rfl (by decide) hlk_116 (Or.inl rfl) (fun _ => rfl) (by show i_4 1 43 = 1; rw [hi_4, zup_s]) ?_
          refine z_if_le X 61 dX8_setPrices_56 (by decide) (fun c_56 => ?_) (fun c_56 => ?_)
          · exact absurd c_56 (by decide)
          · skip
            refine z_iconst (v := 0) X dX8_setPrices_59 (by decide) ?_
            refine z_iret X rfl rfl (Nat.le_refl _) (Nat.le_refl _) dX8_setPrices_60 ?_
            subst hi_4
            (try simp only [zb_0, Classical.not_not] at c_9 c_20 c_30 c_41 c_56)
            exact ⟨_, rfl, by (first | rfl | (simp only [Int32.lt_irrefl, if_true, if_false, not_true_eq_false, not_false_eq_true, and_true, true_and, and_false, false_and, or_true, true_or, or_false, false_or, and_self, ite_self, zb, q_setPricesV, q_setPricesF, c_9, c_20, c_30, c_41, c_56, eq_true c_9, eq_true c_20, eq_true c_30, eq_true c_41, eq_true c_56]; done) | (simp only [Int32.lt_irrefl, if_true, if_false, not_true_eq_false, not_false_eq_true, and_true, true_and, and_false, false_and, or_true, true_or, or_false, false_or, and_self, ite_self, zb, q_setPricesV, q_setPricesF, c_9, c_20, c_30, c_41, c_56, eq_true c_9, eq_true c_20, eq_true c_30, eq_true c_41, eq_true c_56]; rfl)), by (first | rfl | (simp only [Int32.lt_irrefl, if_true, if_false, not_true_eq_false, not_false_eq_true, and_true, true_and, and_false, false_and, or_true, true_or, or_false, false_or, and_self, ite_self, zb, q_setPricesV, q_setPricesF, c_9, c_20, c_30, c_41, c_56, eq_true c_9, eq_true c_20, eq_true c_30, eq_true c_41, eq_true c_56]; done) | (simp only [Int32.lt_irrefl, if_true, if_false, not_true_eq_false, not_false_eq_true, and_true, true_and, and_false, false_and, or_true, true_or, or_false, false_or, and_self, ite_self, zb, q_setPricesV, q_setPricesF, c_9, c_20, c_30, c_41, c_56, eq_true c_9, eq_true c_20, eq_true c_30, eq_true c_41, eq_true c_56]; rfl))⟩
        · skip
          refine z_iconst (v := 0) X dX8_setPrices_44 (by decide) ?_
          refine z_goto (tgt := 49) X dX8_setPrices_45 (by decide) ?_
          refine z_putI (ci := 11) (j := 43) X dX8_setPrices_49 zmm_c1 rfl (by decide) hlk_116 (Or.inl rfl) (Or.inl rfl) (fun _ => rfl) rfl rfl ?_
          obtain ⟨i_5, hi_5⟩ : ∃ q, q = zup i 1 43 0 := ⟨_, rfl⟩
          refine z_mem (M' := zmm i_5 lm) (by rw [hi_5]; rfl) ?_
          refine z_aload_n X 0 dX8_setPrices_52 rfl rfl ?_
          refine z_getI (ci := 11) (j := 43) (x := 0) X dX8_setPrices_53 zmm_c1 rfl (by decide) hlk_116 (Or.inl rfl) (fun _ => rfl) (by show i_5 1 43 = 0; rw [hi_5, zup_s]) ?_
          refine z_if_le X 61 dX8_setPrices_56 (by decide) (fun c_56 => ?_) (fun c_56 => ?_)
          · skip
            refine z_aload_n X 0 dX8_setPrices_61 rfl rfl ?_
            refine z_getI (ci := 11) (j := 18) (x := i 1 18) X dX8_setPrices_62 zmm_c1 rfl (by decide) hlk_62 (Or.inl rfl) (fun _ => rfl) (by show i_5 1 18 = (i 1 18); rw [hi_5, zup_n (by decide)]) ?_
            refine z_istore (ls' := [(5, .int (i 1 18)), (0, .ref 1), (1, .int n), (2, .int p), (3, .int f), (4, .int e)]) X dX8_setPrices_65 (by decide) rfl ?_
            refine z_aload_n X 1 dX8_setPrices_67 rfl rfl ?_
            refine z_iload_n X 2 dX8_setPrices_68 rfl rfl ?_
            refine z_putI (ci := 11) (j := 18) X dX8_setPrices_69 zmm_c1 rfl (by decide) hlk_62 (Or.inl rfl) (Or.inl rfl) (fun _ => rfl) rfl rfl ?_
            obtain ⟨i_6, hi_6⟩ : ∃ q, q = zup i_5 1 18 n := ⟨_, rfl⟩
            refine z_mem (M' := zmm i_6 lm) (by rw [hi_6]; rfl) ?_
            refine z_aload_n X 1 dX8_setPrices_72 rfl rfl ?_
            refine z_iload_n X 3 dX8_setPrices_73 rfl rfl ?_
            refine z_putI (ci := 11) (j := 19) X dX8_setPrices_74 zmm_c1 rfl (by decide) hlk_65 (Or.inl rfl) (Or.inl rfl) (fun _ => rfl) rfl rfl ?_
            obtain ⟨i_7, hi_7⟩ : ∃ q, q = zup i_6 1 19 p := ⟨_, rfl⟩
            refine z_mem (M' := zmm i_7 lm) (by rw [hi_7]; rfl) ?_
            refine z_aload_n X 1 dX8_setPrices_77 rfl rfl ?_
            refine z_iload_n X 4 dX8_setPrices_78 rfl rfl ?_
            refine z_putI (ci := 11) (j := 20) X dX8_setPrices_79 zmm_c1 rfl (by decide) hlk_68 (Or.inl rfl) (Or.inl rfl) (fun _ => rfl) rfl rfl ?_
            obtain ⟨i_8, hi_8⟩ : ∃ q, q = zup i_7 1 20 f := ⟨_, rfl⟩
            refine z_mem (M' := zmm i_8 lm) (by rw [hi_8]; rfl) ?_
            refine z_aload_n X 1 dX8_setPrices_82 rfl rfl ?_
            refine z_iload X 5 dX8_setPrices_83 rfl ?_
            refine z_putI (ci := 11) (j := 21) X dX8_setPrices_85 zmm_c1 rfl (by decide) hlk_71 (Or.inl rfl) (Or.inl rfl) (fun _ => rfl) rfl rfl ?_
            obtain ⟨i_9, hi_9⟩ : ∃ q, q = zup i_8 1 21 e := ⟨_, rfl⟩
            refine z_mem (M' := zmm i_9 lm) (by rw [hi_9]; rfl) ?_
            refine z_iload X 0 dX8_setPrices_88 rfl ?_
            refine z_iret X rfl rfl (Nat.le_refl _) (Nat.le_refl _) dX8_setPrices_90 ?_
            subst hi_9
            subst hi_8
            subst hi_7
            subst hi_6
            subst hi_5
            (try simp only [zb_0, Classical.not_not] at c_9 c_20 c_30 c_41 c_56)
            exact ⟨_, rfl, by (first | rfl | (simp only [Int32.lt_irrefl, if_true, if_false, not_true_eq_false, not_false_eq_true, and_true, true_and, and_false, false_and, or_true, true_or, or_false, false_or, and_self, ite_self, zb, q_setPricesV, q_setPricesF, c_9, c_20, c_30, c_41, c_56, eq_true c_9, eq_true c_20, eq_true c_30, eq_true c_41, eq_true c_56]; done) | (simp only [Int32.lt_irrefl, if_true, if_false, not_true_eq_false, not_false_eq_true, and_true, true_and, and_false, false_and, or_true, true_or, or_false, false_or, and_self, ite_self, zb, q_setPricesV, q_setPricesF, c_9, c_20, c_30, c_41, c_56, eq_true c_9, eq_true c_20, eq_true c_30, eq_true c_41, eq_true c_56]; rfl)), by (first | rfl | (simp only [Int32.lt_irrefl, if_true, if_false, not_true_eq_false, not_false_eq_true, and_true, true_and, and_false, false_and, or_true, true_or, or_false, false_or, and_self, ite_self, zb, q_setPricesV, q_setPricesF, c_9, c_20, c_30, c_41, c_56, eq_true c_9, eq_true c_20, eq_true c_30, eq_true c_41, eq_true c_56]; done) | (simp only [Int32.lt_irrefl, if_true, if_false, not_true_eq_false, not_false_eq_true, and_true, true_and, and_false, false_and, or_true, true_or, or_false, false_or, and_self, ite_self, zb, q_setPricesV, q_setPricesF, c_9, c_20, c_30, c_41, c_56, eq_true c_9, eq_true c_20, eq_true c_30, eq_true c_41, eq_true c_56]; rfl))⟩
          · exact absurd c_56 (by decide)

set_option maxRecDepth 100000 in
set_option maxHeartbeats 4000000 in
theorem c_X8_temperature (l : Launch) (i : Nat → Nat → Int32) (lm : Nat → Nat → Int64) (nr : Nat) (hn : i 1 17 = nI nr) (h4 : nr ≤ 4) (r : Int32) : zS l yX8_temperature wsX8_temperature 2 43 0 0 [.ref 1, .int r] (zmm i lm) (zpi (fun rr M1 => rr = q_temperatureV i r ∧ M1 = zmm (q_temperatureF i r) lm)) zno := by
  refine z_intro (cc := cX8_temperature) (maxL := 2) (ret := (some .int)) (by decide +kernel) rfl (Nat.le_of_ble_eq_true rfl) ?_
  have hlk_116 : Cond.fieldLink RX8 116 "ColdStoreModel" "thrown" "I" ∈ wsX8_temperature := by decide +kernel
  have hlk_39 : Cond.fieldLink RX8 39 "ColdStoreModel" "temps" "[I" ∈ wsX8_temperature := by decide +kernel
  intro g X
  show zE g 2 0 [(0, .ref 1), (1, .int r)] [] (zmm i lm) 0 0
  refine z_aload_n X 0 dX8_temperature_0 rfl rfl ?_
  refine z_aload_n X 0 dX8_temperature_1 rfl rfl ?_
  refine z_iload_n X 1 dX8_temperature_2 rfl rfl ?_
  refine z_callVi (As := [.int r]) (rest := [.ref 1]) (n1 := 1) (ci := 11) X dX8_temperature_3 (c_X8_isRoom l _ _ r) gX8_temperature_X8_isRoom rfl rfl (by decide +kernel) ⟨by decide, by decide⟩ zmm_c1 rfl rfl (Nat.le_of_ble_eq_true rfl) ⟨by decide, by decide⟩ (fun _ h => h.elim) ?_
  rintro _ _ ⟨rfl, rfl⟩
  refine z_if_eq X 13 dX8_temperature_6 (by decide) (fun c_6 => ?_) (fun c_6 => ?_)
  · skip
    refine z_iconst (v := 1) X dX8_temperature_13 (by decide) ?_
    refine z_putI (ci := 11) (j := 43) X dX8_temperature_14 zmm_c1 rfl (by decide) hlk_116 (Or.inl rfl) (Or.inl rfl) (fun _ => rfl) rfl rfl ?_
    obtain ⟨i_1, hi_1⟩ : ∃ q, q = zup i 1 43 1 := ⟨_, rfl⟩
    refine z_mem (M' := zmm i_1 lm) (by rw [hi_1]; rfl) ?_
    refine z_aload_n X 0 dX8_temperature_17 rfl rfl ?_
    refine z_getI (ci := 11) (j := 43) (x := 1) X dX8_temperature_18 zmm_c1 rfl (by decide) hlk_116 (Or.inl rfl) (fun _ => rfl) (by show i_1 1 43 = 1; rw [hi_1, zup_s]) ?_
    refine z_if_le X 28 dX8_temperature_21 (by decide) (fun c_21 => ?_) (fun c_21 => ?_)
    · exact absurd c_21 (by decide)
    · skip
      refine z_iconst (v := 0) X dX8_temperature_24 (by decide) ?_
      refine z_goto (tgt := 34) X dX8_temperature_25 (by decide) ?_
      refine z_iret X rfl rfl (Nat.le_refl _) (Nat.le_refl _) dX8_temperature_34 ?_
      subst hi_1
      (try simp only [zb_0, Classical.not_not] at c_6 c_21)
      exact ⟨_, rfl, by (first | rfl | (simp only [Int32.lt_irrefl, if_true, if_false, not_true_eq_false, not_false_eq_true, and_true, true_and, and_false, false_and, or_true, true_or, or_false, false_or, and_self, ite_self, zb, q_temperatureV, q_temperatureF, c_6, c_21, eq_true c_6, eq_true c_21]; done) | (simp only [Int32.lt_irrefl, if_true, if_false, not_true_eq_false, not_false_eq_true, and_true, true_and, and_false, false_and, or_true, true_or, or_false, false_or, and_self, ite_self, zb, q_temperatureV, q_temperatureF, c_6, c_21, eq_true c_6, eq_true c_21]; rfl)), by (first | rfl | (simp only [Int32.lt_irrefl, if_true, if_false, not_true_eq_false, not_false_eq_true, and_true, true_and, and_false, false_and, or_true, true_or, or_false, false_or, and_self, ite_self, zb, q_temperatureV, q_temperatureF, c_6, c_21, eq_true c_6, eq_true c_21]; done) | (simp only [Int32.lt_irrefl, if_true, if_false, not_true_eq_false, not_false_eq_true, and_true, true_and, and_false, false_and, or_true, true_or, or_false, false_or, and_self, ite_self, zb, q_temperatureV, q_temperatureF, c_6, c_21, eq_true c_6, eq_true c_21]; rfl))⟩
  · skip
    refine z_iconst (v := 0) X dX8_temperature_9 (by decide) ?_
    refine z_goto (tgt := 14) X dX8_temperature_10 (by decide) ?_
    refine z_putI (ci := 11) (j := 43) X dX8_temperature_14 zmm_c1 rfl (by decide) hlk_116 (Or.inl rfl) (Or.inl rfl) (fun _ => rfl) rfl rfl ?_
    obtain ⟨i_2, hi_2⟩ : ∃ q, q = zup i 1 43 0 := ⟨_, rfl⟩
    refine z_mem (M' := zmm i_2 lm) (by rw [hi_2]; rfl) ?_
    refine z_aload_n X 0 dX8_temperature_17 rfl rfl ?_
    refine z_getI (ci := 11) (j := 43) (x := 0) X dX8_temperature_18 zmm_c1 rfl (by decide) hlk_116 (Or.inl rfl) (fun _ => rfl) (by show i_2 1 43 = 0; rw [hi_2, zup_s]) ?_
    refine z_if_le X 28 dX8_temperature_21 (by decide) (fun c_21 => ?_) (fun c_21 => ?_)
    · skip
      refine z_aload_n X 0 dX8_temperature_28 rfl rfl ?_
      refine z_getR (ci := 11) (j := 10) (o' := 110) X dX8_temperature_29 zmm_c1 rfl (by decide) hlk_39 (Or.inl rfl) (fun _ => rfl) (zmm_r110) ?_
      refine z_iload_n X 1 dX8_temperature_32 rfl rfl ?_
      refine z_iald (j := cl r) (x := i 110 (cl r)) X dX8_temperature_33 zmm_c110 (by rw [zmm_n110]; exact (zin_vp (zb_n0.mp c_6) hn h4 (by decide))) (rfl) (by show i_2 110 (cl r) = (i 110 (cl r)); rw [hi_2, zup_n (by omega)]) ?_
      refine z_iret X rfl rfl (Nat.le_refl _) (Nat.le_refl _) dX8_temperature_34 ?_
      subst hi_2
      (try simp only [zb_0, Classical.not_not] at c_6 c_21)
      exact ⟨_, rfl, by (first | rfl | (simp only [Int32.lt_irrefl, if_true, if_false, not_true_eq_false, not_false_eq_true, and_true, true_and, and_false, false_and, or_true, true_or, or_false, false_or, and_self, ite_self, zb, q_temperatureV, q_temperatureF, c_6, c_21, eq_true c_6, eq_true c_21]; done) | (simp only [Int32.lt_irrefl, if_true, if_false, not_true_eq_false, not_false_eq_true, and_true, true_and, and_false, false_and, or_true, true_or, or_false, false_or, and_self, ite_self, zb, q_temperatureV, q_temperatureF, c_6, c_21, eq_true c_6, eq_true c_21]; rfl)), by (first | rfl | (simp only [Int32.lt_irrefl, if_true, if_false, not_true_eq_false, not_false_eq_true, and_true, true_and, and_false, false_and, or_true, true_or, or_false, false_or, and_self, ite_self, zb, q_temperatureV, q_temperatureF, c_6, c_21, eq_true c_6, eq_true c_21]; done) | (simp only [Int32.lt_irrefl, if_true, if_false, not_true_eq_false, not_false_eq_true, and_true, true_and, and_false, false_and, or_true, true_or, or_false, false_or, and_self, ite_self, zb, q_temperatureV, q_temperatureF, c_6, c_21, eq_true c_6, eq_true c_21]; rfl))⟩
    · exact absurd c_21 (by decide)

set_option maxRecDepth 100000 in
set_option maxHeartbeats 4000000 in
theorem c_X8_isCooled (l : Launch) (i : Nat → Nat → Int32) (lm : Nat → Nat → Int64) (nr : Nat) (hn : i 1 17 = nI nr) (h4 : nr ≤ 4) (r : Int32) : zS l yX8_isCooled wsX8_isCooled 2 43 0 0 [.ref 1, .int r] (zmm i lm) (zpi (fun rr M1 => rr = q_isCooledV i r ∧ M1 = zmm (q_isCooledF i r) lm)) zno := by
  refine z_intro (cc := cX8_isCooled) (maxL := 2) (ret := (some .boolean)) (by decide +kernel) rfl (Nat.le_of_ble_eq_true rfl) ?_
  have hlk_116 : Cond.fieldLink RX8 116 "ColdStoreModel" "thrown" "I" ∈ wsX8_isCooled := by decide +kernel
  have hlk_46 : Cond.fieldLink RX8 46 "ColdStoreModel" "cooled" "[Z" ∈ wsX8_isCooled := by decide +kernel
  intro g X
  show zE g 2 0 [(0, .ref 1), (1, .int r)] [] (zmm i lm) 0 0
  refine z_aload_n X 0 dX8_isCooled_0 rfl rfl ?_
  refine z_aload_n X 0 dX8_isCooled_1 rfl rfl ?_
  refine z_iload_n X 1 dX8_isCooled_2 rfl rfl ?_
  refine z_callVi (As := [.int r]) (rest := [.ref 1]) (n1 := 1) (ci := 11) X dX8_isCooled_3 (c_X8_isRoom l _ _ r) gX8_isCooled_X8_isRoom rfl rfl (by decide +kernel) ⟨by decide, by decide⟩ zmm_c1 rfl rfl (Nat.le_of_ble_eq_true rfl) ⟨by decide, by decide⟩ (fun _ h => h.elim) ?_
  rintro _ _ ⟨rfl, rfl⟩
  refine z_if_eq X 13 dX8_isCooled_6 (by decide) (fun c_6 => ?_) (fun c_6 => ?_)
  · skip
    refine z_iconst (v := 1) X dX8_isCooled_13 (by decide) ?_
    refine z_putI (ci := 11) (j := 43) X dX8_isCooled_14 zmm_c1 rfl (by decide) hlk_116 (Or.inl rfl) (Or.inl rfl) (fun _ => rfl) rfl rfl ?_
    obtain ⟨i_1, hi_1⟩ : ∃ q, q = zup i 1 43 1 := ⟨_, rfl⟩
    refine z_mem (M' := zmm i_1 lm) (by rw [hi_1]; rfl) ?_
    refine z_aload_n X 0 dX8_isCooled_17 rfl rfl ?_
    refine z_getI (ci := 11) (j := 43) (x := 1) X dX8_isCooled_18 zmm_c1 rfl (by decide) hlk_116 (Or.inl rfl) (fun _ => rfl) (by show i_1 1 43 = 1; rw [hi_1, zup_s]) ?_
    refine z_if_ne X 37 dX8_isCooled_21 (by decide) (fun c_21 => ?_) (fun c_21 => ?_)
    · skip
      refine z_iconst (v := 0) X dX8_isCooled_37 (by decide) ?_
      refine z_iret X rfl (rfl) (Nat.le_refl _) (Nat.le_refl _) dX8_isCooled_38 ?_
      subst hi_1
      (try simp only [zb_0, Classical.not_not] at c_6 c_21)
      exact ⟨_, rfl, by (first | rfl | (simp only [Int32.lt_irrefl, if_true, if_false, not_true_eq_false, not_false_eq_true, and_true, true_and, and_false, false_and, or_true, true_or, or_false, false_or, and_self, ite_self, zb, q_isCooledV, q_isCooledF, c_6, c_21, eq_true c_6, eq_true c_21]; done) | (simp only [Int32.lt_irrefl, if_true, if_false, not_true_eq_false, not_false_eq_true, and_true, true_and, and_false, false_and, or_true, true_or, or_false, false_or, and_self, ite_self, zb, q_isCooledV, q_isCooledF, c_6, c_21, eq_true c_6, eq_true c_21]; rfl)), by (first | rfl | (simp only [Int32.lt_irrefl, if_true, if_false, not_true_eq_false, not_false_eq_true, and_true, true_and, and_false, false_and, or_true, true_or, or_false, false_or, and_self, ite_self, zb, q_isCooledV, q_isCooledF, c_6, c_21, eq_true c_6, eq_true c_21]; done) | (simp only [Int32.lt_irrefl, if_true, if_false, not_true_eq_false, not_false_eq_true, and_true, true_and, and_false, false_and, or_true, true_or, or_false, false_or, and_self, ite_self, zb, q_isCooledV, q_isCooledF, c_6, c_21, eq_true c_6, eq_true c_21]; rfl))⟩
    · exact absurd c_21 (by decide)
  · skip
    refine z_iconst (v := 0) X dX8_isCooled_9 (by decide) ?_
    refine z_goto (tgt := 14) X dX8_isCooled_10 (by decide) ?_
    refine z_putI (ci := 11) (j := 43) X dX8_isCooled_14 zmm_c1 rfl (by decide) hlk_116 (Or.inl rfl) (Or.inl rfl) (fun _ => rfl) rfl rfl ?_
    obtain ⟨i_2, hi_2⟩ : ∃ q, q = zup i 1 43 0 := ⟨_, rfl⟩
    refine z_mem (M' := zmm i_2 lm) (by rw [hi_2]; rfl) ?_
    refine z_aload_n X 0 dX8_isCooled_17 rfl rfl ?_
    refine z_getI (ci := 11) (j := 43) (x := 0) X dX8_isCooled_18 zmm_c1 rfl (by decide) hlk_116 (Or.inl rfl) (fun _ => rfl) (by show i_2 1 43 = 0; rw [hi_2, zup_s]) ?_
    refine z_if_ne X 37 dX8_isCooled_21 (by decide) (fun c_21 => ?_) (fun c_21 => ?_)
    · exact absurd c_21 (by decide)
    · skip
      refine z_aload_n X 0 dX8_isCooled_24 rfl rfl ?_
      refine z_getR (ci := 11) (j := 12) (o' := 112) X dX8_isCooled_25 zmm_c1 rfl (by decide) hlk_46 (Or.inl rfl) (fun _ => rfl) (zmm_r112) ?_
      refine z_iload_n X 1 dX8_isCooled_28 rfl rfl ?_
      refine z_zald (j := cl r) (x := i 112 (cl r)) X dX8_isCooled_29 zmm_c112 (by rw [zmm_n112]; exact (zin_vp (zb_n0.mp c_6) hn h4 (by decide))) (rfl) (by show i_2 112 (cl r) = (i 112 (cl r)); rw [hi_2, zup_n (by omega)]) ?_
      refine z_if_eq X 37 dX8_isCooled_30 (by decide) (fun c_30 => ?_) (fun c_30 => ?_)
      · skip
        refine z_iconst (v := 0) X dX8_isCooled_37 (by decide) ?_
        refine z_iret X rfl (rfl) (Nat.le_refl _) (Nat.le_refl _) dX8_isCooled_38 ?_
        subst hi_2
        (try simp only [zb_0, Classical.not_not] at c_6 c_21 c_30)
        exact ⟨_, rfl, by (first | rfl | (simp only [Int32.lt_irrefl, if_true, if_false, not_true_eq_false, not_false_eq_true, and_true, true_and, and_false, false_and, or_true, true_or, or_false, false_or, and_self, ite_self, zb, q_isCooledV, q_isCooledF, c_6, c_21, c_30, eq_true c_6, eq_true c_21, eq_true c_30]; done) | (simp only [Int32.lt_irrefl, if_true, if_false, not_true_eq_false, not_false_eq_true, and_true, true_and, and_false, false_and, or_true, true_or, or_false, false_or, and_self, ite_self, zb, q_isCooledV, q_isCooledF, c_6, c_21, c_30, eq_true c_6, eq_true c_21, eq_true c_30]; rfl)), by (first | rfl | (simp only [Int32.lt_irrefl, if_true, if_false, not_true_eq_false, not_false_eq_true, and_true, true_and, and_false, false_and, or_true, true_or, or_false, false_or, and_self, ite_self, zb, q_isCooledV, q_isCooledF, c_6, c_21, c_30, eq_true c_6, eq_true c_21, eq_true c_30]; done) | (simp only [Int32.lt_irrefl, if_true, if_false, not_true_eq_false, not_false_eq_true, and_true, true_and, and_false, false_and, or_true, true_or, or_false, false_or, and_self, ite_self, zb, q_isCooledV, q_isCooledF, c_6, c_21, c_30, eq_true c_6, eq_true c_21, eq_true c_30]; rfl))⟩
      · skip
        refine z_iconst (v := 1) X dX8_isCooled_33 (by decide) ?_
        refine z_goto (tgt := 38) X dX8_isCooled_34 (by decide) ?_
        refine z_iret X rfl (rfl) (Nat.le_refl _) (Nat.le_refl _) dX8_isCooled_38 ?_
        subst hi_2
        (try simp only [zb_0, Classical.not_not] at c_6 c_21 c_30)
        exact ⟨_, rfl, by (first | rfl | (simp only [Int32.lt_irrefl, if_true, if_false, not_true_eq_false, not_false_eq_true, and_true, true_and, and_false, false_and, or_true, true_or, or_false, false_or, and_self, ite_self, zb, q_isCooledV, q_isCooledF, c_6, c_21, c_30, eq_true c_6, eq_true c_21, eq_true c_30]; done) | (simp only [Int32.lt_irrefl, if_true, if_false, not_true_eq_false, not_false_eq_true, and_true, true_and, and_false, false_and, or_true, true_or, or_false, false_or, and_self, ite_self, zb, q_isCooledV, q_isCooledF, c_6, c_21, c_30, eq_true c_6, eq_true c_21, eq_true c_30]; rfl)), by (first | rfl | (simp only [Int32.lt_irrefl, if_true, if_false, not_true_eq_false, not_false_eq_true, and_true, true_and, and_false, false_and, or_true, true_or, or_false, false_or, and_self, ite_self, zb, q_isCooledV, q_isCooledF, c_6, c_21, c_30, eq_true c_6, eq_true c_21, eq_true c_30]; done) | (simp only [Int32.lt_irrefl, if_true, if_false, not_true_eq_false, not_false_eq_true, and_true, true_and, and_false, false_and, or_true, true_or, or_false, false_or, and_self, ite_self, zb, q_isCooledV, q_isCooledF, c_6, c_21, c_30, eq_true c_6, eq_true c_21, eq_true c_30]; rfl))⟩

set_option maxRecDepth 100000 in
set_option maxHeartbeats 4000000 in
theorem c_X8_warmest (l : Launch) (i : Nat → Nat → Int32) (lm : Nat → Nat → Int64) (nr : Nat) (hn : i 1 17 = nI nr) (h4 : nr ≤ 4) (r : Int32) : zS l yX8_warmest wsX8_warmest 2 43 0 0 [.ref 1, .int r] (zmm i lm) (zpi (fun rr M1 => rr = q_warmestV i r ∧ M1 = zmm (q_warmestF i r) lm)) zno := by
  refine z_intro (cc := cX8_warmest) (maxL := 2) (ret := (some .int)) (by decide +kernel) rfl (Nat.le_of_ble_eq_true rfl) ?_
  have hlk_59 : Cond.fieldLink RX8 59 "ColdStoreModel" "ticks" "[I" ∈ wsX8_warmest := by decide +kernel
  have hlk_116 : Cond.fieldLink RX8 116 "ColdStoreModel" "thrown" "I" ∈ wsX8_warmest := by decide +kernel
  have hlk_52 : Cond.fieldLink RX8 52 "ColdStoreModel" "warmests" "[I" ∈ wsX8_warmest := by decide +kernel
  intro g X
  show zE g 2 0 [(0, .ref 1), (1, .int r)] [] (zmm i lm) 0 0
  refine z_aload_n X 0 dX8_warmest_0 rfl rfl ?_
  refine z_aload_n X 0 dX8_warmest_1 rfl rfl ?_
  refine z_iload_n X 1 dX8_warmest_2 rfl rfl ?_
  refine z_callVi (As := [.int r]) (rest := [.ref 1]) (n1 := 1) (ci := 11) X dX8_warmest_3 (c_X8_isRoom l _ _ r) gX8_warmest_X8_isRoom rfl rfl (by decide +kernel) ⟨by decide, by decide⟩ zmm_c1 rfl rfl (Nat.le_of_ble_eq_true rfl) ⟨by decide, by decide⟩ (fun _ h => h.elim) ?_
  rintro _ _ ⟨rfl, rfl⟩
  refine z_if_ne X 13 dX8_warmest_6 (by decide) (fun c_6 => ?_) (fun c_6 => ?_)
  · skip
    refine z_aload_n X 0 dX8_warmest_13 rfl rfl ?_
    refine z_getR (ci := 11) (j := 16) (o' := 116) X dX8_warmest_14 zmm_c1 rfl (by decide) hlk_59 (Or.inl rfl) (fun _ => rfl) (zmm_r116) ?_
    refine z_iload_n X 1 dX8_warmest_17 rfl rfl ?_
    refine z_iald (j := cl r) (x := i 116 (cl r)) X dX8_warmest_18 zmm_c116 (by rw [zmm_n116]; exact (zin_vp (zb_n0.mp c_6) hn h4 (by decide))) (rfl) (rfl) ?_
    refine z_if_ne X 26 dX8_warmest_19 (by decide) (fun c_19 => ?_) (fun c_19 => ?_)
    · skip
      refine z_iconst (v := 0) X dX8_warmest_26 (by decide) ?_
      refine z_putI (ci := 11) (j := 43) X dX8_warmest_27 zmm_c1 rfl (by decide) hlk_116 (Or.inl rfl) (Or.inl rfl) (fun _ => rfl) rfl rfl ?_
      obtain ⟨i_1, hi_1⟩ : ∃ q, q = zup i 1 43 0 := ⟨_, rfl⟩
      refine z_mem (M' := zmm i_1 lm) (by rw [hi_1]; rfl) ?_
      refine z_aload_n X 0 dX8_warmest_30 rfl rfl ?_
      refine z_getI (ci := 11) (j := 43) (x := 0) X dX8_warmest_31 zmm_c1 rfl (by decide) hlk_116 (Or.inl rfl) (fun _ => rfl) (by show i_1 1 43 = 0; rw [hi_1, zup_s]) ?_
      refine z_if_le X 41 dX8_warmest_34 (by decide) (fun c_34 => ?_) (fun c_34 => ?_)
      · skip
        refine z_aload_n X 0 dX8_warmest_41 rfl rfl ?_
        refine z_getR (ci := 11) (j := 14) (o' := 114) X dX8_warmest_42 zmm_c1 rfl (by decide) hlk_52 (Or.inl rfl) (fun _ => rfl) (zmm_r114) ?_
        refine z_iload_n X 1 dX8_warmest_45 rfl rfl ?_
        refine z_iald (j := cl r) (x := i 114 (cl r)) X dX8_warmest_46 zmm_c114 (by rw [zmm_n114]; exact (zin_vp (zb_n0.mp c_6) hn h4 (by decide))) (rfl) (by show i_1 114 (cl r) = (i 114 (cl r)); rw [hi_1, zup_n (by omega)]) ?_
        refine z_iret X rfl rfl (Nat.le_refl _) (Nat.le_refl _) dX8_warmest_47 ?_
        subst hi_1
        (try simp only [zb_0, Classical.not_not] at c_6 c_19 c_34)
        exact ⟨_, rfl, by (first | rfl | (simp only [Int32.lt_irrefl, if_true, if_false, not_true_eq_false, not_false_eq_true, and_true, true_and, and_false, false_and, or_true, true_or, or_false, false_or, and_self, ite_self, zb, q_warmestV, q_warmestF, c_6, c_19, c_34, eq_true c_6, eq_true c_19, eq_true c_34]; done) | (simp only [Int32.lt_irrefl, if_true, if_false, not_true_eq_false, not_false_eq_true, and_true, true_and, and_false, false_and, or_true, true_or, or_false, false_or, and_self, ite_self, zb, q_warmestV, q_warmestF, c_6, c_19, c_34, eq_true c_6, eq_true c_19, eq_true c_34]; rfl)), by (first | rfl | (simp only [Int32.lt_irrefl, if_true, if_false, not_true_eq_false, not_false_eq_true, and_true, true_and, and_false, false_and, or_true, true_or, or_false, false_or, and_self, ite_self, zb, q_warmestV, q_warmestF, c_6, c_19, c_34, eq_true c_6, eq_true c_19, eq_true c_34]; done) | (simp only [Int32.lt_irrefl, if_true, if_false, not_true_eq_false, not_false_eq_true, and_true, true_and, and_false, false_and, or_true, true_or, or_false, false_or, and_self, ite_self, zb, q_warmestV, q_warmestF, c_6, c_19, c_34, eq_true c_6, eq_true c_19, eq_true c_34]; rfl))⟩
      · exact absurd c_34 (by decide)
    · skip
      refine z_iconst (v := 2) X dX8_warmest_22 (by decide) ?_
      refine z_goto (tgt := 27) X dX8_warmest_23 (by decide) ?_
      refine z_putI (ci := 11) (j := 43) X dX8_warmest_27 zmm_c1 rfl (by decide) hlk_116 (Or.inl rfl) (Or.inl rfl) (fun _ => rfl) rfl rfl ?_
      obtain ⟨i_2, hi_2⟩ : ∃ q, q = zup i 1 43 2 := ⟨_, rfl⟩
      refine z_mem (M' := zmm i_2 lm) (by rw [hi_2]; rfl) ?_
      refine z_aload_n X 0 dX8_warmest_30 rfl rfl ?_
      refine z_getI (ci := 11) (j := 43) (x := 2) X dX8_warmest_31 zmm_c1 rfl (by decide) hlk_116 (Or.inl rfl) (fun _ => rfl) (by show i_2 1 43 = 2; rw [hi_2, zup_s]) ?_
      refine z_if_le X 41 dX8_warmest_34 (by decide) (fun c_34 => ?_) (fun c_34 => ?_)
      · exact absurd c_34 (by decide)
      · skip
        refine z_iconst (v := 0) X dX8_warmest_37 (by decide) ?_
        refine z_goto (tgt := 47) X dX8_warmest_38 (by decide) ?_
        refine z_iret X rfl rfl (Nat.le_refl _) (Nat.le_refl _) dX8_warmest_47 ?_
        subst hi_2
        (try simp only [zb_0, Classical.not_not] at c_6 c_19 c_34)
        exact ⟨_, rfl, by (first | rfl | (simp only [Int32.lt_irrefl, if_true, if_false, not_true_eq_false, not_false_eq_true, and_true, true_and, and_false, false_and, or_true, true_or, or_false, false_or, and_self, ite_self, zb, q_warmestV, q_warmestF, c_6, c_19, c_34, eq_true c_6, eq_true c_19, eq_true c_34]; done) | (simp only [Int32.lt_irrefl, if_true, if_false, not_true_eq_false, not_false_eq_true, and_true, true_and, and_false, false_and, or_true, true_or, or_false, false_or, and_self, ite_self, zb, q_warmestV, q_warmestF, c_6, c_19, c_34, eq_true c_6, eq_true c_19, eq_true c_34]; rfl)), by (first | rfl | (simp only [Int32.lt_irrefl, if_true, if_false, not_true_eq_false, not_false_eq_true, and_true, true_and, and_false, false_and, or_true, true_or, or_false, false_or, and_self, ite_self, zb, q_warmestV, q_warmestF, c_6, c_19, c_34, eq_true c_6, eq_true c_19, eq_true c_34]; done) | (simp only [Int32.lt_irrefl, if_true, if_false, not_true_eq_false, not_false_eq_true, and_true, true_and, and_false, false_and, or_true, true_or, or_false, false_or, and_self, ite_self, zb, q_warmestV, q_warmestF, c_6, c_19, c_34, eq_true c_6, eq_true c_19, eq_true c_34]; rfl))⟩
  · skip
    refine z_iconst (v := 1) X dX8_warmest_9 (by decide) ?_
    refine z_goto (tgt := 27) X dX8_warmest_10 (by decide) ?_
    refine z_putI (ci := 11) (j := 43) X dX8_warmest_27 zmm_c1 rfl (by decide) hlk_116 (Or.inl rfl) (Or.inl rfl) (fun _ => rfl) rfl rfl ?_
    obtain ⟨i_3, hi_3⟩ : ∃ q, q = zup i 1 43 1 := ⟨_, rfl⟩
    refine z_mem (M' := zmm i_3 lm) (by rw [hi_3]; rfl) ?_
    refine z_aload_n X 0 dX8_warmest_30 rfl rfl ?_
    refine z_getI (ci := 11) (j := 43) (x := 1) X dX8_warmest_31 zmm_c1 rfl (by decide) hlk_116 (Or.inl rfl) (fun _ => rfl) (by show i_3 1 43 = 1; rw [hi_3, zup_s]) ?_
    refine z_if_le X 41 dX8_warmest_34 (by decide) (fun c_34 => ?_) (fun c_34 => ?_)
    · exact absurd c_34 (by decide)
    · skip
      refine z_iconst (v := 0) X dX8_warmest_37 (by decide) ?_
      refine z_goto (tgt := 47) X dX8_warmest_38 (by decide) ?_
      refine z_iret X rfl rfl (Nat.le_refl _) (Nat.le_refl _) dX8_warmest_47 ?_
      subst hi_3
      (try simp only [zb_0, Classical.not_not] at c_6 c_34)
      exact ⟨_, rfl, by (first | rfl | (simp only [Int32.lt_irrefl, if_true, if_false, not_true_eq_false, not_false_eq_true, and_true, true_and, and_false, false_and, or_true, true_or, or_false, false_or, and_self, ite_self, zb, q_warmestV, q_warmestF, c_6, c_34, eq_true c_6, eq_true c_34]; done) | (simp only [Int32.lt_irrefl, if_true, if_false, not_true_eq_false, not_false_eq_true, and_true, true_and, and_false, false_and, or_true, true_or, or_false, false_or, and_self, ite_self, zb, q_warmestV, q_warmestF, c_6, c_34, eq_true c_6, eq_true c_34]; rfl)), by (first | rfl | (simp only [Int32.lt_irrefl, if_true, if_false, not_true_eq_false, not_false_eq_true, and_true, true_and, and_false, false_and, or_true, true_or, or_false, false_or, and_self, ite_self, zb, q_warmestV, q_warmestF, c_6, c_34, eq_true c_6, eq_true c_34]; done) | (simp only [Int32.lt_irrefl, if_true, if_false, not_true_eq_false, not_false_eq_true, and_true, true_and, and_false, false_and, or_true, true_or, or_false, false_or, and_self, ite_self, zb, q_warmestV, q_warmestF, c_6, c_34, eq_true c_6, eq_true c_34]; rfl))⟩

set_option maxRecDepth 100000 in
set_option maxHeartbeats 4000000 in
theorem c_X8_freeSpace (l : Launch) (i : Nat → Nat → Int32) (lm : Nat → Nat → Int64) (nr : Nat) (hn : i 1 17 = nI nr) (h4 : nr ≤ 4) (np : Nat) (hp : i 1 35 = nI np) (h24 : np ≤ 24) (r : Int32) : zS l yX8_freeSpace wsX8_freeSpace 2 43 0 0 [.ref 1, .int r] (zmm i lm) (zpi (fun rr M1 => rr = q_freeSpaceV i np r ∧ M1 = zmm (q_freeSpaceF i np r) lm)) zno := by
  refine z_intro (cc := cX8_freeSpace) (maxL := 2) (ret := (some .int)) (by decide +kernel) rfl (Nat.le_of_ble_eq_true rfl) ?_
  have hlk_116 : Cond.fieldLink RX8 116 "ColdStoreModel" "thrown" "I" ∈ wsX8_freeSpace := by decide +kernel
  intro g X
  show zE g 2 0 [(0, .ref 1), (1, .int r)] [] (zmm i lm) 0 0
  refine z_aload_n X 0 dX8_freeSpace_0 rfl rfl ?_
  refine z_aload_n X 0 dX8_freeSpace_1 rfl rfl ?_
  refine z_iload_n X 1 dX8_freeSpace_2 rfl rfl ?_
  refine z_callVi (As := [.int r]) (rest := [.ref 1]) (n1 := 1) (ci := 11) X dX8_freeSpace_3 (c_X8_isRoom l _ _ r) gX8_freeSpace_X8_isRoom rfl rfl (by decide +kernel) ⟨by decide, by decide⟩ zmm_c1 rfl rfl (Nat.le_of_ble_eq_true rfl) ⟨by decide, by decide⟩ (fun _ h => h.elim) ?_
  rintro _ _ ⟨rfl, rfl⟩
  refine z_if_eq X 13 dX8_freeSpace_6 (by decide) (fun c_6 => ?_) (fun c_6 => ?_)
  · skip
    refine z_iconst (v := 1) X dX8_freeSpace_13 (by decide) ?_
    refine z_putI (ci := 11) (j := 43) X dX8_freeSpace_14 zmm_c1 rfl (by decide) hlk_116 (Or.inl rfl) (Or.inl rfl) (fun _ => rfl) rfl rfl ?_
    obtain ⟨i_1, hi_1⟩ : ∃ q, q = zup i 1 43 1 := ⟨_, rfl⟩
    refine z_mem (M' := zmm i_1 lm) (by rw [hi_1]; rfl) ?_
    refine z_aload_n X 0 dX8_freeSpace_17 rfl rfl ?_
    refine z_getI (ci := 11) (j := 43) (x := 1) X dX8_freeSpace_18 zmm_c1 rfl (by decide) hlk_116 (Or.inl rfl) (fun _ => rfl) (by show i_1 1 43 = 1; rw [hi_1, zup_s]) ?_
    refine z_if_le X 28 dX8_freeSpace_21 (by decide) (fun c_21 => ?_) (fun c_21 => ?_)
    · exact absurd c_21 (by decide)
    · skip
      refine z_iconst (v := 0) X dX8_freeSpace_24 (by decide) ?_
      refine z_goto (tgt := 36) X dX8_freeSpace_25 (by decide) ?_
      refine z_iret X rfl rfl (Nat.le_refl _) (Nat.le_refl _) dX8_freeSpace_36 ?_
      subst hi_1
      (try simp only [zb_0, Classical.not_not] at c_6 c_21)
      exact ⟨_, rfl, by (first | rfl | (simp only [Int32.lt_irrefl, if_true, if_false, not_true_eq_false, not_false_eq_true, and_true, true_and, and_false, false_and, or_true, true_or, or_false, false_or, and_self, ite_self, zb, q_freeSpaceV, q_freeSpaceF, c_6, c_21, eq_true c_6, eq_true c_21]; done) | (simp only [Int32.lt_irrefl, if_true, if_false, not_true_eq_false, not_false_eq_true, and_true, true_and, and_false, false_and, or_true, true_or, or_false, false_or, and_self, ite_self, zb, q_freeSpaceV, q_freeSpaceF, c_6, c_21, eq_true c_6, eq_true c_21]; rfl)), by (first | rfl | (simp only [Int32.lt_irrefl, if_true, if_false, not_true_eq_false, not_false_eq_true, and_true, true_and, and_false, false_and, or_true, true_or, or_false, false_or, and_self, ite_self, zb, q_freeSpaceV, q_freeSpaceF, c_6, c_21, eq_true c_6, eq_true c_21]; done) | (simp only [Int32.lt_irrefl, if_true, if_false, not_true_eq_false, not_false_eq_true, and_true, true_and, and_false, false_and, or_true, true_or, or_false, false_or, and_self, ite_self, zb, q_freeSpaceV, q_freeSpaceF, c_6, c_21, eq_true c_6, eq_true c_21]; rfl))⟩
  · skip
    refine z_iconst (v := 0) X dX8_freeSpace_9 (by decide) ?_
    refine z_goto (tgt := 14) X dX8_freeSpace_10 (by decide) ?_
    refine z_putI (ci := 11) (j := 43) X dX8_freeSpace_14 zmm_c1 rfl (by decide) hlk_116 (Or.inl rfl) (Or.inl rfl) (fun _ => rfl) rfl rfl ?_
    obtain ⟨i_2, hi_2⟩ : ∃ q, q = zup i 1 43 0 := ⟨_, rfl⟩
    refine z_mem (M' := zmm i_2 lm) (by rw [hi_2]; rfl) ?_
    refine z_aload_n X 0 dX8_freeSpace_17 rfl rfl ?_
    refine z_getI (ci := 11) (j := 43) (x := 0) X dX8_freeSpace_18 zmm_c1 rfl (by decide) hlk_116 (Or.inl rfl) (fun _ => rfl) (by show i_2 1 43 = 0; rw [hi_2, zup_s]) ?_
    refine z_if_le X 28 dX8_freeSpace_21 (by decide) (fun c_21 => ?_) (fun c_21 => ?_)
    · skip
      refine z_bipush (v := 8) X dX8_freeSpace_28 (by decide) ?_
      refine z_aload_n X 0 dX8_freeSpace_30 rfl rfl ?_
      refine z_iload_n X 1 dX8_freeSpace_31 rfl rfl ?_
      refine z_callVi (As := [.int r]) (rest := [.int 8]) (n1 := 1) (ci := 11) X dX8_freeSpace_32 (c_X8_filled l _ _ r np (by subst hi_2; rw [zup_n (by decide)]; exact hp) h24) gX8_freeSpace_X8_filled rfl rfl (by decide +kernel) ⟨by decide, by decide⟩ zmm_c1 rfl rfl (Nat.le_of_ble_eq_true rfl) ⟨by decide, by decide⟩ (fun _ h => h.elim) ?_
      rintro _ _ ⟨rfl, rfl⟩
      refine z_isub X dX8_freeSpace_35 ?_
      refine z_iret X rfl rfl (Nat.le_refl _) (Nat.le_refl _) dX8_freeSpace_36 ?_
      subst hi_2
      (try simp only [zb_0, Classical.not_not] at c_6 c_21)
      exact ⟨_, rfl, by (first | rfl | (simp only [Int32.lt_irrefl, if_true, if_false, not_true_eq_false, not_false_eq_true, and_true, true_and, and_false, false_and, or_true, true_or, or_false, false_or, and_self, ite_self, zb, q_freeSpaceV, q_freeSpaceF, c_6, c_21, eq_true c_6, eq_true c_21]; done) | (simp only [Int32.lt_irrefl, if_true, if_false, not_true_eq_false, not_false_eq_true, and_true, true_and, and_false, false_and, or_true, true_or, or_false, false_or, and_self, ite_self, zb, q_freeSpaceV, q_freeSpaceF, c_6, c_21, eq_true c_6, eq_true c_21]; rfl)), by (first | rfl | (simp only [Int32.lt_irrefl, if_true, if_false, not_true_eq_false, not_false_eq_true, and_true, true_and, and_false, false_and, or_true, true_or, or_false, false_or, and_self, ite_self, zb, q_freeSpaceV, q_freeSpaceF, c_6, c_21, eq_true c_6, eq_true c_21]; done) | (simp only [Int32.lt_irrefl, if_true, if_false, not_true_eq_false, not_false_eq_true, and_true, true_and, and_false, false_and, or_true, true_or, or_false, false_or, and_self, ite_self, zb, q_freeSpaceV, q_freeSpaceF, c_6, c_21, eq_true c_6, eq_true c_21]; rfl))⟩
    · exact absurd c_21 (by decide)

set_option maxRecDepth 100000 in
set_option maxHeartbeats 4000000 in
theorem c_X8_addRoom (l : Launch) (i : Nat → Nat → Int32) (lm : Nat → Nat → Int64) (nr : Nat) (hn : i 1 17 = nI nr) (h4 : nr ≤ 4) (a : Int32) (b : Int32) (c : Int32) : zS l yX8_addRoom wsX8_addRoom 1 22 0 0 [.ref 1, .int a, .int b, .int c] (zmm i lm) (zpi (fun rr M1 => rr = q_addRoomV i nr a b c ∧ M1 = zmm (q_addRoomF i nr a b c) lm)) zno := by
  refine z_intro (cc := cX8_addRoom) (maxL := 4) (ret := (some .int)) (by decide +kernel) rfl (Nat.le_of_ble_eq_true rfl) ?_
  have hlk_116 : Cond.fieldLink RX8 116 "ColdStoreModel" "thrown" "I" ∈ wsX8_addRoom := by decide +kernel
  have hlk_119 : Cond.fieldLink RX8 119 "ColdStoreModel" "rooms" "I" ∈ wsX8_addRoom := by decide +kernel
  have hlk_13 : Cond.fieldLink RX8 13 "ColdStoreModel" "leaks" "[I" ∈ wsX8_addRoom := by decide +kernel
  have hlk_17 : Cond.fieldLink RX8 17 "ColdStoreModel" "strengths" "[I" ∈ wsX8_addRoom := by decide +kernel
  have hlk_20 : Cond.fieldLink RX8 20 "ColdStoreModel" "powers" "[I" ∈ wsX8_addRoom := by decide +kernel
  have hlk_23 : Cond.fieldLink RX8 23 "ColdStoreModel" "lowers" "[I" ∈ wsX8_addRoom := by decide +kernel
  have hlk_26 : Cond.fieldLink RX8 26 "ColdStoreModel" "uppers" "[I" ∈ wsX8_addRoom := by decide +kernel
  have hlk_35 : Cond.fieldLink RX8 35 "ColdStoreModel" "modes" "[C" ∈ wsX8_addRoom := by decide +kernel
  have hlk_39 : Cond.fieldLink RX8 39 "ColdStoreModel" "temps" "[I" ∈ wsX8_addRoom := by decide +kernel
  have hlk_7 : Cond.fieldLink RX8 7 "ColdStoreModel" "outside" "I" ∈ wsX8_addRoom := by decide +kernel
  intro g X
  show zE g 4 0 [(0, .ref 1), (1, .int a), (2, .int b), (3, .int c)] [] (zmm i lm) 0 0
  refine z_aload_n X 0 dX8_addRoom_0 rfl rfl ?_
  refine z_iload_n X 1 dX8_addRoom_1 rfl rfl ?_
  refine z_iconst (v := 1) X dX8_addRoom_2 (by decide) ?_
  refine z_bipush (v := 50) X dX8_addRoom_3 (by decide) ?_
  refine z_callSi (As := [.int a, .int 1, .int 50]) (rest := [.ref 1]) (n1 := 3) X dX8_addRoom_5 (c_X8_in l _ a 1 50) gX8_addRoom_X8_in rfl rfl (by decide +kernel) ⟨by decide, by decide⟩ rfl (Nat.le_of_ble_eq_true rfl) ⟨by decide, by decide⟩ (fun _ h => h.elim) ?_
  rintro _ _ ⟨rfl, rfl⟩
  refine z_if_eq X 31 dX8_addRoom_8 (by decide) (fun c_8 => ?_) (fun c_8 => ?_)
  · skip
    refine z_iconst (v := 1) X dX8_addRoom_31 (by decide) ?_
    refine z_goto (tgt := 48) X dX8_addRoom_32 (by decide) ?_
    refine z_putI (ci := 11) (j := 43) X dX8_addRoom_48 zmm_c1 rfl (by decide) hlk_116 (Or.inl rfl) (Or.inl rfl) (fun _ => rfl) rfl rfl ?_
    obtain ⟨i_1, hi_1⟩ : ∃ q, q = zup i 1 43 1 := ⟨_, rfl⟩
    refine z_mem (M' := zmm i_1 lm) (by rw [hi_1]; rfl) ?_
    refine z_aload_n X 0 dX8_addRoom_51 rfl rfl ?_
    refine z_getI (ci := 11) (j := 43) (x := 1) X dX8_addRoom_52 zmm_c1 rfl (by decide) hlk_116 (Or.inl rfl) (fun _ => rfl) (by show i_1 1 43 = 1; rw [hi_1, zup_s]) ?_
    refine z_if_le X 60 dX8_addRoom_55 (by decide) (fun c_55 => ?_) (fun c_55 => ?_)
    · exact absurd c_55 (by decide)
    · skip
      refine z_iconst (v := 0) X dX8_addRoom_58 (by decide) ?_
      refine z_iret X rfl rfl (Nat.le_refl _) (Nat.le_refl _) dX8_addRoom_59 ?_
      subst hi_1
      (try simp only [zb_0, Classical.not_not] at c_8 c_55)
      exact ⟨_, rfl, by (first | rfl | (simp only [Int32.lt_irrefl, if_true, if_false, not_true_eq_false, not_false_eq_true, and_true, true_and, and_false, false_and, or_true, true_or, or_false, false_or, and_self, ite_self, zb, q_addRoomV, q_addRoomF, c_8, c_55, eq_true c_8, eq_true c_55]; done) | (simp only [Int32.lt_irrefl, if_true, if_false, not_true_eq_false, not_false_eq_true, and_true, true_and, and_false, false_and, or_true, true_or, or_false, false_or, and_self, ite_self, zb, q_addRoomV, q_addRoomF, c_8, c_55, eq_true c_8, eq_true c_55]; rfl)), by (first | rfl | (simp only [Int32.lt_irrefl, if_true, if_false, not_true_eq_false, not_false_eq_true, and_true, true_and, and_false, false_and, or_true, true_or, or_false, false_or, and_self, ite_self, zb, q_addRoomV, q_addRoomF, c_8, c_55, eq_true c_8, eq_true c_55]; done) | (simp only [Int32.lt_irrefl, if_true, if_false, not_true_eq_false, not_false_eq_true, and_true, true_and, and_false, false_and, or_true, true_or, or_false, false_or, and_self, ite_self, zb, q_addRoomV, q_addRoomF, c_8, c_55, eq_true c_8, eq_true c_55]; rfl))⟩
  · skip
    refine z_iload_n X 2 dX8_addRoom_11 rfl rfl ?_
    refine z_iconst (v := 1) X dX8_addRoom_12 (by decide) ?_
    refine z_bipush (v := 100) X dX8_addRoom_13 (by decide) ?_
    refine z_callSi (As := [.int b, .int 1, .int 100]) (rest := [.ref 1]) (n1 := 3) X dX8_addRoom_15 (c_X8_in l _ b 1 100) gX8_addRoom_X8_in rfl rfl (by decide +kernel) ⟨by decide, by decide⟩ rfl (Nat.le_of_ble_eq_true rfl) ⟨by decide, by decide⟩ (fun _ h => h.elim) ?_
    rintro _ _ ⟨rfl, rfl⟩
    refine z_if_eq X 31 dX8_addRoom_18 (by decide) (fun c_18 => ?_) (fun c_18 => ?_)
    · skip
      refine z_iconst (v := 1) X dX8_addRoom_31 (by decide) ?_
      refine z_goto (tgt := 48) X dX8_addRoom_32 (by decide) ?_
      refine z_putI (ci := 11) (j := 43) X dX8_addRoom_48 zmm_c1 rfl (by decide) hlk_116 (Or.inl rfl) (Or.inl rfl) (fun _ => rfl) rfl rfl ?_
      obtain ⟨i_2, hi_2⟩ : ∃ q, q = zup i 1 43 1 := ⟨_, rfl⟩
      refine z_mem (M' := zmm i_2 lm) (by rw [hi_2]; rfl) ?_
      refine z_aload_n X 0 dX8_addRoom_51 rfl rfl ?_
      refine z_getI (ci := 11) (j := 43) (x := 1) X dX8_addRoom_52 zmm_c1 rfl (by decide) hlk_116 (Or.inl rfl) (fun _ => rfl) (by show i_2 1 43 = 1; rw [hi_2, zup_s]) ?_
      refine z_if_le X 60 dX8_addRoom_55 (by decide) (fun c_55 => ?_) (fun c_55 => ?_)
      · exact absurd c_55 (by decide)
      · skip
        refine z_iconst (v := 0) X dX8_addRoom_58 (by decide) ?_
        refine z_iret X rfl rfl (Nat.le_refl _) (Nat.le_refl _) dX8_addRoom_59 ?_
        subst hi_2
        (try simp only [zb_0, Classical.not_not] at c_8 c_18 c_55)
        exact ⟨_, rfl, by (first | rfl | (simp only [Int32.lt_irrefl, if_true, if_false, not_true_eq_false, not_false_eq_true, and_true, true_and, and_false, false_and, or_true, true_or, or_false, false_or, and_self, ite_self, zb, q_addRoomV, q_addRoomF, c_8, c_18, c_55, eq_true c_8, eq_true c_18, eq_true c_55]; done) | (simp only [Int32.lt_irrefl, if_true, if_false, not_true_eq_false, not_false_eq_true, and_true, true_and, and_false, false_and, or_true, true_or, or_false, false_or, and_self, ite_self, zb, q_addRoomV, q_addRoomF, c_8, c_18, c_55, eq_true c_8, eq_true c_18, eq_true c_55]; rfl)), by (first | rfl | (simp only [Int32.lt_irrefl, if_true, if_false, not_true_eq_false, not_false_eq_true, and_true, true_and, and_false, false_and, or_true, true_or, or_false, false_or, and_self, ite_self, zb, q_addRoomV, q_addRoomF, c_8, c_18, c_55, eq_true c_8, eq_true c_18, eq_true c_55]; done) | (simp only [Int32.lt_irrefl, if_true, if_false, not_true_eq_false, not_false_eq_true, and_true, true_and, and_false, false_and, or_true, true_or, or_false, false_or, and_self, ite_self, zb, q_addRoomV, q_addRoomF, c_8, c_18, c_55, eq_true c_8, eq_true c_18, eq_true c_55]; rfl))⟩
    · skip
      refine z_iload_n X 3 dX8_addRoom_21 rfl rfl ?_
      refine z_iconst (v := 1) X dX8_addRoom_22 (by decide) ?_
      refine z_bipush (v := 100) X dX8_addRoom_23 (by decide) ?_
      refine z_callSi (As := [.int c, .int 1, .int 100]) (rest := [.ref 1]) (n1 := 3) X dX8_addRoom_25 (c_X8_in l _ c 1 100) gX8_addRoom_X8_in rfl rfl (by decide +kernel) ⟨by decide, by decide⟩ rfl (Nat.le_of_ble_eq_true rfl) ⟨by decide, by decide⟩ (fun _ h => h.elim) ?_
      rintro _ _ ⟨rfl, rfl⟩
      refine z_if_ne X 35 dX8_addRoom_28 (by decide) (fun c_28 => ?_) (fun c_28 => ?_)
      · skip
        refine z_aload_n X 0 dX8_addRoom_35 rfl rfl ?_
        refine z_getI (ci := 11) (j := 17) (x := nI nr) X dX8_addRoom_36 zmm_c1 rfl (by decide) hlk_119 (Or.inl rfl) (fun _ => rfl) (by show i 1 17 = (nI nr); exact hn) ?_
        refine z_iconst (v := 4) X dX8_addRoom_39 (by decide) ?_
        refine z_icmp_ne X 47 dX8_addRoom_40 (by decide) (fun c_40 => ?_) (fun c_40 => ?_)
        · skip
          refine z_iconst (v := 0) X dX8_addRoom_47 (by decide) ?_
          refine z_putI (ci := 11) (j := 43) X dX8_addRoom_48 zmm_c1 rfl (by decide) hlk_116 (Or.inl rfl) (Or.inl rfl) (fun _ => rfl) rfl rfl ?_
          obtain ⟨i_3, hi_3⟩ : ∃ q, q = zup i 1 43 0 := ⟨_, rfl⟩
          refine z_mem (M' := zmm i_3 lm) (by rw [hi_3]; rfl) ?_
          refine z_aload_n X 0 dX8_addRoom_51 rfl rfl ?_
          refine z_getI (ci := 11) (j := 43) (x := 0) X dX8_addRoom_52 zmm_c1 rfl (by decide) hlk_116 (Or.inl rfl) (fun _ => rfl) (by show i_3 1 43 = 0; rw [hi_3, zup_s]) ?_
          refine z_if_le X 60 dX8_addRoom_55 (by decide) (fun c_55 => ?_) (fun c_55 => ?_)
          · skip
            refine z_aload_n X 0 dX8_addRoom_60 rfl rfl ?_
            refine z_getR (ci := 11) (j := 2) (o' := 102) X dX8_addRoom_61 zmm_c1 rfl (by decide) hlk_13 (Or.inl rfl) (fun _ => rfl) (zmm_r102) ?_
            refine z_aload_n X 0 dX8_addRoom_64 rfl rfl ?_
            refine z_getI (ci := 11) (j := 17) (x := nI nr) X dX8_addRoom_65 zmm_c1 rfl (by decide) hlk_119 (Or.inl rfl) (fun _ => rfl) (by show i_3 1 17 = (nI nr); rw [hi_3, zup_n (by decide)]; exact hn) ?_
            refine z_iload_n X 1 dX8_addRoom_68 rfl rfl ?_
            refine z_iast (j := nr) X dX8_addRoom_69 zmm_c102 (by rw [zmm_n102]; exact vp_in_nI (nI_ltc (N := 4) h4 c_40) (by decide)) (nI_clamp (by omega)) ?_
            obtain ⟨i_4, hi_4⟩ : ∃ q, q = zup i_3 102 nr a := ⟨_, rfl⟩
            refine z_mem (M' := zmm i_4 lm) (by rw [hi_4]; rfl) ?_
            refine z_aload_n X 0 dX8_addRoom_70 rfl rfl ?_
            refine z_getR (ci := 11) (j := 3) (o' := 103) X dX8_addRoom_71 zmm_c1 rfl (by decide) hlk_17 (Or.inl rfl) (fun _ => rfl) (zmm_r103) ?_
            refine z_aload_n X 0 dX8_addRoom_74 rfl rfl ?_
            refine z_getI (ci := 11) (j := 17) (x := nI nr) X dX8_addRoom_75 zmm_c1 rfl (by decide) hlk_119 (Or.inl rfl) (fun _ => rfl) (by show i_4 1 17 = (nI nr); rw [hi_4, zup_n (by omega)]; rw [hi_3, zup_n (by decide)]; exact hn) ?_
            refine z_iload_n X 2 dX8_addRoom_78 rfl rfl ?_
            refine z_iast (j := nr) X dX8_addRoom_79 zmm_c103 (by rw [zmm_n103]; exact vp_in_nI (nI_ltc (N := 4) h4 c_40) (by decide)) (nI_clamp (by omega)) ?_
            obtain ⟨i_5, hi_5⟩ : ∃ q, q = zup i_4 103 nr b := ⟨_, rfl⟩
            refine z_mem (M' := zmm i_5 lm) (by rw [hi_5]; rfl) ?_
            refine z_aload_n X 0 dX8_addRoom_80 rfl rfl ?_
            refine z_getR (ci := 11) (j := 4) (o' := 104) X dX8_addRoom_81 zmm_c1 rfl (by decide) hlk_20 (Or.inl rfl) (fun _ => rfl) (zmm_r104) ?_
            refine z_aload_n X 0 dX8_addRoom_84 rfl rfl ?_
            refine z_getI (ci := 11) (j := 17) (x := nI nr) X dX8_addRoom_85 zmm_c1 rfl (by decide) hlk_119 (Or.inl rfl) (fun _ => rfl) (by show i_5 1 17 = (nI nr); rw [hi_5, zup_n (by omega)]; rw [hi_4, zup_n (by omega)]; rw [hi_3, zup_n (by decide)]; exact hn) ?_
            refine z_iload_n X 3 dX8_addRoom_88 rfl rfl ?_
            refine z_iast (j := nr) X dX8_addRoom_89 zmm_c104 (by rw [zmm_n104]; exact vp_in_nI (nI_ltc (N := 4) h4 c_40) (by decide)) (nI_clamp (by omega)) ?_
            obtain ⟨i_6, hi_6⟩ : ∃ q, q = zup i_5 104 nr c := ⟨_, rfl⟩
            refine z_mem (M' := zmm i_6 lm) (by rw [hi_6]; rfl) ?_
            refine z_aload_n X 0 dX8_addRoom_90 rfl rfl ?_
            refine z_getR (ci := 11) (j := 5) (o' := 105) X dX8_addRoom_91 zmm_c1 rfl (by decide) hlk_23 (Or.inl rfl) (fun _ => rfl) (zmm_r105) ?_
            refine z_aload_n X 0 dX8_addRoom_94 rfl rfl ?_
            refine z_getI (ci := 11) (j := 17) (x := nI nr) X dX8_addRoom_95 zmm_c1 rfl (by decide) hlk_119 (Or.inl rfl) (fun _ => rfl) (by show i_6 1 17 = (nI nr); rw [hi_6, zup_n (by omega)]; rw [hi_5, zup_n (by omega)]; rw [hi_4, zup_n (by omega)]; rw [hi_3, zup_n (by decide)]; exact hn) ?_
            refine z_bipush (v := 20) X dX8_addRoom_98 (by decide) ?_
            refine z_iast (j := nr) X dX8_addRoom_100 zmm_c105 (by rw [zmm_n105]; exact vp_in_nI (nI_ltc (N := 4) h4 c_40) (by decide)) (nI_clamp (by omega)) ?_
            obtain ⟨i_7, hi_7⟩ : ∃ q, q = zup i_6 105 nr 20 := ⟨_, rfl⟩
            refine z_mem (M' := zmm i_7 lm) (by rw [hi_7]; rfl) ?_
            refine z_aload_n X 0 dX8_addRoom_101 rfl rfl ?_
            refine z_getR (ci := 11) (j := 6) (o' := 106) X dX8_addRoom_102 zmm_c1 rfl (by decide) hlk_26 (Or.inl rfl) (fun _ => rfl) (zmm_r106) ?_
            refine z_aload_n X 0 dX8_addRoom_105 rfl rfl ?_
            refine z_getI (ci := 11) (j := 17) (x := nI nr) X dX8_addRoom_106 zmm_c1 rfl (by decide) hlk_119 (Or.inl rfl) (fun _ => rfl) (by show i_7 1 17 = (nI nr); rw [hi_7, zup_n (by omega)]; rw [hi_6, zup_n (by omega)]; rw [hi_5, zup_n (by omega)]; rw [hi_4, zup_n (by omega)]; rw [hi_3, zup_n (by decide)]; exact hn) ?_
            refine z_bipush (v := 50) X dX8_addRoom_109 (by decide) ?_
            refine z_iast (j := nr) X dX8_addRoom_111 zmm_c106 (by rw [zmm_n106]; exact vp_in_nI (nI_ltc (N := 4) h4 c_40) (by decide)) (nI_clamp (by omega)) ?_
            obtain ⟨i_8, hi_8⟩ : ∃ q, q = zup i_7 106 nr 50 := ⟨_, rfl⟩
            refine z_mem (M' := zmm i_8 lm) (by rw [hi_8]; rfl) ?_
            refine z_aload_n X 0 dX8_addRoom_112 rfl rfl ?_
            refine z_getR (ci := 11) (j := 9) (o' := 109) X dX8_addRoom_113 zmm_c1 rfl (by decide) hlk_35 (Or.inl rfl) (fun _ => rfl) (zmm_r109) ?_
            refine z_aload_n X 0 dX8_addRoom_116 rfl rfl ?_
            refine z_getI (ci := 11) (j := 17) (x := nI nr) X dX8_addRoom_117 zmm_c1 rfl (by decide) hlk_119 (Or.inl rfl) (fun _ => rfl) (by show i_8 1 17 = (nI nr); rw [hi_8, zup_n (by omega)]; rw [hi_7, zup_n (by omega)]; rw [hi_6, zup_n (by omega)]; rw [hi_5, zup_n (by omega)]; rw [hi_4, zup_n (by omega)]; rw [hi_3, zup_n (by decide)]; exact hn) ?_
            refine z_bipush (v := 97) X dX8_addRoom_120 (by decide) ?_
            refine z_cast (j := nr) X dX8_addRoom_122 zmm_c109 (by rw [zmm_n109]; exact vp_in_nI (nI_ltc (N := 4) h4 c_40) (by decide)) (nI_clamp (by omega)) (rfl) ?_
            obtain ⟨i_9, hi_9⟩ : ∃ q, q = zup i_8 109 nr 97 := ⟨_, rfl⟩
            refine z_mem (M' := zmm i_9 lm) (by rw [hi_9]; rfl) ?_
            refine z_aload_n X 0 dX8_addRoom_123 rfl rfl ?_
            refine z_getR (ci := 11) (j := 10) (o' := 110) X dX8_addRoom_124 zmm_c1 rfl (by decide) hlk_39 (Or.inl rfl) (fun _ => rfl) (zmm_r110) ?_
            refine z_aload_n X 0 dX8_addRoom_127 rfl rfl ?_
            refine z_getI (ci := 11) (j := 17) (x := nI nr) X dX8_addRoom_128 zmm_c1 rfl (by decide) hlk_119 (Or.inl rfl) (fun _ => rfl) (by show i_9 1 17 = (nI nr); rw [hi_9, zup_n (by omega)]; rw [hi_8, zup_n (by omega)]; rw [hi_7, zup_n (by omega)]; rw [hi_6, zup_n (by omega)]; rw [hi_5, zup_n (by omega)]; rw [hi_4, zup_n (by omega)]; rw [hi_3, zup_n (by decide)]; exact hn) ?_
            refine z_aload_n X 0 dX8_addRoom_131 rfl rfl ?_
            refine z_getI (ci := 11) (j := 1) (x := i 1 1) X dX8_addRoom_132 zmm_c1 rfl (by decide) hlk_7 (Or.inl rfl) (fun _ => rfl) (by show i_9 1 1 = (i 1 1); rw [hi_9, zup_n (by omega)]; rw [hi_8, zup_n (by omega)]; rw [hi_7, zup_n (by omega)]; rw [hi_6, zup_n (by omega)]; rw [hi_5, zup_n (by omega)]; rw [hi_4, zup_n (by omega)]; rw [hi_3, zup_n (by decide)]) ?_
            refine z_iast (j := nr) X dX8_addRoom_135 zmm_c110 (by rw [zmm_n110]; exact vp_in_nI (nI_ltc (N := 4) h4 c_40) (by decide)) (nI_clamp (by omega)) ?_
            obtain ⟨i_10, hi_10⟩ : ∃ q, q = zup i_9 110 nr (i 1 1) := ⟨_, rfl⟩
            refine z_mem (M' := zmm i_10 lm) (by rw [hi_10]; rfl) ?_
            refine z_aload_n X 0 dX8_addRoom_136 rfl rfl ?_
            refine z_dup X dX8_addRoom_137 rfl ?_
            refine z_getI (ci := 11) (j := 17) (x := nI nr) X dX8_addRoom_138 zmm_c1 rfl (by decide) hlk_119 (Or.inl rfl) (fun _ => rfl) (by show i_10 1 17 = (nI nr); rw [hi_10, zup_n (by omega)]; rw [hi_9, zup_n (by omega)]; rw [hi_8, zup_n (by omega)]; rw [hi_7, zup_n (by omega)]; rw [hi_6, zup_n (by omega)]; rw [hi_5, zup_n (by omega)]; rw [hi_4, zup_n (by omega)]; rw [hi_3, zup_n (by decide)]; exact hn) ?_
            refine z_iconst (v := 1) X dX8_addRoom_141 (by decide) ?_
            refine z_iadd X dX8_addRoom_142 ?_
            refine z_putI (ci := 11) (j := 17) X dX8_addRoom_143 zmm_c1 rfl (by decide) hlk_119 (Or.inl rfl) (Or.inl rfl) (fun _ => rfl) rfl rfl ?_
            obtain ⟨i_11, hi_11⟩ : ∃ q, q = zup i_10 1 17 ((nI nr) + 1) := ⟨_, rfl⟩
            refine z_mem (M' := zmm i_11 lm) (by rw [hi_11]; rfl) ?_
            refine z_aload_n X 0 dX8_addRoom_146 rfl rfl ?_
            refine z_getI (ci := 11) (j := 17) (x := (nI nr) + 1) X dX8_addRoom_147 zmm_c1 rfl (by decide) hlk_119 (Or.inl rfl) (fun _ => rfl) (by show i_11 1 17 = ((nI nr) + 1); rw [hi_11, zup_s]) ?_
            refine z_iconst (v := 1) X dX8_addRoom_150 (by decide) ?_
            refine z_isub X dX8_addRoom_151 ?_
            refine z_iret X rfl rfl (Nat.le_refl _) (Nat.le_refl _) dX8_addRoom_152 ?_
            subst hi_11
            subst hi_10
            subst hi_9
            subst hi_8
            subst hi_7
            subst hi_6
            subst hi_5
            subst hi_4
            subst hi_3
            (try simp only [zb_0, Classical.not_not] at c_8 c_18 c_28 c_40 c_55)
            exact ⟨_, rfl, by (first | rfl | (simp only [Int32.lt_irrefl, if_true, if_false, not_true_eq_false, not_false_eq_true, and_true, true_and, and_false, false_and, or_true, true_or, or_false, false_or, and_self, ite_self, zb, q_addRoomV, q_addRoomF, c_8, c_18, c_28, c_40, c_55, eq_true c_8, eq_true c_18, eq_true c_28, eq_true c_40, eq_true c_55]; done) | (simp only [Int32.lt_irrefl, if_true, if_false, not_true_eq_false, not_false_eq_true, and_true, true_and, and_false, false_and, or_true, true_or, or_false, false_or, and_self, ite_self, zb, q_addRoomV, q_addRoomF, c_8, c_18, c_28, c_40, c_55, eq_true c_8, eq_true c_18, eq_true c_28, eq_true c_40, eq_true c_55]; rfl)), by (first | rfl | (simp only [Int32.lt_irrefl, if_true, if_false, not_true_eq_false, not_false_eq_true, and_true, true_and, and_false, false_and, or_true, true_or, or_false, false_or, and_self, ite_self, zb, q_addRoomV, q_addRoomF, c_8, c_18, c_28, c_40, c_55, eq_true c_8, eq_true c_18, eq_true c_28, eq_true c_40, eq_true c_55]; done) | (simp only [Int32.lt_irrefl, if_true, if_false, not_true_eq_false, not_false_eq_true, and_true, true_and, and_false, false_and, or_true, true_or, or_false, false_or, and_self, ite_self, zb, q_addRoomV, q_addRoomF, c_8, c_18, c_28, c_40, c_55, eq_true c_8, eq_true c_18, eq_true c_28, eq_true c_40, eq_true c_55]; rfl))⟩
          · exact absurd c_55 (by decide)
        · skip
          refine z_iconst (v := 2) X dX8_addRoom_43 (by decide) ?_
          refine z_goto (tgt := 48) X dX8_addRoom_44 (by decide) ?_
          refine z_putI (ci := 11) (j := 43) X dX8_addRoom_48 zmm_c1 rfl (by decide) hlk_116 (Or.inl rfl) (Or.inl rfl) (fun _ => rfl) rfl rfl ?_
          obtain ⟨i_12, hi_12⟩ : ∃ q, q = zup i 1 43 2 := ⟨_, rfl⟩
          refine z_mem (M' := zmm i_12 lm) (by rw [hi_12]; rfl) ?_
          refine z_aload_n X 0 dX8_addRoom_51 rfl rfl ?_
          refine z_getI (ci := 11) (j := 43) (x := 2) X dX8_addRoom_52 zmm_c1 rfl (by decide) hlk_116 (Or.inl rfl) (fun _ => rfl) (by show i_12 1 43 = 2; rw [hi_12, zup_s]) ?_
          refine z_if_le X 60 dX8_addRoom_55 (by decide) (fun c_55 => ?_) (fun c_55 => ?_)
          · exact absurd c_55 (by decide)
          · skip
            refine z_iconst (v := 0) X dX8_addRoom_58 (by decide) ?_
            refine z_iret X rfl rfl (Nat.le_refl _) (Nat.le_refl _) dX8_addRoom_59 ?_
            subst hi_12
            (try simp only [zb_0, Classical.not_not] at c_8 c_18 c_28 c_40 c_55)
            exact ⟨_, rfl, by (first | rfl | (simp only [Int32.lt_irrefl, if_true, if_false, not_true_eq_false, not_false_eq_true, and_true, true_and, and_false, false_and, or_true, true_or, or_false, false_or, and_self, ite_self, zb, q_addRoomV, q_addRoomF, c_8, c_18, c_28, c_40, c_55, eq_true c_8, eq_true c_18, eq_true c_28, eq_true c_40, eq_true c_55]; done) | (simp only [Int32.lt_irrefl, if_true, if_false, not_true_eq_false, not_false_eq_true, and_true, true_and, and_false, false_and, or_true, true_or, or_false, false_or, and_self, ite_self, zb, q_addRoomV, q_addRoomF, c_8, c_18, c_28, c_40, c_55, eq_true c_8, eq_true c_18, eq_true c_28, eq_true c_40, eq_true c_55]; rfl)), by (first | rfl | (simp only [Int32.lt_irrefl, if_true, if_false, not_true_eq_false, not_false_eq_true, and_true, true_and, and_false, false_and, or_true, true_or, or_false, false_or, and_self, ite_self, zb, q_addRoomV, q_addRoomF, c_8, c_18, c_28, c_40, c_55, eq_true c_8, eq_true c_18, eq_true c_28, eq_true c_40, eq_true c_55]; done) | (simp only [Int32.lt_irrefl, if_true, if_false, not_true_eq_false, not_false_eq_true, and_true, true_and, and_false, false_and, or_true, true_or, or_false, false_or, and_self, ite_self, zb, q_addRoomV, q_addRoomF, c_8, c_18, c_28, c_40, c_55, eq_true c_8, eq_true c_18, eq_true c_28, eq_true c_40, eq_true c_55]; rfl))⟩
      · skip
        refine z_iconst (v := 1) X dX8_addRoom_31 (by decide) ?_
        refine z_goto (tgt := 48) X dX8_addRoom_32 (by decide) ?_
        refine z_putI (ci := 11) (j := 43) X dX8_addRoom_48 zmm_c1 rfl (by decide) hlk_116 (Or.inl rfl) (Or.inl rfl) (fun _ => rfl) rfl rfl ?_
        obtain ⟨i_13, hi_13⟩ : ∃ q, q = zup i 1 43 1 := ⟨_, rfl⟩
        refine z_mem (M' := zmm i_13 lm) (by rw [hi_13]; rfl) ?_
        refine z_aload_n X 0 dX8_addRoom_51 rfl rfl ?_
        refine z_getI (ci := 11) (j := 43) (x := 1) X dX8_addRoom_52 zmm_c1 rfl (by decide) hlk_116 (Or.inl rfl) (fun _ => rfl) (by show i_13 1 43 = 1; rw [hi_13, zup_s]) ?_
        refine z_if_le X 60 dX8_addRoom_55 (by decide) (fun c_55 => ?_) (fun c_55 => ?_)
        · exact absurd c_55 (by decide)
        · skip
          refine z_iconst (v := 0) X dX8_addRoom_58 (by decide) ?_
          refine z_iret X rfl rfl (Nat.le_refl _) (Nat.le_refl _) dX8_addRoom_59 ?_
          subst hi_13
          (try simp only [zb_0, Classical.not_not] at c_8 c_18 c_28 c_55)
          exact ⟨_, rfl, by (first | rfl | (simp only [Int32.lt_irrefl, if_true, if_false, not_true_eq_false, not_false_eq_true, and_true, true_and, and_false, false_and, or_true, true_or, or_false, false_or, and_self, ite_self, zb, q_addRoomV, q_addRoomF, c_8, c_18, c_28, c_55, eq_true c_8, eq_true c_18, eq_true c_28, eq_true c_55]; done) | (simp only [Int32.lt_irrefl, if_true, if_false, not_true_eq_false, not_false_eq_true, and_true, true_and, and_false, false_and, or_true, true_or, or_false, false_or, and_self, ite_self, zb, q_addRoomV, q_addRoomF, c_8, c_18, c_28, c_55, eq_true c_8, eq_true c_18, eq_true c_28, eq_true c_55]; rfl)), by (first | rfl | (simp only [Int32.lt_irrefl, if_true, if_false, not_true_eq_false, not_false_eq_true, and_true, true_and, and_false, false_and, or_true, true_or, or_false, false_or, and_self, ite_self, zb, q_addRoomV, q_addRoomF, c_8, c_18, c_28, c_55, eq_true c_8, eq_true c_18, eq_true c_28, eq_true c_55]; done) | (simp only [Int32.lt_irrefl, if_true, if_false, not_true_eq_false, not_false_eq_true, and_true, true_and, and_false, false_and, or_true, true_or, or_false, false_or, and_self, ite_self, zb, q_addRoomV, q_addRoomF, c_8, c_18, c_28, c_55, eq_true c_8, eq_true c_18, eq_true c_28, eq_true c_55]; rfl))⟩

set_option maxRecDepth 100000 in
set_option maxHeartbeats 4000000 in
theorem c_X8_setLimits (l : Launch) (i : Nat → Nat → Int32) (lm : Nat → Nat → Int64) (nr : Nat) (hn : i 1 17 = nI nr) (h4 : nr ≤ 4) (r : Int32) (a : Int32) (b : Int32) : zS l yX8_setLimits wsX8_setLimits 2 43 0 0 [.ref 1, .int r, .int a, .int b] (zmm i lm) (zpi (fun rr M1 => rr = q_setLimitsV i r a b ∧ M1 = zmm (q_setLimitsF i r a b) lm)) zno := by
  refine z_intro (cc := cX8_setLimits) (maxL := 5) (ret := (some .int)) (by decide +kernel) rfl (Nat.le_of_ble_eq_true rfl) ?_
  have hlk_116 : Cond.fieldLink RX8 116 "ColdStoreModel" "thrown" "I" ∈ wsX8_setLimits := by decide +kernel
  have hlk_23 : Cond.fieldLink RX8 23 "ColdStoreModel" "lowers" "[I" ∈ wsX8_setLimits := by decide +kernel
  have hlk_26 : Cond.fieldLink RX8 26 "ColdStoreModel" "uppers" "[I" ∈ wsX8_setLimits := by decide +kernel
  intro g X
  show zE g 5 0 [(0, .ref 1), (1, .int r), (2, .int a), (3, .int b)] [] (zmm i lm) 0 0
  refine z_aload_n X 0 dX8_setLimits_0 rfl rfl ?_
  refine z_aload_n X 0 dX8_setLimits_1 rfl rfl ?_
  refine z_iload_n X 1 dX8_setLimits_2 rfl rfl ?_
  refine z_callVi (As := [.int r]) (rest := [.ref 1]) (n1 := 1) (ci := 11) X dX8_setLimits_3 (c_X8_isRoom l _ _ r) gX8_setLimits_X8_isRoom rfl rfl (by decide +kernel) ⟨by decide, by decide⟩ zmm_c1 rfl rfl (Nat.le_of_ble_eq_true rfl) ⟨by decide, by decide⟩ (fun _ h => h.elim) ?_
  rintro _ _ ⟨rfl, rfl⟩
  refine z_if_ne X 13 dX8_setLimits_6 (by decide) (fun c_6 => ?_) (fun c_6 => ?_)
  · skip
    refine z_iload_n X 2 dX8_setLimits_13 rfl rfl ?_
    refine z_sipush (v := (-300)) X dX8_setLimits_14 (by decide) ?_
    refine z_sipush (v := 300) X dX8_setLimits_17 (by decide) ?_
    refine z_callSi (As := [.int a, .int (-300), .int 300]) (rest := [.ref 1]) (n1 := 3) X dX8_setLimits_20 (c_X8_in l _ a (-300) 300) gX8_setLimits_X8_in rfl rfl (by decide +kernel) ⟨by decide, by decide⟩ rfl (Nat.le_of_ble_eq_true rfl) ⟨by decide, by decide⟩ (fun _ h => h.elim) ?_
    rintro _ _ ⟨rfl, rfl⟩
    refine z_if_eq X 37 dX8_setLimits_23 (by decide) (fun c_23 => ?_) (fun c_23 => ?_)
    · skip
      refine z_iconst (v := 2) X dX8_setLimits_37 (by decide) ?_
      refine z_goto (tgt := 42) X dX8_setLimits_38 (by decide) ?_
      refine z_putI (ci := 11) (j := 43) X dX8_setLimits_42 zmm_c1 rfl (by decide) hlk_116 (Or.inl rfl) (Or.inl rfl) (fun _ => rfl) rfl rfl ?_
      obtain ⟨i_1, hi_1⟩ : ∃ q, q = zup i 1 43 2 := ⟨_, rfl⟩
      refine z_mem (M' := zmm i_1 lm) (by rw [hi_1]; rfl) ?_
      refine z_aload_n X 0 dX8_setLimits_45 rfl rfl ?_
      refine z_getI (ci := 11) (j := 43) (x := 2) X dX8_setLimits_46 zmm_c1 rfl (by decide) hlk_116 (Or.inl rfl) (fun _ => rfl) (by show i_1 1 43 = 2; rw [hi_1, zup_s]) ?_
      refine z_if_le X 54 dX8_setLimits_49 (by decide) (fun c_49 => ?_) (fun c_49 => ?_)
      · exact absurd c_49 (by decide)
      · skip
        refine z_iconst (v := 0) X dX8_setLimits_52 (by decide) ?_
        refine z_iret X rfl rfl (Nat.le_refl _) (Nat.le_refl _) dX8_setLimits_53 ?_
        subst hi_1
        (try simp only [zb_0, Classical.not_not] at c_6 c_23 c_49)
        exact ⟨_, rfl, by (first | rfl | (simp only [Int32.lt_irrefl, if_true, if_false, not_true_eq_false, not_false_eq_true, and_true, true_and, and_false, false_and, or_true, true_or, or_false, false_or, and_self, ite_self, zb, q_setLimitsV, q_setLimitsF, c_6, c_23, c_49, eq_true c_6, eq_true c_23, eq_true c_49]; done) | (simp only [Int32.lt_irrefl, if_true, if_false, not_true_eq_false, not_false_eq_true, and_true, true_and, and_false, false_and, or_true, true_or, or_false, false_or, and_self, ite_self, zb, q_setLimitsV, q_setLimitsF, c_6, c_23, c_49, eq_true c_6, eq_true c_23, eq_true c_49]; rfl)), by (first | rfl | (simp only [Int32.lt_irrefl, if_true, if_false, not_true_eq_false, not_false_eq_true, and_true, true_and, and_false, false_and, or_true, true_or, or_false, false_or, and_self, ite_self, zb, q_setLimitsV, q_setLimitsF, c_6, c_23, c_49, eq_true c_6, eq_true c_23, eq_true c_49]; done) | (simp only [Int32.lt_irrefl, if_true, if_false, not_true_eq_false, not_false_eq_true, and_true, true_and, and_false, false_and, or_true, true_or, or_false, false_or, and_self, ite_self, zb, q_setLimitsV, q_setLimitsF, c_6, c_23, c_49, eq_true c_6, eq_true c_23, eq_true c_49]; rfl))⟩
    · skip
      refine z_iload_n X 3 dX8_setLimits_26 rfl rfl ?_
      refine z_iload_n X 2 dX8_setLimits_27 rfl rfl ?_
      refine z_sipush (v := 300) X dX8_setLimits_28 (by decide) ?_
      refine z_callSi (As := [.int b, .int a, .int 300]) (rest := [.ref 1]) (n1 := 3) X dX8_setLimits_31 (c_X8_in l _ b a 300) gX8_setLimits_X8_in rfl rfl (by decide +kernel) ⟨by decide, by decide⟩ rfl (Nat.le_of_ble_eq_true rfl) ⟨by decide, by decide⟩ (fun _ h => h.elim) ?_
      rintro _ _ ⟨rfl, rfl⟩
      refine z_if_ne X 41 dX8_setLimits_34 (by decide) (fun c_34 => ?_) (fun c_34 => ?_)
      · skip
        refine z_iconst (v := 0) X dX8_setLimits_41 (by decide) ?_
        refine z_putI (ci := 11) (j := 43) X dX8_setLimits_42 zmm_c1 rfl (by decide) hlk_116 (Or.inl rfl) (Or.inl rfl) (fun _ => rfl) rfl rfl ?_
        obtain ⟨i_2, hi_2⟩ : ∃ q, q = zup i 1 43 0 := ⟨_, rfl⟩
        refine z_mem (M' := zmm i_2 lm) (by rw [hi_2]; rfl) ?_
        refine z_aload_n X 0 dX8_setLimits_45 rfl rfl ?_
        refine z_getI (ci := 11) (j := 43) (x := 0) X dX8_setLimits_46 zmm_c1 rfl (by decide) hlk_116 (Or.inl rfl) (fun _ => rfl) (by show i_2 1 43 = 0; rw [hi_2, zup_s]) ?_
        refine z_if_le X 54 dX8_setLimits_49 (by decide) (fun c_49 => ?_) (fun c_49 => ?_)
        · skip
          refine z_aload_n X 0 dX8_setLimits_54 rfl rfl ?_
          refine z_getR (ci := 11) (j := 5) (o' := 105) X dX8_setLimits_55 zmm_c1 rfl (by decide) hlk_23 (Or.inl rfl) (fun _ => rfl) (zmm_r105) ?_
          refine z_iload_n X 1 dX8_setLimits_58 rfl rfl ?_
          refine z_iald (j := cl r) (x := i 105 (cl r)) X dX8_setLimits_59 zmm_c105 (by rw [zmm_n105]; exact (zin_vp (zb_n0.mp c_6) hn h4 (by decide))) (rfl) (by show i_2 105 (cl r) = (i 105 (cl r)); rw [hi_2, zup_n (by omega)]) ?_
          refine z_istore (ls' := [(4, .int (i 105 (cl r))), (0, .ref 1), (1, .int r), (2, .int a), (3, .int b)]) X dX8_setLimits_60 (by decide) rfl ?_
          refine z_aload_n X 1 dX8_setLimits_62 rfl rfl ?_
          refine z_getR (ci := 11) (j := 5) (o' := 105) X dX8_setLimits_63 zmm_c1 rfl (by decide) hlk_23 (Or.inl rfl) (fun _ => rfl) (zmm_r105) ?_
          refine z_iload_n X 2 dX8_setLimits_66 rfl rfl ?_
          refine z_iload_n X 3 dX8_setLimits_67 rfl rfl ?_
          refine z_iast (j := cl r) X dX8_setLimits_68 zmm_c105 (by rw [zmm_n105]; exact (zin_vp (zb_n0.mp c_6) hn h4 (by decide))) (rfl) ?_
          obtain ⟨i_3, hi_3⟩ : ∃ q, q = zup i_2 105 (cl r) a := ⟨_, rfl⟩
          refine z_mem (M' := zmm i_3 lm) (by rw [hi_3]; rfl) ?_
          refine z_aload_n X 1 dX8_setLimits_69 rfl rfl ?_
          refine z_getR (ci := 11) (j := 6) (o' := 106) X dX8_setLimits_70 zmm_c1 rfl (by decide) hlk_26 (Or.inl rfl) (fun _ => rfl) (zmm_r106) ?_
          refine z_iload_n X 2 dX8_setLimits_73 rfl rfl ?_
          refine z_iload_n X 4 dX8_setLimits_74 rfl rfl ?_
          refine z_iast (j := cl r) X dX8_setLimits_75 zmm_c106 (by rw [zmm_n106]; exact (zin_vp (zb_n0.mp c_6) hn h4 (by decide))) (rfl) ?_
          obtain ⟨i_4, hi_4⟩ : ∃ q, q = zup i_3 106 (cl r) b := ⟨_, rfl⟩
          refine z_mem (M' := zmm i_4 lm) (by rw [hi_4]; rfl) ?_
          refine z_iload X 0 dX8_setLimits_76 rfl ?_
          refine z_iret X rfl rfl (Nat.le_refl _) (Nat.le_refl _) dX8_setLimits_78 ?_
          subst hi_4
          subst hi_3
          subst hi_2
          (try simp only [zb_0, Classical.not_not] at c_6 c_23 c_34 c_49)
          exact ⟨_, rfl, by (first | rfl | (simp only [Int32.lt_irrefl, if_true, if_false, not_true_eq_false, not_false_eq_true, and_true, true_and, and_false, false_and, or_true, true_or, or_false, false_or, and_self, ite_self, zb, q_setLimitsV, q_setLimitsF, c_6, c_23, c_34, c_49, eq_true c_6, eq_true c_23, eq_true c_34, eq_true c_49]; done) | (simp only [Int32.lt_irrefl, if_true, if_false, not_true_eq_false, not_false_eq_true, and_true, true_and, and_false, false_and, or_true, true_or, or_false, false_or, and_self, ite_self, zb, q_setLimitsV, q_setLimitsF, c_6, c_23, c_34, c_49, eq_true c_6, eq_true c_23, eq_true c_34, eq_true c_49]; rfl)), by (first | rfl | (simp only [Int32.lt_irrefl, if_true, if_false, not_true_eq_false, not_false_eq_true, and_true, true_and, and_false, false_and, or_true, true_or, or_false, false_or, and_self, ite_self, zb, q_setLimitsV, q_setLimitsF, c_6, c_23, c_34, c_49, eq_true c_6, eq_true c_23, eq_true c_34, eq_true c_49]; done) | (simp only [Int32.lt_irrefl, if_true, if_false, not_true_eq_false, not_false_eq_true, and_true, true_and, and_false, false_and, or_true, true_or, or_false, false_or, and_self, ite_self, zb, q_setLimitsV, q_setLimitsF, c_6, c_23, c_34, c_49, eq_true c_6, eq_true c_23, eq_true c_34, eq_true c_49]; rfl))⟩
        · exact absurd c_49 (by decide)
      · skip
        refine z_iconst (v := 2) X dX8_setLimits_37 (by decide) ?_
        refine z_goto (tgt := 42) X dX8_setLimits_38 (by decide) ?_
        refine z_putI (ci := 11) (j := 43) X dX8_setLimits_42 zmm_c1 rfl (by decide) hlk_116 (Or.inl rfl) (Or.inl rfl) (fun _ => rfl) rfl rfl ?_
        obtain ⟨i_5, hi_5⟩ : ∃ q, q = zup i 1 43 2 := ⟨_, rfl⟩
        refine z_mem (M' := zmm i_5 lm) (by rw [hi_5]; rfl) ?_
        refine z_aload_n X 0 dX8_setLimits_45 rfl rfl ?_
        refine z_getI (ci := 11) (j := 43) (x := 2) X dX8_setLimits_46 zmm_c1 rfl (by decide) hlk_116 (Or.inl rfl) (fun _ => rfl) (by show i_5 1 43 = 2; rw [hi_5, zup_s]) ?_
        refine z_if_le X 54 dX8_setLimits_49 (by decide) (fun c_49 => ?_) (fun c_49 => ?_)
        · exact absurd c_49 (by decide)
        · skip
          refine z_iconst (v := 0) X dX8_setLimits_52 (by decide) ?_
          refine z_iret X rfl rfl (Nat.le_refl _) (Nat.le_refl _) dX8_setLimits_53 ?_
          subst hi_5
          (try simp only [zb_0, Classical.not_not] at c_6 c_23 c_34 c_49)
          exact ⟨_, rfl, by (first | rfl | (simp only [Int32.lt_irrefl, if_true, if_false, not_true_eq_false, not_false_eq_true, and_true, true_and, and_false, false_and, or_true, true_or, or_false, false_or, and_self, ite_self, zb, q_setLimitsV, q_setLimitsF, c_6, c_23, c_34, c_49, eq_true c_6, eq_true c_23, eq_true c_34, eq_true c_49]; done) | (simp only [Int32.lt_irrefl, if_true, if_false, not_true_eq_false, not_false_eq_true, and_true, true_and, and_false, false_and, or_true, true_or, or_false, false_or, and_self, ite_self, zb, q_setLimitsV, q_setLimitsF, c_6, c_23, c_34, c_49, eq_true c_6, eq_true c_23, eq_true c_34, eq_true c_49]; rfl)), by (first | rfl | (simp only [Int32.lt_irrefl, if_true, if_false, not_true_eq_false, not_false_eq_true, and_true, true_and, and_false, false_and, or_true, true_or, or_false, false_or, and_self, ite_self, zb, q_setLimitsV, q_setLimitsF, c_6, c_23, c_34, c_49, eq_true c_6, eq_true c_23, eq_true c_34, eq_true c_49]; done) | (simp only [Int32.lt_irrefl, if_true, if_false, not_true_eq_false, not_false_eq_true, and_true, true_and, and_false, false_and, or_true, true_or, or_false, false_or, and_self, ite_self, zb, q_setLimitsV, q_setLimitsF, c_6, c_23, c_34, c_49, eq_true c_6, eq_true c_23, eq_true c_34, eq_true c_49]; rfl))⟩
  · skip
    refine z_iconst (v := 1) X dX8_setLimits_9 (by decide) ?_
    refine z_goto (tgt := 42) X dX8_setLimits_10 (by decide) ?_
    refine z_putI (ci := 11) (j := 43) X dX8_setLimits_42 zmm_c1 rfl (by decide) hlk_116 (Or.inl rfl) (Or.inl rfl) (fun _ => rfl) rfl rfl ?_
    obtain ⟨i_6, hi_6⟩ : ∃ q, q = zup i 1 43 1 := ⟨_, rfl⟩
    refine z_mem (M' := zmm i_6 lm) (by rw [hi_6]; rfl) ?_
    refine z_aload_n X 0 dX8_setLimits_45 rfl rfl ?_
    refine z_getI (ci := 11) (j := 43) (x := 1) X dX8_setLimits_46 zmm_c1 rfl (by decide) hlk_116 (Or.inl rfl) (fun _ => rfl) (by show i_6 1 43 = 1; rw [hi_6, zup_s]) ?_
    refine z_if_le X 54 dX8_setLimits_49 (by decide) (fun c_49 => ?_) (fun c_49 => ?_)
    · exact absurd c_49 (by decide)
    · skip
      refine z_iconst (v := 0) X dX8_setLimits_52 (by decide) ?_
      refine z_iret X rfl rfl (Nat.le_refl _) (Nat.le_refl _) dX8_setLimits_53 ?_
      subst hi_6
      (try simp only [zb_0, Classical.not_not] at c_6 c_49)
      exact ⟨_, rfl, by (first | rfl | (simp only [Int32.lt_irrefl, if_true, if_false, not_true_eq_false, not_false_eq_true, and_true, true_and, and_false, false_and, or_true, true_or, or_false, false_or, and_self, ite_self, zb, q_setLimitsV, q_setLimitsF, c_6, c_49, eq_true c_6, eq_true c_49]; done) | (simp only [Int32.lt_irrefl, if_true, if_false, not_true_eq_false, not_false_eq_true, and_true, true_and, and_false, false_and, or_true, true_or, or_false, false_or, and_self, ite_self, zb, q_setLimitsV, q_setLimitsF, c_6, c_49, eq_true c_6, eq_true c_49]; rfl)), by (first | rfl | (simp only [Int32.lt_irrefl, if_true, if_false, not_true_eq_false, not_false_eq_true, and_true, true_and, and_false, false_and, or_true, true_or, or_false, false_or, and_self, ite_self, zb, q_setLimitsV, q_setLimitsF, c_6, c_49, eq_true c_6, eq_true c_49]; done) | (simp only [Int32.lt_irrefl, if_true, if_false, not_true_eq_false, not_false_eq_true, and_true, true_and, and_false, false_and, or_true, true_or, or_false, false_or, and_self, ite_self, zb, q_setLimitsV, q_setLimitsF, c_6, c_49, eq_true c_6, eq_true c_49]; rfl))⟩

set_option maxRecDepth 100000 in
set_option maxHeartbeats 4000000 in
theorem c_X8_setMode (l : Launch) (i : Nat → Nat → Int32) (lm : Nat → Nat → Int64) (nr : Nat) (hn : i 1 17 = nI nr) (h4 : nr ≤ 4) (r : Int32) (m : Int32) (hmode : narrow .char (.int m) = .int m) (hrow : ∀ j, narrow .char (.int (i 109 j)) = .int (i 109 j)) : zS l yX8_setMode wsX8_setMode 2 43 0 0 [.ref 1, .int r, .int m] (zmm i lm) (zpi (fun rr M1 => rr = q_setModeV i r m ∧ M1 = zmm (q_setModeF i r m) lm)) zno := by
  refine z_intro (cc := cX8_setMode) (maxL := 4) (ret := (some .char)) (by decide +kernel) rfl (Nat.le_of_ble_eq_true rfl) ?_
  have hlk_116 : Cond.fieldLink RX8 116 "ColdStoreModel" "thrown" "I" ∈ wsX8_setMode := by decide +kernel
  have hlk_35 : Cond.fieldLink RX8 35 "ColdStoreModel" "modes" "[C" ∈ wsX8_setMode := by decide +kernel
  intro g X
  show zE g 4 0 [(0, .ref 1), (1, .int r), (2, .int m)] [] (zmm i lm) 0 0
  refine z_aload_n X 0 dX8_setMode_0 rfl rfl ?_
  refine z_aload_n X 0 dX8_setMode_1 rfl rfl ?_
  refine z_iload_n X 1 dX8_setMode_2 rfl rfl ?_
  refine z_callVi (As := [.int r]) (rest := [.ref 1]) (n1 := 1) (ci := 11) X dX8_setMode_3 (c_X8_isRoom l _ _ r) gX8_setMode_X8_isRoom rfl rfl (by decide +kernel) ⟨by decide, by decide⟩ zmm_c1 rfl rfl (Nat.le_of_ble_eq_true rfl) ⟨by decide, by decide⟩ (fun _ h => h.elim) ?_
  rintro _ _ ⟨rfl, rfl⟩
  refine z_if_ne X 13 dX8_setMode_6 (by decide) (fun c_6 => ?_) (fun c_6 => ?_)
  · skip
    refine z_iload_n X 2 dX8_setMode_13 rfl rfl ?_
    refine z_bipush (v := 97) X dX8_setMode_14 (by decide) ?_
    refine z_icmp_eq X 35 dX8_setMode_16 (by decide) (fun c_16 => ?_) (fun c_16 => ?_)
    · skip
      refine z_iconst (v := 0) X dX8_setMode_35 (by decide) ?_
      refine z_putI (ci := 11) (j := 43) X dX8_setMode_36 zmm_c1 rfl (by decide) hlk_116 (Or.inl rfl) (Or.inl rfl) (fun _ => rfl) rfl rfl ?_
      obtain ⟨i_1, hi_1⟩ : ∃ q, q = zup i 1 43 0 := ⟨_, rfl⟩
      refine z_mem (M' := zmm i_1 lm) (by rw [hi_1]; rfl) ?_
      refine z_aload_n X 0 dX8_setMode_39 rfl rfl ?_
      refine z_getI (ci := 11) (j := 43) (x := 0) X dX8_setMode_40 zmm_c1 rfl (by decide) hlk_116 (Or.inl rfl) (fun _ => rfl) (by show i_1 1 43 = 0; rw [hi_1, zup_s]) ?_
      refine z_if_le X 49 dX8_setMode_43 (by decide) (fun c_43 => ?_) (fun c_43 => ?_)
      · skip
        refine z_aload_n X 0 dX8_setMode_49 rfl rfl ?_
        refine z_getR (ci := 11) (j := 9) (o' := 109) X dX8_setMode_50 zmm_c1 rfl (by decide) hlk_35 (Or.inl rfl) (fun _ => rfl) (zmm_r109) ?_
        refine z_iload_n X 1 dX8_setMode_53 rfl rfl ?_
        refine z_cald (j := cl r) (x := i 109 (cl r)) X dX8_setMode_54 zmm_c109 (by rw [zmm_n109]; exact (zin_vp (zb_n0.mp c_6) hn h4 (by decide))) (rfl) (by show i_1 109 (cl r) = (i 109 (cl r)); rw [hi_1, zup_n (by omega)]) ?_
        refine z_istore_n (ls' := [(3, .int (i 109 (cl r))), (0, .ref 1), (1, .int r), (2, .int m)]) X dX8_setMode_55 rfl (by decide) rfl ?_
        refine z_aload_n X 1 dX8_setMode_56 rfl rfl ?_
        refine z_getR (ci := 11) (j := 9) (o' := 109) X dX8_setMode_57 zmm_c1 rfl (by decide) hlk_35 (Or.inl rfl) (fun _ => rfl) (zmm_r109) ?_
        refine z_iload_n X 2 dX8_setMode_60 rfl rfl ?_
        refine z_iload_n X 3 dX8_setMode_61 rfl rfl ?_
        refine z_cast (j := cl r) X dX8_setMode_62 zmm_c109 (by rw [zmm_n109]; exact (zin_vp (zb_n0.mp c_6) hn h4 (by decide))) (rfl) (hmode) ?_
        obtain ⟨i_2, hi_2⟩ : ∃ q, q = zup i_1 109 (cl r) m := ⟨_, rfl⟩
        refine z_mem (M' := zmm i_2 lm) (by rw [hi_2]; rfl) ?_
        refine z_iload_n X 0 dX8_setMode_63 rfl rfl ?_
        refine z_iret X rfl (hrow _) (Nat.le_refl _) (Nat.le_refl _) dX8_setMode_64 ?_
        subst hi_2
        subst hi_1
        (try simp only [zb_0, Classical.not_not] at c_6 c_16 c_43)
        exact ⟨_, rfl, by (first | rfl | (simp only [Int32.lt_irrefl, if_true, if_false, not_true_eq_false, not_false_eq_true, and_true, true_and, and_false, false_and, or_true, true_or, or_false, false_or, and_self, ite_self, zb, q_setModeV, q_setModeF, c_6, c_16, c_43, eq_true c_6, eq_true c_16, eq_true c_43]; done) | (simp only [Int32.lt_irrefl, if_true, if_false, not_true_eq_false, not_false_eq_true, and_true, true_and, and_false, false_and, or_true, true_or, or_false, false_or, and_self, ite_self, zb, q_setModeV, q_setModeF, c_6, c_16, c_43, eq_true c_6, eq_true c_16, eq_true c_43]; rfl)), by (first | rfl | (simp only [Int32.lt_irrefl, if_true, if_false, not_true_eq_false, not_false_eq_true, and_true, true_and, and_false, false_and, or_true, true_or, or_false, false_or, and_self, ite_self, zb, q_setModeV, q_setModeF, c_6, c_16, c_43, eq_true c_6, eq_true c_16, eq_true c_43]; done) | (simp only [Int32.lt_irrefl, if_true, if_false, not_true_eq_false, not_false_eq_true, and_true, true_and, and_false, false_and, or_true, true_or, or_false, false_or, and_self, ite_self, zb, q_setModeV, q_setModeF, c_6, c_16, c_43, eq_true c_6, eq_true c_16, eq_true c_43]; rfl))⟩
      · exact absurd c_43 (by decide)
    · skip
      refine z_iload_n X 2 dX8_setMode_19 rfl rfl ?_
      refine z_bipush (v := 111) X dX8_setMode_20 (by decide) ?_
      refine z_icmp_eq X 35 dX8_setMode_22 (by decide) (fun c_22 => ?_) (fun c_22 => ?_)
      · skip
        refine z_iconst (v := 0) X dX8_setMode_35 (by decide) ?_
        refine z_putI (ci := 11) (j := 43) X dX8_setMode_36 zmm_c1 rfl (by decide) hlk_116 (Or.inl rfl) (Or.inl rfl) (fun _ => rfl) rfl rfl ?_
        obtain ⟨i_3, hi_3⟩ : ∃ q, q = zup i 1 43 0 := ⟨_, rfl⟩
        refine z_mem (M' := zmm i_3 lm) (by rw [hi_3]; rfl) ?_
        refine z_aload_n X 0 dX8_setMode_39 rfl rfl ?_
        refine z_getI (ci := 11) (j := 43) (x := 0) X dX8_setMode_40 zmm_c1 rfl (by decide) hlk_116 (Or.inl rfl) (fun _ => rfl) (by show i_3 1 43 = 0; rw [hi_3, zup_s]) ?_
        refine z_if_le X 49 dX8_setMode_43 (by decide) (fun c_43 => ?_) (fun c_43 => ?_)
        · skip
          refine z_aload_n X 0 dX8_setMode_49 rfl rfl ?_
          refine z_getR (ci := 11) (j := 9) (o' := 109) X dX8_setMode_50 zmm_c1 rfl (by decide) hlk_35 (Or.inl rfl) (fun _ => rfl) (zmm_r109) ?_
          refine z_iload_n X 1 dX8_setMode_53 rfl rfl ?_
          refine z_cald (j := cl r) (x := i 109 (cl r)) X dX8_setMode_54 zmm_c109 (by rw [zmm_n109]; exact (zin_vp (zb_n0.mp c_6) hn h4 (by decide))) (rfl) (by show i_3 109 (cl r) = (i 109 (cl r)); rw [hi_3, zup_n (by omega)]) ?_
          refine z_istore_n (ls' := [(3, .int (i 109 (cl r))), (0, .ref 1), (1, .int r), (2, .int m)]) X dX8_setMode_55 rfl (by decide) rfl ?_
          refine z_aload_n X 1 dX8_setMode_56 rfl rfl ?_
          refine z_getR (ci := 11) (j := 9) (o' := 109) X dX8_setMode_57 zmm_c1 rfl (by decide) hlk_35 (Or.inl rfl) (fun _ => rfl) (zmm_r109) ?_
          refine z_iload_n X 2 dX8_setMode_60 rfl rfl ?_
          refine z_iload_n X 3 dX8_setMode_61 rfl rfl ?_
          refine z_cast (j := cl r) X dX8_setMode_62 zmm_c109 (by rw [zmm_n109]; exact (zin_vp (zb_n0.mp c_6) hn h4 (by decide))) (rfl) (hmode) ?_
          obtain ⟨i_4, hi_4⟩ : ∃ q, q = zup i_3 109 (cl r) m := ⟨_, rfl⟩
          refine z_mem (M' := zmm i_4 lm) (by rw [hi_4]; rfl) ?_
          refine z_iload_n X 0 dX8_setMode_63 rfl rfl ?_
          refine z_iret X rfl (hrow _) (Nat.le_refl _) (Nat.le_refl _) dX8_setMode_64 ?_
          subst hi_4
          subst hi_3
          (try simp only [zb_0, Classical.not_not] at c_6 c_16 c_22 c_43)
          exact ⟨_, rfl, by (first | rfl | (simp only [Int32.lt_irrefl, if_true, if_false, not_true_eq_false, not_false_eq_true, and_true, true_and, and_false, false_and, or_true, true_or, or_false, false_or, and_self, ite_self, zb, q_setModeV, q_setModeF, c_6, c_16, c_22, c_43, eq_true c_6, eq_true c_16, eq_true c_22, eq_true c_43]; done) | (simp only [Int32.lt_irrefl, if_true, if_false, not_true_eq_false, not_false_eq_true, and_true, true_and, and_false, false_and, or_true, true_or, or_false, false_or, and_self, ite_self, zb, q_setModeV, q_setModeF, c_6, c_16, c_22, c_43, eq_true c_6, eq_true c_16, eq_true c_22, eq_true c_43]; rfl)), by (first | rfl | (simp only [Int32.lt_irrefl, if_true, if_false, not_true_eq_false, not_false_eq_true, and_true, true_and, and_false, false_and, or_true, true_or, or_false, false_or, and_self, ite_self, zb, q_setModeV, q_setModeF, c_6, c_16, c_22, c_43, eq_true c_6, eq_true c_16, eq_true c_22, eq_true c_43]; done) | (simp only [Int32.lt_irrefl, if_true, if_false, not_true_eq_false, not_false_eq_true, and_true, true_and, and_false, false_and, or_true, true_or, or_false, false_or, and_self, ite_self, zb, q_setModeV, q_setModeF, c_6, c_16, c_22, c_43, eq_true c_6, eq_true c_16, eq_true c_22, eq_true c_43]; rfl))⟩
        · exact absurd c_43 (by decide)
      · skip
        refine z_iload_n X 2 dX8_setMode_25 rfl rfl ?_
        refine z_bipush (v := 110) X dX8_setMode_26 (by decide) ?_
        refine z_icmp_eq X 35 dX8_setMode_28 (by decide) (fun c_28 => ?_) (fun c_28 => ?_)
        · skip
          refine z_iconst (v := 0) X dX8_setMode_35 (by decide) ?_
          refine z_putI (ci := 11) (j := 43) X dX8_setMode_36 zmm_c1 rfl (by decide) hlk_116 (Or.inl rfl) (Or.inl rfl) (fun _ => rfl) rfl rfl ?_
          obtain ⟨i_5, hi_5⟩ : ∃ q, q = zup i 1 43 0 := ⟨_, rfl⟩
          refine z_mem (M' := zmm i_5 lm) (by rw [hi_5]; rfl) ?_
          refine z_aload_n X 0 dX8_setMode_39 rfl rfl ?_
          refine z_getI (ci := 11) (j := 43) (x := 0) X dX8_setMode_40 zmm_c1 rfl (by decide) hlk_116 (Or.inl rfl) (fun _ => rfl) (by show i_5 1 43 = 0; rw [hi_5, zup_s]) ?_
          refine z_if_le X 49 dX8_setMode_43 (by decide) (fun c_43 => ?_) (fun c_43 => ?_)
          · skip
            refine z_aload_n X 0 dX8_setMode_49 rfl rfl ?_
            refine z_getR (ci := 11) (j := 9) (o' := 109) X dX8_setMode_50 zmm_c1 rfl (by decide) hlk_35 (Or.inl rfl) (fun _ => rfl) (zmm_r109) ?_
            refine z_iload_n X 1 dX8_setMode_53 rfl rfl ?_
            refine z_cald (j := cl r) (x := i 109 (cl r)) X dX8_setMode_54 zmm_c109 (by rw [zmm_n109]; exact (zin_vp (zb_n0.mp c_6) hn h4 (by decide))) (rfl) (by show i_5 109 (cl r) = (i 109 (cl r)); rw [hi_5, zup_n (by omega)]) ?_
            refine z_istore_n (ls' := [(3, .int (i 109 (cl r))), (0, .ref 1), (1, .int r), (2, .int m)]) X dX8_setMode_55 rfl (by decide) rfl ?_
            refine z_aload_n X 1 dX8_setMode_56 rfl rfl ?_
            refine z_getR (ci := 11) (j := 9) (o' := 109) X dX8_setMode_57 zmm_c1 rfl (by decide) hlk_35 (Or.inl rfl) (fun _ => rfl) (zmm_r109) ?_
            refine z_iload_n X 2 dX8_setMode_60 rfl rfl ?_
            refine z_iload_n X 3 dX8_setMode_61 rfl rfl ?_
            refine z_cast (j := cl r) X dX8_setMode_62 zmm_c109 (by rw [zmm_n109]; exact (zin_vp (zb_n0.mp c_6) hn h4 (by decide))) (rfl) (hmode) ?_
            obtain ⟨i_6, hi_6⟩ : ∃ q, q = zup i_5 109 (cl r) m := ⟨_, rfl⟩
            refine z_mem (M' := zmm i_6 lm) (by rw [hi_6]; rfl) ?_
            refine z_iload_n X 0 dX8_setMode_63 rfl rfl ?_
            refine z_iret X rfl (hrow _) (Nat.le_refl _) (Nat.le_refl _) dX8_setMode_64 ?_
            subst hi_6
            subst hi_5
            (try simp only [zb_0, Classical.not_not] at c_6 c_16 c_22 c_28 c_43)
            exact ⟨_, rfl, by (first | rfl | (simp only [Int32.lt_irrefl, if_true, if_false, not_true_eq_false, not_false_eq_true, and_true, true_and, and_false, false_and, or_true, true_or, or_false, false_or, and_self, ite_self, zb, q_setModeV, q_setModeF, c_6, c_16, c_22, c_28, c_43, eq_true c_6, eq_true c_16, eq_true c_22, eq_true c_28, eq_true c_43]; done) | (simp only [Int32.lt_irrefl, if_true, if_false, not_true_eq_false, not_false_eq_true, and_true, true_and, and_false, false_and, or_true, true_or, or_false, false_or, and_self, ite_self, zb, q_setModeV, q_setModeF, c_6, c_16, c_22, c_28, c_43, eq_true c_6, eq_true c_16, eq_true c_22, eq_true c_28, eq_true c_43]; rfl)), by (first | rfl | (simp only [Int32.lt_irrefl, if_true, if_false, not_true_eq_false, not_false_eq_true, and_true, true_and, and_false, false_and, or_true, true_or, or_false, false_or, and_self, ite_self, zb, q_setModeV, q_setModeF, c_6, c_16, c_22, c_28, c_43, eq_true c_6, eq_true c_16, eq_true c_22, eq_true c_28, eq_true c_43]; done) | (simp only [Int32.lt_irrefl, if_true, if_false, not_true_eq_false, not_false_eq_true, and_true, true_and, and_false, false_and, or_true, true_or, or_false, false_or, and_self, ite_self, zb, q_setModeV, q_setModeF, c_6, c_16, c_22, c_28, c_43, eq_true c_6, eq_true c_16, eq_true c_22, eq_true c_28, eq_true c_43]; rfl))⟩
          · exact absurd c_43 (by decide)
        · skip
          refine z_iconst (v := 2) X dX8_setMode_31 (by decide) ?_
          refine z_goto (tgt := 36) X dX8_setMode_32 (by decide) ?_
          refine z_putI (ci := 11) (j := 43) X dX8_setMode_36 zmm_c1 rfl (by decide) hlk_116 (Or.inl rfl) (Or.inl rfl) (fun _ => rfl) rfl rfl ?_
          obtain ⟨i_7, hi_7⟩ : ∃ q, q = zup i 1 43 2 := ⟨_, rfl⟩
          refine z_mem (M' := zmm i_7 lm) (by rw [hi_7]; rfl) ?_
          refine z_aload_n X 0 dX8_setMode_39 rfl rfl ?_
          refine z_getI (ci := 11) (j := 43) (x := 2) X dX8_setMode_40 zmm_c1 rfl (by decide) hlk_116 (Or.inl rfl) (fun _ => rfl) (by show i_7 1 43 = 2; rw [hi_7, zup_s]) ?_
          refine z_if_le X 49 dX8_setMode_43 (by decide) (fun c_43 => ?_) (fun c_43 => ?_)
          · exact absurd c_43 (by decide)
          · skip
            refine z_bipush (v := 32) X dX8_setMode_46 (by decide) ?_
            refine z_iret X rfl (rfl) (Nat.le_refl _) (Nat.le_refl _) dX8_setMode_48 ?_
            subst hi_7
            (try simp only [zb_0, Classical.not_not] at c_6 c_16 c_22 c_28 c_43)
            exact ⟨_, rfl, by (first | rfl | (simp only [Int32.lt_irrefl, if_true, if_false, not_true_eq_false, not_false_eq_true, and_true, true_and, and_false, false_and, or_true, true_or, or_false, false_or, and_self, ite_self, zb, q_setModeV, q_setModeF, c_6, c_16, c_22, c_28, c_43, eq_true c_6, eq_true c_16, eq_true c_22, eq_true c_28, eq_true c_43]; done) | (simp only [Int32.lt_irrefl, if_true, if_false, not_true_eq_false, not_false_eq_true, and_true, true_and, and_false, false_and, or_true, true_or, or_false, false_or, and_self, ite_self, zb, q_setModeV, q_setModeF, c_6, c_16, c_22, c_28, c_43, eq_true c_6, eq_true c_16, eq_true c_22, eq_true c_28, eq_true c_43]; rfl)), by (first | rfl | (simp only [Int32.lt_irrefl, if_true, if_false, not_true_eq_false, not_false_eq_true, and_true, true_and, and_false, false_and, or_true, true_or, or_false, false_or, and_self, ite_self, zb, q_setModeV, q_setModeF, c_6, c_16, c_22, c_28, c_43, eq_true c_6, eq_true c_16, eq_true c_22, eq_true c_28, eq_true c_43]; done) | (simp only [Int32.lt_irrefl, if_true, if_false, not_true_eq_false, not_false_eq_true, and_true, true_and, and_false, false_and, or_true, true_or, or_false, false_or, and_self, ite_self, zb, q_setModeV, q_setModeF, c_6, c_16, c_22, c_28, c_43, eq_true c_6, eq_true c_16, eq_true c_22, eq_true c_28, eq_true c_43]; rfl))⟩
  · skip
    refine z_iconst (v := 1) X dX8_setMode_9 (by decide) ?_
    refine z_goto (tgt := 36) X dX8_setMode_10 (by decide) ?_
    refine z_putI (ci := 11) (j := 43) X dX8_setMode_36 zmm_c1 rfl (by decide) hlk_116 (Or.inl rfl) (Or.inl rfl) (fun _ => rfl) rfl rfl ?_
    obtain ⟨i_8, hi_8⟩ : ∃ q, q = zup i 1 43 1 := ⟨_, rfl⟩
    refine z_mem (M' := zmm i_8 lm) (by rw [hi_8]; rfl) ?_
    refine z_aload_n X 0 dX8_setMode_39 rfl rfl ?_
    refine z_getI (ci := 11) (j := 43) (x := 1) X dX8_setMode_40 zmm_c1 rfl (by decide) hlk_116 (Or.inl rfl) (fun _ => rfl) (by show i_8 1 43 = 1; rw [hi_8, zup_s]) ?_
    refine z_if_le X 49 dX8_setMode_43 (by decide) (fun c_43 => ?_) (fun c_43 => ?_)
    · exact absurd c_43 (by decide)
    · skip
      refine z_bipush (v := 32) X dX8_setMode_46 (by decide) ?_
      refine z_iret X rfl (rfl) (Nat.le_refl _) (Nat.le_refl _) dX8_setMode_48 ?_
      subst hi_8
      (try simp only [zb_0, Classical.not_not] at c_6 c_43)
      exact ⟨_, rfl, by (first | rfl | (simp only [Int32.lt_irrefl, if_true, if_false, not_true_eq_false, not_false_eq_true, and_true, true_and, and_false, false_and, or_true, true_or, or_false, false_or, and_self, ite_self, zb, q_setModeV, q_setModeF, c_6, c_43, eq_true c_6, eq_true c_43]; done) | (simp only [Int32.lt_irrefl, if_true, if_false, not_true_eq_false, not_false_eq_true, and_true, true_and, and_false, false_and, or_true, true_or, or_false, false_or, and_self, ite_self, zb, q_setModeV, q_setModeF, c_6, c_43, eq_true c_6, eq_true c_43]; rfl)), by (first | rfl | (simp only [Int32.lt_irrefl, if_true, if_false, not_true_eq_false, not_false_eq_true, and_true, true_and, and_false, false_and, or_true, true_or, or_false, false_or, and_self, ite_self, zb, q_setModeV, q_setModeF, c_6, c_43, eq_true c_6, eq_true c_43]; done) | (simp only [Int32.lt_irrefl, if_true, if_false, not_true_eq_false, not_false_eq_true, and_true, true_and, and_false, false_and, or_true, true_or, or_false, false_or, and_self, ite_self, zb, q_setModeV, q_setModeF, c_6, c_43, eq_true c_6, eq_true c_43]; rfl))⟩

set_option maxRecDepth 100000 in
set_option maxHeartbeats 4000000 in
theorem c_X8_setLead (l : Launch) (i : Nat → Nat → Int32) (lm : Nat → Nat → Int64) (nr : Nat) (hn : i 1 17 = nI nr) (h4 : nr ≤ 4) (r : Int32) (a : Int32) (b : Int32) : zS l yX8_setLead wsX8_setLead 2 43 0 0 [.ref 1, .int r, .int a, .int b] (zmm i lm) (zpi (fun rr M1 => rr = q_setLeadV i r a b ∧ M1 = zmm (q_setLeadF i r a b) lm)) zno := by
  refine z_intro (cc := cX8_setLead) (maxL := 5) (ret := (some .int)) (by decide +kernel) rfl (Nat.le_of_ble_eq_true rfl) ?_
  have hlk_116 : Cond.fieldLink RX8 116 "ColdStoreModel" "thrown" "I" ∈ wsX8_setLead := by decide +kernel
  have hlk_29 : Cond.fieldLink RX8 29 "ColdStoreModel" "leads" "[I" ∈ wsX8_setLead := by decide +kernel
  have hlk_32 : Cond.fieldLink RX8 32 "ColdStoreModel" "depths" "[I" ∈ wsX8_setLead := by decide +kernel
  intro g X
  show zE g 5 0 [(0, .ref 1), (1, .int r), (2, .int a), (3, .int b)] [] (zmm i lm) 0 0
  refine z_aload_n X 0 dX8_setLead_0 rfl rfl ?_
  refine z_aload_n X 0 dX8_setLead_1 rfl rfl ?_
  refine z_iload_n X 1 dX8_setLead_2 rfl rfl ?_
  refine z_callVi (As := [.int r]) (rest := [.ref 1]) (n1 := 1) (ci := 11) X dX8_setLead_3 (c_X8_isRoom l _ _ r) gX8_setLead_X8_isRoom rfl rfl (by decide +kernel) ⟨by decide, by decide⟩ zmm_c1 rfl rfl (Nat.le_of_ble_eq_true rfl) ⟨by decide, by decide⟩ (fun _ h => h.elim) ?_
  rintro _ _ ⟨rfl, rfl⟩
  refine z_if_ne X 13 dX8_setLead_6 (by decide) (fun c_6 => ?_) (fun c_6 => ?_)
  · skip
    refine z_iload_n X 2 dX8_setLead_13 rfl rfl ?_
    refine z_iconst (v := 0) X dX8_setLead_14 (by decide) ?_
    refine z_bipush (v := 16) X dX8_setLead_15 (by decide) ?_
    refine z_callSi (As := [.int a, .int 0, .int 16]) (rest := [.ref 1]) (n1 := 3) X dX8_setLead_17 (c_X8_in l _ a 0 16) gX8_setLead_X8_in rfl rfl (by decide +kernel) ⟨by decide, by decide⟩ rfl (Nat.le_of_ble_eq_true rfl) ⟨by decide, by decide⟩ (fun _ h => h.elim) ?_
    rintro _ _ ⟨rfl, rfl⟩
    refine z_if_eq X 33 dX8_setLead_20 (by decide) (fun c_20 => ?_) (fun c_20 => ?_)
    · skip
      refine z_iconst (v := 2) X dX8_setLead_33 (by decide) ?_
      refine z_goto (tgt := 38) X dX8_setLead_34 (by decide) ?_
      refine z_putI (ci := 11) (j := 43) X dX8_setLead_38 zmm_c1 rfl (by decide) hlk_116 (Or.inl rfl) (Or.inl rfl) (fun _ => rfl) rfl rfl ?_
      obtain ⟨i_1, hi_1⟩ : ∃ q, q = zup i 1 43 2 := ⟨_, rfl⟩
      refine z_mem (M' := zmm i_1 lm) (by rw [hi_1]; rfl) ?_
      refine z_aload_n X 0 dX8_setLead_41 rfl rfl ?_
      refine z_getI (ci := 11) (j := 43) (x := 2) X dX8_setLead_42 zmm_c1 rfl (by decide) hlk_116 (Or.inl rfl) (fun _ => rfl) (by show i_1 1 43 = 2; rw [hi_1, zup_s]) ?_
      refine z_if_le X 50 dX8_setLead_45 (by decide) (fun c_45 => ?_) (fun c_45 => ?_)
      · exact absurd c_45 (by decide)
      · skip
        refine z_iconst (v := 0) X dX8_setLead_48 (by decide) ?_
        refine z_iret X rfl rfl (Nat.le_refl _) (Nat.le_refl _) dX8_setLead_49 ?_
        subst hi_1
        (try simp only [zb_0, Classical.not_not] at c_6 c_20 c_45)
        exact ⟨_, rfl, by (first | rfl | (simp only [Int32.lt_irrefl, if_true, if_false, not_true_eq_false, not_false_eq_true, and_true, true_and, and_false, false_and, or_true, true_or, or_false, false_or, and_self, ite_self, zb, q_setLeadV, q_setLeadF, c_6, c_20, c_45, eq_true c_6, eq_true c_20, eq_true c_45]; done) | (simp only [Int32.lt_irrefl, if_true, if_false, not_true_eq_false, not_false_eq_true, and_true, true_and, and_false, false_and, or_true, true_or, or_false, false_or, and_self, ite_self, zb, q_setLeadV, q_setLeadF, c_6, c_20, c_45, eq_true c_6, eq_true c_20, eq_true c_45]; rfl)), by (first | rfl | (simp only [Int32.lt_irrefl, if_true, if_false, not_true_eq_false, not_false_eq_true, and_true, true_and, and_false, false_and, or_true, true_or, or_false, false_or, and_self, ite_self, zb, q_setLeadV, q_setLeadF, c_6, c_20, c_45, eq_true c_6, eq_true c_20, eq_true c_45]; done) | (simp only [Int32.lt_irrefl, if_true, if_false, not_true_eq_false, not_false_eq_true, and_true, true_and, and_false, false_and, or_true, true_or, or_false, false_or, and_self, ite_self, zb, q_setLeadV, q_setLeadF, c_6, c_20, c_45, eq_true c_6, eq_true c_20, eq_true c_45]; rfl))⟩
    · skip
      refine z_iload_n X 3 dX8_setLead_23 rfl rfl ?_
      refine z_iconst (v := 0) X dX8_setLead_24 (by decide) ?_
      refine z_bipush (v := 100) X dX8_setLead_25 (by decide) ?_
      refine z_callSi (As := [.int b, .int 0, .int 100]) (rest := [.ref 1]) (n1 := 3) X dX8_setLead_27 (c_X8_in l _ b 0 100) gX8_setLead_X8_in rfl rfl (by decide +kernel) ⟨by decide, by decide⟩ rfl (Nat.le_of_ble_eq_true rfl) ⟨by decide, by decide⟩ (fun _ h => h.elim) ?_
      rintro _ _ ⟨rfl, rfl⟩
      refine z_if_ne X 37 dX8_setLead_30 (by decide) (fun c_30 => ?_) (fun c_30 => ?_)
      · skip
        refine z_iconst (v := 0) X dX8_setLead_37 (by decide) ?_
        refine z_putI (ci := 11) (j := 43) X dX8_setLead_38 zmm_c1 rfl (by decide) hlk_116 (Or.inl rfl) (Or.inl rfl) (fun _ => rfl) rfl rfl ?_
        obtain ⟨i_2, hi_2⟩ : ∃ q, q = zup i 1 43 0 := ⟨_, rfl⟩
        refine z_mem (M' := zmm i_2 lm) (by rw [hi_2]; rfl) ?_
        refine z_aload_n X 0 dX8_setLead_41 rfl rfl ?_
        refine z_getI (ci := 11) (j := 43) (x := 0) X dX8_setLead_42 zmm_c1 rfl (by decide) hlk_116 (Or.inl rfl) (fun _ => rfl) (by show i_2 1 43 = 0; rw [hi_2, zup_s]) ?_
        refine z_if_le X 50 dX8_setLead_45 (by decide) (fun c_45 => ?_) (fun c_45 => ?_)
        · skip
          refine z_aload_n X 0 dX8_setLead_50 rfl rfl ?_
          refine z_getR (ci := 11) (j := 7) (o' := 107) X dX8_setLead_51 zmm_c1 rfl (by decide) hlk_29 (Or.inl rfl) (fun _ => rfl) (zmm_r107) ?_
          refine z_iload_n X 1 dX8_setLead_54 rfl rfl ?_
          refine z_iald (j := cl r) (x := i 107 (cl r)) X dX8_setLead_55 zmm_c107 (by rw [zmm_n107]; exact (zin_vp (zb_n0.mp c_6) hn h4 (by decide))) (rfl) (by show i_2 107 (cl r) = (i 107 (cl r)); rw [hi_2, zup_n (by omega)]) ?_
          refine z_istore (ls' := [(4, .int (i 107 (cl r))), (0, .ref 1), (1, .int r), (2, .int a), (3, .int b)]) X dX8_setLead_56 (by decide) rfl ?_
          refine z_aload_n X 1 dX8_setLead_58 rfl rfl ?_
          refine z_getR (ci := 11) (j := 7) (o' := 107) X dX8_setLead_59 zmm_c1 rfl (by decide) hlk_29 (Or.inl rfl) (fun _ => rfl) (zmm_r107) ?_
          refine z_iload_n X 2 dX8_setLead_62 rfl rfl ?_
          refine z_iload_n X 3 dX8_setLead_63 rfl rfl ?_
          refine z_iast (j := cl r) X dX8_setLead_64 zmm_c107 (by rw [zmm_n107]; exact (zin_vp (zb_n0.mp c_6) hn h4 (by decide))) (rfl) ?_
          obtain ⟨i_3, hi_3⟩ : ∃ q, q = zup i_2 107 (cl r) a := ⟨_, rfl⟩
          refine z_mem (M' := zmm i_3 lm) (by rw [hi_3]; rfl) ?_
          refine z_aload_n X 1 dX8_setLead_65 rfl rfl ?_
          refine z_getR (ci := 11) (j := 8) (o' := 108) X dX8_setLead_66 zmm_c1 rfl (by decide) hlk_32 (Or.inl rfl) (fun _ => rfl) (zmm_r108) ?_
          refine z_iload_n X 2 dX8_setLead_69 rfl rfl ?_
          refine z_iload_n X 4 dX8_setLead_70 rfl rfl ?_
          refine z_iast (j := cl r) X dX8_setLead_71 zmm_c108 (by rw [zmm_n108]; exact (zin_vp (zb_n0.mp c_6) hn h4 (by decide))) (rfl) ?_
          obtain ⟨i_4, hi_4⟩ : ∃ q, q = zup i_3 108 (cl r) b := ⟨_, rfl⟩
          refine z_mem (M' := zmm i_4 lm) (by rw [hi_4]; rfl) ?_
          refine z_iload X 0 dX8_setLead_72 rfl ?_
          refine z_iret X rfl rfl (Nat.le_refl _) (Nat.le_refl _) dX8_setLead_74 ?_
          subst hi_4
          subst hi_3
          subst hi_2
          (try simp only [zb_0, Classical.not_not] at c_6 c_20 c_30 c_45)
          exact ⟨_, rfl, by (first | rfl | (simp only [Int32.lt_irrefl, if_true, if_false, not_true_eq_false, not_false_eq_true, and_true, true_and, and_false, false_and, or_true, true_or, or_false, false_or, and_self, ite_self, zb, q_setLeadV, q_setLeadF, c_6, c_20, c_30, c_45, eq_true c_6, eq_true c_20, eq_true c_30, eq_true c_45]; done) | (simp only [Int32.lt_irrefl, if_true, if_false, not_true_eq_false, not_false_eq_true, and_true, true_and, and_false, false_and, or_true, true_or, or_false, false_or, and_self, ite_self, zb, q_setLeadV, q_setLeadF, c_6, c_20, c_30, c_45, eq_true c_6, eq_true c_20, eq_true c_30, eq_true c_45]; rfl)), by (first | rfl | (simp only [Int32.lt_irrefl, if_true, if_false, not_true_eq_false, not_false_eq_true, and_true, true_and, and_false, false_and, or_true, true_or, or_false, false_or, and_self, ite_self, zb, q_setLeadV, q_setLeadF, c_6, c_20, c_30, c_45, eq_true c_6, eq_true c_20, eq_true c_30, eq_true c_45]; done) | (simp only [Int32.lt_irrefl, if_true, if_false, not_true_eq_false, not_false_eq_true, and_true, true_and, and_false, false_and, or_true, true_or, or_false, false_or, and_self, ite_self, zb, q_setLeadV, q_setLeadF, c_6, c_20, c_30, c_45, eq_true c_6, eq_true c_20, eq_true c_30, eq_true c_45]; rfl))⟩
        · exact absurd c_45 (by decide)
      · skip
        refine z_iconst (v := 2) X dX8_setLead_33 (by decide) ?_
        refine z_goto (tgt := 38) X dX8_setLead_34 (by decide) ?_
        refine z_putI (ci := 11) (j := 43) X dX8_setLead_38 zmm_c1 rfl (by decide) hlk_116 (Or.inl rfl) (Or.inl rfl) (fun _ => rfl) rfl rfl ?_
        obtain ⟨i_5, hi_5⟩ : ∃ q, q = zup i 1 43 2 := ⟨_, rfl⟩
        refine z_mem (M' := zmm i_5 lm) (by rw [hi_5]; rfl) ?_
        refine z_aload_n X 0 dX8_setLead_41 rfl rfl ?_
        refine z_getI (ci := 11) (j := 43) (x := 2) X dX8_setLead_42 zmm_c1 rfl (by decide) hlk_116 (Or.inl rfl) (fun _ => rfl) (by show i_5 1 43 = 2; rw [hi_5, zup_s]) ?_
        refine z_if_le X 50 dX8_setLead_45 (by decide) (fun c_45 => ?_) (fun c_45 => ?_)
        · exact absurd c_45 (by decide)
        · skip
          refine z_iconst (v := 0) X dX8_setLead_48 (by decide) ?_
          refine z_iret X rfl rfl (Nat.le_refl _) (Nat.le_refl _) dX8_setLead_49 ?_
          subst hi_5
          (try simp only [zb_0, Classical.not_not] at c_6 c_20 c_30 c_45)
          exact ⟨_, rfl, by (first | rfl | (simp only [Int32.lt_irrefl, if_true, if_false, not_true_eq_false, not_false_eq_true, and_true, true_and, and_false, false_and, or_true, true_or, or_false, false_or, and_self, ite_self, zb, q_setLeadV, q_setLeadF, c_6, c_20, c_30, c_45, eq_true c_6, eq_true c_20, eq_true c_30, eq_true c_45]; done) | (simp only [Int32.lt_irrefl, if_true, if_false, not_true_eq_false, not_false_eq_true, and_true, true_and, and_false, false_and, or_true, true_or, or_false, false_or, and_self, ite_self, zb, q_setLeadV, q_setLeadF, c_6, c_20, c_30, c_45, eq_true c_6, eq_true c_20, eq_true c_30, eq_true c_45]; rfl)), by (first | rfl | (simp only [Int32.lt_irrefl, if_true, if_false, not_true_eq_false, not_false_eq_true, and_true, true_and, and_false, false_and, or_true, true_or, or_false, false_or, and_self, ite_self, zb, q_setLeadV, q_setLeadF, c_6, c_20, c_30, c_45, eq_true c_6, eq_true c_20, eq_true c_30, eq_true c_45]; done) | (simp only [Int32.lt_irrefl, if_true, if_false, not_true_eq_false, not_false_eq_true, and_true, true_and, and_false, false_and, or_true, true_or, or_false, false_or, and_self, ite_self, zb, q_setLeadV, q_setLeadF, c_6, c_20, c_30, c_45, eq_true c_6, eq_true c_20, eq_true c_30, eq_true c_45]; rfl))⟩
  · skip
    refine z_iconst (v := 1) X dX8_setLead_9 (by decide) ?_
    refine z_goto (tgt := 38) X dX8_setLead_10 (by decide) ?_
    refine z_putI (ci := 11) (j := 43) X dX8_setLead_38 zmm_c1 rfl (by decide) hlk_116 (Or.inl rfl) (Or.inl rfl) (fun _ => rfl) rfl rfl ?_
    obtain ⟨i_6, hi_6⟩ : ∃ q, q = zup i 1 43 1 := ⟨_, rfl⟩
    refine z_mem (M' := zmm i_6 lm) (by rw [hi_6]; rfl) ?_
    refine z_aload_n X 0 dX8_setLead_41 rfl rfl ?_
    refine z_getI (ci := 11) (j := 43) (x := 1) X dX8_setLead_42 zmm_c1 rfl (by decide) hlk_116 (Or.inl rfl) (fun _ => rfl) (by show i_6 1 43 = 1; rw [hi_6, zup_s]) ?_
    refine z_if_le X 50 dX8_setLead_45 (by decide) (fun c_45 => ?_) (fun c_45 => ?_)
    · exact absurd c_45 (by decide)
    · skip
      refine z_iconst (v := 0) X dX8_setLead_48 (by decide) ?_
      refine z_iret X rfl rfl (Nat.le_refl _) (Nat.le_refl _) dX8_setLead_49 ?_
      subst hi_6
      (try simp only [zb_0, Classical.not_not] at c_6 c_45)
      exact ⟨_, rfl, by (first | rfl | (simp only [Int32.lt_irrefl, if_true, if_false, not_true_eq_false, not_false_eq_true, and_true, true_and, and_false, false_and, or_true, true_or, or_false, false_or, and_self, ite_self, zb, q_setLeadV, q_setLeadF, c_6, c_45, eq_true c_6, eq_true c_45]; done) | (simp only [Int32.lt_irrefl, if_true, if_false, not_true_eq_false, not_false_eq_true, and_true, true_and, and_false, false_and, or_true, true_or, or_false, false_or, and_self, ite_self, zb, q_setLeadV, q_setLeadF, c_6, c_45, eq_true c_6, eq_true c_45]; rfl)), by (first | rfl | (simp only [Int32.lt_irrefl, if_true, if_false, not_true_eq_false, not_false_eq_true, and_true, true_and, and_false, false_and, or_true, true_or, or_false, false_or, and_self, ite_self, zb, q_setLeadV, q_setLeadF, c_6, c_45, eq_true c_6, eq_true c_45]; done) | (simp only [Int32.lt_irrefl, if_true, if_false, not_true_eq_false, not_false_eq_true, and_true, true_and, and_false, false_and, or_true, true_or, or_false, false_or, and_self, ite_self, zb, q_setLeadV, q_setLeadF, c_6, c_45, eq_true c_6, eq_true c_45]; rfl))⟩

set_option maxRecDepth 100000 in
set_option maxHeartbeats 4000000 in
theorem c_X8_addKind (l : Launch) (i : Nat → Nat → Int32) (lm : Nat → Nat → Int64) (nk : Nat) (hk : i 1 30 = nI nk) (h5 : nk ≤ 5) (a : Int32) (b : Int32) (c : Int32) : zS l yX8_addKind wsX8_addKind 1 22 0 0 [.ref 1, .int a, .int b, .int c] (zmm i lm) (zpi (fun rr M1 => rr = q_addKindV i nk a b c ∧ M1 = zmm (q_addKindF i nk a b c) lm)) zno := by
  refine z_intro (cc := cX8_addKind) (maxL := 4) (ret := (some .int)) (by decide +kernel) rfl (Nat.le_of_ble_eq_true rfl) ?_
  have hlk_116 : Cond.fieldLink RX8 116 "ColdStoreModel" "thrown" "I" ∈ wsX8_addKind := by decide +kernel
  have hlk_195 : Cond.fieldLink RX8 195 "ColdStoreModel" "kinds" "I" ∈ wsX8_addKind := by decide +kernel
  have hlk_77 : Cond.fieldLink RX8 77 "ColdStoreModel" "lives" "[I" ∈ wsX8_addKind := by decide +kernel
  have hlk_80 : Cond.fieldLink RX8 80 "ColdStoreModel" "bests" "[I" ∈ wsX8_addKind := by decide +kernel
  have hlk_83 : Cond.fieldLink RX8 83 "ColdStoreModel" "lowests" "[I" ∈ wsX8_addKind := by decide +kernel
  intro g X
  show zE g 4 0 [(0, .ref 1), (1, .int a), (2, .int b), (3, .int c)] [] (zmm i lm) 0 0
  refine z_aload_n X 0 dX8_addKind_0 rfl rfl ?_
  refine z_iload_n X 1 dX8_addKind_1 rfl rfl ?_
  refine z_iconst (v := 1) X dX8_addKind_2 (by decide) ?_
  refine z_sipush (v := 9999) X dX8_addKind_3 (by decide) ?_
  refine z_callSi (As := [.int a, .int 1, .int 9999]) (rest := [.ref 1]) (n1 := 3) X dX8_addKind_6 (c_X8_in l _ a 1 9999) gX8_addKind_X8_in rfl rfl (by decide +kernel) ⟨by decide, by decide⟩ rfl (Nat.le_of_ble_eq_true rfl) ⟨by decide, by decide⟩ (fun _ h => h.elim) ?_
  rintro _ _ ⟨rfl, rfl⟩
  refine z_if_eq X 38 dX8_addKind_9 (by decide) (fun c_9 => ?_) (fun c_9 => ?_)
  · skip
    refine z_iconst (v := 1) X dX8_addKind_38 (by decide) ?_
    refine z_goto (tgt := 55) X dX8_addKind_39 (by decide) ?_
    refine z_putI (ci := 11) (j := 43) X dX8_addKind_55 zmm_c1 rfl (by decide) hlk_116 (Or.inl rfl) (Or.inl rfl) (fun _ => rfl) rfl rfl ?_
    obtain ⟨i_1, hi_1⟩ : ∃ q, q = zup i 1 43 1 := ⟨_, rfl⟩
    refine z_mem (M' := zmm i_1 lm) (by rw [hi_1]; rfl) ?_
    refine z_aload_n X 0 dX8_addKind_58 rfl rfl ?_
    refine z_getI (ci := 11) (j := 43) (x := 1) X dX8_addKind_59 zmm_c1 rfl (by decide) hlk_116 (Or.inl rfl) (fun _ => rfl) (by show i_1 1 43 = 1; rw [hi_1, zup_s]) ?_
    refine z_if_le X 67 dX8_addKind_62 (by decide) (fun c_62 => ?_) (fun c_62 => ?_)
    · exact absurd c_62 (by decide)
    · skip
      refine z_iconst (v := 0) X dX8_addKind_65 (by decide) ?_
      refine z_iret X rfl rfl (Nat.le_refl _) (Nat.le_refl _) dX8_addKind_66 ?_
      subst hi_1
      (try simp only [zb_0, Classical.not_not] at c_9 c_62)
      exact ⟨_, rfl, by (first | rfl | (simp only [Int32.lt_irrefl, if_true, if_false, not_true_eq_false, not_false_eq_true, and_true, true_and, and_false, false_and, or_true, true_or, or_false, false_or, and_self, ite_self, zb, q_addKindV, q_addKindF, c_9, c_62, eq_true c_9, eq_true c_62]; done) | (simp only [Int32.lt_irrefl, if_true, if_false, not_true_eq_false, not_false_eq_true, and_true, true_and, and_false, false_and, or_true, true_or, or_false, false_or, and_self, ite_self, zb, q_addKindV, q_addKindF, c_9, c_62, eq_true c_9, eq_true c_62]; rfl)), by (first | rfl | (simp only [Int32.lt_irrefl, if_true, if_false, not_true_eq_false, not_false_eq_true, and_true, true_and, and_false, false_and, or_true, true_or, or_false, false_or, and_self, ite_self, zb, q_addKindV, q_addKindF, c_9, c_62, eq_true c_9, eq_true c_62]; done) | (simp only [Int32.lt_irrefl, if_true, if_false, not_true_eq_false, not_false_eq_true, and_true, true_and, and_false, false_and, or_true, true_or, or_false, false_or, and_self, ite_self, zb, q_addKindV, q_addKindF, c_9, c_62, eq_true c_9, eq_true c_62]; rfl))⟩
  · skip
    refine z_iload_n X 2 dX8_addKind_12 rfl rfl ?_
    refine z_sipush (v := (-300)) X dX8_addKind_13 (by decide) ?_
    refine z_sipush (v := 300) X dX8_addKind_16 (by decide) ?_
    refine z_callSi (As := [.int b, .int (-300), .int 300]) (rest := [.ref 1]) (n1 := 3) X dX8_addKind_19 (c_X8_in l _ b (-300) 300) gX8_addKind_X8_in rfl rfl (by decide +kernel) ⟨by decide, by decide⟩ rfl (Nat.le_of_ble_eq_true rfl) ⟨by decide, by decide⟩ (fun _ h => h.elim) ?_
    rintro _ _ ⟨rfl, rfl⟩
    refine z_if_eq X 38 dX8_addKind_22 (by decide) (fun c_22 => ?_) (fun c_22 => ?_)
    · skip
      refine z_iconst (v := 1) X dX8_addKind_38 (by decide) ?_
      refine z_goto (tgt := 55) X dX8_addKind_39 (by decide) ?_
      refine z_putI (ci := 11) (j := 43) X dX8_addKind_55 zmm_c1 rfl (by decide) hlk_116 (Or.inl rfl) (Or.inl rfl) (fun _ => rfl) rfl rfl ?_
      obtain ⟨i_2, hi_2⟩ : ∃ q, q = zup i 1 43 1 := ⟨_, rfl⟩
      refine z_mem (M' := zmm i_2 lm) (by rw [hi_2]; rfl) ?_
      refine z_aload_n X 0 dX8_addKind_58 rfl rfl ?_
      refine z_getI (ci := 11) (j := 43) (x := 1) X dX8_addKind_59 zmm_c1 rfl (by decide) hlk_116 (Or.inl rfl) (fun _ => rfl) (by show i_2 1 43 = 1; rw [hi_2, zup_s]) ?_
      refine z_if_le X 67 dX8_addKind_62 (by decide) (fun c_62 => ?_) (fun c_62 => ?_)
      · exact absurd c_62 (by decide)
      · skip
        refine z_iconst (v := 0) X dX8_addKind_65 (by decide) ?_
        refine z_iret X rfl rfl (Nat.le_refl _) (Nat.le_refl _) dX8_addKind_66 ?_
        subst hi_2
        (try simp only [zb_0, Classical.not_not] at c_9 c_22 c_62)
        exact ⟨_, rfl, by (first | rfl | (simp only [Int32.lt_irrefl, if_true, if_false, not_true_eq_false, not_false_eq_true, and_true, true_and, and_false, false_and, or_true, true_or, or_false, false_or, and_self, ite_self, zb, q_addKindV, q_addKindF, c_9, c_22, c_62, eq_true c_9, eq_true c_22, eq_true c_62]; done) | (simp only [Int32.lt_irrefl, if_true, if_false, not_true_eq_false, not_false_eq_true, and_true, true_and, and_false, false_and, or_true, true_or, or_false, false_or, and_self, ite_self, zb, q_addKindV, q_addKindF, c_9, c_22, c_62, eq_true c_9, eq_true c_22, eq_true c_62]; rfl)), by (first | rfl | (simp only [Int32.lt_irrefl, if_true, if_false, not_true_eq_false, not_false_eq_true, and_true, true_and, and_false, false_and, or_true, true_or, or_false, false_or, and_self, ite_self, zb, q_addKindV, q_addKindF, c_9, c_22, c_62, eq_true c_9, eq_true c_22, eq_true c_62]; done) | (simp only [Int32.lt_irrefl, if_true, if_false, not_true_eq_false, not_false_eq_true, and_true, true_and, and_false, false_and, or_true, true_or, or_false, false_or, and_self, ite_self, zb, q_addKindV, q_addKindF, c_9, c_22, c_62, eq_true c_9, eq_true c_22, eq_true c_62]; rfl))⟩
    · skip
      refine z_iload_n X 3 dX8_addKind_25 rfl rfl ?_
      refine z_sipush (v := (-400)) X dX8_addKind_26 (by decide) ?_
      refine z_iload_n X 2 dX8_addKind_29 rfl rfl ?_
      refine z_iconst (v := 1) X dX8_addKind_30 (by decide) ?_
      refine z_isub X dX8_addKind_31 ?_
      refine z_callSi (As := [.int c, .int (-400), .int (b - 1)]) (rest := [.ref 1]) (n1 := 3) X dX8_addKind_32 (c_X8_in l _ c (-400) (b - 1)) gX8_addKind_X8_in rfl rfl (by decide +kernel) ⟨by decide, by decide⟩ rfl (Nat.le_of_ble_eq_true rfl) ⟨by decide, by decide⟩ (fun _ h => h.elim) ?_
      rintro _ _ ⟨rfl, rfl⟩
      refine z_if_ne X 42 dX8_addKind_35 (by decide) (fun c_35 => ?_) (fun c_35 => ?_)
      · skip
        refine z_aload_n X 0 dX8_addKind_42 rfl rfl ?_
        refine z_getI (ci := 11) (j := 30) (x := nI nk) X dX8_addKind_43 zmm_c1 rfl (by decide) hlk_195 (Or.inl rfl) (fun _ => rfl) (by show i 1 30 = (nI nk); exact hk) ?_
        refine z_iconst (v := 5) X dX8_addKind_46 (by decide) ?_
        refine z_icmp_ne X 54 dX8_addKind_47 (by decide) (fun c_47 => ?_) (fun c_47 => ?_)
        · skip
          refine z_iconst (v := 0) X dX8_addKind_54 (by decide) ?_
          refine z_putI (ci := 11) (j := 43) X dX8_addKind_55 zmm_c1 rfl (by decide) hlk_116 (Or.inl rfl) (Or.inl rfl) (fun _ => rfl) rfl rfl ?_
          obtain ⟨i_3, hi_3⟩ : ∃ q, q = zup i 1 43 0 := ⟨_, rfl⟩
          refine z_mem (M' := zmm i_3 lm) (by rw [hi_3]; rfl) ?_
          refine z_aload_n X 0 dX8_addKind_58 rfl rfl ?_
          refine z_getI (ci := 11) (j := 43) (x := 0) X dX8_addKind_59 zmm_c1 rfl (by decide) hlk_116 (Or.inl rfl) (fun _ => rfl) (by show i_3 1 43 = 0; rw [hi_3, zup_s]) ?_
          refine z_if_le X 67 dX8_addKind_62 (by decide) (fun c_62 => ?_) (fun c_62 => ?_)
          · skip
            refine z_aload_n X 0 dX8_addKind_67 rfl rfl ?_
            refine z_getR (ci := 11) (j := 27) (o' := 127) X dX8_addKind_68 zmm_c1 rfl (by decide) hlk_77 (Or.inl rfl) (fun _ => rfl) (zmm_r127) ?_
            refine z_aload_n X 0 dX8_addKind_71 rfl rfl ?_
            refine z_getI (ci := 11) (j := 30) (x := nI nk) X dX8_addKind_72 zmm_c1 rfl (by decide) hlk_195 (Or.inl rfl) (fun _ => rfl) (by show i_3 1 30 = (nI nk); rw [hi_3, zup_n (by decide)]; exact hk) ?_
            refine z_iload_n X 1 dX8_addKind_75 rfl rfl ?_
            refine z_iast (j := nk) X dX8_addKind_76 zmm_c127 (by rw [zmm_n127]; exact vp_in_nI (nI_ltc (N := 5) h5 c_47) (by decide)) (nI_clamp (by omega)) ?_
            obtain ⟨i_4, hi_4⟩ : ∃ q, q = zup i_3 127 nk a := ⟨_, rfl⟩
            refine z_mem (M' := zmm i_4 lm) (by rw [hi_4]; rfl) ?_
            refine z_aload_n X 0 dX8_addKind_77 rfl rfl ?_
            refine z_getR (ci := 11) (j := 28) (o' := 128) X dX8_addKind_78 zmm_c1 rfl (by decide) hlk_80 (Or.inl rfl) (fun _ => rfl) (zmm_r128) ?_
            refine z_aload_n X 0 dX8_addKind_81 rfl rfl ?_
            refine z_getI (ci := 11) (j := 30) (x := nI nk) X dX8_addKind_82 zmm_c1 rfl (by decide) hlk_195 (Or.inl rfl) (fun _ => rfl) (by show i_4 1 30 = (nI nk); rw [hi_4, zup_n (by omega)]; rw [hi_3, zup_n (by decide)]; exact hk) ?_
            refine z_iload_n X 2 dX8_addKind_85 rfl rfl ?_
            refine z_iast (j := nk) X dX8_addKind_86 zmm_c128 (by rw [zmm_n128]; exact vp_in_nI (nI_ltc (N := 5) h5 c_47) (by decide)) (nI_clamp (by omega)) ?_
            obtain ⟨i_5, hi_5⟩ : ∃ q, q = zup i_4 128 nk b := ⟨_, rfl⟩
            refine z_mem (M' := zmm i_5 lm) (by rw [hi_5]; rfl) ?_
            refine z_aload_n X 0 dX8_addKind_87 rfl rfl ?_
            refine z_getR (ci := 11) (j := 29) (o' := 129) X dX8_addKind_88 zmm_c1 rfl (by decide) hlk_83 (Or.inl rfl) (fun _ => rfl) (zmm_r129) ?_
            refine z_aload_n X 0 dX8_addKind_91 rfl rfl ?_
            refine z_getI (ci := 11) (j := 30) (x := nI nk) X dX8_addKind_92 zmm_c1 rfl (by decide) hlk_195 (Or.inl rfl) (fun _ => rfl) (by show i_5 1 30 = (nI nk); rw [hi_5, zup_n (by omega)]; rw [hi_4, zup_n (by omega)]; rw [hi_3, zup_n (by decide)]; exact hk) ?_
            refine z_iload_n X 3 dX8_addKind_95 rfl rfl ?_
            refine z_iast (j := nk) X dX8_addKind_96 zmm_c129 (by rw [zmm_n129]; exact vp_in_nI (nI_ltc (N := 5) h5 c_47) (by decide)) (nI_clamp (by omega)) ?_
            obtain ⟨i_6, hi_6⟩ : ∃ q, q = zup i_5 129 nk c := ⟨_, rfl⟩
            refine z_mem (M' := zmm i_6 lm) (by rw [hi_6]; rfl) ?_
            refine z_aload_n X 0 dX8_addKind_97 rfl rfl ?_
            refine z_dup X dX8_addKind_98 rfl ?_
            refine z_getI (ci := 11) (j := 30) (x := nI nk) X dX8_addKind_99 zmm_c1 rfl (by decide) hlk_195 (Or.inl rfl) (fun _ => rfl) (by show i_6 1 30 = (nI nk); rw [hi_6, zup_n (by omega)]; rw [hi_5, zup_n (by omega)]; rw [hi_4, zup_n (by omega)]; rw [hi_3, zup_n (by decide)]; exact hk) ?_
            refine z_iconst (v := 1) X dX8_addKind_102 (by decide) ?_
            refine z_iadd X dX8_addKind_103 ?_
            refine z_putI (ci := 11) (j := 30) X dX8_addKind_104 zmm_c1 rfl (by decide) hlk_195 (Or.inl rfl) (Or.inl rfl) (fun _ => rfl) rfl rfl ?_
            obtain ⟨i_7, hi_7⟩ : ∃ q, q = zup i_6 1 30 ((nI nk) + 1) := ⟨_, rfl⟩
            refine z_mem (M' := zmm i_7 lm) (by rw [hi_7]; rfl) ?_
            refine z_aload_n X 0 dX8_addKind_107 rfl rfl ?_
            refine z_getI (ci := 11) (j := 30) (x := (nI nk) + 1) X dX8_addKind_108 zmm_c1 rfl (by decide) hlk_195 (Or.inl rfl) (fun _ => rfl) (by show i_7 1 30 = ((nI nk) + 1); rw [hi_7, zup_s]) ?_
            refine z_iconst (v := 1) X dX8_addKind_111 (by decide) ?_
            refine z_isub X dX8_addKind_112 ?_
            refine z_iret X rfl rfl (Nat.le_refl _) (Nat.le_refl _) dX8_addKind_113 ?_
            subst hi_7
            subst hi_6
            subst hi_5
            subst hi_4
            subst hi_3
            (try simp only [zb_0, Classical.not_not] at c_9 c_22 c_35 c_47 c_62)
            exact ⟨_, rfl, by (first | rfl | (simp only [Int32.lt_irrefl, if_true, if_false, not_true_eq_false, not_false_eq_true, and_true, true_and, and_false, false_and, or_true, true_or, or_false, false_or, and_self, ite_self, zb, q_addKindV, q_addKindF, c_9, c_22, c_35, c_47, c_62, eq_true c_9, eq_true c_22, eq_true c_35, eq_true c_47, eq_true c_62]; done) | (simp only [Int32.lt_irrefl, if_true, if_false, not_true_eq_false, not_false_eq_true, and_true, true_and, and_false, false_and, or_true, true_or, or_false, false_or, and_self, ite_self, zb, q_addKindV, q_addKindF, c_9, c_22, c_35, c_47, c_62, eq_true c_9, eq_true c_22, eq_true c_35, eq_true c_47, eq_true c_62]; rfl)), by (first | rfl | (simp only [Int32.lt_irrefl, if_true, if_false, not_true_eq_false, not_false_eq_true, and_true, true_and, and_false, false_and, or_true, true_or, or_false, false_or, and_self, ite_self, zb, q_addKindV, q_addKindF, c_9, c_22, c_35, c_47, c_62, eq_true c_9, eq_true c_22, eq_true c_35, eq_true c_47, eq_true c_62]; done) | (simp only [Int32.lt_irrefl, if_true, if_false, not_true_eq_false, not_false_eq_true, and_true, true_and, and_false, false_and, or_true, true_or, or_false, false_or, and_self, ite_self, zb, q_addKindV, q_addKindF, c_9, c_22, c_35, c_47, c_62, eq_true c_9, eq_true c_22, eq_true c_35, eq_true c_47, eq_true c_62]; rfl))⟩
          · exact absurd c_62 (by decide)
        · skip
          refine z_iconst (v := 2) X dX8_addKind_50 (by decide) ?_
          refine z_goto (tgt := 55) X dX8_addKind_51 (by decide) ?_
          refine z_putI (ci := 11) (j := 43) X dX8_addKind_55 zmm_c1 rfl (by decide) hlk_116 (Or.inl rfl) (Or.inl rfl) (fun _ => rfl) rfl rfl ?_
          obtain ⟨i_8, hi_8⟩ : ∃ q, q = zup i 1 43 2 := ⟨_, rfl⟩
          refine z_mem (M' := zmm i_8 lm) (by rw [hi_8]; rfl) ?_
          refine z_aload_n X 0 dX8_addKind_58 rfl rfl ?_
          refine z_getI (ci := 11) (j := 43) (x := 2) X dX8_addKind_59 zmm_c1 rfl (by decide) hlk_116 (Or.inl rfl) (fun _ => rfl) (by show i_8 1 43 = 2; rw [hi_8, zup_s]) ?_
          refine z_if_le X 67 dX8_addKind_62 (by decide) (fun c_62 => ?_) (fun c_62 => ?_)
          · exact absurd c_62 (by decide)
          · skip
            refine z_iconst (v := 0) X dX8_addKind_65 (by decide) ?_
            refine z_iret X rfl rfl (Nat.le_refl _) (Nat.le_refl _) dX8_addKind_66 ?_
            subst hi_8
            (try simp only [zb_0, Classical.not_not] at c_9 c_22 c_35 c_47 c_62)
            exact ⟨_, rfl, by (first | rfl | (simp only [Int32.lt_irrefl, if_true, if_false, not_true_eq_false, not_false_eq_true, and_true, true_and, and_false, false_and, or_true, true_or, or_false, false_or, and_self, ite_self, zb, q_addKindV, q_addKindF, c_9, c_22, c_35, c_47, c_62, eq_true c_9, eq_true c_22, eq_true c_35, eq_true c_47, eq_true c_62]; done) | (simp only [Int32.lt_irrefl, if_true, if_false, not_true_eq_false, not_false_eq_true, and_true, true_and, and_false, false_and, or_true, true_or, or_false, false_or, and_self, ite_self, zb, q_addKindV, q_addKindF, c_9, c_22, c_35, c_47, c_62, eq_true c_9, eq_true c_22, eq_true c_35, eq_true c_47, eq_true c_62]; rfl)), by (first | rfl | (simp only [Int32.lt_irrefl, if_true, if_false, not_true_eq_false, not_false_eq_true, and_true, true_and, and_false, false_and, or_true, true_or, or_false, false_or, and_self, ite_self, zb, q_addKindV, q_addKindF, c_9, c_22, c_35, c_47, c_62, eq_true c_9, eq_true c_22, eq_true c_35, eq_true c_47, eq_true c_62]; done) | (simp only [Int32.lt_irrefl, if_true, if_false, not_true_eq_false, not_false_eq_true, and_true, true_and, and_false, false_and, or_true, true_or, or_false, false_or, and_self, ite_self, zb, q_addKindV, q_addKindF, c_9, c_22, c_35, c_47, c_62, eq_true c_9, eq_true c_22, eq_true c_35, eq_true c_47, eq_true c_62]; rfl))⟩
      · skip
        refine z_iconst (v := 1) X dX8_addKind_38 (by decide) ?_
        refine z_goto (tgt := 55) X dX8_addKind_39 (by decide) ?_
        refine z_putI (ci := 11) (j := 43) X dX8_addKind_55 zmm_c1 rfl (by decide) hlk_116 (Or.inl rfl) (Or.inl rfl) (fun _ => rfl) rfl rfl ?_
        obtain ⟨i_9, hi_9⟩ : ∃ q, q = zup i 1 43 1 := ⟨_, rfl⟩
        refine z_mem (M' := zmm i_9 lm) (by rw [hi_9]; rfl) ?_
        refine z_aload_n X 0 dX8_addKind_58 rfl rfl ?_
        refine z_getI (ci := 11) (j := 43) (x := 1) X dX8_addKind_59 zmm_c1 rfl (by decide) hlk_116 (Or.inl rfl) (fun _ => rfl) (by show i_9 1 43 = 1; rw [hi_9, zup_s]) ?_
        refine z_if_le X 67 dX8_addKind_62 (by decide) (fun c_62 => ?_) (fun c_62 => ?_)
        · exact absurd c_62 (by decide)
        · skip
          refine z_iconst (v := 0) X dX8_addKind_65 (by decide) ?_
          refine z_iret X rfl rfl (Nat.le_refl _) (Nat.le_refl _) dX8_addKind_66 ?_
          subst hi_9
          (try simp only [zb_0, Classical.not_not] at c_9 c_22 c_35 c_62)
          exact ⟨_, rfl, by (first | rfl | (simp only [Int32.lt_irrefl, if_true, if_false, not_true_eq_false, not_false_eq_true, and_true, true_and, and_false, false_and, or_true, true_or, or_false, false_or, and_self, ite_self, zb, q_addKindV, q_addKindF, c_9, c_22, c_35, c_62, eq_true c_9, eq_true c_22, eq_true c_35, eq_true c_62]; done) | (simp only [Int32.lt_irrefl, if_true, if_false, not_true_eq_false, not_false_eq_true, and_true, true_and, and_false, false_and, or_true, true_or, or_false, false_or, and_self, ite_self, zb, q_addKindV, q_addKindF, c_9, c_22, c_35, c_62, eq_true c_9, eq_true c_22, eq_true c_35, eq_true c_62]; rfl)), by (first | rfl | (simp only [Int32.lt_irrefl, if_true, if_false, not_true_eq_false, not_false_eq_true, and_true, true_and, and_false, false_and, or_true, true_or, or_false, false_or, and_self, ite_self, zb, q_addKindV, q_addKindF, c_9, c_22, c_35, c_62, eq_true c_9, eq_true c_22, eq_true c_35, eq_true c_62]; done) | (simp only [Int32.lt_irrefl, if_true, if_false, not_true_eq_false, not_false_eq_true, and_true, true_and, and_false, false_and, or_true, true_or, or_false, false_or, and_self, ite_self, zb, q_addKindV, q_addKindF, c_9, c_22, c_35, c_62, eq_true c_9, eq_true c_22, eq_true c_35, eq_true c_62]; rfl))⟩

set_option maxRecDepth 100000 in
set_option maxHeartbeats 4000000 in
theorem c_X8_addPallet (l : Launch) (i : Nat → Nat → Int32) (lm : Nat → Nat → Int64) (nr : Nat) (hn : i 1 17 = nI nr) (h4 : nr ≤ 4) (nk : Nat) (hk : i 1 30 = nI nk) (h5 : nk ≤ 5) (np : Nat) (hp : i 1 35 = nI np) (h24 : np ≤ 24) (kd : Int32) (r : Int32) : zS l yX8_addPallet wsX8_addPallet 2 43 0 0 [.ref 1, .int kd, .int r] (zmm i lm) (zpi (fun rr M1 => rr = q_addPalletV i nk np kd r ∧ M1 = zmm (q_addPalletF i nk np kd r) lm)) zno := by
  refine z_intro (cc := cX8_addPallet) (maxL := 3) (ret := (some .int)) (by decide +kernel) rfl (Nat.le_of_ble_eq_true rfl) ?_
  have hlk_195 : Cond.fieldLink RX8 195 "ColdStoreModel" "kinds" "I" ∈ wsX8_addPallet := by decide +kernel
  have hlk_116 : Cond.fieldLink RX8 116 "ColdStoreModel" "thrown" "I" ∈ wsX8_addPallet := by decide +kernel
  have hlk_126 : Cond.fieldLink RX8 126 "ColdStoreModel" "pallets" "I" ∈ wsX8_addPallet := by decide +kernel
  have hlk_86 : Cond.fieldLink RX8 86 "ColdStoreModel" "kindOf" "[I" ∈ wsX8_addPallet := by decide +kernel
  have hlk_89 : Cond.fieldLink RX8 89 "ColdStoreModel" "roomOf" "[I" ∈ wsX8_addPallet := by decide +kernel
  have hlk_92 : Cond.fieldLink RX8 92 "ColdStoreModel" "lifeOf" "[I" ∈ wsX8_addPallet := by decide +kernel
  have hlk_77 : Cond.fieldLink RX8 77 "ColdStoreModel" "lives" "[I" ∈ wsX8_addPallet := by decide +kernel
  have hlk_95 : Cond.fieldLink RX8 95 "ColdStoreModel" "states" "[C" ∈ wsX8_addPallet := by decide +kernel
  intro g X
  show zE g 3 0 [(0, .ref 1), (1, .int kd), (2, .int r)] [] (zmm i lm) 0 0
  refine z_aload_n X 0 dX8_addPallet_0 rfl rfl ?_
  refine z_iload_n X 1 dX8_addPallet_1 rfl rfl ?_
  refine z_iconst (v := 0) X dX8_addPallet_2 (by decide) ?_
  refine z_aload_n X 0 dX8_addPallet_3 rfl rfl ?_
  refine z_getI (ci := 11) (j := 30) (x := nI nk) X dX8_addPallet_4 zmm_c1 rfl (by decide) hlk_195 (Or.inl rfl) (fun _ => rfl) (by show i 1 30 = (nI nk); exact hk) ?_
  refine z_iconst (v := 1) X dX8_addPallet_7 (by decide) ?_
  refine z_isub X dX8_addPallet_8 ?_
  refine z_callSi (As := [.int kd, .int 0, .int ((nI nk) - 1)]) (rest := [.ref 1]) (n1 := 3) X dX8_addPallet_9 (c_X8_in l _ kd 0 ((nI nk) - 1)) gX8_addPallet_X8_in rfl rfl (by decide +kernel) ⟨by decide, by decide⟩ rfl (Nat.le_of_ble_eq_true rfl) ⟨by decide, by decide⟩ (fun _ h => h.elim) ?_
  rintro _ _ ⟨rfl, rfl⟩
  refine z_if_eq X 23 dX8_addPallet_12 (by decide) (fun c_12 => ?_) (fun c_12 => ?_)
  · skip
    refine z_iconst (v := 1) X dX8_addPallet_23 (by decide) ?_
    refine z_goto (tgt := 51) X dX8_addPallet_24 (by decide) ?_
    refine z_putI (ci := 11) (j := 43) X dX8_addPallet_51 zmm_c1 rfl (by decide) hlk_116 (Or.inl rfl) (Or.inl rfl) (fun _ => rfl) rfl rfl ?_
    obtain ⟨i_1, hi_1⟩ : ∃ q, q = zup i 1 43 1 := ⟨_, rfl⟩
    refine z_mem (M' := zmm i_1 lm) (by rw [hi_1]; rfl) ?_
    refine z_aload_n X 0 dX8_addPallet_54 rfl rfl ?_
    refine z_getI (ci := 11) (j := 43) (x := 1) X dX8_addPallet_55 zmm_c1 rfl (by decide) hlk_116 (Or.inl rfl) (fun _ => rfl) (by show i_1 1 43 = 1; rw [hi_1, zup_s]) ?_
    refine z_if_le X 63 dX8_addPallet_58 (by decide) (fun c_58 => ?_) (fun c_58 => ?_)
    · exact absurd c_58 (by decide)
    · skip
      refine z_iconst (v := 0) X dX8_addPallet_61 (by decide) ?_
      refine z_iret X rfl rfl (Nat.le_refl _) (Nat.le_refl _) dX8_addPallet_62 ?_
      subst hi_1
      (try simp only [zb_0, Classical.not_not] at c_12 c_58)
      exact ⟨_, rfl, by (first | rfl | (simp only [Int32.lt_irrefl, if_true, if_false, not_true_eq_false, not_false_eq_true, and_true, true_and, and_false, false_and, or_true, true_or, or_false, false_or, and_self, ite_self, zb, q_addPalletV, q_addPalletF, c_12, c_58, eq_true c_12, eq_true c_58]; done) | (simp only [Int32.lt_irrefl, if_true, if_false, not_true_eq_false, not_false_eq_true, and_true, true_and, and_false, false_and, or_true, true_or, or_false, false_or, and_self, ite_self, zb, q_addPalletV, q_addPalletF, c_12, c_58, eq_true c_12, eq_true c_58]; rfl)), by (first | rfl | (simp only [Int32.lt_irrefl, if_true, if_false, not_true_eq_false, not_false_eq_true, and_true, true_and, and_false, false_and, or_true, true_or, or_false, false_or, and_self, ite_self, zb, q_addPalletV, q_addPalletF, c_12, c_58, eq_true c_12, eq_true c_58]; done) | (simp only [Int32.lt_irrefl, if_true, if_false, not_true_eq_false, not_false_eq_true, and_true, true_and, and_false, false_and, or_true, true_or, or_false, false_or, and_self, ite_self, zb, q_addPalletV, q_addPalletF, c_12, c_58, eq_true c_12, eq_true c_58]; rfl))⟩
  · skip
    refine z_aload_n X 0 dX8_addPallet_15 rfl rfl ?_
    refine z_iload_n X 2 dX8_addPallet_16 rfl rfl ?_
    refine z_callVi (As := [.int r]) (rest := [.ref 1]) (n1 := 1) (ci := 11) X dX8_addPallet_17 (c_X8_isRoom l _ _ r) gX8_addPallet_X8_isRoom rfl rfl (by decide +kernel) ⟨by decide, by decide⟩ zmm_c1 rfl rfl (Nat.le_of_ble_eq_true rfl) ⟨by decide, by decide⟩ (fun _ h => h.elim) ?_
    rintro _ _ ⟨rfl, rfl⟩
    refine z_if_ne X 27 dX8_addPallet_20 (by decide) (fun c_20 => ?_) (fun c_20 => ?_)
    · skip
      refine z_aload_n X 0 dX8_addPallet_27 rfl rfl ?_
      refine z_getI (ci := 11) (j := 35) (x := nI np) X dX8_addPallet_28 zmm_c1 rfl (by decide) hlk_126 (Or.inl rfl) (fun _ => rfl) (by show i 1 35 = (nI np); exact hp) ?_
      refine z_bipush (v := 24) X dX8_addPallet_31 (by decide) ?_
      refine z_icmp_eq X 46 dX8_addPallet_33 (by decide) (fun c_33 => ?_) (fun c_33 => ?_)
      · skip
        refine z_iconst (v := 2) X dX8_addPallet_46 (by decide) ?_
        refine z_goto (tgt := 51) X dX8_addPallet_47 (by decide) ?_
        refine z_putI (ci := 11) (j := 43) X dX8_addPallet_51 zmm_c1 rfl (by decide) hlk_116 (Or.inl rfl) (Or.inl rfl) (fun _ => rfl) rfl rfl ?_
        obtain ⟨i_2, hi_2⟩ : ∃ q, q = zup i 1 43 2 := ⟨_, rfl⟩
        refine z_mem (M' := zmm i_2 lm) (by rw [hi_2]; rfl) ?_
        refine z_aload_n X 0 dX8_addPallet_54 rfl rfl ?_
        refine z_getI (ci := 11) (j := 43) (x := 2) X dX8_addPallet_55 zmm_c1 rfl (by decide) hlk_116 (Or.inl rfl) (fun _ => rfl) (by show i_2 1 43 = 2; rw [hi_2, zup_s]) ?_
        refine z_if_le X 63 dX8_addPallet_58 (by decide) (fun c_58 => ?_) (fun c_58 => ?_)
        · exact absurd c_58 (by decide)
        · skip
          refine z_iconst (v := 0) X dX8_addPallet_61 (by decide) ?_
          refine z_iret X rfl rfl (Nat.le_refl _) (Nat.le_refl _) dX8_addPallet_62 ?_
          subst hi_2
          (try simp only [zb_0, Classical.not_not] at c_12 c_20 c_33 c_58)
          exact ⟨_, rfl, by (first | rfl | (simp only [Int32.lt_irrefl, if_true, if_false, not_true_eq_false, not_false_eq_true, and_true, true_and, and_false, false_and, or_true, true_or, or_false, false_or, and_self, ite_self, zb, q_addPalletV, q_addPalletF, c_12, c_20, c_33, c_58, eq_true c_12, eq_true c_20, eq_true c_33, eq_true c_58]; done) | (simp only [Int32.lt_irrefl, if_true, if_false, not_true_eq_false, not_false_eq_true, and_true, true_and, and_false, false_and, or_true, true_or, or_false, false_or, and_self, ite_self, zb, q_addPalletV, q_addPalletF, c_12, c_20, c_33, c_58, eq_true c_12, eq_true c_20, eq_true c_33, eq_true c_58]; rfl)), by (first | rfl | (simp only [Int32.lt_irrefl, if_true, if_false, not_true_eq_false, not_false_eq_true, and_true, true_and, and_false, false_and, or_true, true_or, or_false, false_or, and_self, ite_self, zb, q_addPalletV, q_addPalletF, c_12, c_20, c_33, c_58, eq_true c_12, eq_true c_20, eq_true c_33, eq_true c_58]; done) | (simp only [Int32.lt_irrefl, if_true, if_false, not_true_eq_false, not_false_eq_true, and_true, true_and, and_false, false_and, or_true, true_or, or_false, false_or, and_self, ite_self, zb, q_addPalletV, q_addPalletF, c_12, c_20, c_33, c_58, eq_true c_12, eq_true c_20, eq_true c_33, eq_true c_58]; rfl))⟩
      · skip
        refine z_aload_n X 0 dX8_addPallet_36 rfl rfl ?_
        refine z_iload_n X 2 dX8_addPallet_37 rfl rfl ?_
        refine z_callVi (As := [.int r]) (rest := [.ref 1]) (n1 := 1) (ci := 11) X dX8_addPallet_38 (c_X8_filled l _ _ r np hp h24) gX8_addPallet_X8_filled rfl rfl (by decide +kernel) ⟨by decide, by decide⟩ zmm_c1 rfl rfl (Nat.le_of_ble_eq_true rfl) ⟨by decide, by decide⟩ (fun _ h => h.elim) ?_
        rintro _ _ ⟨rfl, rfl⟩
        refine z_bipush (v := 8) X dX8_addPallet_41 (by decide) ?_
        refine z_icmp_ne X 50 dX8_addPallet_43 (by decide) (fun c_43 => ?_) (fun c_43 => ?_)
        · skip
          refine z_iconst (v := 0) X dX8_addPallet_50 (by decide) ?_
          refine z_putI (ci := 11) (j := 43) X dX8_addPallet_51 zmm_c1 rfl (by decide) hlk_116 (Or.inl rfl) (Or.inl rfl) (fun _ => rfl) rfl rfl ?_
          obtain ⟨i_3, hi_3⟩ : ∃ q, q = zup i 1 43 0 := ⟨_, rfl⟩
          refine z_mem (M' := zmm i_3 lm) (by rw [hi_3]; rfl) ?_
          refine z_aload_n X 0 dX8_addPallet_54 rfl rfl ?_
          refine z_getI (ci := 11) (j := 43) (x := 0) X dX8_addPallet_55 zmm_c1 rfl (by decide) hlk_116 (Or.inl rfl) (fun _ => rfl) (by show i_3 1 43 = 0; rw [hi_3, zup_s]) ?_
          refine z_if_le X 63 dX8_addPallet_58 (by decide) (fun c_58 => ?_) (fun c_58 => ?_)
          · skip
            refine z_aload_n X 0 dX8_addPallet_63 rfl rfl ?_
            refine z_getR (ci := 11) (j := 31) (o' := 131) X dX8_addPallet_64 zmm_c1 rfl (by decide) hlk_86 (Or.inl rfl) (fun _ => rfl) (zmm_r131) ?_
            refine z_aload_n X 0 dX8_addPallet_67 rfl rfl ?_
            refine z_getI (ci := 11) (j := 35) (x := nI np) X dX8_addPallet_68 zmm_c1 rfl (by decide) hlk_126 (Or.inl rfl) (fun _ => rfl) (by show i_3 1 35 = (nI np); rw [hi_3, zup_n (by decide)]; exact hp) ?_
            refine z_iload_n X 1 dX8_addPallet_71 rfl rfl ?_
            refine z_iast (j := np) X dX8_addPallet_72 zmm_c131 (by rw [zmm_n131]; exact vp_in_nI (nI_ltc (N := 24) h24 c_33) (by decide)) (nI_clamp (by omega)) ?_
            obtain ⟨i_4, hi_4⟩ : ∃ q, q = zup i_3 131 np kd := ⟨_, rfl⟩
            refine z_mem (M' := zmm i_4 lm) (by rw [hi_4]; rfl) ?_
            refine z_aload_n X 0 dX8_addPallet_73 rfl rfl ?_
            refine z_getR (ci := 11) (j := 32) (o' := 132) X dX8_addPallet_74 zmm_c1 rfl (by decide) hlk_89 (Or.inl rfl) (fun _ => rfl) (zmm_r132) ?_
            refine z_aload_n X 0 dX8_addPallet_77 rfl rfl ?_
            refine z_getI (ci := 11) (j := 35) (x := nI np) X dX8_addPallet_78 zmm_c1 rfl (by decide) hlk_126 (Or.inl rfl) (fun _ => rfl) (by show i_4 1 35 = (nI np); rw [hi_4, zup_n (by omega)]; rw [hi_3, zup_n (by decide)]; exact hp) ?_
            refine z_iload_n X 2 dX8_addPallet_81 rfl rfl ?_
            refine z_iast (j := np) X dX8_addPallet_82 zmm_c132 (by rw [zmm_n132]; exact vp_in_nI (nI_ltc (N := 24) h24 c_33) (by decide)) (nI_clamp (by omega)) ?_
            obtain ⟨i_5, hi_5⟩ : ∃ q, q = zup i_4 132 np r := ⟨_, rfl⟩
            refine z_mem (M' := zmm i_5 lm) (by rw [hi_5]; rfl) ?_
            refine z_aload_n X 0 dX8_addPallet_83 rfl rfl ?_
            refine z_getR (ci := 11) (j := 33) (o' := 133) X dX8_addPallet_84 zmm_c1 rfl (by decide) hlk_92 (Or.inl rfl) (fun _ => rfl) (zmm_r133) ?_
            refine z_aload_n X 0 dX8_addPallet_87 rfl rfl ?_
            refine z_getI (ci := 11) (j := 35) (x := nI np) X dX8_addPallet_88 zmm_c1 rfl (by decide) hlk_126 (Or.inl rfl) (fun _ => rfl) (by show i_5 1 35 = (nI np); rw [hi_5, zup_n (by omega)]; rw [hi_4, zup_n (by omega)]; rw [hi_3, zup_n (by decide)]; exact hp) ?_
            refine z_aload_n X 0 dX8_addPallet_91 rfl rfl ?_
            refine z_getR (ci := 11) (j := 27) (o' := 127) X dX8_addPallet_92 zmm_c1 rfl (by decide) hlk_77 (Or.inl rfl) (fun _ => rfl) (zmm_r127) ?_
            refine z_iload_n X 1 dX8_addPallet_95 rfl rfl ?_
            refine z_iald (j := cl kd) (x := i 127 (cl kd)) X dX8_addPallet_96 zmm_c127 (by rw [zmm_n127]; exact (zin_vp (zb_n0.mp c_12) rfl h5 (by decide))) (rfl) (by show i_5 127 (cl kd) = (i 127 (cl kd)); rw [hi_5, zup_n (by omega)]; rw [hi_4, zup_n (by omega)]; rw [hi_3, zup_n (by omega)]) ?_
            refine z_iast (j := np) X dX8_addPallet_97 zmm_c133 (by rw [zmm_n133]; exact vp_in_nI (nI_ltc (N := 24) h24 c_33) (by decide)) (nI_clamp (by omega)) ?_
            obtain ⟨i_6, hi_6⟩ : ∃ q, q = zup i_5 133 np (i 127 (cl kd)) := ⟨_, rfl⟩
            refine z_mem (M' := zmm i_6 lm) (by rw [hi_6]; rfl) ?_
            refine z_aload_n X 0 dX8_addPallet_98 rfl rfl ?_
            refine z_getR (ci := 11) (j := 34) (o' := 134) X dX8_addPallet_99 zmm_c1 rfl (by decide) hlk_95 (Or.inl rfl) (fun _ => rfl) (zmm_r134) ?_
            refine z_aload_n X 0 dX8_addPallet_102 rfl rfl ?_
            refine z_getI (ci := 11) (j := 35) (x := nI np) X dX8_addPallet_103 zmm_c1 rfl (by decide) hlk_126 (Or.inl rfl) (fun _ => rfl) (by show i_6 1 35 = (nI np); rw [hi_6, zup_n (by omega)]; rw [hi_5, zup_n (by omega)]; rw [hi_4, zup_n (by omega)]; rw [hi_3, zup_n (by decide)]; exact hp) ?_
            refine z_bipush (v := 114) X dX8_addPallet_106 (by decide) ?_
            refine z_cast (j := np) X dX8_addPallet_108 zmm_c134 (by rw [zmm_n134]; exact vp_in_nI (nI_ltc (N := 24) h24 c_33) (by decide)) (nI_clamp (by omega)) (rfl) ?_
            obtain ⟨i_7, hi_7⟩ : ∃ q, q = zup i_6 134 np 114 := ⟨_, rfl⟩
            refine z_mem (M' := zmm i_7 lm) (by rw [hi_7]; rfl) ?_
            refine z_aload_n X 0 dX8_addPallet_109 rfl rfl ?_
            refine z_dup X dX8_addPallet_110 rfl ?_
            refine z_getI (ci := 11) (j := 35) (x := nI np) X dX8_addPallet_111 zmm_c1 rfl (by decide) hlk_126 (Or.inl rfl) (fun _ => rfl) (by show i_7 1 35 = (nI np); rw [hi_7, zup_n (by omega)]; rw [hi_6, zup_n (by omega)]; rw [hi_5, zup_n (by omega)]; rw [hi_4, zup_n (by omega)]; rw [hi_3, zup_n (by decide)]; exact hp) ?_
            refine z_iconst (v := 1) X dX8_addPallet_114 (by decide) ?_
            refine z_iadd X dX8_addPallet_115 ?_
            refine z_putI (ci := 11) (j := 35) X dX8_addPallet_116 zmm_c1 rfl (by decide) hlk_126 (Or.inl rfl) (Or.inl rfl) (fun _ => rfl) rfl rfl ?_
            obtain ⟨i_8, hi_8⟩ : ∃ q, q = zup i_7 1 35 ((nI np) + 1) := ⟨_, rfl⟩
            refine z_mem (M' := zmm i_8 lm) (by rw [hi_8]; rfl) ?_
            refine z_aload_n X 0 dX8_addPallet_119 rfl rfl ?_
            refine z_getI (ci := 11) (j := 35) (x := (nI np) + 1) X dX8_addPallet_120 zmm_c1 rfl (by decide) hlk_126 (Or.inl rfl) (fun _ => rfl) (by show i_8 1 35 = ((nI np) + 1); rw [hi_8, zup_s]) ?_
            refine z_iconst (v := 1) X dX8_addPallet_123 (by decide) ?_
            refine z_isub X dX8_addPallet_124 ?_
            refine z_iret X rfl rfl (Nat.le_refl _) (Nat.le_refl _) dX8_addPallet_125 ?_
            subst hi_8
            subst hi_7
            subst hi_6
            subst hi_5
            subst hi_4
            subst hi_3
            (try simp only [zb_0, Classical.not_not] at c_12 c_20 c_33 c_43 c_58)
            exact ⟨_, rfl, by (first | rfl | (simp only [Int32.lt_irrefl, if_true, if_false, not_true_eq_false, not_false_eq_true, and_true, true_and, and_false, false_and, or_true, true_or, or_false, false_or, and_self, ite_self, zb, q_addPalletV, q_addPalletF, c_12, c_20, c_33, c_43, c_58, eq_true c_12, eq_true c_20, eq_true c_33, eq_true c_43, eq_true c_58]; done) | (simp only [Int32.lt_irrefl, if_true, if_false, not_true_eq_false, not_false_eq_true, and_true, true_and, and_false, false_and, or_true, true_or, or_false, false_or, and_self, ite_self, zb, q_addPalletV, q_addPalletF, c_12, c_20, c_33, c_43, c_58, eq_true c_12, eq_true c_20, eq_true c_33, eq_true c_43, eq_true c_58]; rfl)), by (first | rfl | (simp only [Int32.lt_irrefl, if_true, if_false, not_true_eq_false, not_false_eq_true, and_true, true_and, and_false, false_and, or_true, true_or, or_false, false_or, and_self, ite_self, zb, q_addPalletV, q_addPalletF, c_12, c_20, c_33, c_43, c_58, eq_true c_12, eq_true c_20, eq_true c_33, eq_true c_43, eq_true c_58]; done) | (simp only [Int32.lt_irrefl, if_true, if_false, not_true_eq_false, not_false_eq_true, and_true, true_and, and_false, false_and, or_true, true_or, or_false, false_or, and_self, ite_self, zb, q_addPalletV, q_addPalletF, c_12, c_20, c_33, c_43, c_58, eq_true c_12, eq_true c_20, eq_true c_33, eq_true c_43, eq_true c_58]; rfl))⟩
          · exact absurd c_58 (by decide)
        · skip
          refine z_iconst (v := 2) X dX8_addPallet_46 (by decide) ?_
          refine z_goto (tgt := 51) X dX8_addPallet_47 (by decide) ?_
          refine z_putI (ci := 11) (j := 43) X dX8_addPallet_51 zmm_c1 rfl (by decide) hlk_116 (Or.inl rfl) (Or.inl rfl) (fun _ => rfl) rfl rfl ?_
          obtain ⟨i_9, hi_9⟩ : ∃ q, q = zup i 1 43 2 := ⟨_, rfl⟩
          refine z_mem (M' := zmm i_9 lm) (by rw [hi_9]; rfl) ?_
          refine z_aload_n X 0 dX8_addPallet_54 rfl rfl ?_
          refine z_getI (ci := 11) (j := 43) (x := 2) X dX8_addPallet_55 zmm_c1 rfl (by decide) hlk_116 (Or.inl rfl) (fun _ => rfl) (by show i_9 1 43 = 2; rw [hi_9, zup_s]) ?_
          refine z_if_le X 63 dX8_addPallet_58 (by decide) (fun c_58 => ?_) (fun c_58 => ?_)
          · exact absurd c_58 (by decide)
          · skip
            refine z_iconst (v := 0) X dX8_addPallet_61 (by decide) ?_
            refine z_iret X rfl rfl (Nat.le_refl _) (Nat.le_refl _) dX8_addPallet_62 ?_
            subst hi_9
            (try simp only [zb_0, Classical.not_not] at c_12 c_20 c_33 c_43 c_58)
            exact ⟨_, rfl, by (first | rfl | (simp only [Int32.lt_irrefl, if_true, if_false, not_true_eq_false, not_false_eq_true, and_true, true_and, and_false, false_and, or_true, true_or, or_false, false_or, and_self, ite_self, zb, q_addPalletV, q_addPalletF, c_12, c_20, c_33, c_43, c_58, eq_true c_12, eq_true c_20, eq_true c_33, eq_true c_43, eq_true c_58]; done) | (simp only [Int32.lt_irrefl, if_true, if_false, not_true_eq_false, not_false_eq_true, and_true, true_and, and_false, false_and, or_true, true_or, or_false, false_or, and_self, ite_self, zb, q_addPalletV, q_addPalletF, c_12, c_20, c_33, c_43, c_58, eq_true c_12, eq_true c_20, eq_true c_33, eq_true c_43, eq_true c_58]; rfl)), by (first | rfl | (simp only [Int32.lt_irrefl, if_true, if_false, not_true_eq_false, not_false_eq_true, and_true, true_and, and_false, false_and, or_true, true_or, or_false, false_or, and_self, ite_self, zb, q_addPalletV, q_addPalletF, c_12, c_20, c_33, c_43, c_58, eq_true c_12, eq_true c_20, eq_true c_33, eq_true c_43, eq_true c_58]; done) | (simp only [Int32.lt_irrefl, if_true, if_false, not_true_eq_false, not_false_eq_true, and_true, true_and, and_false, false_and, or_true, true_or, or_false, false_or, and_self, ite_self, zb, q_addPalletV, q_addPalletF, c_12, c_20, c_33, c_43, c_58, eq_true c_12, eq_true c_20, eq_true c_33, eq_true c_43, eq_true c_58]; rfl))⟩
    · skip
      refine z_iconst (v := 1) X dX8_addPallet_23 (by decide) ?_
      refine z_goto (tgt := 51) X dX8_addPallet_24 (by decide) ?_
      refine z_putI (ci := 11) (j := 43) X dX8_addPallet_51 zmm_c1 rfl (by decide) hlk_116 (Or.inl rfl) (Or.inl rfl) (fun _ => rfl) rfl rfl ?_
      obtain ⟨i_10, hi_10⟩ : ∃ q, q = zup i 1 43 1 := ⟨_, rfl⟩
      refine z_mem (M' := zmm i_10 lm) (by rw [hi_10]; rfl) ?_
      refine z_aload_n X 0 dX8_addPallet_54 rfl rfl ?_
      refine z_getI (ci := 11) (j := 43) (x := 1) X dX8_addPallet_55 zmm_c1 rfl (by decide) hlk_116 (Or.inl rfl) (fun _ => rfl) (by show i_10 1 43 = 1; rw [hi_10, zup_s]) ?_
      refine z_if_le X 63 dX8_addPallet_58 (by decide) (fun c_58 => ?_) (fun c_58 => ?_)
      · exact absurd c_58 (by decide)
      · skip
        refine z_iconst (v := 0) X dX8_addPallet_61 (by decide) ?_
        refine z_iret X rfl rfl (Nat.le_refl _) (Nat.le_refl _) dX8_addPallet_62 ?_
        subst hi_10
        (try simp only [zb_0, Classical.not_not] at c_12 c_20 c_58)
        exact ⟨_, rfl, by (first | rfl | (simp only [Int32.lt_irrefl, if_true, if_false, not_true_eq_false, not_false_eq_true, and_true, true_and, and_false, false_and, or_true, true_or, or_false, false_or, and_self, ite_self, zb, q_addPalletV, q_addPalletF, c_12, c_20, c_58, eq_true c_12, eq_true c_20, eq_true c_58]; done) | (simp only [Int32.lt_irrefl, if_true, if_false, not_true_eq_false, not_false_eq_true, and_true, true_and, and_false, false_and, or_true, true_or, or_false, false_or, and_self, ite_self, zb, q_addPalletV, q_addPalletF, c_12, c_20, c_58, eq_true c_12, eq_true c_20, eq_true c_58]; rfl)), by (first | rfl | (simp only [Int32.lt_irrefl, if_true, if_false, not_true_eq_false, not_false_eq_true, and_true, true_and, and_false, false_and, or_true, true_or, or_false, false_or, and_self, ite_self, zb, q_addPalletV, q_addPalletF, c_12, c_20, c_58, eq_true c_12, eq_true c_20, eq_true c_58]; done) | (simp only [Int32.lt_irrefl, if_true, if_false, not_true_eq_false, not_false_eq_true, and_true, true_and, and_false, false_and, or_true, true_or, or_false, false_or, and_self, ite_self, zb, q_addPalletV, q_addPalletF, c_12, c_20, c_58, eq_true c_12, eq_true c_20, eq_true c_58]; rfl))⟩

set_option maxRecDepth 100000 in
set_option maxHeartbeats 4000000 in
theorem c_X8_movePallet (l : Launch) (i : Nat → Nat → Int32) (lm : Nat → Nat → Int64) (nr : Nat) (hn : i 1 17 = nI nr) (h4 : nr ≤ 4) (np : Nat) (hp : i 1 35 = nI np) (h24 : np ≤ 24) (p : Int32) (r : Int32) : zS l yX8_movePallet wsX8_movePallet 2 43 0 0 [.ref 1, .int p, .int r] (zmm i lm) (zpi (fun rr M1 => rr = q_movePalletV i np p r ∧ M1 = zmm (q_movePalletF i np p r) lm)) zno := by
  refine z_intro (cc := cX8_movePallet) (maxL := 4) (ret := (some .int)) (by decide +kernel) rfl (Nat.le_of_ble_eq_true rfl) ?_
  have hlk_116 : Cond.fieldLink RX8 116 "ColdStoreModel" "thrown" "I" ∈ wsX8_movePallet := by decide +kernel
  have hlk_95 : Cond.fieldLink RX8 95 "ColdStoreModel" "states" "[C" ∈ wsX8_movePallet := by decide +kernel
  have hlk_89 : Cond.fieldLink RX8 89 "ColdStoreModel" "roomOf" "[I" ∈ wsX8_movePallet := by decide +kernel
  intro g X
  show zE g 4 0 [(0, .ref 1), (1, .int p), (2, .int r)] [] (zmm i lm) 0 0
  refine z_aload_n X 0 dX8_movePallet_0 rfl rfl ?_
  refine z_aload_n X 0 dX8_movePallet_1 rfl rfl ?_
  refine z_iload_n X 1 dX8_movePallet_2 rfl rfl ?_
  refine z_callVi (As := [.int p]) (rest := [.ref 1]) (n1 := 1) (ci := 11) X dX8_movePallet_3 (c_X8_isPallet l _ _ p) gX8_movePallet_X8_isPallet rfl rfl (by decide +kernel) ⟨by decide, by decide⟩ zmm_c1 rfl rfl (Nat.le_of_ble_eq_true rfl) ⟨by decide, by decide⟩ (fun _ h => h.elim) ?_
  rintro _ _ ⟨rfl, rfl⟩
  refine z_if_eq X 17 dX8_movePallet_6 (by decide) (fun c_6 => ?_) (fun c_6 => ?_)
  · skip
    refine z_iconst (v := 1) X dX8_movePallet_17 (by decide) ?_
    refine z_goto (tgt := 61) X dX8_movePallet_18 (by decide) ?_
    refine z_putI (ci := 11) (j := 43) X dX8_movePallet_61 zmm_c1 rfl (by decide) hlk_116 (Or.inl rfl) (Or.inl rfl) (fun _ => rfl) rfl rfl ?_
    obtain ⟨i_1, hi_1⟩ : ∃ q, q = zup i 1 43 1 := ⟨_, rfl⟩
    refine z_mem (M' := zmm i_1 lm) (by rw [hi_1]; rfl) ?_
    refine z_aload_n X 0 dX8_movePallet_64 rfl rfl ?_
    refine z_getI (ci := 11) (j := 43) (x := 1) X dX8_movePallet_65 zmm_c1 rfl (by decide) hlk_116 (Or.inl rfl) (fun _ => rfl) (by show i_1 1 43 = 1; rw [hi_1, zup_s]) ?_
    refine z_if_le X 73 dX8_movePallet_68 (by decide) (fun c_68 => ?_) (fun c_68 => ?_)
    · exact absurd c_68 (by decide)
    · skip
      refine z_iconst (v := 0) X dX8_movePallet_71 (by decide) ?_
      refine z_iret X rfl rfl (Nat.le_refl _) (Nat.le_refl _) dX8_movePallet_72 ?_
      subst hi_1
      (try simp only [zb_0, Classical.not_not] at c_6 c_68)
      exact ⟨_, rfl, by (first | rfl | (simp only [Int32.lt_irrefl, if_true, if_false, not_true_eq_false, not_false_eq_true, and_true, true_and, and_false, false_and, or_true, true_or, or_false, false_or, and_self, ite_self, zb, q_movePalletV, q_movePalletF, c_6, c_68, eq_true c_6, eq_true c_68]; done) | (simp only [Int32.lt_irrefl, if_true, if_false, not_true_eq_false, not_false_eq_true, and_true, true_and, and_false, false_and, or_true, true_or, or_false, false_or, and_self, ite_self, zb, q_movePalletV, q_movePalletF, c_6, c_68, eq_true c_6, eq_true c_68]; rfl)), by (first | rfl | (simp only [Int32.lt_irrefl, if_true, if_false, not_true_eq_false, not_false_eq_true, and_true, true_and, and_false, false_and, or_true, true_or, or_false, false_or, and_self, ite_self, zb, q_movePalletV, q_movePalletF, c_6, c_68, eq_true c_6, eq_true c_68]; done) | (simp only [Int32.lt_irrefl, if_true, if_false, not_true_eq_false, not_false_eq_true, and_true, true_and, and_false, false_and, or_true, true_or, or_false, false_or, and_self, ite_self, zb, q_movePalletV, q_movePalletF, c_6, c_68, eq_true c_6, eq_true c_68]; rfl))⟩
  · skip
    refine z_aload_n X 0 dX8_movePallet_9 rfl rfl ?_
    refine z_iload_n X 2 dX8_movePallet_10 rfl rfl ?_
    refine z_callVi (As := [.int r]) (rest := [.ref 1]) (n1 := 1) (ci := 11) X dX8_movePallet_11 (c_X8_isRoom l _ _ r) gX8_movePallet_X8_isRoom rfl rfl (by decide +kernel) ⟨by decide, by decide⟩ zmm_c1 rfl rfl (Nat.le_of_ble_eq_true rfl) ⟨by decide, by decide⟩ (fun _ h => h.elim) ?_
    rintro _ _ ⟨rfl, rfl⟩
    refine z_if_ne X 21 dX8_movePallet_14 (by decide) (fun c_14 => ?_) (fun c_14 => ?_)
    · skip
      refine z_aload_n X 0 dX8_movePallet_21 rfl rfl ?_
      refine z_getR (ci := 11) (j := 34) (o' := 134) X dX8_movePallet_22 zmm_c1 rfl (by decide) hlk_95 (Or.inl rfl) (fun _ => rfl) (zmm_r134) ?_
      refine z_iload_n X 1 dX8_movePallet_25 rfl rfl ?_
      refine z_cald (j := cl p) (x := i 134 (cl p)) X dX8_movePallet_26 zmm_c134 (by rw [zmm_n134]; exact (zin_vp (zb_n0.mp c_6) hp h24 (by decide))) (rfl) (rfl) ?_
      refine z_bipush (v := 114) X dX8_movePallet_27 (by decide) ?_
      refine z_icmp_eq X 36 dX8_movePallet_29 (by decide) (fun c_29 => ?_) (fun c_29 => ?_)
      · skip
        refine z_aload_n X 0 dX8_movePallet_36 rfl rfl ?_
        refine z_getR (ci := 11) (j := 32) (o' := 132) X dX8_movePallet_37 zmm_c1 rfl (by decide) hlk_89 (Or.inl rfl) (fun _ => rfl) (zmm_r132) ?_
        refine z_iload_n X 1 dX8_movePallet_40 rfl rfl ?_
        refine z_iald (j := cl p) (x := i 132 (cl p)) X dX8_movePallet_41 zmm_c132 (by rw [zmm_n132]; exact (zin_vp (zb_n0.mp c_6) hp h24 (by decide))) (rfl) (rfl) ?_
        refine z_iload_n X 2 dX8_movePallet_42 rfl rfl ?_
        refine z_icmp_eq X 60 dX8_movePallet_43 (by decide) (fun c_43 => ?_) (fun c_43 => ?_)
        · skip
          refine z_iconst (v := 0) X dX8_movePallet_60 (by decide) ?_
          refine z_putI (ci := 11) (j := 43) X dX8_movePallet_61 zmm_c1 rfl (by decide) hlk_116 (Or.inl rfl) (Or.inl rfl) (fun _ => rfl) rfl rfl ?_
          obtain ⟨i_2, hi_2⟩ : ∃ q, q = zup i 1 43 0 := ⟨_, rfl⟩
          refine z_mem (M' := zmm i_2 lm) (by rw [hi_2]; rfl) ?_
          refine z_aload_n X 0 dX8_movePallet_64 rfl rfl ?_
          refine z_getI (ci := 11) (j := 43) (x := 0) X dX8_movePallet_65 zmm_c1 rfl (by decide) hlk_116 (Or.inl rfl) (fun _ => rfl) (by show i_2 1 43 = 0; rw [hi_2, zup_s]) ?_
          refine z_if_le X 73 dX8_movePallet_68 (by decide) (fun c_68 => ?_) (fun c_68 => ?_)
          · skip
            refine z_aload_n X 0 dX8_movePallet_73 rfl rfl ?_
            refine z_getR (ci := 11) (j := 32) (o' := 132) X dX8_movePallet_74 zmm_c1 rfl (by decide) hlk_89 (Or.inl rfl) (fun _ => rfl) (zmm_r132) ?_
            refine z_iload_n X 1 dX8_movePallet_77 rfl rfl ?_
            refine z_iald (j := cl p) (x := i 132 (cl p)) X dX8_movePallet_78 zmm_c132 (by rw [zmm_n132]; exact (zin_vp (zb_n0.mp c_6) hp h24 (by decide))) (rfl) (by show i_2 132 (cl p) = (i 132 (cl p)); rw [hi_2, zup_n (by omega)]) ?_
            refine z_istore_n (ls' := [(3, .int (i 132 (cl p))), (0, .ref 1), (1, .int p), (2, .int r)]) X dX8_movePallet_79 rfl (by decide) rfl ?_
            refine z_aload_n X 1 dX8_movePallet_80 rfl rfl ?_
            refine z_getR (ci := 11) (j := 32) (o' := 132) X dX8_movePallet_81 zmm_c1 rfl (by decide) hlk_89 (Or.inl rfl) (fun _ => rfl) (zmm_r132) ?_
            refine z_iload_n X 2 dX8_movePallet_84 rfl rfl ?_
            refine z_iload_n X 3 dX8_movePallet_85 rfl rfl ?_
            refine z_iast (j := cl p) X dX8_movePallet_86 zmm_c132 (by rw [zmm_n132]; exact (zin_vp (zb_n0.mp c_6) hp h24 (by decide))) (rfl) ?_
            obtain ⟨i_3, hi_3⟩ : ∃ q, q = zup i_2 132 (cl p) r := ⟨_, rfl⟩
            refine z_mem (M' := zmm i_3 lm) (by rw [hi_3]; rfl) ?_
            refine z_iload_n X 0 dX8_movePallet_87 rfl rfl ?_
            refine z_iret X rfl rfl (Nat.le_refl _) (Nat.le_refl _) dX8_movePallet_88 ?_
            subst hi_3
            subst hi_2
            (try simp only [zb_0, Classical.not_not] at c_6 c_14 c_29 c_43 c_68)
            exact ⟨_, rfl, by (first | rfl | (simp only [Int32.lt_irrefl, if_true, if_false, not_true_eq_false, not_false_eq_true, and_true, true_and, and_false, false_and, or_true, true_or, or_false, false_or, and_self, ite_self, zb, q_movePalletV, q_movePalletF, c_6, c_14, c_29, c_43, c_68, eq_true c_6, eq_true c_14, eq_true c_29, eq_true c_43, eq_true c_68]; done) | (simp only [Int32.lt_irrefl, if_true, if_false, not_true_eq_false, not_false_eq_true, and_true, true_and, and_false, false_and, or_true, true_or, or_false, false_or, and_self, ite_self, zb, q_movePalletV, q_movePalletF, c_6, c_14, c_29, c_43, c_68, eq_true c_6, eq_true c_14, eq_true c_29, eq_true c_43, eq_true c_68]; rfl)), by (first | rfl | (simp only [Int32.lt_irrefl, if_true, if_false, not_true_eq_false, not_false_eq_true, and_true, true_and, and_false, false_and, or_true, true_or, or_false, false_or, and_self, ite_self, zb, q_movePalletV, q_movePalletF, c_6, c_14, c_29, c_43, c_68, eq_true c_6, eq_true c_14, eq_true c_29, eq_true c_43, eq_true c_68]; done) | (simp only [Int32.lt_irrefl, if_true, if_false, not_true_eq_false, not_false_eq_true, and_true, true_and, and_false, false_and, or_true, true_or, or_false, false_or, and_self, ite_self, zb, q_movePalletV, q_movePalletF, c_6, c_14, c_29, c_43, c_68, eq_true c_6, eq_true c_14, eq_true c_29, eq_true c_43, eq_true c_68]; rfl))⟩
          · exact absurd c_68 (by decide)
        · skip
          refine z_aload_n X 0 dX8_movePallet_46 rfl rfl ?_
          refine z_iload_n X 2 dX8_movePallet_47 rfl rfl ?_
          refine z_callVi (As := [.int r]) (rest := [.ref 1]) (n1 := 1) (ci := 11) X dX8_movePallet_48 (c_X8_filled l _ _ r np hp h24) gX8_movePallet_X8_filled rfl rfl (by decide +kernel) ⟨by decide, by decide⟩ zmm_c1 rfl rfl (Nat.le_of_ble_eq_true rfl) ⟨by decide, by decide⟩ (fun _ h => h.elim) ?_
          rintro _ _ ⟨rfl, rfl⟩
          refine z_bipush (v := 8) X dX8_movePallet_51 (by decide) ?_
          refine z_icmp_ne X 60 dX8_movePallet_53 (by decide) (fun c_53 => ?_) (fun c_53 => ?_)
          · skip
            refine z_iconst (v := 0) X dX8_movePallet_60 (by decide) ?_
            refine z_putI (ci := 11) (j := 43) X dX8_movePallet_61 zmm_c1 rfl (by decide) hlk_116 (Or.inl rfl) (Or.inl rfl) (fun _ => rfl) rfl rfl ?_
            obtain ⟨i_4, hi_4⟩ : ∃ q, q = zup i 1 43 0 := ⟨_, rfl⟩
            refine z_mem (M' := zmm i_4 lm) (by rw [hi_4]; rfl) ?_
            refine z_aload_n X 0 dX8_movePallet_64 rfl rfl ?_
            refine z_getI (ci := 11) (j := 43) (x := 0) X dX8_movePallet_65 zmm_c1 rfl (by decide) hlk_116 (Or.inl rfl) (fun _ => rfl) (by show i_4 1 43 = 0; rw [hi_4, zup_s]) ?_
            refine z_if_le X 73 dX8_movePallet_68 (by decide) (fun c_68 => ?_) (fun c_68 => ?_)
            · skip
              refine z_aload_n X 0 dX8_movePallet_73 rfl rfl ?_
              refine z_getR (ci := 11) (j := 32) (o' := 132) X dX8_movePallet_74 zmm_c1 rfl (by decide) hlk_89 (Or.inl rfl) (fun _ => rfl) (zmm_r132) ?_
              refine z_iload_n X 1 dX8_movePallet_77 rfl rfl ?_
              refine z_iald (j := cl p) (x := i 132 (cl p)) X dX8_movePallet_78 zmm_c132 (by rw [zmm_n132]; exact (zin_vp (zb_n0.mp c_6) hp h24 (by decide))) (rfl) (by show i_4 132 (cl p) = (i 132 (cl p)); rw [hi_4, zup_n (by omega)]) ?_
              refine z_istore_n (ls' := [(3, .int (i 132 (cl p))), (0, .ref 1), (1, .int p), (2, .int r)]) X dX8_movePallet_79 rfl (by decide) rfl ?_
              refine z_aload_n X 1 dX8_movePallet_80 rfl rfl ?_
              refine z_getR (ci := 11) (j := 32) (o' := 132) X dX8_movePallet_81 zmm_c1 rfl (by decide) hlk_89 (Or.inl rfl) (fun _ => rfl) (zmm_r132) ?_
              refine z_iload_n X 2 dX8_movePallet_84 rfl rfl ?_
              refine z_iload_n X 3 dX8_movePallet_85 rfl rfl ?_
              refine z_iast (j := cl p) X dX8_movePallet_86 zmm_c132 (by rw [zmm_n132]; exact (zin_vp (zb_n0.mp c_6) hp h24 (by decide))) (rfl) ?_
              obtain ⟨i_5, hi_5⟩ : ∃ q, q = zup i_4 132 (cl p) r := ⟨_, rfl⟩
              refine z_mem (M' := zmm i_5 lm) (by rw [hi_5]; rfl) ?_
              refine z_iload_n X 0 dX8_movePallet_87 rfl rfl ?_
              refine z_iret X rfl rfl (Nat.le_refl _) (Nat.le_refl _) dX8_movePallet_88 ?_
              subst hi_5
              subst hi_4
              (try simp only [zb_0, Classical.not_not] at c_6 c_14 c_29 c_43 c_53 c_68)
              exact ⟨_, rfl, by (first | rfl | (simp only [Int32.lt_irrefl, if_true, if_false, not_true_eq_false, not_false_eq_true, and_true, true_and, and_false, false_and, or_true, true_or, or_false, false_or, and_self, ite_self, zb, q_movePalletV, q_movePalletF, c_6, c_14, c_29, c_43, c_53, c_68, eq_true c_6, eq_true c_14, eq_true c_29, eq_true c_43, eq_true c_53, eq_true c_68]; done) | (simp only [Int32.lt_irrefl, if_true, if_false, not_true_eq_false, not_false_eq_true, and_true, true_and, and_false, false_and, or_true, true_or, or_false, false_or, and_self, ite_self, zb, q_movePalletV, q_movePalletF, c_6, c_14, c_29, c_43, c_53, c_68, eq_true c_6, eq_true c_14, eq_true c_29, eq_true c_43, eq_true c_53, eq_true c_68]; rfl)), by (first | rfl | (simp only [Int32.lt_irrefl, if_true, if_false, not_true_eq_false, not_false_eq_true, and_true, true_and, and_false, false_and, or_true, true_or, or_false, false_or, and_self, ite_self, zb, q_movePalletV, q_movePalletF, c_6, c_14, c_29, c_43, c_53, c_68, eq_true c_6, eq_true c_14, eq_true c_29, eq_true c_43, eq_true c_53, eq_true c_68]; done) | (simp only [Int32.lt_irrefl, if_true, if_false, not_true_eq_false, not_false_eq_true, and_true, true_and, and_false, false_and, or_true, true_or, or_false, false_or, and_self, ite_self, zb, q_movePalletV, q_movePalletF, c_6, c_14, c_29, c_43, c_53, c_68, eq_true c_6, eq_true c_14, eq_true c_29, eq_true c_43, eq_true c_53, eq_true c_68]; rfl))⟩
            · exact absurd c_68 (by decide)
          · skip
            refine z_iconst (v := 3) X dX8_movePallet_56 (by decide) ?_
            refine z_goto (tgt := 61) X dX8_movePallet_57 (by decide) ?_
            refine z_putI (ci := 11) (j := 43) X dX8_movePallet_61 zmm_c1 rfl (by decide) hlk_116 (Or.inl rfl) (Or.inl rfl) (fun _ => rfl) rfl rfl ?_
            obtain ⟨i_6, hi_6⟩ : ∃ q, q = zup i 1 43 3 := ⟨_, rfl⟩
            refine z_mem (M' := zmm i_6 lm) (by rw [hi_6]; rfl) ?_
            refine z_aload_n X 0 dX8_movePallet_64 rfl rfl ?_
            refine z_getI (ci := 11) (j := 43) (x := 3) X dX8_movePallet_65 zmm_c1 rfl (by decide) hlk_116 (Or.inl rfl) (fun _ => rfl) (by show i_6 1 43 = 3; rw [hi_6, zup_s]) ?_
            refine z_if_le X 73 dX8_movePallet_68 (by decide) (fun c_68 => ?_) (fun c_68 => ?_)
            · exact absurd c_68 (by decide)
            · skip
              refine z_iconst (v := 0) X dX8_movePallet_71 (by decide) ?_
              refine z_iret X rfl rfl (Nat.le_refl _) (Nat.le_refl _) dX8_movePallet_72 ?_
              subst hi_6
              (try simp only [zb_0, Classical.not_not] at c_6 c_14 c_29 c_43 c_53 c_68)
              exact ⟨_, rfl, by (first | rfl | (simp only [Int32.lt_irrefl, if_true, if_false, not_true_eq_false, not_false_eq_true, and_true, true_and, and_false, false_and, or_true, true_or, or_false, false_or, and_self, ite_self, zb, q_movePalletV, q_movePalletF, c_6, c_14, c_29, c_43, c_53, c_68, eq_true c_6, eq_true c_14, eq_true c_29, eq_true c_43, eq_true c_53, eq_true c_68]; done) | (simp only [Int32.lt_irrefl, if_true, if_false, not_true_eq_false, not_false_eq_true, and_true, true_and, and_false, false_and, or_true, true_or, or_false, false_or, and_self, ite_self, zb, q_movePalletV, q_movePalletF, c_6, c_14, c_29, c_43, c_53, c_68, eq_true c_6, eq_true c_14, eq_true c_29, eq_true c_43, eq_true c_53, eq_true c_68]; rfl)), by (first | rfl | (simp only [Int32.lt_irrefl, if_true, if_false, not_true_eq_false, not_false_eq_true, and_true, true_and, and_false, false_and, or_true, true_or, or_false, false_or, and_self, ite_self, zb, q_movePalletV, q_movePalletF, c_6, c_14, c_29, c_43, c_53, c_68, eq_true c_6, eq_true c_14, eq_true c_29, eq_true c_43, eq_true c_53, eq_true c_68]; done) | (simp only [Int32.lt_irrefl, if_true, if_false, not_true_eq_false, not_false_eq_true, and_true, true_and, and_false, false_and, or_true, true_or, or_false, false_or, and_self, ite_self, zb, q_movePalletV, q_movePalletF, c_6, c_14, c_29, c_43, c_53, c_68, eq_true c_6, eq_true c_14, eq_true c_29, eq_true c_43, eq_true c_53, eq_true c_68]; rfl))⟩
      · skip
        refine z_iconst (v := 2) X dX8_movePallet_32 (by decide) ?_
        refine z_goto (tgt := 61) X dX8_movePallet_33 (by decide) ?_
        refine z_putI (ci := 11) (j := 43) X dX8_movePallet_61 zmm_c1 rfl (by decide) hlk_116 (Or.inl rfl) (Or.inl rfl) (fun _ => rfl) rfl rfl ?_
        obtain ⟨i_7, hi_7⟩ : ∃ q, q = zup i 1 43 2 := ⟨_, rfl⟩
        refine z_mem (M' := zmm i_7 lm) (by rw [hi_7]; rfl) ?_
        refine z_aload_n X 0 dX8_movePallet_64 rfl rfl ?_
        refine z_getI (ci := 11) (j := 43) (x := 2) X dX8_movePallet_65 zmm_c1 rfl (by decide) hlk_116 (Or.inl rfl) (fun _ => rfl) (by show i_7 1 43 = 2; rw [hi_7, zup_s]) ?_
        refine z_if_le X 73 dX8_movePallet_68 (by decide) (fun c_68 => ?_) (fun c_68 => ?_)
        · exact absurd c_68 (by decide)
        · skip
          refine z_iconst (v := 0) X dX8_movePallet_71 (by decide) ?_
          refine z_iret X rfl rfl (Nat.le_refl _) (Nat.le_refl _) dX8_movePallet_72 ?_
          subst hi_7
          (try simp only [zb_0, Classical.not_not] at c_6 c_14 c_29 c_68)
          exact ⟨_, rfl, by (first | rfl | (simp only [Int32.lt_irrefl, if_true, if_false, not_true_eq_false, not_false_eq_true, and_true, true_and, and_false, false_and, or_true, true_or, or_false, false_or, and_self, ite_self, zb, q_movePalletV, q_movePalletF, c_6, c_14, c_29, c_68, eq_true c_6, eq_true c_14, eq_true c_29, eq_true c_68]; done) | (simp only [Int32.lt_irrefl, if_true, if_false, not_true_eq_false, not_false_eq_true, and_true, true_and, and_false, false_and, or_true, true_or, or_false, false_or, and_self, ite_self, zb, q_movePalletV, q_movePalletF, c_6, c_14, c_29, c_68, eq_true c_6, eq_true c_14, eq_true c_29, eq_true c_68]; rfl)), by (first | rfl | (simp only [Int32.lt_irrefl, if_true, if_false, not_true_eq_false, not_false_eq_true, and_true, true_and, and_false, false_and, or_true, true_or, or_false, false_or, and_self, ite_self, zb, q_movePalletV, q_movePalletF, c_6, c_14, c_29, c_68, eq_true c_6, eq_true c_14, eq_true c_29, eq_true c_68]; done) | (simp only [Int32.lt_irrefl, if_true, if_false, not_true_eq_false, not_false_eq_true, and_true, true_and, and_false, false_and, or_true, true_or, or_false, false_or, and_self, ite_self, zb, q_movePalletV, q_movePalletF, c_6, c_14, c_29, c_68, eq_true c_6, eq_true c_14, eq_true c_29, eq_true c_68]; rfl))⟩
    · skip
      refine z_iconst (v := 1) X dX8_movePallet_17 (by decide) ?_
      refine z_goto (tgt := 61) X dX8_movePallet_18 (by decide) ?_
      refine z_putI (ci := 11) (j := 43) X dX8_movePallet_61 zmm_c1 rfl (by decide) hlk_116 (Or.inl rfl) (Or.inl rfl) (fun _ => rfl) rfl rfl ?_
      obtain ⟨i_8, hi_8⟩ : ∃ q, q = zup i 1 43 1 := ⟨_, rfl⟩
      refine z_mem (M' := zmm i_8 lm) (by rw [hi_8]; rfl) ?_
      refine z_aload_n X 0 dX8_movePallet_64 rfl rfl ?_
      refine z_getI (ci := 11) (j := 43) (x := 1) X dX8_movePallet_65 zmm_c1 rfl (by decide) hlk_116 (Or.inl rfl) (fun _ => rfl) (by show i_8 1 43 = 1; rw [hi_8, zup_s]) ?_
      refine z_if_le X 73 dX8_movePallet_68 (by decide) (fun c_68 => ?_) (fun c_68 => ?_)
      · exact absurd c_68 (by decide)
      · skip
        refine z_iconst (v := 0) X dX8_movePallet_71 (by decide) ?_
        refine z_iret X rfl rfl (Nat.le_refl _) (Nat.le_refl _) dX8_movePallet_72 ?_
        subst hi_8
        (try simp only [zb_0, Classical.not_not] at c_6 c_14 c_68)
        exact ⟨_, rfl, by (first | rfl | (simp only [Int32.lt_irrefl, if_true, if_false, not_true_eq_false, not_false_eq_true, and_true, true_and, and_false, false_and, or_true, true_or, or_false, false_or, and_self, ite_self, zb, q_movePalletV, q_movePalletF, c_6, c_14, c_68, eq_true c_6, eq_true c_14, eq_true c_68]; done) | (simp only [Int32.lt_irrefl, if_true, if_false, not_true_eq_false, not_false_eq_true, and_true, true_and, and_false, false_and, or_true, true_or, or_false, false_or, and_self, ite_self, zb, q_movePalletV, q_movePalletF, c_6, c_14, c_68, eq_true c_6, eq_true c_14, eq_true c_68]; rfl)), by (first | rfl | (simp only [Int32.lt_irrefl, if_true, if_false, not_true_eq_false, not_false_eq_true, and_true, true_and, and_false, false_and, or_true, true_or, or_false, false_or, and_self, ite_self, zb, q_movePalletV, q_movePalletF, c_6, c_14, c_68, eq_true c_6, eq_true c_14, eq_true c_68]; done) | (simp only [Int32.lt_irrefl, if_true, if_false, not_true_eq_false, not_false_eq_true, and_true, true_and, and_false, false_and, or_true, true_or, or_false, false_or, and_self, ite_self, zb, q_movePalletV, q_movePalletF, c_6, c_14, c_68, eq_true c_6, eq_true c_14, eq_true c_68]; rfl))⟩

set_option maxRecDepth 100000 in
set_option maxHeartbeats 4000000 in
theorem c_X8_scrap (l : Launch) (i : Nat → Nat → Int32) (lm : Nat → Nat → Int64) (np : Nat) (hp : i 1 35 = nI np) (h24 : np ≤ 24) (p : Int32) : zS l yX8_scrap wsX8_scrap 2 43 0 0 [.ref 1, .int p] (zmm i lm) (zpi (fun rr M1 => rr = q_scrapV i p ∧ M1 = zmm (q_scrapF i p) lm)) zno := by
  refine z_intro (cc := cX8_scrap) (maxL := 2) (ret := (some .int)) (by decide +kernel) rfl (Nat.le_of_ble_eq_true rfl) ?_
  have hlk_95 : Cond.fieldLink RX8 95 "ColdStoreModel" "states" "[C" ∈ wsX8_scrap := by decide +kernel
  have hlk_116 : Cond.fieldLink RX8 116 "ColdStoreModel" "thrown" "I" ∈ wsX8_scrap := by decide +kernel
  have hlk_92 : Cond.fieldLink RX8 92 "ColdStoreModel" "lifeOf" "[I" ∈ wsX8_scrap := by decide +kernel
  intro g X
  show zE g 2 0 [(0, .ref 1), (1, .int p)] [] (zmm i lm) 0 0
  refine z_aload_n X 0 dX8_scrap_0 rfl rfl ?_
  refine z_aload_n X 0 dX8_scrap_1 rfl rfl ?_
  refine z_iload_n X 1 dX8_scrap_2 rfl rfl ?_
  refine z_callVi (As := [.int p]) (rest := [.ref 1]) (n1 := 1) (ci := 11) X dX8_scrap_3 (c_X8_isPallet l _ _ p) gX8_scrap_X8_isPallet rfl rfl (by decide +kernel) ⟨by decide, by decide⟩ zmm_c1 rfl rfl (Nat.le_of_ble_eq_true rfl) ⟨by decide, by decide⟩ (fun _ h => h.elim) ?_
  rintro _ _ ⟨rfl, rfl⟩
  refine z_if_ne X 13 dX8_scrap_6 (by decide) (fun c_6 => ?_) (fun c_6 => ?_)
  · skip
    refine z_aload_n X 0 dX8_scrap_13 rfl rfl ?_
    refine z_getR (ci := 11) (j := 34) (o' := 134) X dX8_scrap_14 zmm_c1 rfl (by decide) hlk_95 (Or.inl rfl) (fun _ => rfl) (zmm_r134) ?_
    refine z_iload_n X 1 dX8_scrap_17 rfl rfl ?_
    refine z_cald (j := cl p) (x := i 134 (cl p)) X dX8_scrap_18 zmm_c134 (by rw [zmm_n134]; exact (zin_vp (zb_n0.mp c_6) hp h24 (by decide))) (rfl) (rfl) ?_
    refine z_bipush (v := 114) X dX8_scrap_19 (by decide) ?_
    refine z_icmp_eq X 28 dX8_scrap_21 (by decide) (fun c_21 => ?_) (fun c_21 => ?_)
    · skip
      refine z_iconst (v := 0) X dX8_scrap_28 (by decide) ?_
      refine z_putI (ci := 11) (j := 43) X dX8_scrap_29 zmm_c1 rfl (by decide) hlk_116 (Or.inl rfl) (Or.inl rfl) (fun _ => rfl) rfl rfl ?_
      obtain ⟨i_1, hi_1⟩ : ∃ q, q = zup i 1 43 0 := ⟨_, rfl⟩
      refine z_mem (M' := zmm i_1 lm) (by rw [hi_1]; rfl) ?_
      refine z_aload_n X 0 dX8_scrap_32 rfl rfl ?_
      refine z_getI (ci := 11) (j := 43) (x := 0) X dX8_scrap_33 zmm_c1 rfl (by decide) hlk_116 (Or.inl rfl) (fun _ => rfl) (by show i_1 1 43 = 0; rw [hi_1, zup_s]) ?_
      refine z_if_le X 41 dX8_scrap_36 (by decide) (fun c_36 => ?_) (fun c_36 => ?_)
      · skip
        refine z_aload_n X 0 dX8_scrap_41 rfl rfl ?_
        refine z_getR (ci := 11) (j := 34) (o' := 134) X dX8_scrap_42 zmm_c1 rfl (by decide) hlk_95 (Or.inl rfl) (fun _ => rfl) (zmm_r134) ?_
        refine z_iload_n X 1 dX8_scrap_45 rfl rfl ?_
        refine z_bipush (v := 120) X dX8_scrap_46 (by decide) ?_
        refine z_cast (j := cl p) X dX8_scrap_48 zmm_c134 (by rw [zmm_n134]; exact (zin_vp (zb_n0.mp c_6) hp h24 (by decide))) (rfl) (rfl) ?_
        obtain ⟨i_2, hi_2⟩ : ∃ q, q = zup i_1 134 (cl p) 120 := ⟨_, rfl⟩
        refine z_mem (M' := zmm i_2 lm) (by rw [hi_2]; rfl) ?_
        refine z_aload_n X 0 dX8_scrap_49 rfl rfl ?_
        refine z_getR (ci := 11) (j := 33) (o' := 133) X dX8_scrap_50 zmm_c1 rfl (by decide) hlk_92 (Or.inl rfl) (fun _ => rfl) (zmm_r133) ?_
        refine z_iload_n X 1 dX8_scrap_53 rfl rfl ?_
        refine z_iald (j := cl p) (x := i 133 (cl p)) X dX8_scrap_54 zmm_c133 (by rw [zmm_n133]; exact (zin_vp (zb_n0.mp c_6) hp h24 (by decide))) (rfl) (by show i_2 133 (cl p) = (i 133 (cl p)); rw [hi_2, zup_n (by omega)]; rw [hi_1, zup_n (by omega)]) ?_
        refine z_iret X rfl rfl (Nat.le_refl _) (Nat.le_refl _) dX8_scrap_55 ?_
        subst hi_2
        subst hi_1
        (try simp only [zb_0, Classical.not_not] at c_6 c_21 c_36)
        exact ⟨_, rfl, by (first | rfl | (simp only [Int32.lt_irrefl, if_true, if_false, not_true_eq_false, not_false_eq_true, and_true, true_and, and_false, false_and, or_true, true_or, or_false, false_or, and_self, ite_self, zb, q_scrapV, q_scrapF, c_6, c_21, c_36, eq_true c_6, eq_true c_21, eq_true c_36]; done) | (simp only [Int32.lt_irrefl, if_true, if_false, not_true_eq_false, not_false_eq_true, and_true, true_and, and_false, false_and, or_true, true_or, or_false, false_or, and_self, ite_self, zb, q_scrapV, q_scrapF, c_6, c_21, c_36, eq_true c_6, eq_true c_21, eq_true c_36]; rfl)), by (first | rfl | (simp only [Int32.lt_irrefl, if_true, if_false, not_true_eq_false, not_false_eq_true, and_true, true_and, and_false, false_and, or_true, true_or, or_false, false_or, and_self, ite_self, zb, q_scrapV, q_scrapF, c_6, c_21, c_36, eq_true c_6, eq_true c_21, eq_true c_36]; done) | (simp only [Int32.lt_irrefl, if_true, if_false, not_true_eq_false, not_false_eq_true, and_true, true_and, and_false, false_and, or_true, true_or, or_false, false_or, and_self, ite_self, zb, q_scrapV, q_scrapF, c_6, c_21, c_36, eq_true c_6, eq_true c_21, eq_true c_36]; rfl))⟩
      · exact absurd c_36 (by decide)
    · skip
      refine z_iconst (v := 2) X dX8_scrap_24 (by decide) ?_
      refine z_goto (tgt := 29) X dX8_scrap_25 (by decide) ?_
      refine z_putI (ci := 11) (j := 43) X dX8_scrap_29 zmm_c1 rfl (by decide) hlk_116 (Or.inl rfl) (Or.inl rfl) (fun _ => rfl) rfl rfl ?_
      obtain ⟨i_3, hi_3⟩ : ∃ q, q = zup i 1 43 2 := ⟨_, rfl⟩
      refine z_mem (M' := zmm i_3 lm) (by rw [hi_3]; rfl) ?_
      refine z_aload_n X 0 dX8_scrap_32 rfl rfl ?_
      refine z_getI (ci := 11) (j := 43) (x := 2) X dX8_scrap_33 zmm_c1 rfl (by decide) hlk_116 (Or.inl rfl) (fun _ => rfl) (by show i_3 1 43 = 2; rw [hi_3, zup_s]) ?_
      refine z_if_le X 41 dX8_scrap_36 (by decide) (fun c_36 => ?_) (fun c_36 => ?_)
      · exact absurd c_36 (by decide)
      · skip
        refine z_iconst (v := 0) X dX8_scrap_39 (by decide) ?_
        refine z_iret X rfl rfl (Nat.le_refl _) (Nat.le_refl _) dX8_scrap_40 ?_
        subst hi_3
        (try simp only [zb_0, Classical.not_not] at c_6 c_21 c_36)
        exact ⟨_, rfl, by (first | rfl | (simp only [Int32.lt_irrefl, if_true, if_false, not_true_eq_false, not_false_eq_true, and_true, true_and, and_false, false_and, or_true, true_or, or_false, false_or, and_self, ite_self, zb, q_scrapV, q_scrapF, c_6, c_21, c_36, eq_true c_6, eq_true c_21, eq_true c_36]; done) | (simp only [Int32.lt_irrefl, if_true, if_false, not_true_eq_false, not_false_eq_true, and_true, true_and, and_false, false_and, or_true, true_or, or_false, false_or, and_self, ite_self, zb, q_scrapV, q_scrapF, c_6, c_21, c_36, eq_true c_6, eq_true c_21, eq_true c_36]; rfl)), by (first | rfl | (simp only [Int32.lt_irrefl, if_true, if_false, not_true_eq_false, not_false_eq_true, and_true, true_and, and_false, false_and, or_true, true_or, or_false, false_or, and_self, ite_self, zb, q_scrapV, q_scrapF, c_6, c_21, c_36, eq_true c_6, eq_true c_21, eq_true c_36]; done) | (simp only [Int32.lt_irrefl, if_true, if_false, not_true_eq_false, not_false_eq_true, and_true, true_and, and_false, false_and, or_true, true_or, or_false, false_or, and_self, ite_self, zb, q_scrapV, q_scrapF, c_6, c_21, c_36, eq_true c_6, eq_true c_21, eq_true c_36]; rfl))⟩
  · skip
    refine z_iconst (v := 1) X dX8_scrap_9 (by decide) ?_
    refine z_goto (tgt := 29) X dX8_scrap_10 (by decide) ?_
    refine z_putI (ci := 11) (j := 43) X dX8_scrap_29 zmm_c1 rfl (by decide) hlk_116 (Or.inl rfl) (Or.inl rfl) (fun _ => rfl) rfl rfl ?_
    obtain ⟨i_4, hi_4⟩ : ∃ q, q = zup i 1 43 1 := ⟨_, rfl⟩
    refine z_mem (M' := zmm i_4 lm) (by rw [hi_4]; rfl) ?_
    refine z_aload_n X 0 dX8_scrap_32 rfl rfl ?_
    refine z_getI (ci := 11) (j := 43) (x := 1) X dX8_scrap_33 zmm_c1 rfl (by decide) hlk_116 (Or.inl rfl) (fun _ => rfl) (by show i_4 1 43 = 1; rw [hi_4, zup_s]) ?_
    refine z_if_le X 41 dX8_scrap_36 (by decide) (fun c_36 => ?_) (fun c_36 => ?_)
    · exact absurd c_36 (by decide)
    · skip
      refine z_iconst (v := 0) X dX8_scrap_39 (by decide) ?_
      refine z_iret X rfl rfl (Nat.le_refl _) (Nat.le_refl _) dX8_scrap_40 ?_
      subst hi_4
      (try simp only [zb_0, Classical.not_not] at c_6 c_36)
      exact ⟨_, rfl, by (first | rfl | (simp only [Int32.lt_irrefl, if_true, if_false, not_true_eq_false, not_false_eq_true, and_true, true_and, and_false, false_and, or_true, true_or, or_false, false_or, and_self, ite_self, zb, q_scrapV, q_scrapF, c_6, c_36, eq_true c_6, eq_true c_36]; done) | (simp only [Int32.lt_irrefl, if_true, if_false, not_true_eq_false, not_false_eq_true, and_true, true_and, and_false, false_and, or_true, true_or, or_false, false_or, and_self, ite_self, zb, q_scrapV, q_scrapF, c_6, c_36, eq_true c_6, eq_true c_36]; rfl)), by (first | rfl | (simp only [Int32.lt_irrefl, if_true, if_false, not_true_eq_false, not_false_eq_true, and_true, true_and, and_false, false_and, or_true, true_or, or_false, false_or, and_self, ite_self, zb, q_scrapV, q_scrapF, c_6, c_36, eq_true c_6, eq_true c_36]; done) | (simp only [Int32.lt_irrefl, if_true, if_false, not_true_eq_false, not_false_eq_true, and_true, true_and, and_false, false_and, or_true, true_or, or_false, false_or, and_self, ite_self, zb, q_scrapV, q_scrapF, c_6, c_36, eq_true c_6, eq_true c_36]; rfl))⟩

set_option maxRecDepth 100000 in
set_option maxHeartbeats 4000000 in
theorem c_X8_state (l : Launch) (i : Nat → Nat → Int32) (lm : Nat → Nat → Int64) (np : Nat) (hp : i 1 35 = nI np) (h24 : np ≤ 24) (p : Int32) (hrow : ∀ j, narrow .char (.int (i 134 j)) = .int (i 134 j)) : zS l yX8_state wsX8_state 2 43 0 0 [.ref 1, .int p] (zmm i lm) (zpi (fun rr M1 => rr = q_stateV i p ∧ M1 = zmm (q_stateF i p) lm)) zno := by
  refine z_intro (cc := cX8_state) (maxL := 2) (ret := (some .char)) (by decide +kernel) rfl (Nat.le_of_ble_eq_true rfl) ?_
  have hlk_116 : Cond.fieldLink RX8 116 "ColdStoreModel" "thrown" "I" ∈ wsX8_state := by decide +kernel
  have hlk_95 : Cond.fieldLink RX8 95 "ColdStoreModel" "states" "[C" ∈ wsX8_state := by decide +kernel
  intro g X
  show zE g 2 0 [(0, .ref 1), (1, .int p)] [] (zmm i lm) 0 0
  refine z_aload_n X 0 dX8_state_0 rfl rfl ?_
  refine z_aload_n X 0 dX8_state_1 rfl rfl ?_
  refine z_iload_n X 1 dX8_state_2 rfl rfl ?_
  refine z_callVi (As := [.int p]) (rest := [.ref 1]) (n1 := 1) (ci := 11) X dX8_state_3 (c_X8_isPallet l _ _ p) gX8_state_X8_isPallet rfl rfl (by decide +kernel) ⟨by decide, by decide⟩ zmm_c1 rfl rfl (Nat.le_of_ble_eq_true rfl) ⟨by decide, by decide⟩ (fun _ h => h.elim) ?_
  rintro _ _ ⟨rfl, rfl⟩
  refine z_if_eq X 13 dX8_state_6 (by decide) (fun c_6 => ?_) (fun c_6 => ?_)
  · skip
    refine z_iconst (v := 1) X dX8_state_13 (by decide) ?_
    refine z_putI (ci := 11) (j := 43) X dX8_state_14 zmm_c1 rfl (by decide) hlk_116 (Or.inl rfl) (Or.inl rfl) (fun _ => rfl) rfl rfl ?_
    obtain ⟨i_1, hi_1⟩ : ∃ q, q = zup i 1 43 1 := ⟨_, rfl⟩
    refine z_mem (M' := zmm i_1 lm) (by rw [hi_1]; rfl) ?_
    refine z_aload_n X 0 dX8_state_17 rfl rfl ?_
    refine z_getI (ci := 11) (j := 43) (x := 1) X dX8_state_18 zmm_c1 rfl (by decide) hlk_116 (Or.inl rfl) (fun _ => rfl) (by show i_1 1 43 = 1; rw [hi_1, zup_s]) ?_
    refine z_if_le X 29 dX8_state_21 (by decide) (fun c_21 => ?_) (fun c_21 => ?_)
    · exact absurd c_21 (by decide)
    · skip
      refine z_bipush (v := 32) X dX8_state_24 (by decide) ?_
      refine z_goto (tgt := 35) X dX8_state_26 (by decide) ?_
      refine z_iret X rfl (rfl) (Nat.le_refl _) (Nat.le_refl _) dX8_state_35 ?_
      subst hi_1
      (try simp only [zb_0, Classical.not_not] at c_6 c_21)
      exact ⟨_, rfl, by (first | rfl | (simp only [Int32.lt_irrefl, if_true, if_false, not_true_eq_false, not_false_eq_true, and_true, true_and, and_false, false_and, or_true, true_or, or_false, false_or, and_self, ite_self, zb, q_stateV, q_stateF, c_6, c_21, eq_true c_6, eq_true c_21]; done) | (simp only [Int32.lt_irrefl, if_true, if_false, not_true_eq_false, not_false_eq_true, and_true, true_and, and_false, false_and, or_true, true_or, or_false, false_or, and_self, ite_self, zb, q_stateV, q_stateF, c_6, c_21, eq_true c_6, eq_true c_21]; rfl)), by (first | rfl | (simp only [Int32.lt_irrefl, if_true, if_false, not_true_eq_false, not_false_eq_true, and_true, true_and, and_false, false_and, or_true, true_or, or_false, false_or, and_self, ite_self, zb, q_stateV, q_stateF, c_6, c_21, eq_true c_6, eq_true c_21]; done) | (simp only [Int32.lt_irrefl, if_true, if_false, not_true_eq_false, not_false_eq_true, and_true, true_and, and_false, false_and, or_true, true_or, or_false, false_or, and_self, ite_self, zb, q_stateV, q_stateF, c_6, c_21, eq_true c_6, eq_true c_21]; rfl))⟩
  · skip
    refine z_iconst (v := 0) X dX8_state_9 (by decide) ?_
    refine z_goto (tgt := 14) X dX8_state_10 (by decide) ?_
    refine z_putI (ci := 11) (j := 43) X dX8_state_14 zmm_c1 rfl (by decide) hlk_116 (Or.inl rfl) (Or.inl rfl) (fun _ => rfl) rfl rfl ?_
    obtain ⟨i_2, hi_2⟩ : ∃ q, q = zup i 1 43 0 := ⟨_, rfl⟩
    refine z_mem (M' := zmm i_2 lm) (by rw [hi_2]; rfl) ?_
    refine z_aload_n X 0 dX8_state_17 rfl rfl ?_
    refine z_getI (ci := 11) (j := 43) (x := 0) X dX8_state_18 zmm_c1 rfl (by decide) hlk_116 (Or.inl rfl) (fun _ => rfl) (by show i_2 1 43 = 0; rw [hi_2, zup_s]) ?_
    refine z_if_le X 29 dX8_state_21 (by decide) (fun c_21 => ?_) (fun c_21 => ?_)
    · skip
      refine z_aload_n X 0 dX8_state_29 rfl rfl ?_
      refine z_getR (ci := 11) (j := 34) (o' := 134) X dX8_state_30 zmm_c1 rfl (by decide) hlk_95 (Or.inl rfl) (fun _ => rfl) (zmm_r134) ?_
      refine z_iload_n X 1 dX8_state_33 rfl rfl ?_
      refine z_cald (j := cl p) (x := i 134 (cl p)) X dX8_state_34 zmm_c134 (by rw [zmm_n134]; exact (zin_vp (zb_n0.mp c_6) hp h24 (by decide))) (rfl) (by show i_2 134 (cl p) = (i 134 (cl p)); rw [hi_2, zup_n (by omega)]) ?_
      refine z_iret X rfl (hrow _) (Nat.le_refl _) (Nat.le_refl _) dX8_state_35 ?_
      subst hi_2
      (try simp only [zb_0, Classical.not_not] at c_6 c_21)
      exact ⟨_, rfl, by (first | rfl | (simp only [Int32.lt_irrefl, if_true, if_false, not_true_eq_false, not_false_eq_true, and_true, true_and, and_false, false_and, or_true, true_or, or_false, false_or, and_self, ite_self, zb, q_stateV, q_stateF, c_6, c_21, eq_true c_6, eq_true c_21]; done) | (simp only [Int32.lt_irrefl, if_true, if_false, not_true_eq_false, not_false_eq_true, and_true, true_and, and_false, false_and, or_true, true_or, or_false, false_or, and_self, ite_self, zb, q_stateV, q_stateF, c_6, c_21, eq_true c_6, eq_true c_21]; rfl)), by (first | rfl | (simp only [Int32.lt_irrefl, if_true, if_false, not_true_eq_false, not_false_eq_true, and_true, true_and, and_false, false_and, or_true, true_or, or_false, false_or, and_self, ite_self, zb, q_stateV, q_stateF, c_6, c_21, eq_true c_6, eq_true c_21]; done) | (simp only [Int32.lt_irrefl, if_true, if_false, not_true_eq_false, not_false_eq_true, and_true, true_and, and_false, false_and, or_true, true_or, or_false, false_or, and_self, ite_self, zb, q_stateV, q_stateF, c_6, c_21, eq_true c_6, eq_true c_21]; rfl))⟩
    · exact absurd c_21 (by decide)

set_option maxRecDepth 100000 in
set_option maxHeartbeats 4000000 in
theorem c_X8_roomOf (l : Launch) (i : Nat → Nat → Int32) (lm : Nat → Nat → Int64) (np : Nat) (hp : i 1 35 = nI np) (h24 : np ≤ 24) (p : Int32) : zS l yX8_roomOf wsX8_roomOf 2 43 0 0 [.ref 1, .int p] (zmm i lm) (zpi (fun rr M1 => rr = q_roomOfV i p ∧ M1 = zmm (q_roomOfF i p) lm)) zno := by
  refine z_intro (cc := cX8_roomOf) (maxL := 2) (ret := (some .int)) (by decide +kernel) rfl (Nat.le_of_ble_eq_true rfl) ?_
  have hlk_95 : Cond.fieldLink RX8 95 "ColdStoreModel" "states" "[C" ∈ wsX8_roomOf := by decide +kernel
  have hlk_116 : Cond.fieldLink RX8 116 "ColdStoreModel" "thrown" "I" ∈ wsX8_roomOf := by decide +kernel
  have hlk_89 : Cond.fieldLink RX8 89 "ColdStoreModel" "roomOf" "[I" ∈ wsX8_roomOf := by decide +kernel
  intro g X
  show zE g 2 0 [(0, .ref 1), (1, .int p)] [] (zmm i lm) 0 0
  refine z_aload_n X 0 dX8_roomOf_0 rfl rfl ?_
  refine z_aload_n X 0 dX8_roomOf_1 rfl rfl ?_
  refine z_iload_n X 1 dX8_roomOf_2 rfl rfl ?_
  refine z_callVi (As := [.int p]) (rest := [.ref 1]) (n1 := 1) (ci := 11) X dX8_roomOf_3 (c_X8_isPallet l _ _ p) gX8_roomOf_X8_isPallet rfl rfl (by decide +kernel) ⟨by decide, by decide⟩ zmm_c1 rfl rfl (Nat.le_of_ble_eq_true rfl) ⟨by decide, by decide⟩ (fun _ h => h.elim) ?_
  rintro _ _ ⟨rfl, rfl⟩
  refine z_if_ne X 13 dX8_roomOf_6 (by decide) (fun c_6 => ?_) (fun c_6 => ?_)
  · skip
    refine z_aload_n X 0 dX8_roomOf_13 rfl rfl ?_
    refine z_getR (ci := 11) (j := 34) (o' := 134) X dX8_roomOf_14 zmm_c1 rfl (by decide) hlk_95 (Or.inl rfl) (fun _ => rfl) (zmm_r134) ?_
    refine z_iload_n X 1 dX8_roomOf_17 rfl rfl ?_
    refine z_cald (j := cl p) (x := i 134 (cl p)) X dX8_roomOf_18 zmm_c134 (by rw [zmm_n134]; exact (zin_vp (zb_n0.mp c_6) hp h24 (by decide))) (rfl) (rfl) ?_
    refine z_bipush (v := 114) X dX8_roomOf_19 (by decide) ?_
    refine z_icmp_eq X 28 dX8_roomOf_21 (by decide) (fun c_21 => ?_) (fun c_21 => ?_)
    · skip
      refine z_iconst (v := 0) X dX8_roomOf_28 (by decide) ?_
      refine z_putI (ci := 11) (j := 43) X dX8_roomOf_29 zmm_c1 rfl (by decide) hlk_116 (Or.inl rfl) (Or.inl rfl) (fun _ => rfl) rfl rfl ?_
      obtain ⟨i_1, hi_1⟩ : ∃ q, q = zup i 1 43 0 := ⟨_, rfl⟩
      refine z_mem (M' := zmm i_1 lm) (by rw [hi_1]; rfl) ?_
      refine z_aload_n X 0 dX8_roomOf_32 rfl rfl ?_
      refine z_getI (ci := 11) (j := 43) (x := 0) X dX8_roomOf_33 zmm_c1 rfl (by decide) hlk_116 (Or.inl rfl) (fun _ => rfl) (by show i_1 1 43 = 0; rw [hi_1, zup_s]) ?_
      refine z_if_le X 43 dX8_roomOf_36 (by decide) (fun c_36 => ?_) (fun c_36 => ?_)
      · skip
        refine z_aload_n X 0 dX8_roomOf_43 rfl rfl ?_
        refine z_getR (ci := 11) (j := 32) (o' := 132) X dX8_roomOf_44 zmm_c1 rfl (by decide) hlk_89 (Or.inl rfl) (fun _ => rfl) (zmm_r132) ?_
        refine z_iload_n X 1 dX8_roomOf_47 rfl rfl ?_
        refine z_iald (j := cl p) (x := i 132 (cl p)) X dX8_roomOf_48 zmm_c132 (by rw [zmm_n132]; exact (zin_vp (zb_n0.mp c_6) hp h24 (by decide))) (rfl) (by show i_1 132 (cl p) = (i 132 (cl p)); rw [hi_1, zup_n (by omega)]) ?_
        refine z_iret X rfl rfl (Nat.le_refl _) (Nat.le_refl _) dX8_roomOf_49 ?_
        subst hi_1
        (try simp only [zb_0, Classical.not_not] at c_6 c_21 c_36)
        exact ⟨_, rfl, by (first | rfl | (simp only [Int32.lt_irrefl, if_true, if_false, not_true_eq_false, not_false_eq_true, and_true, true_and, and_false, false_and, or_true, true_or, or_false, false_or, and_self, ite_self, zb, q_roomOfV, q_roomOfF, c_6, c_21, c_36, eq_true c_6, eq_true c_21, eq_true c_36]; done) | (simp only [Int32.lt_irrefl, if_true, if_false, not_true_eq_false, not_false_eq_true, and_true, true_and, and_false, false_and, or_true, true_or, or_false, false_or, and_self, ite_self, zb, q_roomOfV, q_roomOfF, c_6, c_21, c_36, eq_true c_6, eq_true c_21, eq_true c_36]; rfl)), by (first | rfl | (simp only [Int32.lt_irrefl, if_true, if_false, not_true_eq_false, not_false_eq_true, and_true, true_and, and_false, false_and, or_true, true_or, or_false, false_or, and_self, ite_self, zb, q_roomOfV, q_roomOfF, c_6, c_21, c_36, eq_true c_6, eq_true c_21, eq_true c_36]; done) | (simp only [Int32.lt_irrefl, if_true, if_false, not_true_eq_false, not_false_eq_true, and_true, true_and, and_false, false_and, or_true, true_or, or_false, false_or, and_self, ite_self, zb, q_roomOfV, q_roomOfF, c_6, c_21, c_36, eq_true c_6, eq_true c_21, eq_true c_36]; rfl))⟩
      · exact absurd c_36 (by decide)
    · skip
      refine z_iconst (v := 2) X dX8_roomOf_24 (by decide) ?_
      refine z_goto (tgt := 29) X dX8_roomOf_25 (by decide) ?_
      refine z_putI (ci := 11) (j := 43) X dX8_roomOf_29 zmm_c1 rfl (by decide) hlk_116 (Or.inl rfl) (Or.inl rfl) (fun _ => rfl) rfl rfl ?_
      obtain ⟨i_2, hi_2⟩ : ∃ q, q = zup i 1 43 2 := ⟨_, rfl⟩
      refine z_mem (M' := zmm i_2 lm) (by rw [hi_2]; rfl) ?_
      refine z_aload_n X 0 dX8_roomOf_32 rfl rfl ?_
      refine z_getI (ci := 11) (j := 43) (x := 2) X dX8_roomOf_33 zmm_c1 rfl (by decide) hlk_116 (Or.inl rfl) (fun _ => rfl) (by show i_2 1 43 = 2; rw [hi_2, zup_s]) ?_
      refine z_if_le X 43 dX8_roomOf_36 (by decide) (fun c_36 => ?_) (fun c_36 => ?_)
      · exact absurd c_36 (by decide)
      · skip
        refine z_iconst (v := 0) X dX8_roomOf_39 (by decide) ?_
        refine z_goto (tgt := 49) X dX8_roomOf_40 (by decide) ?_
        refine z_iret X rfl rfl (Nat.le_refl _) (Nat.le_refl _) dX8_roomOf_49 ?_
        subst hi_2
        (try simp only [zb_0, Classical.not_not] at c_6 c_21 c_36)
        exact ⟨_, rfl, by (first | rfl | (simp only [Int32.lt_irrefl, if_true, if_false, not_true_eq_false, not_false_eq_true, and_true, true_and, and_false, false_and, or_true, true_or, or_false, false_or, and_self, ite_self, zb, q_roomOfV, q_roomOfF, c_6, c_21, c_36, eq_true c_6, eq_true c_21, eq_true c_36]; done) | (simp only [Int32.lt_irrefl, if_true, if_false, not_true_eq_false, not_false_eq_true, and_true, true_and, and_false, false_and, or_true, true_or, or_false, false_or, and_self, ite_self, zb, q_roomOfV, q_roomOfF, c_6, c_21, c_36, eq_true c_6, eq_true c_21, eq_true c_36]; rfl)), by (first | rfl | (simp only [Int32.lt_irrefl, if_true, if_false, not_true_eq_false, not_false_eq_true, and_true, true_and, and_false, false_and, or_true, true_or, or_false, false_or, and_self, ite_self, zb, q_roomOfV, q_roomOfF, c_6, c_21, c_36, eq_true c_6, eq_true c_21, eq_true c_36]; done) | (simp only [Int32.lt_irrefl, if_true, if_false, not_true_eq_false, not_false_eq_true, and_true, true_and, and_false, false_and, or_true, true_or, or_false, false_or, and_self, ite_self, zb, q_roomOfV, q_roomOfF, c_6, c_21, c_36, eq_true c_6, eq_true c_21, eq_true c_36]; rfl))⟩
  · skip
    refine z_iconst (v := 1) X dX8_roomOf_9 (by decide) ?_
    refine z_goto (tgt := 29) X dX8_roomOf_10 (by decide) ?_
    refine z_putI (ci := 11) (j := 43) X dX8_roomOf_29 zmm_c1 rfl (by decide) hlk_116 (Or.inl rfl) (Or.inl rfl) (fun _ => rfl) rfl rfl ?_
    obtain ⟨i_3, hi_3⟩ : ∃ q, q = zup i 1 43 1 := ⟨_, rfl⟩
    refine z_mem (M' := zmm i_3 lm) (by rw [hi_3]; rfl) ?_
    refine z_aload_n X 0 dX8_roomOf_32 rfl rfl ?_
    refine z_getI (ci := 11) (j := 43) (x := 1) X dX8_roomOf_33 zmm_c1 rfl (by decide) hlk_116 (Or.inl rfl) (fun _ => rfl) (by show i_3 1 43 = 1; rw [hi_3, zup_s]) ?_
    refine z_if_le X 43 dX8_roomOf_36 (by decide) (fun c_36 => ?_) (fun c_36 => ?_)
    · exact absurd c_36 (by decide)
    · skip
      refine z_iconst (v := 0) X dX8_roomOf_39 (by decide) ?_
      refine z_goto (tgt := 49) X dX8_roomOf_40 (by decide) ?_
      refine z_iret X rfl rfl (Nat.le_refl _) (Nat.le_refl _) dX8_roomOf_49 ?_
      subst hi_3
      (try simp only [zb_0, Classical.not_not] at c_6 c_36)
      exact ⟨_, rfl, by (first | rfl | (simp only [Int32.lt_irrefl, if_true, if_false, not_true_eq_false, not_false_eq_true, and_true, true_and, and_false, false_and, or_true, true_or, or_false, false_or, and_self, ite_self, zb, q_roomOfV, q_roomOfF, c_6, c_36, eq_true c_6, eq_true c_36]; done) | (simp only [Int32.lt_irrefl, if_true, if_false, not_true_eq_false, not_false_eq_true, and_true, true_and, and_false, false_and, or_true, true_or, or_false, false_or, and_self, ite_self, zb, q_roomOfV, q_roomOfF, c_6, c_36, eq_true c_6, eq_true c_36]; rfl)), by (first | rfl | (simp only [Int32.lt_irrefl, if_true, if_false, not_true_eq_false, not_false_eq_true, and_true, true_and, and_false, false_and, or_true, true_or, or_false, false_or, and_self, ite_self, zb, q_roomOfV, q_roomOfF, c_6, c_36, eq_true c_6, eq_true c_36]; done) | (simp only [Int32.lt_irrefl, if_true, if_false, not_true_eq_false, not_false_eq_true, and_true, true_and, and_false, false_and, or_true, true_or, or_false, false_or, and_self, ite_self, zb, q_roomOfV, q_roomOfF, c_6, c_36, eq_true c_6, eq_true c_36]; rfl))⟩

set_option maxRecDepth 100000 in
set_option maxHeartbeats 4000000 in
theorem c_X8_life (l : Launch) (i : Nat → Nat → Int32) (lm : Nat → Nat → Int64) (np : Nat) (hp : i 1 35 = nI np) (h24 : np ≤ 24) (p : Int32) : zS l yX8_life wsX8_life 2 43 0 0 [.ref 1, .int p] (zmm i lm) (zpi (fun rr M1 => rr = q_lifeV i p ∧ M1 = zmm (q_lifeF i p) lm)) zno := by
  refine z_intro (cc := cX8_life) (maxL := 2) (ret := (some .int)) (by decide +kernel) rfl (Nat.le_of_ble_eq_true rfl) ?_
  have hlk_116 : Cond.fieldLink RX8 116 "ColdStoreModel" "thrown" "I" ∈ wsX8_life := by decide +kernel
  have hlk_92 : Cond.fieldLink RX8 92 "ColdStoreModel" "lifeOf" "[I" ∈ wsX8_life := by decide +kernel
  intro g X
  show zE g 2 0 [(0, .ref 1), (1, .int p)] [] (zmm i lm) 0 0
  refine z_aload_n X 0 dX8_life_0 rfl rfl ?_
  refine z_aload_n X 0 dX8_life_1 rfl rfl ?_
  refine z_iload_n X 1 dX8_life_2 rfl rfl ?_
  refine z_callVi (As := [.int p]) (rest := [.ref 1]) (n1 := 1) (ci := 11) X dX8_life_3 (c_X8_isPallet l _ _ p) gX8_life_X8_isPallet rfl rfl (by decide +kernel) ⟨by decide, by decide⟩ zmm_c1 rfl rfl (Nat.le_of_ble_eq_true rfl) ⟨by decide, by decide⟩ (fun _ h => h.elim) ?_
  rintro _ _ ⟨rfl, rfl⟩
  refine z_if_eq X 13 dX8_life_6 (by decide) (fun c_6 => ?_) (fun c_6 => ?_)
  · skip
    refine z_iconst (v := 1) X dX8_life_13 (by decide) ?_
    refine z_putI (ci := 11) (j := 43) X dX8_life_14 zmm_c1 rfl (by decide) hlk_116 (Or.inl rfl) (Or.inl rfl) (fun _ => rfl) rfl rfl ?_
    obtain ⟨i_1, hi_1⟩ : ∃ q, q = zup i 1 43 1 := ⟨_, rfl⟩
    refine z_mem (M' := zmm i_1 lm) (by rw [hi_1]; rfl) ?_
    refine z_aload_n X 0 dX8_life_17 rfl rfl ?_
    refine z_getI (ci := 11) (j := 43) (x := 1) X dX8_life_18 zmm_c1 rfl (by decide) hlk_116 (Or.inl rfl) (fun _ => rfl) (by show i_1 1 43 = 1; rw [hi_1, zup_s]) ?_
    refine z_if_le X 28 dX8_life_21 (by decide) (fun c_21 => ?_) (fun c_21 => ?_)
    · exact absurd c_21 (by decide)
    · skip
      refine z_iconst (v := 0) X dX8_life_24 (by decide) ?_
      refine z_goto (tgt := 34) X dX8_life_25 (by decide) ?_
      refine z_iret X rfl rfl (Nat.le_refl _) (Nat.le_refl _) dX8_life_34 ?_
      subst hi_1
      (try simp only [zb_0, Classical.not_not] at c_6 c_21)
      exact ⟨_, rfl, by (first | rfl | (simp only [Int32.lt_irrefl, if_true, if_false, not_true_eq_false, not_false_eq_true, and_true, true_and, and_false, false_and, or_true, true_or, or_false, false_or, and_self, ite_self, zb, q_lifeV, q_lifeF, c_6, c_21, eq_true c_6, eq_true c_21]; done) | (simp only [Int32.lt_irrefl, if_true, if_false, not_true_eq_false, not_false_eq_true, and_true, true_and, and_false, false_and, or_true, true_or, or_false, false_or, and_self, ite_self, zb, q_lifeV, q_lifeF, c_6, c_21, eq_true c_6, eq_true c_21]; rfl)), by (first | rfl | (simp only [Int32.lt_irrefl, if_true, if_false, not_true_eq_false, not_false_eq_true, and_true, true_and, and_false, false_and, or_true, true_or, or_false, false_or, and_self, ite_self, zb, q_lifeV, q_lifeF, c_6, c_21, eq_true c_6, eq_true c_21]; done) | (simp only [Int32.lt_irrefl, if_true, if_false, not_true_eq_false, not_false_eq_true, and_true, true_and, and_false, false_and, or_true, true_or, or_false, false_or, and_self, ite_self, zb, q_lifeV, q_lifeF, c_6, c_21, eq_true c_6, eq_true c_21]; rfl))⟩
  · skip
    refine z_iconst (v := 0) X dX8_life_9 (by decide) ?_
    refine z_goto (tgt := 14) X dX8_life_10 (by decide) ?_
    refine z_putI (ci := 11) (j := 43) X dX8_life_14 zmm_c1 rfl (by decide) hlk_116 (Or.inl rfl) (Or.inl rfl) (fun _ => rfl) rfl rfl ?_
    obtain ⟨i_2, hi_2⟩ : ∃ q, q = zup i 1 43 0 := ⟨_, rfl⟩
    refine z_mem (M' := zmm i_2 lm) (by rw [hi_2]; rfl) ?_
    refine z_aload_n X 0 dX8_life_17 rfl rfl ?_
    refine z_getI (ci := 11) (j := 43) (x := 0) X dX8_life_18 zmm_c1 rfl (by decide) hlk_116 (Or.inl rfl) (fun _ => rfl) (by show i_2 1 43 = 0; rw [hi_2, zup_s]) ?_
    refine z_if_le X 28 dX8_life_21 (by decide) (fun c_21 => ?_) (fun c_21 => ?_)
    · skip
      refine z_aload_n X 0 dX8_life_28 rfl rfl ?_
      refine z_getR (ci := 11) (j := 33) (o' := 133) X dX8_life_29 zmm_c1 rfl (by decide) hlk_92 (Or.inl rfl) (fun _ => rfl) (zmm_r133) ?_
      refine z_iload_n X 1 dX8_life_32 rfl rfl ?_
      refine z_iald (j := cl p) (x := i 133 (cl p)) X dX8_life_33 zmm_c133 (by rw [zmm_n133]; exact (zin_vp (zb_n0.mp c_6) hp h24 (by decide))) (rfl) (by show i_2 133 (cl p) = (i 133 (cl p)); rw [hi_2, zup_n (by omega)]) ?_
      refine z_iret X rfl rfl (Nat.le_refl _) (Nat.le_refl _) dX8_life_34 ?_
      subst hi_2
      (try simp only [zb_0, Classical.not_not] at c_6 c_21)
      exact ⟨_, rfl, by (first | rfl | (simp only [Int32.lt_irrefl, if_true, if_false, not_true_eq_false, not_false_eq_true, and_true, true_and, and_false, false_and, or_true, true_or, or_false, false_or, and_self, ite_self, zb, q_lifeV, q_lifeF, c_6, c_21, eq_true c_6, eq_true c_21]; done) | (simp only [Int32.lt_irrefl, if_true, if_false, not_true_eq_false, not_false_eq_true, and_true, true_and, and_false, false_and, or_true, true_or, or_false, false_or, and_self, ite_self, zb, q_lifeV, q_lifeF, c_6, c_21, eq_true c_6, eq_true c_21]; rfl)), by (first | rfl | (simp only [Int32.lt_irrefl, if_true, if_false, not_true_eq_false, not_false_eq_true, and_true, true_and, and_false, false_and, or_true, true_or, or_false, false_or, and_self, ite_self, zb, q_lifeV, q_lifeF, c_6, c_21, eq_true c_6, eq_true c_21]; done) | (simp only [Int32.lt_irrefl, if_true, if_false, not_true_eq_false, not_false_eq_true, and_true, true_and, and_false, false_and, or_true, true_or, or_false, false_or, and_self, ite_self, zb, q_lifeV, q_lifeF, c_6, c_21, eq_true c_6, eq_true c_21]; rfl))⟩
    · exact absurd c_21 (by decide)

set_option maxRecDepth 100000 in
set_option maxHeartbeats 4000000 in
theorem c_X8_lifeByRecords (l : Launch) (i : Nat → Nat → Int32) (lm : Nat → Nat → Int64) (np : Nat) (hp : i 1 35 = nI np) (h24 : np ≤ 24) (p : Int32) : zS l yX8_lifeByRecords wsX8_lifeByRecords 3 64 0 0 [.ref 1, .int p] (zmm i lm) (zpi (fun rr M1 => rr = q_lifeByRecordsV i p ∧ M1 = zmm (q_lifeByRecordsF i p) lm)) zno := by
  refine z_intro (cc := cX8_lifeByRecords) (maxL := 2) (ret := (some .int)) (by decide +kernel) rfl (Nat.le_of_ble_eq_true rfl) ?_
  intro g X
  show zE g 2 0 [(0, .ref 1), (1, .int p)] [] (zmm i lm) 0 0
  refine z_aload_n X 0 dX8_lifeByRecords_0 rfl rfl ?_
  refine z_iload_n X 1 dX8_lifeByRecords_1 rfl rfl ?_
  refine z_callVi (As := [.int p]) (rest := []) (n1 := 1) (ci := 11) X dX8_lifeByRecords_2 (c_X8_life l _ _ np hp h24 p) gX8_lifeByRecords_X8_life rfl rfl (by decide +kernel) ⟨by decide, by decide⟩ zmm_c1 rfl rfl (Nat.le_of_ble_eq_true rfl) ⟨by decide, by decide⟩ (fun _ h => h.elim) ?_
  rintro _ _ ⟨rfl, rfl⟩
  refine z_iret X rfl rfl (Nat.le_refl _) (Nat.le_refl _) dX8_lifeByRecords_5 ?_
  skip
  exact ⟨_, rfl, by (first | rfl | (simp only [Int32.lt_irrefl, if_true, if_false, not_true_eq_false, not_false_eq_true, and_true, true_and, and_false, false_and, or_true, true_or, or_false, false_or, and_self, ite_self, zb, q_lifeByRecordsV, q_lifeByRecordsF]; done) | (simp only [Int32.lt_irrefl, if_true, if_false, not_true_eq_false, not_false_eq_true, and_true, true_and, and_false, false_and, or_true, true_or, or_false, false_or, and_self, ite_self, zb, q_lifeByRecordsV, q_lifeByRecordsF]; rfl)), by (first | rfl | (simp only [Int32.lt_irrefl, if_true, if_false, not_true_eq_false, not_false_eq_true, and_true, true_and, and_false, false_and, or_true, true_or, or_false, false_or, and_self, ite_self, zb, q_lifeByRecordsV, q_lifeByRecordsF]; done) | (simp only [Int32.lt_irrefl, if_true, if_false, not_true_eq_false, not_false_eq_true, and_true, true_and, and_false, false_and, or_true, true_or, or_false, false_or, and_self, ite_self, zb, q_lifeByRecordsV, q_lifeByRecordsF]; rfl))⟩
