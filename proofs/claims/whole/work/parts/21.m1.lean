set_option maxRecDepth 100000 in
set_option maxHeartbeats 4000000 in
theorem c_X8_in (l : Launch) (M : zMem) (v lo hi : Int32) : zS l yX8_in wsX8_in 0 0 0 0 [.int v, .int lo, .int hi] M (zpi (fun r M1 => r = zb (zin v lo hi) ∧ M1 = M)) zno := by
  refine z_intro (cc := cX8_in) (maxL := 3) (ret := (some .boolean)) (by decide +kernel) rfl (Nat.le_of_ble_eq_true rfl) ?_
  intro g X
  show zE g 3 0 [(0, .int v), (1, .int lo), (2, .int hi)] [] M 0 0
  refine z_iload_n X 0 dX8_in_0 rfl rfl ?_
  refine z_iload_n X 1 dX8_in_1 rfl rfl ?_
  refine z_icmp_lt X 14 dX8_in_2 (by decide) (fun c_2 => ?_) (fun c_2 => ?_)
  · skip
    refine z_iconst (v := 0) X dX8_in_14 (by decide) ?_
    refine z_iret X rfl (rfl) (Nat.le_refl _) (Nat.le_refl _) dX8_in_15 ?_
    exact ⟨_, rfl, by simp [zb, c_2], rfl⟩
  · skip
    refine z_iload_n X 0 dX8_in_5 rfl rfl ?_
    refine z_iload_n X 2 dX8_in_6 rfl rfl ?_
    refine z_icmp_gt X 14 dX8_in_7 (by decide) (fun c_7 => ?_) (fun c_7 => ?_)
    · skip
      refine z_iconst (v := 0) X dX8_in_14 (by decide) ?_
      refine z_iret X rfl (rfl) (Nat.le_refl _) (Nat.le_refl _) dX8_in_15 ?_
      exact ⟨_, rfl, by simp [zb, c_2, c_7], rfl⟩
    · skip
      refine z_iconst (v := 1) X dX8_in_10 (by decide) ?_
      refine z_goto (tgt := 15) X dX8_in_11 (by decide) ?_
      refine z_iret X rfl (rfl) (Nat.le_refl _) (Nat.le_refl _) dX8_in_15 ?_
      exact ⟨_, rfl, by simp [zb, c_2, c_7], rfl⟩

set_option maxRecDepth 100000 in
set_option maxHeartbeats 4000000 in
theorem c_X8_isRoom (l : Launch) (i : Nat → Nat → Int32) (lm : Nat → Nat → Int64) (r : Int32) : zS l yX8_isRoom wsX8_isRoom 1 22 0 0 [.ref 1, .int r] (zmm i lm) (zpi (fun x M1 => x = zb (zin r 0 (i 1 17 - 1)) ∧ M1 = zmm i lm)) zno := by
  refine z_intro (cc := cX8_isRoom) (maxL := 2) (ret := (some .boolean)) (by decide +kernel) rfl (Nat.le_of_ble_eq_true rfl) ?_
  have hlk_119 : Cond.fieldLink RX8 119 "ColdStoreModel" "rooms" "I" ∈ wsX8_isRoom := by decide +kernel
  intro g X
  show zE g 2 0 [(0, .ref 1), (1, .int r)] [] (zmm i lm) 0 0
  refine z_iload_n X 1 dX8_isRoom_0 rfl rfl ?_
  refine z_iconst (v := 0) X dX8_isRoom_1 (by decide) ?_
  refine z_aload_n X 0 dX8_isRoom_2 rfl rfl ?_
  refine z_getI (ci := 11) (j := 17) (x := i 1 17) X dX8_isRoom_3 zmm_c1 rfl (by decide) hlk_119 (Or.inl rfl) (fun _ => rfl) (rfl) ?_
  refine z_iconst (v := 1) X dX8_isRoom_6 (by decide) ?_
  refine z_isub X dX8_isRoom_7 ?_
  refine z_callSi (As := [.int r, .int 0, .int ((i 1 17) - 1)]) (rest := []) (n1 := 3) X dX8_isRoom_8 (c_X8_in l _ r 0 ((i 1 17) - 1)) gX8_isRoom_X8_in rfl rfl (by decide +kernel) ⟨by decide, by decide⟩ rfl (Nat.le_of_ble_eq_true rfl) ⟨by decide, by decide⟩ (fun _ h => h.elim) ?_
  rintro _ _ ⟨rfl, rfl⟩
  refine z_iret X rfl (zb_nar) (Nat.le_refl _) (Nat.le_refl _) dX8_isRoom_11 ?_
  exact ⟨_, rfl, rfl, rfl⟩

set_option maxRecDepth 100000 in
set_option maxHeartbeats 4000000 in
theorem c_X8_isPallet (l : Launch) (i : Nat → Nat → Int32) (lm : Nat → Nat → Int64) (r : Int32) : zS l yX8_isPallet wsX8_isPallet 1 22 0 0 [.ref 1, .int r] (zmm i lm) (zpi (fun x M1 => x = zb (zin r 0 (i 1 35 - 1)) ∧ M1 = zmm i lm)) zno := by
  refine z_intro (cc := cX8_isPallet) (maxL := 2) (ret := (some .boolean)) (by decide +kernel) rfl (Nat.le_of_ble_eq_true rfl) ?_
  have hlk_126 : Cond.fieldLink RX8 126 "ColdStoreModel" "pallets" "I" ∈ wsX8_isPallet := by decide +kernel
  intro g X
  show zE g 2 0 [(0, .ref 1), (1, .int r)] [] (zmm i lm) 0 0
  refine z_iload_n X 1 dX8_isPallet_0 rfl rfl ?_
  refine z_iconst (v := 0) X dX8_isPallet_1 (by decide) ?_
  refine z_aload_n X 0 dX8_isPallet_2 rfl rfl ?_
  refine z_getI (ci := 11) (j := 35) (x := i 1 35) X dX8_isPallet_3 zmm_c1 rfl (by decide) hlk_126 (Or.inl rfl) (fun _ => rfl) (rfl) ?_
  refine z_iconst (v := 1) X dX8_isPallet_6 (by decide) ?_
  refine z_isub X dX8_isPallet_7 ?_
  refine z_callSi (As := [.int r, .int 0, .int ((i 1 35) - 1)]) (rest := []) (n1 := 3) X dX8_isPallet_8 (c_X8_in l _ r 0 ((i 1 35) - 1)) gX8_isPallet_X8_in rfl rfl (by decide +kernel) ⟨by decide, by decide⟩ rfl (Nat.le_of_ble_eq_true rfl) ⟨by decide, by decide⟩ (fun _ h => h.elim) ?_
  rintro _ _ ⟨rfl, rfl⟩
  refine z_iret X rfl (zb_nar) (Nat.le_refl _) (Nat.le_refl _) dX8_isPallet_11 ?_
  exact ⟨_, rfl, rfl, rfl⟩

set_option maxRecDepth 100000 in
set_option maxHeartbeats 4000000 in
theorem c_X8_isOrder (l : Launch) (i : Nat → Nat → Int32) (lm : Nat → Nat → Int64) (r : Int32) : zS l yX8_isOrder wsX8_isOrder 1 22 0 0 [.ref 1, .int r] (zmm i lm) (zpi (fun x M1 => x = zb (zin r 0 (i 1 42 - 1)) ∧ M1 = zmm i lm)) zno := by
  refine z_intro (cc := cX8_isOrder) (maxL := 2) (ret := (some .boolean)) (by decide +kernel) rfl (Nat.le_of_ble_eq_true rfl) ?_
  have hlk_129 : Cond.fieldLink RX8 129 "ColdStoreModel" "orders" "I" ∈ wsX8_isOrder := by decide +kernel
  intro g X
  show zE g 2 0 [(0, .ref 1), (1, .int r)] [] (zmm i lm) 0 0
  refine z_iload_n X 1 dX8_isOrder_0 rfl rfl ?_
  refine z_iconst (v := 0) X dX8_isOrder_1 (by decide) ?_
  refine z_aload_n X 0 dX8_isOrder_2 rfl rfl ?_
  refine z_getI (ci := 11) (j := 42) (x := i 1 42) X dX8_isOrder_3 zmm_c1 rfl (by decide) hlk_129 (Or.inl rfl) (fun _ => rfl) (rfl) ?_
  refine z_iconst (v := 1) X dX8_isOrder_6 (by decide) ?_
  refine z_isub X dX8_isOrder_7 ?_
  refine z_callSi (As := [.int r, .int 0, .int ((i 1 42) - 1)]) (rest := []) (n1 := 3) X dX8_isOrder_8 (c_X8_in l _ r 0 ((i 1 42) - 1)) gX8_isOrder_X8_in rfl rfl (by decide +kernel) ⟨by decide, by decide⟩ rfl (Nat.le_of_ble_eq_true rfl) ⟨by decide, by decide⟩ (fun _ h => h.elim) ?_
  rintro _ _ ⟨rfl, rfl⟩
  refine z_iret X rfl (zb_nar) (Nat.le_refl _) (Nat.le_refl _) dX8_isOrder_11 ?_
  exact ⟨_, rfl, rfl, rfl⟩

set_option maxRecDepth 100000 in
set_option maxHeartbeats 4000000 in
theorem c_X8_thrown (l : Launch) (i : Nat → Nat → Int32) (lm : Nat → Nat → Int64) : zS l yX8_thrown wsX8_thrown 0 0 0 0 [.ref 1] (zmm i lm) (zpi (fun x M1 => x = i 1 43 ∧ M1 = zmm i lm)) zno := by
  refine z_intro (cc := cX8_thrown) (maxL := 1) (ret := (some .int)) (by decide +kernel) rfl (Nat.le_of_ble_eq_true rfl) ?_
  have hlk_116 : Cond.fieldLink RX8 116 "ColdStoreModel" "thrown" "I" ∈ wsX8_thrown := by decide +kernel
  intro g X
  show zE g 1 0 [(0, .ref 1)] [] (zmm i lm) 0 0
  refine z_aload_n X 0 dX8_thrown_0 rfl rfl ?_
  refine z_getI (ci := 11) (j := 43) (x := i 1 43) X dX8_thrown_1 zmm_c1 rfl (by decide) hlk_116 (Or.inl rfl) (fun _ => rfl) (rfl) ?_
  refine z_iret X rfl rfl (Nat.le_refl _) (Nat.le_refl _) dX8_thrown_4 ?_
  exact ⟨_, rfl, rfl, rfl⟩

set_option maxRecDepth 100000 in
set_option maxHeartbeats 4000000 in
theorem c_X8_raises (l : Launch) (i : Nat → Nat → Int32) (lm : Nat → Nat → Int64) (x : Int32) : zS l yX8_raises wsX8_raises 0 0 0 0 [.ref 1, .int x] (zmm i lm) (zpi (fun r M1 => r = 0 ∧ M1 = zmm (zup i 1 43 x) lm)) zno := by
  refine z_intro (cc := cX8_raises) (maxL := 2) (ret := (some .int)) (by decide +kernel) rfl (Nat.le_of_ble_eq_true rfl) ?_
  have hlk_116 : Cond.fieldLink RX8 116 "ColdStoreModel" "thrown" "I" ∈ wsX8_raises := by decide +kernel
  intro g X
  show zE g 2 0 [(0, .ref 1), (1, .int x)] [] (zmm i lm) 0 0
  refine z_aload_n X 0 dX8_raises_0 rfl rfl ?_
  refine z_iload_n X 1 dX8_raises_1 rfl rfl ?_
  refine z_putI (ci := 11) (j := 43) X dX8_raises_2 zmm_c1 rfl (by decide) hlk_116 (Or.inl rfl) (Or.inl rfl) (fun _ => rfl) rfl rfl ?_
  obtain ⟨i_1, hi_1⟩ : ∃ q, q = zup i 1 43 x := ⟨_, rfl⟩
  refine z_mem (M' := zmm i_1 lm) (by rw [hi_1]; rfl) ?_
  refine z_iconst (v := 0) X dX8_raises_5 (by decide) ?_
  refine z_iret X rfl rfl (Nat.le_refl _) (Nat.le_refl _) dX8_raises_6 ?_
  subst hi_1
  exact ⟨_, rfl, rfl, rfl⟩

set_option maxRecDepth 100000 in
set_option maxHeartbeats 4000000 in
theorem c_X8_isPeak (l : Launch) (i : Nat → Nat → Int32) (lm : Nat → Nat → Int64) : zS l yX8_isPeak wsX8_isPeak 1 22 0 0 [.ref 1] (zmm i lm) (zpi (fun x M1 => x = zb (mPeak i) ∧ M1 = zmm i lm)) zno := by
  refine z_intro (cc := cX8_isPeak) (maxL := 1) (ret := (some .boolean)) (by decide +kernel) rfl (Nat.le_of_ble_eq_true rfl) ?_
  have hlk_68 : Cond.fieldLink RX8 68 "ColdStoreModel" "first" "I" ∈ wsX8_isPeak := by decide +kernel
  have hlk_132 : Cond.fieldLink RX8 132 "ColdStoreModel" "time" "I" ∈ wsX8_isPeak := by decide +kernel
  have hlk_71 : Cond.fieldLink RX8 71 "ColdStoreModel" "last" "I" ∈ wsX8_isPeak := by decide +kernel
  intro g X
  show zE g 1 0 [(0, .ref 1)] [] (zmm i lm) 0 0
  refine z_aload_n X 0 dX8_isPeak_0 rfl rfl ?_
  refine z_getI (ci := 11) (j := 20) (x := i 1 20) X dX8_isPeak_1 zmm_c1 rfl (by decide) hlk_68 (Or.inl rfl) (fun _ => rfl) (rfl) ?_
  refine z_iconst (v := (-1)) X dX8_isPeak_4 (by decide) ?_
  refine z_icmp_eq X 33 dX8_isPeak_5 (by decide) (fun c_5 => ?_) (fun c_5 => ?_)
  · skip
    refine z_iconst (v := 0) X dX8_isPeak_33 (by decide) ?_
    refine z_iret X rfl (rfl) (Nat.le_refl _) (Nat.le_refl _) dX8_isPeak_34 ?_
    exact ⟨_, rfl, by (try simp only [zb_0, Classical.not_not] at c_5); simp [zb, mPeak, mq, c_5], rfl⟩
  · skip
    refine z_aload_n X 0 dX8_isPeak_8 rfl rfl ?_
    refine z_getI (ci := 11) (j := 0) (x := i 1 0) X dX8_isPeak_9 zmm_c1 rfl (by decide) hlk_132 (Or.inl rfl) (fun _ => rfl) (rfl) ?_
    refine z_bipush (v := 96) X dX8_isPeak_12 (by decide) ?_
    refine z_irem X dX8_isPeak_14 (by decide) ?_
    refine z_aload_n X 0 dX8_isPeak_15 rfl rfl ?_
    refine z_getI (ci := 11) (j := 20) (x := i 1 20) X dX8_isPeak_16 zmm_c1 rfl (by decide) hlk_68 (Or.inl rfl) (fun _ => rfl) (rfl) ?_
    refine z_aload_n X 0 dX8_isPeak_19 rfl rfl ?_
    refine z_getI (ci := 11) (j := 21) (x := i 1 21) X dX8_isPeak_20 zmm_c1 rfl (by decide) hlk_71 (Or.inl rfl) (fun _ => rfl) (rfl) ?_
    refine z_callSi (As := [.int ((i 1 0) - (i 1 0) / 96 * 96), .int (i 1 20), .int (i 1 21)]) (rest := []) (n1 := 3) X dX8_isPeak_23 (c_X8_in l _ ((i 1 0) - (i 1 0) / 96 * 96) (i 1 20) (i 1 21)) gX8_isPeak_X8_in rfl rfl (by decide +kernel) ⟨by decide, by decide⟩ rfl (Nat.le_of_ble_eq_true rfl) ⟨by decide, by decide⟩ (fun _ h => h.elim) ?_
    rintro _ _ ⟨rfl, rfl⟩
    refine z_if_eq X 33 dX8_isPeak_26 (by decide) (fun c_26 => ?_) (fun c_26 => ?_)
    · skip
      refine z_iconst (v := 0) X dX8_isPeak_33 (by decide) ?_
      refine z_iret X rfl (rfl) (Nat.le_refl _) (Nat.le_refl _) dX8_isPeak_34 ?_
      exact ⟨_, rfl, by (try simp only [zb_0, Classical.not_not] at c_5 c_26); simp [zb, mPeak, mq, c_5, c_26], rfl⟩
    · skip
      refine z_iconst (v := 1) X dX8_isPeak_29 (by decide) ?_
      refine z_goto (tgt := 34) X dX8_isPeak_30 (by decide) ?_
      refine z_iret X rfl (rfl) (Nat.le_refl _) (Nat.le_refl _) dX8_isPeak_34 ?_
      exact ⟨_, rfl, by (try simp only [zb_0, Classical.not_not] at c_5 c_26); simp [zb, mPeak, mq, c_5, c_26], rfl⟩
