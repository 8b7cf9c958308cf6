set_option maxRecDepth 100000 in
set_option maxHeartbeats 4000000 in
theorem c_X8_loss2 (l : Launch) (i : Nat → Nat → Int32) (lm : Nat → Nat → Int64) (p : Int32) (t : Int32) (h24 : vp_in p 24) (h5 : vp_in (i 131 (cl p)) 5) : zS l yX8_loss wsX8_loss 1 21 0 0 [.ref 1, .int p, .int t] (zmm i lm) (zpi (fun x M1 => x = m_loss i (cl p) t ∧ M1 = zmm i lm)) zno := by
  refine z_intro (cc := cX8_loss) (maxL := 4) (ret := (some .int)) (by decide +kernel) rfl (Nat.le_of_ble_eq_true rfl) ?_
  have hlk_86 : Cond.fieldLink RX8 86 "ColdStoreModel" "kindOf" "[I" ∈ wsX8_loss := by decide +kernel
  have hlk_83 : Cond.fieldLink RX8 83 "ColdStoreModel" "lowests" "[I" ∈ wsX8_loss := by decide +kernel
  have hlk_80 : Cond.fieldLink RX8 80 "ColdStoreModel" "bests" "[I" ∈ wsX8_loss := by decide +kernel
  intro g X
  show zE g 4 0 [(0, .ref 1), (1, .int p), (2, .int t)] [] (zmm i lm) 0 0
  refine z_aload_n X 0 dX8_loss_0 rfl rfl ?_
  refine z_getR (ci := 11) (j := 31) (o' := 131) X dX8_loss_1 zmm_c1 rfl (by decide) hlk_86 (Or.inl rfl) (fun _ => rfl) (zmm_r131) ?_
  refine z_iload_n X 1 dX8_loss_4 rfl rfl ?_
  refine z_iald (j := cl p) (x := i 131 (cl p)) X dX8_loss_5 zmm_c131 (by rw [zmm_n131]; exact h24) (rfl) (rfl) ?_
  refine z_istore_n (ls' := [(3, .int (i 131 (cl p))), (0, .ref 1), (1, .int p), (2, .int t)]) X dX8_loss_6 rfl (by decide) rfl ?_
  refine z_iload_n X 3 dX8_loss_7 rfl rfl ?_
  refine z_aload_n X 1 dX8_loss_8 rfl rfl ?_
  refine z_getR (ci := 11) (j := 29) (o' := 129) X dX8_loss_9 zmm_c1 rfl (by decide) hlk_83 (Or.inl rfl) (fun _ => rfl) (zmm_r129) ?_
  refine z_iload_n X 0 dX8_loss_12 rfl rfl ?_
  refine z_iald (j := cl (i 131 (cl p))) (x := i 129 (cl (i 131 (cl p)))) X dX8_loss_13 zmm_c129 (by rw [zmm_n129]; exact h5) (rfl) (rfl) ?_
  refine z_icmp_ge X 20 dX8_loss_14 (by decide) (fun c_14 => ?_) (fun c_14 => ?_)
  · skip
    refine z_iconst (v := 1) X dX8_loss_20 (by decide) ?_
    refine z_iconst (v := 0) X dX8_loss_21 (by decide) ?_
    refine z_iload_n X 3 dX8_loss_22 rfl rfl ?_
    refine z_aload_n X 1 dX8_loss_23 rfl rfl ?_
    refine z_getR (ci := 11) (j := 28) (o' := 128) X dX8_loss_24 zmm_c1 rfl (by decide) hlk_80 (Or.inl rfl) (fun _ => rfl) (zmm_r128) ?_
    refine z_iload_n X 0 dX8_loss_27 rfl rfl ?_
    refine z_iald (j := cl (i 131 (cl p))) (x := i 128 (cl (i 131 (cl p)))) X dX8_loss_28 zmm_c128 (by rw [zmm_n128]; exact h5) (rfl) (rfl) ?_
    refine z_isub X dX8_loss_29 ?_
    refine z_mmax X dX8_loss_30 (by decide +kernel) (by decide +kernel) (by decide +kernel) (by decide +kernel) (by decide) (Nat.le_of_ble_eq_true rfl) (by decide) (by decide) ?_
    refine z_bipush (v := 20) X dX8_loss_33 (by decide) ?_
    refine z_idiv X dX8_loss_35 (by decide) ?_
    refine z_iadd X dX8_loss_36 ?_
    refine z_iret X rfl rfl (Nat.le_refl _) (Nat.le_refl _) dX8_loss_37 ?_
    (try simp only [zb_0, Classical.not_not] at c_14)
    exact ⟨_, rfl, by (first | rfl | (simp only [Int32.lt_irrefl, if_true, if_false, not_true_eq_false, not_false_eq_true, and_true, true_and, and_false, false_and, or_true, true_or, or_false, false_or, and_self, ite_self, zb, m_loss, c_14, eq_true c_14]; done) | (simp only [Int32.lt_irrefl, if_true, if_false, not_true_eq_false, not_false_eq_true, and_true, true_and, and_false, false_and, or_true, true_or, or_false, false_or, and_self, ite_self, zb, m_loss, c_14, eq_true c_14]; rfl)), by (first | rfl | (simp only [Int32.lt_irrefl, if_true, if_false, not_true_eq_false, not_false_eq_true, and_true, true_and, and_false, false_and, or_true, true_or, or_false, false_or, and_self, ite_self, zb, m_loss, c_14, eq_true c_14]; done) | (simp only [Int32.lt_irrefl, if_true, if_false, not_true_eq_false, not_false_eq_true, and_true, true_and, and_false, false_and, or_true, true_or, or_false, false_or, and_self, ite_self, zb, m_loss, c_14, eq_true c_14]; rfl))⟩
  · skip
    refine z_bipush (v := 10) X dX8_loss_17 (by decide) ?_
    refine z_iret X rfl rfl (Nat.le_refl _) (Nat.le_refl _) dX8_loss_19 ?_
    (try simp only [zb_0, Classical.not_not] at c_14)
    exact ⟨_, rfl, by (first | rfl | (simp only [Int32.lt_irrefl, if_true, if_false, not_true_eq_false, not_false_eq_true, and_true, true_and, and_false, false_and, or_true, true_or, or_false, false_or, and_self, ite_self, zb, m_loss, c_14, eq_true c_14]; done) | (simp only [Int32.lt_irrefl, if_true, if_false, not_true_eq_false, not_false_eq_true, and_true, true_and, and_false, false_and, or_true, true_or, or_false, false_or, and_self, ite_self, zb, m_loss, c_14, eq_true c_14]; rfl)), by (first | rfl | (simp only [Int32.lt_irrefl, if_true, if_false, not_true_eq_false, not_false_eq_true, and_true, true_and, and_false, false_and, or_true, true_or, or_false, false_or, and_self, ite_self, zb, m_loss, c_14, eq_true c_14]; done) | (simp only [Int32.lt_irrefl, if_true, if_false, not_true_eq_false, not_false_eq_true, and_true, true_and, and_false, false_and, or_true, true_or, or_false, false_or, and_self, ite_self, zb, m_loss, c_14, eq_true c_14]; rfl))⟩

set_option maxRecDepth 100000 in
set_option maxHeartbeats 4000000 in
theorem c_X8_meanTemperature (l : Launch) (i : Nat → Nat → Int32) (lm : Nat → Nat → Int64) (nr : Nat) (hn : i 1 17 = nI nr) (h4 : nr ≤ 4) (r : Int32) : zS l yX8_meanTemperature wsX8_meanTemperature 2 43 0 0 [.ref 1, .int r] (zmm i lm) (zpd (fun rr M1 => rr = q_meanTemperatureV i lm r ∧ M1 = zmm (q_meanTemperatureF i r) lm)) zno := by
  refine z_intro (cc := cX8_meanTemperature) (maxL := 2) (ret := (some .double)) (by decide +kernel) rfl (Nat.le_of_ble_eq_true rfl) ?_
  have hlk_59 : Cond.fieldLink RX8 59 "ColdStoreModel" "ticks" "[I" ∈ wsX8_meanTemperature := by decide +kernel
  have hlk_116 : Cond.fieldLink RX8 116 "ColdStoreModel" "thrown" "I" ∈ wsX8_meanTemperature := by decide +kernel
  have hlk_55 : Cond.fieldLink RX8 55 "ColdStoreModel" "tempSums" "[J" ∈ wsX8_meanTemperature := by decide +kernel
  intro g X
  show zE g 2 0 [(0, .ref 1), (1, .int r)] [] (zmm i lm) 0 0
  refine z_aload_n X 0 dX8_meanTemperature_0 rfl rfl ?_
  refine z_aload_n X 0 dX8_meanTemperature_1 rfl rfl ?_
  refine z_iload_n X 1 dX8_meanTemperature_2 rfl rfl ?_
  refine z_callVi (As := [.int r]) (rest := [.ref 1]) (n1 := 1) (ci := 11) X dX8_meanTemperature_3 (c_X8_isRoom l _ _ r) gX8_meanTemperature_X8_isRoom rfl rfl (by decide +kernel) ⟨by decide, by decide⟩ zmm_c1 rfl rfl (Nat.le_of_ble_eq_true rfl) ⟨by decide, by decide⟩ (fun _ h => h.elim) ?_
  rintro _ _ ⟨rfl, rfl⟩
  refine z_if_ne X 13 dX8_meanTemperature_6 (by decide) (fun c_6 => ?_) (fun c_6 => ?_)
  · skip
    refine z_aload_n X 0 dX8_meanTemperature_13 rfl rfl ?_
    refine z_getR (ci := 11) (j := 16) (o' := 116) X dX8_meanTemperature_14 zmm_c1 rfl (by decide) hlk_59 (Or.inl rfl) (fun _ => rfl) (zmm_r116) ?_
    refine z_iload_n X 1 dX8_meanTemperature_17 rfl rfl ?_
    refine z_iald (j := cl r) (x := i 116 (cl r)) X dX8_meanTemperature_18 zmm_c116 (by rw [zmm_n116]; exact (zin_vp (zb_n0.mp c_6) hn h4 (by decide))) (rfl) (rfl) ?_
    refine z_if_ne X 26 dX8_meanTemperature_19 (by decide) (fun c_19 => ?_) (fun c_19 => ?_)
    · skip
      refine z_iconst (v := 0) X dX8_meanTemperature_26 (by decide) ?_
      refine z_putI (ci := 11) (j := 43) X dX8_meanTemperature_27 zmm_c1 rfl (by decide) hlk_116 (Or.inl rfl) (Or.inl rfl) (fun _ => rfl) rfl rfl ?_
      obtain ⟨i_1, hi_1⟩ : ∃ q, q = zup i 1 43 0 := ⟨_, rfl⟩
      refine z_mem (M' := zmm i_1 lm) (by rw [hi_1]; rfl) ?_
      refine z_aload_n X 0 dX8_meanTemperature_30 rfl rfl ?_
      refine z_getI (ci := 11) (j := 43) (x := 0) X dX8_meanTemperature_31 zmm_c1 rfl (by decide) hlk_116 (Or.inl rfl) (fun _ => rfl) (by show i_1 1 43 = 0; rw [hi_1, zup_s]) ?_
      refine z_if_le X 41 dX8_meanTemperature_34 (by decide) (fun c_34 => ?_) (fun c_34 => ?_)
      · skip
        refine z_aload_n X 0 dX8_meanTemperature_41 rfl rfl ?_
        refine z_getR (ci := 11) (j := 15) (o' := 115) X dX8_meanTemperature_42 zmm_c1 rfl (by decide) hlk_55 (Or.inl rfl) (fun _ => rfl) (zmm_r115) ?_
        refine z_iload_n X 1 dX8_meanTemperature_45 rfl rfl ?_
        refine z_lald (j := cl r) (x := lm 115 (cl r)) X dX8_meanTemperature_46 zmm_c115 (by rw [zmm_n115]; exact (zin_vp (zb_n0.mp c_6) hn h4 (by decide))) (rfl) (rfl) ?_
        refine z_l2d X dX8_meanTemperature_47 ?_
        refine z_aload_n X 0 dX8_meanTemperature_48 rfl rfl ?_
        refine z_getR (ci := 11) (j := 16) (o' := 116) X dX8_meanTemperature_49 zmm_c1 rfl (by decide) hlk_59 (Or.inl rfl) (fun _ => rfl) (zmm_r116) ?_
        refine z_iload_n X 1 dX8_meanTemperature_52 rfl rfl ?_
        refine z_iald (j := cl r) (x := i 116 (cl r)) X dX8_meanTemperature_53 zmm_c116 (by rw [zmm_n116]; exact (zin_vp (zb_n0.mp c_6) hn h4 (by decide))) (rfl) (by show i_1 116 (cl r) = (i 116 (cl r)); rw [hi_1, zup_n (by omega)]) ?_
        refine z_i2d X dX8_meanTemperature_54 ?_
        refine z_ddiv X dX8_meanTemperature_55 (zf_mean _ c_19) ?_
        refine z_dret X rfl (Nat.le_refl _) (Nat.le_refl _) dX8_meanTemperature_56 ?_
        subst hi_1
        (try simp only [zb_0, Classical.not_not] at c_6 c_19 c_34)
        exact ⟨_, rfl, by (first | rfl | (simp only [Int32.lt_irrefl, if_true, if_false, not_true_eq_false, not_false_eq_true, and_true, true_and, and_false, false_and, or_true, true_or, or_false, false_or, and_self, ite_self, zb, q_meanTemperatureV, q_meanTemperatureF, c_6, c_19, c_34, eq_true c_6, eq_true c_19, eq_true c_34]; done) | (simp only [Int32.lt_irrefl, if_true, if_false, not_true_eq_false, not_false_eq_true, and_true, true_and, and_false, false_and, or_true, true_or, or_false, false_or, and_self, ite_self, zb, q_meanTemperatureV, q_meanTemperatureF, c_6, c_19, c_34, eq_true c_6, eq_true c_19, eq_true c_34]; rfl)), by (first | rfl | (simp only [Int32.lt_irrefl, if_true, if_false, not_true_eq_false, not_false_eq_true, and_true, true_and, and_false, false_and, or_true, true_or, or_false, false_or, and_self, ite_self, zb, q_meanTemperatureV, q_meanTemperatureF, c_6, c_19, c_34, eq_true c_6, eq_true c_19, eq_true c_34]; done) | (simp only [Int32.lt_irrefl, if_true, if_false, not_true_eq_false, not_false_eq_true, and_true, true_and, and_false, false_and, or_true, true_or, or_false, false_or, and_self, ite_self, zb, q_meanTemperatureV, q_meanTemperatureF, c_6, c_19, c_34, eq_true c_6, eq_true c_19, eq_true c_34]; rfl))⟩
      · exact absurd c_34 (by decide)
    · skip
      refine z_iconst (v := 2) X dX8_meanTemperature_22 (by decide) ?_
      refine z_goto (tgt := 27) X dX8_meanTemperature_23 (by decide) ?_
      refine z_putI (ci := 11) (j := 43) X dX8_meanTemperature_27 zmm_c1 rfl (by decide) hlk_116 (Or.inl rfl) (Or.inl rfl) (fun _ => rfl) rfl rfl ?_
      obtain ⟨i_2, hi_2⟩ : ∃ q, q = zup i 1 43 2 := ⟨_, rfl⟩
      refine z_mem (M' := zmm i_2 lm) (by rw [hi_2]; rfl) ?_
      refine z_aload_n X 0 dX8_meanTemperature_30 rfl rfl ?_
      refine z_getI (ci := 11) (j := 43) (x := 2) X dX8_meanTemperature_31 zmm_c1 rfl (by decide) hlk_116 (Or.inl rfl) (fun _ => rfl) (by show i_2 1 43 = 2; rw [hi_2, zup_s]) ?_
      refine z_if_le X 41 dX8_meanTemperature_34 (by decide) (fun c_34 => ?_) (fun c_34 => ?_)
      · exact absurd c_34 (by decide)
      · skip
        refine z_dconst0 X dX8_meanTemperature_37 ?_
        refine z_goto (tgt := 56) X dX8_meanTemperature_38 (by decide) ?_
        refine z_dret X rfl (Nat.le_refl _) (Nat.le_refl _) dX8_meanTemperature_56 ?_
        subst hi_2
        (try simp only [zb_0, Classical.not_not] at c_6 c_19 c_34)
        exact ⟨_, rfl, by (first | rfl | (simp only [Int32.lt_irrefl, if_true, if_false, not_true_eq_false, not_false_eq_true, and_true, true_and, and_false, false_and, or_true, true_or, or_false, false_or, and_self, ite_self, zb, q_meanTemperatureV, q_meanTemperatureF, c_6, c_19, c_34, eq_true c_6, eq_true c_19, eq_true c_34]; done) | (simp only [Int32.lt_irrefl, if_true, if_false, not_true_eq_false, not_false_eq_true, and_true, true_and, and_false, false_and, or_true, true_or, or_false, false_or, and_self, ite_self, zb, q_meanTemperatureV, q_meanTemperatureF, c_6, c_19, c_34, eq_true c_6, eq_true c_19, eq_true c_34]; rfl)), by (first | rfl | (simp only [Int32.lt_irrefl, if_true, if_false, not_true_eq_false, not_false_eq_true, and_true, true_and, and_false, false_and, or_true, true_or, or_false, false_or, and_self, ite_self, zb, q_meanTemperatureV, q_meanTemperatureF, c_6, c_19, c_34, eq_true c_6, eq_true c_19, eq_true c_34]; done) | (simp only [Int32.lt_irrefl, if_true, if_false, not_true_eq_false, not_false_eq_true, and_true, true_and, and_false, false_and, or_true, true_or, or_false, false_or, and_self, ite_self, zb, q_meanTemperatureV, q_meanTemperatureF, c_6, c_19, c_34, eq_true c_6, eq_true c_19, eq_true c_34]; rfl))⟩
  · skip
    refine z_iconst (v := 1) X dX8_meanTemperature_9 (by decide) ?_
    refine z_goto (tgt := 27) X dX8_meanTemperature_10 (by decide) ?_
    refine z_putI (ci := 11) (j := 43) X dX8_meanTemperature_27 zmm_c1 rfl (by decide) hlk_116 (Or.inl rfl) (Or.inl rfl) (fun _ => rfl) rfl rfl ?_
    obtain ⟨i_3, hi_3⟩ : ∃ q, q = zup i 1 43 1 := ⟨_, rfl⟩
    refine z_mem (M' := zmm i_3 lm) (by rw [hi_3]; rfl) ?_
    refine z_aload_n X 0 dX8_meanTemperature_30 rfl rfl ?_
    refine z_getI (ci := 11) (j := 43) (x := 1) X dX8_meanTemperature_31 zmm_c1 rfl (by decide) hlk_116 (Or.inl rfl) (fun _ => rfl) (by show i_3 1 43 = 1; rw [hi_3, zup_s]) ?_
    refine z_if_le X 41 dX8_meanTemperature_34 (by decide) (fun c_34 => ?_) (fun c_34 => ?_)
    · exact absurd c_34 (by decide)
    · skip
      refine z_dconst0 X dX8_meanTemperature_37 ?_
      refine z_goto (tgt := 56) X dX8_meanTemperature_38 (by decide) ?_
      refine z_dret X rfl (Nat.le_refl _) (Nat.le_refl _) dX8_meanTemperature_56 ?_
      subst hi_3
      (try simp only [zb_0, Classical.not_not] at c_6 c_34)
      exact ⟨_, rfl, by (first | rfl | (simp only [Int32.lt_irrefl, if_true, if_false, not_true_eq_false, not_false_eq_true, and_true, true_and, and_false, false_and, or_true, true_or, or_false, false_or, and_self, ite_self, zb, q_meanTemperatureV, q_meanTemperatureF, c_6, c_34, eq_true c_6, eq_true c_34]; done) | (simp only [Int32.lt_irrefl, if_true, if_false, not_true_eq_false, not_false_eq_true, and_true, true_and, and_false, false_and, or_true, true_or, or_false, false_or, and_self, ite_self, zb, q_meanTemperatureV, q_meanTemperatureF, c_6, c_34, eq_true c_6, eq_true c_34]; rfl)), by (first | rfl | (simp only [Int32.lt_irrefl, if_true, if_false, not_true_eq_false, not_false_eq_true, and_true, true_and, and_false, false_and, or_true, true_or, or_false, false_or, and_self, ite_self, zb, q_meanTemperatureV, q_meanTemperatureF, c_6, c_34, eq_true c_6, eq_true c_34]; done) | (simp only [Int32.lt_irrefl, if_true, if_false, not_true_eq_false, not_false_eq_true, and_true, true_and, and_false, false_and, or_true, true_or, or_false, false_or, and_self, ite_self, zb, q_meanTemperatureV, q_meanTemperatureF, c_6, c_34, eq_true c_6, eq_true c_34]; rfl))⟩

set_option maxRecDepth 100000 in
set_option maxHeartbeats 4000000 in
theorem c_X8_forecast (l : Launch) (i : Nat → Nat → Int32) (lm : Nat → Nat → Int64) (np : Nat) (hp : i 1 35 = nI np) (h24 : np ≤ 24) (p : Int32) (t : Int32) (hpr : ∀ q, q < np → vp_in (i 131 q) 5 ∧ vp_in (i 132 q) 4) : zS l yX8_forecast wsX8_forecast 2 44 0 0 [.ref 1, .int p, .int t] (zmm i lm) (zpi (fun rr M1 => rr = q_forecastV i p t ∧ M1 = zmm (q_forecastF i p t) lm)) zno := by
  refine z_intro (cc := cX8_forecast) (maxL := 3) (ret := (some .int)) (by decide +kernel) rfl (Nat.le_of_ble_eq_true rfl) ?_
  have hlk_95 : Cond.fieldLink RX8 95 "ColdStoreModel" "states" "[C" ∈ wsX8_forecast := by decide +kernel
  have hlk_116 : Cond.fieldLink RX8 116 "ColdStoreModel" "thrown" "I" ∈ wsX8_forecast := by decide +kernel
  have hlk_92 : Cond.fieldLink RX8 92 "ColdStoreModel" "lifeOf" "[I" ∈ wsX8_forecast := by decide +kernel
  have hlk_39 : Cond.fieldLink RX8 39 "ColdStoreModel" "temps" "[I" ∈ wsX8_forecast := by decide +kernel
  have hlk_89 : Cond.fieldLink RX8 89 "ColdStoreModel" "roomOf" "[I" ∈ wsX8_forecast := by decide +kernel
  intro g X
  show zE g 3 0 [(0, .ref 1), (1, .int p), (2, .int t)] [] (zmm i lm) 0 0
  refine z_aload_n X 0 dX8_forecast_0 rfl rfl ?_
  refine z_aload_n X 0 dX8_forecast_1 rfl rfl ?_
  refine z_iload_n X 1 dX8_forecast_2 rfl rfl ?_
  refine z_callVi (As := [.int p]) (rest := [.ref 1]) (n1 := 1) (ci := 11) X dX8_forecast_3 (c_X8_isPallet l _ _ p) gX8_forecast_X8_isPallet rfl rfl (by decide +kernel) ⟨by decide, by decide⟩ zmm_c1 rfl rfl (Nat.le_of_ble_eq_true rfl) ⟨by decide, by decide⟩ (fun _ h => h.elim) ?_
  rintro _ _ ⟨rfl, rfl⟩
  refine z_if_ne X 13 dX8_forecast_6 (by decide) (fun c_6 => ?_) (fun c_6 => ?_)
  · skip
    refine z_aload_n X 0 dX8_forecast_13 rfl rfl ?_
    refine z_getR (ci := 11) (j := 34) (o' := 134) X dX8_forecast_14 zmm_c1 rfl (by decide) hlk_95 (Or.inl rfl) (fun _ => rfl) (zmm_r134) ?_
    refine z_iload_n X 1 dX8_forecast_17 rfl rfl ?_
    refine z_cald (j := cl p) (x := i 134 (cl p)) X dX8_forecast_18 zmm_c134 (by rw [zmm_n134]; exact (zin_vp (zb_n0.mp c_6) hp h24 (by decide))) (rfl) (rfl) ?_
    refine z_bipush (v := 114) X dX8_forecast_19 (by decide) ?_
    refine z_icmp_eq X 28 dX8_forecast_21 (by decide) (fun c_21 => ?_) (fun c_21 => ?_)
    · skip
      refine z_iload_n X 2 dX8_forecast_28 rfl rfl ?_
      refine z_iconst (v := 0) X dX8_forecast_29 (by decide) ?_
      refine z_sipush (v := 960) X dX8_forecast_30 (by decide) ?_
      refine z_callSi (As := [.int t, .int 0, .int 960]) (rest := [.ref 1]) (n1 := 3) X dX8_forecast_33 (c_X8_in l _ t 0 960) gX8_forecast_X8_in rfl rfl (by decide +kernel) ⟨by decide, by decide⟩ rfl (Nat.le_of_ble_eq_true rfl) ⟨by decide, by decide⟩ (fun _ h => h.elim) ?_
      rintro _ _ ⟨rfl, rfl⟩
      refine z_if_ne X 43 dX8_forecast_36 (by decide) (fun c_36 => ?_) (fun c_36 => ?_)
      · skip
        refine z_iconst (v := 0) X dX8_forecast_43 (by decide) ?_
        refine z_putI (ci := 11) (j := 43) X dX8_forecast_44 zmm_c1 rfl (by decide) hlk_116 (Or.inl rfl) (Or.inl rfl) (fun _ => rfl) rfl rfl ?_
        obtain ⟨i_1, hi_1⟩ : ∃ q, q = zup i 1 43 0 := ⟨_, rfl⟩
        refine z_mem (M' := zmm i_1 lm) (by rw [hi_1]; rfl) ?_
        have hrow : ∀ _ : zin p 0 (i 1 35 - 1), vp_in (i 131 (cl p)) 5 ∧ vp_in (i 132 (cl p)) 4 := fun h9 => hpr _ (Nat.not_le.mp fun z => (zin_vp h9 hp (Nat.le_refl np) (by omega)) (Or.inr z))
        refine z_aload_n X 0 dX8_forecast_47 rfl rfl ?_
        refine z_getI (ci := 11) (j := 43) (x := 0) X dX8_forecast_48 zmm_c1 rfl (by decide) hlk_116 (Or.inl rfl) (fun _ => rfl) (by show i_1 1 43 = 0; rw [hi_1, zup_s]) ?_
        refine z_if_le X 58 dX8_forecast_51 (by decide) (fun c_51 => ?_) (fun c_51 => ?_)
        · skip
          refine z_iconst (v := 0) X dX8_forecast_58 (by decide) ?_
          refine z_aload_n X 0 dX8_forecast_59 rfl rfl ?_
          refine z_getR (ci := 11) (j := 33) (o' := 133) X dX8_forecast_60 zmm_c1 rfl (by decide) hlk_92 (Or.inl rfl) (fun _ => rfl) (zmm_r133) ?_
          refine z_iload_n X 1 dX8_forecast_63 rfl rfl ?_
          refine z_iald (j := cl p) (x := i 133 (cl p)) X dX8_forecast_64 zmm_c133 (by rw [zmm_n133]; exact (zin_vp (zb_n0.mp c_6) hp h24 (by decide))) (rfl) (by show i_1 133 (cl p) = (i 133 (cl p)); rw [hi_1, zup_n (by omega)]) ?_
          refine z_iload_n X 2 dX8_forecast_65 rfl rfl ?_
          refine z_aload_n X 0 dX8_forecast_66 rfl rfl ?_
          refine z_iload_n X 1 dX8_forecast_67 rfl rfl ?_
          refine z_aload_n X 0 dX8_forecast_68 rfl rfl ?_
          refine z_getR (ci := 11) (j := 10) (o' := 110) X dX8_forecast_69 zmm_c1 rfl (by decide) hlk_39 (Or.inl rfl) (fun _ => rfl) (zmm_r110) ?_
          refine z_aload_n X 0 dX8_forecast_72 rfl rfl ?_
          refine z_getR (ci := 11) (j := 32) (o' := 132) X dX8_forecast_73 zmm_c1 rfl (by decide) hlk_89 (Or.inl rfl) (fun _ => rfl) (zmm_r132) ?_
          refine z_iload_n X 1 dX8_forecast_76 rfl rfl ?_
          refine z_iald (j := cl p) (x := i 132 (cl p)) X dX8_forecast_77 zmm_c132 (by rw [zmm_n132]; exact (zin_vp (zb_n0.mp c_6) hp h24 (by decide))) (rfl) (by show i_1 132 (cl p) = (i 132 (cl p)); rw [hi_1, zup_n (by omega)]) ?_
          refine z_iald (j := cl (i 132 (cl p))) (x := i 110 (cl (i 132 (cl p)))) X dX8_forecast_78 zmm_c110 (by rw [zmm_n110]; exact (hrow (zb_n0.mp c_6)).2) (rfl) (by show i_1 110 (cl (i 132 (cl p))) = (i 110 (cl (i 132 (cl p)))); rw [hi_1, zup_n (by omega)]) ?_
          refine z_callVi (As := [.int p, .int (i 110 (cl (i 132 (cl p))))]) (rest := [.int t, .int (i 133 (cl p)), .int 0]) (n1 := 2) (ci := 11) X dX8_forecast_79 (c_X8_loss2 l _ _ p (i 110 (cl (i 132 (cl p)))) (zin_vp (zb_n0.mp c_6) hp h24 (by decide)) (by subst hi_1; rw [zup_n (by omega)]; exact (hrow (zb_n0.mp c_6)).1)) gX8_forecast_X8_loss rfl rfl (by decide +kernel) ⟨by decide, by decide⟩ zmm_c1 rfl rfl (Nat.le_of_ble_eq_true rfl) ⟨by decide, by decide⟩ (fun _ h => h.elim) ?_
          rintro _ _ ⟨rfl, rfl⟩
          refine z_imul X dX8_forecast_82 ?_
          refine z_isub X dX8_forecast_83 ?_
          refine z_mmax X dX8_forecast_84 (by decide +kernel) (by decide +kernel) (by decide +kernel) (by decide +kernel) (by decide) (Nat.le_of_ble_eq_true rfl) (by decide) (by decide) ?_
          refine z_iret X rfl rfl (Nat.le_refl _) (Nat.le_refl _) dX8_forecast_87 ?_
          subst hi_1
          (try simp only [zb_0, Classical.not_not] at c_6 c_21 c_36 c_51)
          exact ⟨_, rfl, by (first | rfl | (simp only [Int32.lt_irrefl, if_true, if_false, not_true_eq_false, not_false_eq_true, and_true, true_and, and_false, false_and, or_true, true_or, or_false, false_or, and_self, ite_self, zb, q_forecastV, q_forecastF, c_6, c_21, c_36, c_51, eq_true c_6, eq_true c_21, eq_true c_36, eq_true c_51]; done) | (simp only [Int32.lt_irrefl, if_true, if_false, not_true_eq_false, not_false_eq_true, and_true, true_and, and_false, false_and, or_true, true_or, or_false, false_or, and_self, ite_self, zb, q_forecastV, q_forecastF, c_6, c_21, c_36, c_51, eq_true c_6, eq_true c_21, eq_true c_36, eq_true c_51]; rfl)), by (first | rfl | (simp only [Int32.lt_irrefl, if_true, if_false, not_true_eq_false, not_false_eq_true, and_true, true_and, and_false, false_and, or_true, true_or, or_false, false_or, and_self, ite_self, zb, q_forecastV, q_forecastF, c_6, c_21, c_36, c_51, eq_true c_6, eq_true c_21, eq_true c_36, eq_true c_51]; done) | (simp only [Int32.lt_irrefl, if_true, if_false, not_true_eq_false, not_false_eq_true, and_true, true_and, and_false, false_and, or_true, true_or, or_false, false_or, and_self, ite_self, zb, q_forecastV, q_forecastF, c_6, c_21, c_36, c_51, eq_true c_6, eq_true c_21, eq_true c_36, eq_true c_51]; rfl))⟩
        · exact absurd c_51 (by decide)
      · skip
        refine z_iconst (v := 3) X dX8_forecast_39 (by decide) ?_
        refine z_goto (tgt := 44) X dX8_forecast_40 (by decide) ?_
        refine z_putI (ci := 11) (j := 43) X dX8_forecast_44 zmm_c1 rfl (by decide) hlk_116 (Or.inl rfl) (Or.inl rfl) (fun _ => rfl) rfl rfl ?_
        obtain ⟨i_2, hi_2⟩ : ∃ q, q = zup i 1 43 3 := ⟨_, rfl⟩
        refine z_mem (M' := zmm i_2 lm) (by rw [hi_2]; rfl) ?_
        have hrow : ∀ _ : zin p 0 (i 1 35 - 1), vp_in (i 131 (cl p)) 5 ∧ vp_in (i 132 (cl p)) 4 := fun h9 => hpr _ (Nat.not_le.mp fun z => (zin_vp h9 hp (Nat.le_refl np) (by omega)) (Or.inr z))
        refine z_aload_n X 0 dX8_forecast_47 rfl rfl ?_
        refine z_getI (ci := 11) (j := 43) (x := 3) X dX8_forecast_48 zmm_c1 rfl (by decide) hlk_116 (Or.inl rfl) (fun _ => rfl) (by show i_2 1 43 = 3; rw [hi_2, zup_s]) ?_
        refine z_if_le X 58 dX8_forecast_51 (by decide) (fun c_51 => ?_) (fun c_51 => ?_)
        · exact absurd c_51 (by decide)
        · skip
          refine z_iconst (v := 0) X dX8_forecast_54 (by decide) ?_
          refine z_goto (tgt := 87) X dX8_forecast_55 (by decide) ?_
          refine z_iret X rfl rfl (Nat.le_refl _) (Nat.le_refl _) dX8_forecast_87 ?_
          subst hi_2
          (try simp only [zb_0, Classical.not_not] at c_6 c_21 c_36 c_51)
          exact ⟨_, rfl, by (first | rfl | (simp only [Int32.lt_irrefl, if_true, if_false, not_true_eq_false, not_false_eq_true, and_true, true_and, and_false, false_and, or_true, true_or, or_false, false_or, and_self, ite_self, zb, q_forecastV, q_forecastF, c_6, c_21, c_36, c_51, eq_true c_6, eq_true c_21, eq_true c_36, eq_true c_51]; done) | (simp only [Int32.lt_irrefl, if_true, if_false, not_true_eq_false, not_false_eq_true, and_true, true_and, and_false, false_and, or_true, true_or, or_false, false_or, and_self, ite_self, zb, q_forecastV, q_forecastF, c_6, c_21, c_36, c_51, eq_true c_6, eq_true c_21, eq_true c_36, eq_true c_51]; rfl)), by (first | rfl | (simp only [Int32.lt_irrefl, if_true, if_false, not_true_eq_false, not_false_eq_true, and_true, true_and, and_false, false_and, or_true, true_or, or_false, false_or, and_self, ite_self, zb, q_forecastV, q_forecastF, c_6, c_21, c_36, c_51, eq_true c_6, eq_true c_21, eq_true c_36, eq_true c_51]; done) | (simp only [Int32.lt_irrefl, if_true, if_false, not_true_eq_false, not_false_eq_true, and_true, true_and, and_false, false_and, or_true, true_or, or_false, false_or, and_self, ite_self, zb, q_forecastV, q_forecastF, c_6, c_21, c_36, c_51, eq_true c_6, eq_true c_21, eq_true c_36, eq_true c_51]; rfl))⟩
    · skip
      refine z_iconst (v := 2) X dX8_forecast_24 (by decide) ?_
      refine z_goto (tgt := 44) X dX8_forecast_25 (by decide) ?_
      refine z_putI (ci := 11) (j := 43) X dX8_forecast_44 zmm_c1 rfl (by decide) hlk_116 (Or.inl rfl) (Or.inl rfl) (fun _ => rfl) rfl rfl ?_
      obtain ⟨i_3, hi_3⟩ : ∃ q, q = zup i 1 43 2 := ⟨_, rfl⟩
      refine z_mem (M' := zmm i_3 lm) (by rw [hi_3]; rfl) ?_
      have hrow : ∀ _ : zin p 0 (i 1 35 - 1), vp_in (i 131 (cl p)) 5 ∧ vp_in (i 132 (cl p)) 4 := fun h9 => hpr _ (Nat.not_le.mp fun z => (zin_vp h9 hp (Nat.le_refl np) (by omega)) (Or.inr z))
      refine z_aload_n X 0 dX8_forecast_47 rfl rfl ?_
      refine z_getI (ci := 11) (j := 43) (x := 2) X dX8_forecast_48 zmm_c1 rfl (by decide) hlk_116 (Or.inl rfl) (fun _ => rfl) (by show i_3 1 43 = 2; rw [hi_3, zup_s]) ?_
      refine z_if_le X 58 dX8_forecast_51 (by decide) (fun c_51 => ?_) (fun c_51 => ?_)
      · exact absurd c_51 (by decide)
      · skip
        refine z_iconst (v := 0) X dX8_forecast_54 (by decide) ?_
        refine z_goto (tgt := 87) X dX8_forecast_55 (by decide) ?_
        refine z_iret X rfl rfl (Nat.le_refl _) (Nat.le_refl _) dX8_forecast_87 ?_
        subst hi_3
        (try simp only [zb_0, Classical.not_not] at c_6 c_21 c_51)
        exact ⟨_, rfl, by (first | rfl | (simp only [Int32.lt_irrefl, if_true, if_false, not_true_eq_false, not_false_eq_true, and_true, true_and, and_false, false_and, or_true, true_or, or_false, false_or, and_self, ite_self, zb, q_forecastV, q_forecastF, c_6, c_21, c_51, eq_true c_6, eq_true c_21, eq_true c_51]; done) | (simp only [Int32.lt_irrefl, if_true, if_false, not_true_eq_false, not_false_eq_true, and_true, true_and, and_false, false_and, or_true, true_or, or_false, false_or, and_self, ite_self, zb, q_forecastV, q_forecastF, c_6, c_21, c_51, eq_true c_6, eq_true c_21, eq_true c_51]; rfl)), by (first | rfl | (simp only [Int32.lt_irrefl, if_true, if_false, not_true_eq_false, not_false_eq_true, and_true, true_and, and_false, false_and, or_true, true_or, or_false, false_or, and_self, ite_self, zb, q_forecastV, q_forecastF, c_6, c_21, c_51, eq_true c_6, eq_true c_21, eq_true c_51]; done) | (simp only [Int32.lt_irrefl, if_true, if_false, not_true_eq_false, not_false_eq_true, and_true, true_and, and_false, false_and, or_true, true_or, or_false, false_or, and_self, ite_self, zb, q_forecastV, q_forecastF, c_6, c_21, c_51, eq_true c_6, eq_true c_21, eq_true c_51]; rfl))⟩
  · skip
    refine z_iconst (v := 1) X dX8_forecast_9 (by decide) ?_
    refine z_goto (tgt := 44) X dX8_forecast_10 (by decide) ?_
    refine z_putI (ci := 11) (j := 43) X dX8_forecast_44 zmm_c1 rfl (by decide) hlk_116 (Or.inl rfl) (Or.inl rfl) (fun _ => rfl) rfl rfl ?_
    obtain ⟨i_4, hi_4⟩ : ∃ q, q = zup i 1 43 1 := ⟨_, rfl⟩
    refine z_mem (M' := zmm i_4 lm) (by rw [hi_4]; rfl) ?_
    have hrow : ∀ _ : zin p 0 (i 1 35 - 1), vp_in (i 131 (cl p)) 5 ∧ vp_in (i 132 (cl p)) 4 := fun h9 => hpr _ (Nat.not_le.mp fun z => (zin_vp h9 hp (Nat.le_refl np) (by omega)) (Or.inr z))
    refine z_aload_n X 0 dX8_forecast_47 rfl rfl ?_
    refine z_getI (ci := 11) (j := 43) (x := 1) X dX8_forecast_48 zmm_c1 rfl (by decide) hlk_116 (Or.inl rfl) (fun _ => rfl) (by show i_4 1 43 = 1; rw [hi_4, zup_s]) ?_
    refine z_if_le X 58 dX8_forecast_51 (by decide) (fun c_51 => ?_) (fun c_51 => ?_)
    · exact absurd c_51 (by decide)
    · skip
      refine z_iconst (v := 0) X dX8_forecast_54 (by decide) ?_
      refine z_goto (tgt := 87) X dX8_forecast_55 (by decide) ?_
      refine z_iret X rfl rfl (Nat.le_refl _) (Nat.le_refl _) dX8_forecast_87 ?_
      subst hi_4
      (try simp only [zb_0, Classical.not_not] at c_6 c_51)
      exact ⟨_, rfl, by (first | rfl | (simp only [Int32.lt_irrefl, if_true, if_false, not_true_eq_false, not_false_eq_true, and_true, true_and, and_false, false_and, or_true, true_or, or_false, false_or, and_self, ite_self, zb, q_forecastV, q_forecastF, c_6, c_51, eq_true c_6, eq_true c_51]; done) | (simp only [Int32.lt_irrefl, if_true, if_false, not_true_eq_false, not_false_eq_true, and_true, true_and, and_false, false_and, or_true, true_or, or_false, false_or, and_self, ite_self, zb, q_forecastV, q_forecastF, c_6, c_51, eq_true c_6, eq_true c_51]; rfl)), by (first | rfl | (simp only [Int32.lt_irrefl, if_true, if_false, not_true_eq_false, not_false_eq_true, and_true, true_and, and_false, false_and, or_true, true_or, or_false, false_or, and_self, ite_self, zb, q_forecastV, q_forecastF, c_6, c_51, eq_true c_6, eq_true c_51]; done) | (simp only [Int32.lt_irrefl, if_true, if_false, not_true_eq_false, not_false_eq_true, and_true, true_and, and_false, false_and, or_true, true_or, or_false, false_or, and_self, ite_self, zb, q_forecastV, q_forecastF, c_6, c_51, eq_true c_6, eq_true c_51]; rfl))⟩

set_option maxRecDepth 100000 in
set_option maxHeartbeats 4000000 in
theorem c_X8_soonest (l : Launch) (i : Nat → Nat → Int32) (lm : Nat → Nat → Int64) (np : Nat) (hp : i 1 35 = nI np) (h24 : np ≤ 24) : zS l yX8_soonest wsX8_soonest 0 0 0 0 [.ref 1] (zmm i lm) (zpi (fun rr M1 => rr = q_soonestV i np ∧ M1 = zmm (q_soonestF i np) lm)) zno := by
  refine z_intro (cc := cX8_soonest) (maxL := 3) (ret := (some .int)) (by decide +kernel) rfl (Nat.le_of_ble_eq_true rfl) ?_
  have hlk_126 : Cond.fieldLink RX8 126 "ColdStoreModel" "pallets" "I" ∈ wsX8_soonest := by decide +kernel
  have hlk_116 : Cond.fieldLink RX8 116 "ColdStoreModel" "thrown" "I" ∈ wsX8_soonest := by decide +kernel
  have hlk_95 : Cond.fieldLink RX8 95 "ColdStoreModel" "states" "[C" ∈ wsX8_soonest := by decide +kernel
  have hlk_92 : Cond.fieldLink RX8 92 "ColdStoreModel" "lifeOf" "[I" ∈ wsX8_soonest := by decide +kernel
  intro g X
  show zE g 3 0 [(0, .ref 1)] [] (zmm i lm) 0 0
  refine z_iconst (v := (-1)) X dX8_soonest_0 (by decide) ?_
  refine z_istore_n (ls' := [(1, .int (-1)), (0, .ref 1)]) X dX8_soonest_1 rfl (by decide) rfl ?_
  refine z_iconst (v := 0) X dX8_soonest_2 (by decide) ?_
  refine z_istore_n (ls' := [(2, .int 0), (1, .int (-1)), (0, .ref 1)]) X dX8_soonest_3 rfl (by decide) rfl ?_
  have hloop4 : ∀ p : Nat, p ≤ np → zE g 3 4 [(0, .ref 1), (1, .int (m_soon i p)), (2, .int (nI p))] [] (zmm i lm) 0 0 := by
    refine z_loop (fun p => zE g 3 4 [(0, .ref 1), (1, .int (m_soon i p)), (2, .int (nI p))] [] (zmm i lm) 0 0) np ?_ ?_
    · show zE g 3 4 [(0, .ref 1), (1, .int (m_soon i np)), (2, .int (nI np))] [] (zmm i lm) 0 0
      refine z_iload_n X 2 dX8_soonest_4 rfl rfl ?_
      refine z_aload_n X 0 dX8_soonest_5 rfl rfl ?_
      refine z_getI (ci := 11) (j := 35) (x := i 1 35) X dX8_soonest_6 zmm_c1 rfl (by decide) hlk_126 (Or.inl rfl) (fun _ => rfl) (rfl) ?_
      refine z_icmp_ge X 55 dX8_soonest_9 (by decide) (fun c_9 => ?_) (fun c_9 => ?_)
      · skip
        refine z_aload_n X 0 dX8_soonest_55 rfl rfl ?_
        refine z_iload_n X 1 dX8_soonest_56 rfl rfl ?_
        refine z_iconst (v := (-1)) X dX8_soonest_57 (by decide) ?_
        refine z_icmp_ne X 65 dX8_soonest_58 (by decide) (fun c_58 => ?_) (fun c_58 => ?_)
        · skip
          refine z_iconst (v := 0) X dX8_soonest_65 (by decide) ?_
          refine z_putI (ci := 11) (j := 43) X dX8_soonest_66 zmm_c1 rfl (by decide) hlk_116 (Or.inl rfl) (Or.inl rfl) (fun _ => rfl) rfl rfl ?_
          obtain ⟨i_1, hi_1⟩ : ∃ q, q = zup i 1 43 0 := ⟨_, rfl⟩
          refine z_mem (M' := zmm i_1 lm) (by rw [hi_1]; rfl) ?_
          refine z_aload_n X 0 dX8_soonest_69 rfl rfl ?_
          refine z_getI (ci := 11) (j := 43) (x := 0) X dX8_soonest_70 zmm_c1 rfl (by decide) hlk_116 (Or.inl rfl) (fun _ => rfl) (by show i_1 1 43 = 0; rw [hi_1, zup_s]) ?_
          refine z_if_le X 80 dX8_soonest_73 (by decide) (fun c_73 => ?_) (fun c_73 => ?_)
          · skip
            refine z_iload_n X 1 dX8_soonest_80 rfl rfl ?_
            refine z_iret X rfl rfl (Nat.le_refl _) (Nat.le_refl _) dX8_soonest_81 ?_
            subst hi_1
            (try simp only [zb_0, Classical.not_not] at c_9 c_58 c_73)
            exact ⟨_, rfl, by (first | rfl | (simp only [Int32.lt_irrefl, if_true, if_false, not_true_eq_false, not_false_eq_true, and_true, true_and, and_false, false_and, or_true, true_or, or_false, false_or, and_self, ite_self, zb, q_soonestV, q_soonestF, c_9, c_58, c_73, eq_true c_9, eq_true c_58, eq_true c_73]; done) | (simp only [Int32.lt_irrefl, if_true, if_false, not_true_eq_false, not_false_eq_true, and_true, true_and, and_false, false_and, or_true, true_or, or_false, false_or, and_self, ite_self, zb, q_soonestV, q_soonestF, c_9, c_58, c_73, eq_true c_9, eq_true c_58, eq_true c_73]; rfl)), by (first | rfl | (simp only [Int32.lt_irrefl, if_true, if_false, not_true_eq_false, not_false_eq_true, and_true, true_and, and_false, false_and, or_true, true_or, or_false, false_or, and_self, ite_self, zb, q_soonestV, q_soonestF, c_9, c_58, c_73, eq_true c_9, eq_true c_58, eq_true c_73]; done) | (simp only [Int32.lt_irrefl, if_true, if_false, not_true_eq_false, not_false_eq_true, and_true, true_and, and_false, false_and, or_true, true_or, or_false, false_or, and_self, ite_self, zb, q_soonestV, q_soonestF, c_9, c_58, c_73, eq_true c_9, eq_true c_58, eq_true c_73]; rfl))⟩
          · exact absurd c_73 (by decide)
        · skip
          refine z_iconst (v := 1) X dX8_soonest_61 (by decide) ?_
          refine z_goto (tgt := 66) X dX8_soonest_62 (by decide) ?_
          refine z_putI (ci := 11) (j := 43) X dX8_soonest_66 zmm_c1 rfl (by decide) hlk_116 (Or.inl rfl) (Or.inl rfl) (fun _ => rfl) rfl rfl ?_
          obtain ⟨i_2, hi_2⟩ : ∃ q, q = zup i 1 43 1 := ⟨_, rfl⟩
          refine z_mem (M' := zmm i_2 lm) (by rw [hi_2]; rfl) ?_
          refine z_aload_n X 0 dX8_soonest_69 rfl rfl ?_
          refine z_getI (ci := 11) (j := 43) (x := 1) X dX8_soonest_70 zmm_c1 rfl (by decide) hlk_116 (Or.inl rfl) (fun _ => rfl) (by show i_2 1 43 = 1; rw [hi_2, zup_s]) ?_
          refine z_if_le X 80 dX8_soonest_73 (by decide) (fun c_73 => ?_) (fun c_73 => ?_)
          · exact absurd c_73 (by decide)
          · skip
            refine z_iconst (v := 0) X dX8_soonest_76 (by decide) ?_
            refine z_goto (tgt := 81) X dX8_soonest_77 (by decide) ?_
            refine z_iret X rfl rfl (Nat.le_refl _) (Nat.le_refl _) dX8_soonest_81 ?_
            subst hi_2
            (try simp only [zb_0, Classical.not_not] at c_9 c_58 c_73)
            exact ⟨_, rfl, by (first | rfl | (simp only [Int32.lt_irrefl, if_true, if_false, not_true_eq_false, not_false_eq_true, and_true, true_and, and_false, false_and, or_true, true_or, or_false, false_or, and_self, ite_self, zb, q_soonestV, q_soonestF, c_9, c_58, c_73, eq_true c_9, eq_true c_58, eq_true c_73]; done) | (simp only [Int32.lt_irrefl, if_true, if_false, not_true_eq_false, not_false_eq_true, and_true, true_and, and_false, false_and, or_true, true_or, or_false, false_or, and_self, ite_self, zb, q_soonestV, q_soonestF, c_9, c_58, c_73, eq_true c_9, eq_true c_58, eq_true c_73]; rfl)), by (first | rfl | (simp only [Int32.lt_irrefl, if_true, if_false, not_true_eq_false, not_false_eq_true, and_true, true_and, and_false, false_and, or_true, true_or, or_false, false_or, and_self, ite_self, zb, q_soonestV, q_soonestF, c_9, c_58, c_73, eq_true c_9, eq_true c_58, eq_true c_73]; done) | (simp only [Int32.lt_irrefl, if_true, if_false, not_true_eq_false, not_false_eq_true, and_true, true_and, and_false, false_and, or_true, true_or, or_false, false_or, and_self, ite_self, zb, q_soonestV, q_soonestF, c_9, c_58, c_73, eq_true c_9, eq_true c_58, eq_true c_73]; rfl))⟩
      · exact absurd (by rw [hp]; exact Int32.le_refl _) c_9
    · intro p hp_4 ih4
      have ih4 : zE g 3 4 [(0, .ref 1), (1, .int (m_soon i (p + 1))), (2, .int (nI (p + 1)))] [] (zmm i lm) 0 0 := ih4
      show zE g 3 4 [(0, .ref 1), (1, .int (m_soon i p)), (2, .int (nI p))] [] (zmm i lm) 0 0
      refine z_iload_n X 2 dX8_soonest_4 rfl rfl ?_
      refine z_aload_n X 0 dX8_soonest_5 rfl rfl ?_
      refine z_getI (ci := 11) (j := 35) (x := i 1 35) X dX8_soonest_6 zmm_c1 rfl (by decide) hlk_126 (Or.inl rfl) (fun _ => rfl) (rfl) ?_
      refine z_icmp_ge X 55 dX8_soonest_9 (by decide) (fun c_9 => ?_) (fun c_9 => ?_)
      · exact absurd (by rw [← hp]; exact c_9) (nI_ge hp_4 (by omega))
      · skip
        refine z_aload_n X 0 dX8_soonest_12 rfl rfl ?_
        refine z_getR (ci := 11) (j := 34) (o' := 134) X dX8_soonest_13 zmm_c1 rfl (by decide) hlk_95 (Or.inl rfl) (fun _ => rfl) (zmm_r134) ?_
        refine z_iload_n X 2 dX8_soonest_16 rfl rfl ?_
        refine z_cald (j := p) (x := i 134 p) X dX8_soonest_17 zmm_c134 (by rw [zmm_n134]; exact vp_in_nI (by omega) (by decide)) (nI_clamp (by omega)) (rfl) ?_
        refine z_bipush (v := 114) X dX8_soonest_18 (by decide) ?_
        refine z_icmp_ne X 47 dX8_soonest_20 (by decide) (fun c_20 => ?_) (fun c_20 => ?_)
        · skip
          refine z_iload_n X 1 dX8_soonest_47 rfl rfl ?_
          refine z_istore_n (ls' := [(1, .int (m_soon i p)), (0, .ref 1), (2, .int (nI p))]) X dX8_soonest_48 rfl (by decide) rfl ?_
          refine z_iinc (ls' := [(2, .int (nI (p + 1))), (1, .int (m_soon i p)), (0, .ref 1)]) (v := nI (p + 1)) X 2 dX8_soonest_49 rfl (nI_1 _) (by decide) rfl ?_
          refine z_goto (tgt := 4) X dX8_soonest_52 (by decide) ?_
          refine z_sub (ls' := [(0, .ref 1), (1, .int (m_soon i p)), (2, .int (nI (p + 1)))]) [2, 1, 0] rfl ?_
          refine z_lse (ls' := [(0, .ref 1), (1, .int (m_soon i (p + 1))), (2, .int (nI (p + 1)))]) (by (try simp only [zb_0, Classical.not_not] at c_9 c_20); (first | rfl | (simp only [Int32.lt_irrefl, if_true, if_false, not_true_eq_false, not_false_eq_true, and_true, true_and, and_false, false_and, or_true, true_or, or_false, false_or, and_self, ite_self, zb, m_soon, c_9, c_20, eq_true c_9, eq_true c_20]; done) | (simp only [Int32.lt_irrefl, if_true, if_false, not_true_eq_false, not_false_eq_true, and_true, true_and, and_false, false_and, or_true, true_or, or_false, false_or, and_self, ite_self, zb, m_soon, c_9, c_20, eq_true c_9, eq_true c_20]; rfl))) ?_
          exact ih4
        · skip
          refine z_iload_n X 1 dX8_soonest_23 rfl rfl ?_
          refine z_iconst (v := (-1)) X dX8_soonest_24 (by decide) ?_
          refine z_icmp_eq X 43 dX8_soonest_25 (by decide) (fun c_25 => ?_) (fun c_25 => ?_)
          · skip
            refine z_iload_n X 2 dX8_soonest_43 rfl rfl ?_
            refine z_goto (tgt := 48) X dX8_soonest_44 (by decide) ?_
            refine z_istore_n (ls' := [(1, .int (nI p)), (0, .ref 1), (2, .int (nI p))]) X dX8_soonest_48 rfl (by decide) rfl ?_
            refine z_iinc (ls' := [(2, .int (nI (p + 1))), (1, .int (nI p)), (0, .ref 1)]) (v := nI (p + 1)) X 2 dX8_soonest_49 rfl (nI_1 _) (by decide) rfl ?_
            refine z_goto (tgt := 4) X dX8_soonest_52 (by decide) ?_
            refine z_sub (ls' := [(0, .ref 1), (1, .int (nI p)), (2, .int (nI (p + 1)))]) [2, 1, 0] rfl ?_
            refine z_lse (ls' := [(0, .ref 1), (1, .int (m_soon i (p + 1))), (2, .int (nI (p + 1)))]) (by (try simp only [zb_0, Classical.not_not] at c_9 c_20 c_25); (first | rfl | (simp only [Int32.lt_irrefl, if_true, if_false, not_true_eq_false, not_false_eq_true, and_true, true_and, and_false, false_and, or_true, true_or, or_false, false_or, and_self, ite_self, zb, m_soon, c_9, c_20, c_25, eq_true c_9, eq_true c_20, eq_true c_25]; done) | (simp only [Int32.lt_irrefl, if_true, if_false, not_true_eq_false, not_false_eq_true, and_true, true_and, and_false, false_and, or_true, true_or, or_false, false_or, and_self, ite_self, zb, m_soon, c_9, c_20, c_25, eq_true c_9, eq_true c_20, eq_true c_25]; rfl))) ?_
            exact ih4
          · skip
            refine z_aload_n X 0 dX8_soonest_28 rfl rfl ?_
            refine z_getR (ci := 11) (j := 33) (o' := 133) X dX8_soonest_29 zmm_c1 rfl (by decide) hlk_92 (Or.inl rfl) (fun _ => rfl) (zmm_r133) ?_
            refine z_iload_n X 2 dX8_soonest_32 rfl rfl ?_
            refine z_iald (j := p) (x := i 133 p) X dX8_soonest_33 zmm_c133 (by rw [zmm_n133]; exact vp_in_nI (by omega) (by decide)) (nI_clamp (by omega)) (rfl) ?_
            refine z_aload_n X 0 dX8_soonest_34 rfl rfl ?_
            refine z_getR (ci := 11) (j := 33) (o' := 133) X dX8_soonest_35 zmm_c1 rfl (by decide) hlk_92 (Or.inl rfl) (fun _ => rfl) (zmm_r133) ?_
            refine z_iload_n X 1 dX8_soonest_38 rfl rfl ?_
            refine z_iald (j := cl (m_soon i p)) (x := i 133 (cl (m_soon i p))) X dX8_soonest_39 zmm_c133 (by rw [zmm_n133]; exact m_soon_in i (by omega) c_25) (rfl) (rfl) ?_
            refine z_icmp_ge X 47 dX8_soonest_40 (by decide) (fun c_40 => ?_) (fun c_40 => ?_)
            · skip
              refine z_iload_n X 1 dX8_soonest_47 rfl rfl ?_
              refine z_istore_n (ls' := [(1, .int (m_soon i p)), (0, .ref 1), (2, .int (nI p))]) X dX8_soonest_48 rfl (by decide) rfl ?_
              refine z_iinc (ls' := [(2, .int (nI (p + 1))), (1, .int (m_soon i p)), (0, .ref 1)]) (v := nI (p + 1)) X 2 dX8_soonest_49 rfl (nI_1 _) (by decide) rfl ?_
              refine z_goto (tgt := 4) X dX8_soonest_52 (by decide) ?_
              refine z_sub (ls' := [(0, .ref 1), (1, .int (m_soon i p)), (2, .int (nI (p + 1)))]) [2, 1, 0] rfl ?_
              refine z_lse (ls' := [(0, .ref 1), (1, .int (m_soon i (p + 1))), (2, .int (nI (p + 1)))]) (by (try simp only [zb_0, Classical.not_not] at c_9 c_20 c_25 c_40); (first | rfl | (simp only [Int32.lt_irrefl, if_true, if_false, not_true_eq_false, not_false_eq_true, and_true, true_and, and_false, false_and, or_true, true_or, or_false, false_or, and_self, ite_self, zb, m_soon, c_9, c_20, c_25, c_40, eq_true c_9, eq_true c_20, eq_true c_25, eq_true c_40]; done) | (simp only [Int32.lt_irrefl, if_true, if_false, not_true_eq_false, not_false_eq_true, and_true, true_and, and_false, false_and, or_true, true_or, or_false, false_or, and_self, ite_self, zb, m_soon, c_9, c_20, c_25, c_40, eq_true c_9, eq_true c_20, eq_true c_25, eq_true c_40]; rfl))) ?_
              exact ih4
            · skip
              refine z_iload_n X 2 dX8_soonest_43 rfl rfl ?_
              refine z_goto (tgt := 48) X dX8_soonest_44 (by decide) ?_
              refine z_istore_n (ls' := [(1, .int (nI p)), (0, .ref 1), (2, .int (nI p))]) X dX8_soonest_48 rfl (by decide) rfl ?_
              refine z_iinc (ls' := [(2, .int (nI (p + 1))), (1, .int (nI p)), (0, .ref 1)]) (v := nI (p + 1)) X 2 dX8_soonest_49 rfl (nI_1 _) (by decide) rfl ?_
              refine z_goto (tgt := 4) X dX8_soonest_52 (by decide) ?_
              refine z_sub (ls' := [(0, .ref 1), (1, .int (nI p)), (2, .int (nI (p + 1)))]) [2, 1, 0] rfl ?_
              refine z_lse (ls' := [(0, .ref 1), (1, .int (m_soon i (p + 1))), (2, .int (nI (p + 1)))]) (by (try simp only [zb_0, Classical.not_not] at c_9 c_20 c_25 c_40); (first | rfl | (simp only [Int32.lt_irrefl, if_true, if_false, not_true_eq_false, not_false_eq_true, and_true, true_and, and_false, false_and, or_true, true_or, or_false, false_or, and_self, ite_self, zb, m_soon, c_9, c_20, c_25, c_40, eq_true c_9, eq_true c_20, eq_true c_25, eq_true c_40]; done) | (simp only [Int32.lt_irrefl, if_true, if_false, not_true_eq_false, not_false_eq_true, and_true, true_and, and_false, false_and, or_true, true_or, or_false, false_or, and_self, ite_self, zb, m_soon, c_9, c_20, c_25, c_40, eq_true c_9, eq_true c_20, eq_true c_25, eq_true c_40]; rfl))) ?_
              exact ih4
  refine z_sub (ls' := [(0, .ref 1), (1, .int (-1)), (2, .int 0)]) [2, 1, 0] rfl ?_
  refine z_lse (ls' := [(0, .ref 1), (1, .int (m_soon i 0)), (2, .int (nI 0))]) (rfl) ?_
  exact hloop4 0 (Nat.zero_le _)

set_option maxRecDepth 100000 in
set_option maxHeartbeats 4000000 in
theorem c_X8_lostShare (l : Launch) (i : Nat → Nat → Int32) (lm : Nat → Nat → Int64) (np : Nat) (hp : i 1 35 = nI np) (h24 : np ≤ 24) : zS l yX8_lostShare wsX8_lostShare 0 0 0 0 [.ref 1] (zmm i lm) (zpf (fun rr M1 => rr = q_lostShareV i np ∧ M1 = zmm (q_lostShareF i np) lm)) zno := by
  refine z_intro (cc := cX8_lostShare) (maxL := 3) (ret := (some .float)) (by decide +kernel) rfl (Nat.le_of_ble_eq_true rfl) ?_
  have hlk_126 : Cond.fieldLink RX8 126 "ColdStoreModel" "pallets" "I" ∈ wsX8_lostShare := by decide +kernel
  have hlk_116 : Cond.fieldLink RX8 116 "ColdStoreModel" "thrown" "I" ∈ wsX8_lostShare := by decide +kernel
  have hlk_95 : Cond.fieldLink RX8 95 "ColdStoreModel" "states" "[C" ∈ wsX8_lostShare := by decide +kernel
  have hlk_92 : Cond.fieldLink RX8 92 "ColdStoreModel" "lifeOf" "[I" ∈ wsX8_lostShare := by decide +kernel
  intro g X
  show zE g 3 0 [(0, .ref 1)] [] (zmm i lm) 0 0
  refine z_iconst (v := 0) X dX8_lostShare_0 (by decide) ?_
  refine z_istore_n (ls' := [(1, .int 0), (0, .ref 1)]) X dX8_lostShare_1 rfl (by decide) rfl ?_
  refine z_iconst (v := 0) X dX8_lostShare_2 (by decide) ?_
  refine z_istore_n (ls' := [(2, .int 0), (1, .int 0), (0, .ref 1)]) X dX8_lostShare_3 rfl (by decide) rfl ?_
  have hloop4 : ∀ p : Nat, p ≤ np → zE g 3 4 [(0, .ref 1), (1, .int (m_lost i p)), (2, .int (nI p))] [] (zmm i lm) 0 0 := by
    refine z_loop (fun p => zE g 3 4 [(0, .ref 1), (1, .int (m_lost i p)), (2, .int (nI p))] [] (zmm i lm) 0 0) np ?_ ?_
    · show zE g 3 4 [(0, .ref 1), (1, .int (m_lost i np)), (2, .int (nI np))] [] (zmm i lm) 0 0
      refine z_iload_n X 2 dX8_lostShare_4 rfl rfl ?_
      refine z_aload_n X 0 dX8_lostShare_5 rfl rfl ?_
      refine z_getI (ci := 11) (j := 35) (x := i 1 35) X dX8_lostShare_6 zmm_c1 rfl (by decide) hlk_126 (Or.inl rfl) (fun _ => rfl) (rfl) ?_
      refine z_icmp_ge X 46 dX8_lostShare_9 (by decide) (fun c_9 => ?_) (fun c_9 => ?_)
      · skip
        refine z_aload_n X 0 dX8_lostShare_46 rfl rfl ?_
        refine z_aload_n X 0 dX8_lostShare_47 rfl rfl ?_
        refine z_getI (ci := 11) (j := 35) (x := i 1 35) X dX8_lostShare_48 zmm_c1 rfl (by decide) hlk_126 (Or.inl rfl) (fun _ => rfl) (rfl) ?_
        refine z_if_ne X 58 dX8_lostShare_51 (by decide) (fun c_51 => ?_) (fun c_51 => ?_)
        · skip
          refine z_iconst (v := 0) X dX8_lostShare_58 (by decide) ?_
          refine z_putI (ci := 11) (j := 43) X dX8_lostShare_59 zmm_c1 rfl (by decide) hlk_116 (Or.inl rfl) (Or.inl rfl) (fun _ => rfl) rfl rfl ?_
          obtain ⟨i_1, hi_1⟩ : ∃ q, q = zup i 1 43 0 := ⟨_, rfl⟩
          refine z_mem (M' := zmm i_1 lm) (by rw [hi_1]; rfl) ?_
          refine z_aload_n X 0 dX8_lostShare_62 rfl rfl ?_
          refine z_getI (ci := 11) (j := 43) (x := 0) X dX8_lostShare_63 zmm_c1 rfl (by decide) hlk_116 (Or.inl rfl) (fun _ => rfl) (by show i_1 1 43 = 0; rw [hi_1, zup_s]) ?_
          refine z_if_le X 73 dX8_lostShare_66 (by decide) (fun c_66 => ?_) (fun c_66 => ?_)
          · skip
            refine z_iload_n X 1 dX8_lostShare_73 rfl rfl ?_
            refine z_i2f X dX8_lostShare_74 ?_
            refine z_aload_n X 0 dX8_lostShare_75 rfl rfl ?_
            refine z_getI (ci := 11) (j := 35) (x := i 1 35) X dX8_lostShare_76 zmm_c1 rfl (by decide) hlk_126 (Or.inl rfl) (fun _ => rfl) (by show i_1 1 35 = (i 1 35); rw [hi_1, zup_n (by decide)]) ?_
            refine z_i2f X dX8_lostShare_79 ?_
            refine z_fdiv X dX8_lostShare_80 (zf_share _ c_51) ?_
            refine z_fret X rfl (Nat.le_refl _) (Nat.le_refl _) dX8_lostShare_81 ?_
            subst hi_1
            (try simp only [zb_0, Classical.not_not] at c_9 c_51 c_66)
            exact ⟨_, rfl, by (first | rfl | (simp only [Int32.lt_irrefl, if_true, if_false, not_true_eq_false, not_false_eq_true, and_true, true_and, and_false, false_and, or_true, true_or, or_false, false_or, and_self, ite_self, zb, q_lostShareV, q_lostShareF, c_9, c_51, c_66, eq_true c_9, eq_true c_51, eq_true c_66]; done) | (simp only [Int32.lt_irrefl, if_true, if_false, not_true_eq_false, not_false_eq_true, and_true, true_and, and_false, false_and, or_true, true_or, or_false, false_or, and_self, ite_self, zb, q_lostShareV, q_lostShareF, c_9, c_51, c_66, eq_true c_9, eq_true c_51, eq_true c_66]; rfl)), by (first | rfl | (simp only [Int32.lt_irrefl, if_true, if_false, not_true_eq_false, not_false_eq_true, and_true, true_and, and_false, false_and, or_true, true_or, or_false, false_or, and_self, ite_self, zb, q_lostShareV, q_lostShareF, c_9, c_51, c_66, eq_true c_9, eq_true c_51, eq_true c_66]; done) | (simp only [Int32.lt_irrefl, if_true, if_false, not_true_eq_false, not_false_eq_true, and_true, true_and, and_false, false_and, or_true, true_or, or_false, false_or, and_self, ite_self, zb, q_lostShareV, q_lostShareF, c_9, c_51, c_66, eq_true c_9, eq_true c_51, eq_true c_66]; rfl))⟩
          · exact absurd c_66 (by decide)
        · skip
          refine z_iconst (v := 1) X dX8_lostShare_54 (by decide) ?_
          refine z_goto (tgt := 59) X dX8_lostShare_55 (by decide) ?_
          refine z_putI (ci := 11) (j := 43) X dX8_lostShare_59 zmm_c1 rfl (by decide) hlk_116 (Or.inl rfl) (Or.inl rfl) (fun _ => rfl) rfl rfl ?_
          obtain ⟨i_2, hi_2⟩ : ∃ q, q = zup i 1 43 1 := ⟨_, rfl⟩
          refine z_mem (M' := zmm i_2 lm) (by rw [hi_2]; rfl) ?_
          refine z_aload_n X 0 dX8_lostShare_62 rfl rfl ?_
          refine z_getI (ci := 11) (j := 43) (x := 1) X dX8_lostShare_63 zmm_c1 rfl (by decide) hlk_116 (Or.inl rfl) (fun _ => rfl) (by show i_2 1 43 = 1; rw [hi_2, zup_s]) ?_
          refine z_if_le X 73 dX8_lostShare_66 (by decide) (fun c_66 => ?_) (fun c_66 => ?_)
          · exact absurd c_66 (by decide)
          · skip
            refine z_fconst0 X dX8_lostShare_69 ?_
            refine z_goto (tgt := 81) X dX8_lostShare_70 (by decide) ?_
            refine z_fret X rfl (Nat.le_refl _) (Nat.le_refl _) dX8_lostShare_81 ?_
            subst hi_2
            (try simp only [zb_0, Classical.not_not] at c_9 c_51 c_66)
            exact ⟨_, rfl, by (first | rfl | (simp only [Int32.lt_irrefl, if_true, if_false, not_true_eq_false, not_false_eq_true, and_true, true_and, and_false, false_and, or_true, true_or, or_false, false_or, and_self, ite_self, zb, q_lostShareV, q_lostShareF, c_9, c_51, c_66, eq_true c_9, eq_true c_51, eq_true c_66]; done) | (simp only [Int32.lt_irrefl, if_true, if_false, not_true_eq_false, not_false_eq_true, and_true, true_and, and_false, false_and, or_true, true_or, or_false, false_or, and_self, ite_self, zb, q_lostShareV, q_lostShareF, c_9, c_51, c_66, eq_true c_9, eq_true c_51, eq_true c_66]; rfl)), by (first | rfl | (simp only [Int32.lt_irrefl, if_true, if_false, not_true_eq_false, not_false_eq_true, and_true, true_and, and_false, false_and, or_true, true_or, or_false, false_or, and_self, ite_self, zb, q_lostShareV, q_lostShareF, c_9, c_51, c_66, eq_true c_9, eq_true c_51, eq_true c_66]; done) | (simp only [Int32.lt_irrefl, if_true, if_false, not_true_eq_false, not_false_eq_true, and_true, true_and, and_false, false_and, or_true, true_or, or_false, false_or, and_self, ite_self, zb, q_lostShareV, q_lostShareF, c_9, c_51, c_66, eq_true c_9, eq_true c_51, eq_true c_66]; rfl))⟩
      · exact absurd (by rw [hp]; exact Int32.le_refl _) c_9
    · intro p hp_4 ih4
      have ih4 : zE g 3 4 [(0, .ref 1), (1, .int (m_lost i (p + 1))), (2, .int (nI (p + 1)))] [] (zmm i lm) 0 0 := ih4
      show zE g 3 4 [(0, .ref 1), (1, .int (m_lost i p)), (2, .int (nI p))] [] (zmm i lm) 0 0
      refine z_iload_n X 2 dX8_lostShare_4 rfl rfl ?_
      refine z_aload_n X 0 dX8_lostShare_5 rfl rfl ?_
      refine z_getI (ci := 11) (j := 35) (x := i 1 35) X dX8_lostShare_6 zmm_c1 rfl (by decide) hlk_126 (Or.inl rfl) (fun _ => rfl) (rfl) ?_
      refine z_icmp_ge X 46 dX8_lostShare_9 (by decide) (fun c_9 => ?_) (fun c_9 => ?_)
      · exact absurd (by rw [← hp]; exact c_9) (nI_ge hp_4 (by omega))
      · skip
        refine z_iload_n X 1 dX8_lostShare_12 rfl rfl ?_
        refine z_aload_n X 0 dX8_lostShare_13 rfl rfl ?_
        refine z_getR (ci := 11) (j := 34) (o' := 134) X dX8_lostShare_14 zmm_c1 rfl (by decide) hlk_95 (Or.inl rfl) (fun _ => rfl) (zmm_r134) ?_
        refine z_iload_n X 2 dX8_lostShare_17 rfl rfl ?_
        refine z_cald (j := p) (x := i 134 p) X dX8_lostShare_18 zmm_c134 (by rw [zmm_n134]; exact vp_in_nI (by omega) (by decide)) (nI_clamp (by omega)) (rfl) ?_
        refine z_bipush (v := 120) X dX8_lostShare_19 (by decide) ?_
        refine z_icmp_eq X 33 dX8_lostShare_21 (by decide) (fun c_21 => ?_) (fun c_21 => ?_)
        · skip
          refine z_iconst (v := 1) X dX8_lostShare_33 (by decide) ?_
          refine z_goto (tgt := 38) X dX8_lostShare_34 (by decide) ?_
          refine z_iadd X dX8_lostShare_38 ?_
          refine z_istore_n (ls' := [(1, .int ((m_lost i p) + 1)), (0, .ref 1), (2, .int (nI p))]) X dX8_lostShare_39 rfl (by decide) rfl ?_
          refine z_iinc (ls' := [(2, .int (nI (p + 1))), (1, .int ((m_lost i p) + 1)), (0, .ref 1)]) (v := nI (p + 1)) X 2 dX8_lostShare_40 rfl (nI_1 _) (by decide) rfl ?_
          refine z_goto (tgt := 4) X dX8_lostShare_43 (by decide) ?_
          refine z_sub (ls' := [(0, .ref 1), (1, .int ((m_lost i p) + 1)), (2, .int (nI (p + 1)))]) [2, 1, 0] rfl ?_
          refine z_lse (ls' := [(0, .ref 1), (1, .int (m_lost i (p + 1))), (2, .int (nI (p + 1)))]) (by (try simp only [zb_0, Classical.not_not] at c_9 c_21); (first | rfl | (simp only [Int32.lt_irrefl, if_true, if_false, not_true_eq_false, not_false_eq_true, and_true, true_and, and_false, false_and, or_true, true_or, or_false, false_or, and_self, ite_self, zb, m_lost, c_9, c_21, eq_true c_9, eq_true c_21]; done) | (simp only [Int32.lt_irrefl, if_true, if_false, not_true_eq_false, not_false_eq_true, and_true, true_and, and_false, false_and, or_true, true_or, or_false, false_or, and_self, ite_self, zb, m_lost, c_9, c_21, eq_true c_9, eq_true c_21]; rfl))) ?_
          exact ih4
        · skip
          refine z_aload_n X 0 dX8_lostShare_24 rfl rfl ?_
          refine z_getR (ci := 11) (j := 33) (o' := 133) X dX8_lostShare_25 zmm_c1 rfl (by decide) hlk_92 (Or.inl rfl) (fun _ => rfl) (zmm_r133) ?_
          refine z_iload_n X 2 dX8_lostShare_28 rfl rfl ?_
          refine z_iald (j := p) (x := i 133 p) X dX8_lostShare_29 zmm_c133 (by rw [zmm_n133]; exact vp_in_nI (by omega) (by decide)) (nI_clamp (by omega)) (rfl) ?_
          refine z_if_ne X 37 dX8_lostShare_30 (by decide) (fun c_30 => ?_) (fun c_30 => ?_)
          · skip
            refine z_iconst (v := 0) X dX8_lostShare_37 (by decide) ?_
            refine z_iadd X dX8_lostShare_38 ?_
            refine z_istore_n (ls' := [(1, .int ((m_lost i p) + 0)), (0, .ref 1), (2, .int (nI p))]) X dX8_lostShare_39 rfl (by decide) rfl ?_
            refine z_iinc (ls' := [(2, .int (nI (p + 1))), (1, .int ((m_lost i p) + 0)), (0, .ref 1)]) (v := nI (p + 1)) X 2 dX8_lostShare_40 rfl (nI_1 _) (by decide) rfl ?_
            refine z_goto (tgt := 4) X dX8_lostShare_43 (by decide) ?_
            refine z_sub (ls' := [(0, .ref 1), (1, .int ((m_lost i p) + 0)), (2, .int (nI (p + 1)))]) [2, 1, 0] rfl ?_
            refine z_lse (ls' := [(0, .ref 1), (1, .int (m_lost i (p + 1))), (2, .int (nI (p + 1)))]) (by (try simp only [zb_0, Classical.not_not] at c_9 c_21 c_30); (first | rfl | (simp only [Int32.lt_irrefl, if_true, if_false, not_true_eq_false, not_false_eq_true, and_true, true_and, and_false, false_and, or_true, true_or, or_false, false_or, and_self, ite_self, zb, m_lost, c_9, c_21, c_30, eq_true c_9, eq_true c_21, eq_true c_30]; done) | (simp only [Int32.lt_irrefl, if_true, if_false, not_true_eq_false, not_false_eq_true, and_true, true_and, and_false, false_and, or_true, true_or, or_false, false_or, and_self, ite_self, zb, m_lost, c_9, c_21, c_30, eq_true c_9, eq_true c_21, eq_true c_30]; rfl))) ?_
            exact ih4
          · skip
            refine z_iconst (v := 1) X dX8_lostShare_33 (by decide) ?_
            refine z_goto (tgt := 38) X dX8_lostShare_34 (by decide) ?_
            refine z_iadd X dX8_lostShare_38 ?_
            refine z_istore_n (ls' := [(1, .int ((m_lost i p) + 1)), (0, .ref 1), (2, .int (nI p))]) X dX8_lostShare_39 rfl (by decide) rfl ?_
            refine z_iinc (ls' := [(2, .int (nI (p + 1))), (1, .int ((m_lost i p) + 1)), (0, .ref 1)]) (v := nI (p + 1)) X 2 dX8_lostShare_40 rfl (nI_1 _) (by decide) rfl ?_
            refine z_goto (tgt := 4) X dX8_lostShare_43 (by decide) ?_
            refine z_sub (ls' := [(0, .ref 1), (1, .int ((m_lost i p) + 1)), (2, .int (nI (p + 1)))]) [2, 1, 0] rfl ?_
            refine z_lse (ls' := [(0, .ref 1), (1, .int (m_lost i (p + 1))), (2, .int (nI (p + 1)))]) (by (try simp only [zb_0, Classical.not_not] at c_9 c_21 c_30); (first | rfl | (simp only [Int32.lt_irrefl, if_true, if_false, not_true_eq_false, not_false_eq_true, and_true, true_and, and_false, false_and, or_true, true_or, or_false, false_or, and_self, ite_self, zb, m_lost, c_9, c_21, c_30, eq_true c_9, eq_true c_21, eq_true c_30]; done) | (simp only [Int32.lt_irrefl, if_true, if_false, not_true_eq_false, not_false_eq_true, and_true, true_and, and_false, false_and, or_true, true_or, or_false, false_or, and_self, ite_self, zb, m_lost, c_9, c_21, c_30, eq_true c_9, eq_true c_21, eq_true c_30]; rfl))) ?_
            exact ih4
  refine z_sub (ls' := [(0, .ref 1), (1, .int 0), (2, .int 0)]) [2, 1, 0] rfl ?_
  refine z_lse (ls' := [(0, .ref 1), (1, .int (m_lost i 0)), (2, .int (nI 0))]) (rfl) ?_
  exact hloop4 0 (Nat.zero_le _)

set_option maxRecDepth 100000 in
set_option maxHeartbeats 4000000 in
theorem c_X8_order (l : Launch) (i : Nat → Nat → Int32) (lm : Nat → Nat → Int64) (nk : Nat) (hk : i 1 30 = nI nk) (h5 : nk ≤ 5) (no : Nat) (ho : i 1 42 = nI no) (h12 : no ≤ 12) (kd : Int32) (a : Int32) (b : Int32) (e : Int32) : zS l yX8_order wsX8_order 1 22 0 0 [.ref 1, .int kd, .int a, .int b, .int e] (zmm i lm) (zpi (fun rr M1 => rr = q_orderV i nk no kd a b e ∧ M1 = zmm (q_orderF i nk no kd a b e) lm)) zno := by
  refine z_intro (cc := cX8_order) (maxL := 6) (ret := (some .int)) (by decide +kernel) rfl (Nat.le_of_ble_eq_true rfl) ?_
  have hlk_195 : Cond.fieldLink RX8 195 "ColdStoreModel" "kinds" "I" ∈ wsX8_order := by decide +kernel
  have hlk_116 : Cond.fieldLink RX8 116 "ColdStoreModel" "thrown" "I" ∈ wsX8_order := by decide +kernel
  have hlk_132 : Cond.fieldLink RX8 132 "ColdStoreModel" "time" "I" ∈ wsX8_order := by decide +kernel
  have hlk_129 : Cond.fieldLink RX8 129 "ColdStoreModel" "orders" "I" ∈ wsX8_order := by decide +kernel
  have hlk_98 : Cond.fieldLink RX8 98 "ColdStoreModel" "orderKinds" "[I" ∈ wsX8_order := by decide +kernel
  have hlk_101 : Cond.fieldLink RX8 101 "ColdStoreModel" "counts" "[I" ∈ wsX8_order := by decide +kernel
  have hlk_104 : Cond.fieldLink RX8 104 "ColdStoreModel" "promises" "[I" ∈ wsX8_order := by decide +kernel
  have hlk_107 : Cond.fieldLink RX8 107 "ColdStoreModel" "dues" "[I" ∈ wsX8_order := by decide +kernel
  have hlk_110 : Cond.fieldLink RX8 110 "ColdStoreModel" "orderStates" "[C" ∈ wsX8_order := by decide +kernel
  intro g X
  show zE g 6 0 [(0, .ref 1), (1, .int kd), (2, .int a), (3, .int b), (4, .int e)] [] (zmm i lm) 0 0
  refine z_iload_n X 2 dX8_order_0 rfl rfl ?_
  refine z_iconst (v := 1) X dX8_order_1 (by decide) ?_
  refine z_bipush (v := 8) X dX8_order_2 (by decide) ?_
  refine z_callSi (As := [.int a, .int 1, .int 8]) (rest := []) (n1 := 3) X dX8_order_4 (c_X8_in l _ a 1 8) gX8_order_X8_in rfl rfl (by decide +kernel) ⟨by decide, by decide⟩ rfl (Nat.le_of_ble_eq_true rfl) ⟨by decide, by decide⟩ (fun _ h => h.elim) ?_
  rintro _ _ ⟨rfl, rfl⟩
  refine z_if_eq X 42 dX8_order_7 (by decide) (fun c_7 => ?_) (fun c_7 => ?_)
  · skip
    refine z_iconst (v := 0) X dX8_order_42 (by decide) ?_
    refine z_istore (ls' := [(5, .int 0), (0, .ref 1), (1, .int kd), (2, .int a), (3, .int b), (4, .int e)]) X dX8_order_43 (by decide) rfl ?_
    refine z_aload_n X 1 dX8_order_45 rfl rfl ?_
    refine z_iload_n X 2 dX8_order_46 rfl rfl ?_
    refine z_iconst (v := 0) X dX8_order_47 (by decide) ?_
    refine z_aload_n X 1 dX8_order_48 rfl rfl ?_
    refine z_getI (ci := 11) (j := 30) (x := nI nk) X dX8_order_49 zmm_c1 rfl (by decide) hlk_195 (Or.inl rfl) (fun _ => rfl) (by show i 1 30 = (nI nk); exact hk) ?_
    refine z_iconst (v := 1) X dX8_order_52 (by decide) ?_
    refine z_isub X dX8_order_53 ?_
    refine z_callSi (As := [.int kd, .int 0, .int ((nI nk) - 1)]) (rest := [.ref 1]) (n1 := 3) X dX8_order_54 (c_X8_in l _ kd 0 ((nI nk) - 1)) gX8_order_X8_in rfl rfl (by decide +kernel) ⟨by decide, by decide⟩ rfl (Nat.le_of_ble_eq_true rfl) ⟨by decide, by decide⟩ (fun _ h => h.elim) ?_
    rintro _ _ ⟨rfl, rfl⟩
    refine z_if_ne X 64 dX8_order_57 (by decide) (fun c_57 => ?_) (fun c_57 => ?_)
    · skip
      refine z_iload X 0 dX8_order_64 rfl ?_
      refine z_if_ne X 73 dX8_order_66 (by decide) (fun c_66 => ?_) (fun c_66 => ?_)
      · exact absurd c_66 (by decide)
      · skip
        refine z_iconst (v := 2) X dX8_order_69 (by decide) ?_
        refine z_goto (tgt := 87) X dX8_order_70 (by decide) ?_
        refine z_putI (ci := 11) (j := 43) X dX8_order_87 zmm_c1 rfl (by decide) hlk_116 (Or.inl rfl) (Or.inl rfl) (fun _ => rfl) rfl rfl ?_
        obtain ⟨i_1, hi_1⟩ : ∃ q, q = zup i 1 43 2 := ⟨_, rfl⟩
        refine z_mem (M' := zmm i_1 lm) (by rw [hi_1]; rfl) ?_
        refine z_aload_n X 1 dX8_order_90 rfl rfl ?_
        refine z_getI (ci := 11) (j := 43) (x := 2) X dX8_order_91 zmm_c1 rfl (by decide) hlk_116 (Or.inl rfl) (fun _ => rfl) (by show i_1 1 43 = 2; rw [hi_1, zup_s]) ?_
        refine z_if_le X 99 dX8_order_94 (by decide) (fun c_94 => ?_) (fun c_94 => ?_)
        · exact absurd c_94 (by decide)
        · skip
          refine z_iconst (v := 0) X dX8_order_97 (by decide) ?_
          refine z_iret X rfl rfl (Nat.le_refl _) (Nat.le_refl _) dX8_order_98 ?_
          subst hi_1
          (try simp only [zb_0, Classical.not_not] at c_7 c_57 c_66 c_94)
          exact ⟨_, rfl, by (first | rfl | (simp only [Int32.lt_irrefl, if_true, if_false, not_true_eq_false, not_false_eq_true, and_true, true_and, and_false, false_and, or_true, true_or, or_false, false_or, and_self, ite_self, zb, q_orderV, q_orderF, c_7, c_57, c_66, c_94, eq_true c_7, eq_true c_57, eq_true c_66, eq_true c_94]; done) | (simp only [Int32.lt_irrefl, if_true, if_false, not_true_eq_false, not_false_eq_true, and_true, true_and, and_false, false_and, or_true, true_or, or_false, false_or, and_self, ite_self, zb, q_orderV, q_orderF, c_7, c_57, c_66, c_94, eq_true c_7, eq_true c_57, eq_true c_66, eq_true c_94]; rfl)), by (first | rfl | (simp only [Int32.lt_irrefl, if_true, if_false, not_true_eq_false, not_false_eq_true, and_true, true_and, and_false, false_and, or_true, true_or, or_false, false_or, and_self, ite_self, zb, q_orderV, q_orderF, c_7, c_57, c_66, c_94, eq_true c_7, eq_true c_57, eq_true c_66, eq_true c_94]; done) | (simp only [Int32.lt_irrefl, if_true, if_false, not_true_eq_false, not_false_eq_true, and_true, true_and, and_false, false_and, or_true, true_or, or_false, false_or, and_self, ite_self, zb, q_orderV, q_orderF, c_7, c_57, c_66, c_94, eq_true c_7, eq_true c_57, eq_true c_66, eq_true c_94]; rfl))⟩
    · skip
      refine z_iconst (v := 1) X dX8_order_60 (by decide) ?_
      refine z_goto (tgt := 87) X dX8_order_61 (by decide) ?_
      refine z_putI (ci := 11) (j := 43) X dX8_order_87 zmm_c1 rfl (by decide) hlk_116 (Or.inl rfl) (Or.inl rfl) (fun _ => rfl) rfl rfl ?_
      obtain ⟨i_2, hi_2⟩ : ∃ q, q = zup i 1 43 1 := ⟨_, rfl⟩
      refine z_mem (M' := zmm i_2 lm) (by rw [hi_2]; rfl) ?_
      refine z_aload_n X 1 dX8_order_90 rfl rfl ?_
      refine z_getI (ci := 11) (j := 43) (x := 1) X dX8_order_91 zmm_c1 rfl (by decide) hlk_116 (Or.inl rfl) (fun _ => rfl) (by show i_2 1 43 = 1; rw [hi_2, zup_s]) ?_
      refine z_if_le X 99 dX8_order_94 (by decide) (fun c_94 => ?_) (fun c_94 => ?_)
      · exact absurd c_94 (by decide)
      · skip
        refine z_iconst (v := 0) X dX8_order_97 (by decide) ?_
        refine z_iret X rfl rfl (Nat.le_refl _) (Nat.le_refl _) dX8_order_98 ?_
        subst hi_2
        (try simp only [zb_0, Classical.not_not] at c_7 c_57 c_94)
        exact ⟨_, rfl, by (first | rfl | (simp only [Int32.lt_irrefl, if_true, if_false, not_true_eq_false, not_false_eq_true, and_true, true_and, and_false, false_and, or_true, true_or, or_false, false_or, and_self, ite_self, zb, q_orderV, q_orderF, c_7, c_57, c_94, eq_true c_7, eq_true c_57, eq_true c_94]; done) | (simp only [Int32.lt_irrefl, if_true, if_false, not_true_eq_false, not_false_eq_true, and_true, true_and, and_false, false_and, or_true, true_or, or_false, false_or, and_self, ite_self, zb, q_orderV, q_orderF, c_7, c_57, c_94, eq_true c_7, eq_true c_57, eq_true c_94]; rfl)), by (first | rfl | (simp only [Int32.lt_irrefl, if_true, if_false, not_true_eq_false, not_false_eq_true, and_true, true_and, and_false, false_and, or_true, true_or, or_false, false_or, and_self, ite_self, zb, q_orderV, q_orderF, c_7, c_57, c_94, eq_true c_7, eq_true c_57, eq_true c_94]; done) | (simp only [Int32.lt_irrefl, if_true, if_false, not_true_eq_false, not_false_eq_true, and_true, true_and, and_false, false_and, or_true, true_or, or_false, false_or, and_self, ite_self, zb, q_orderV, q_orderF, c_7, c_57, c_94, eq_true c_7, eq_true c_57, eq_true c_94]; rfl))⟩
  · skip
    refine z_iload_n X 3 dX8_order_10 rfl rfl ?_
    refine z_iconst (v := 0) X dX8_order_11 (by decide) ?_
    refine z_sipush (v := 9999) X dX8_order_12 (by decide) ?_
    refine z_callSi (As := [.int b, .int 0, .int 9999]) (rest := []) (n1 := 3) X dX8_order_15 (c_X8_in l _ b 0 9999) gX8_order_X8_in rfl rfl (by decide +kernel) ⟨by decide, by decide⟩ rfl (Nat.le_of_ble_eq_true rfl) ⟨by decide, by decide⟩ (fun _ h => h.elim) ?_
    rintro _ _ ⟨rfl, rfl⟩
    refine z_if_eq X 42 dX8_order_18 (by decide) (fun c_18 => ?_) (fun c_18 => ?_)
    · skip
      refine z_iconst (v := 0) X dX8_order_42 (by decide) ?_
      refine z_istore (ls' := [(5, .int 0), (0, .ref 1), (1, .int kd), (2, .int a), (3, .int b), (4, .int e)]) X dX8_order_43 (by decide) rfl ?_
      refine z_aload_n X 1 dX8_order_45 rfl rfl ?_
      refine z_iload_n X 2 dX8_order_46 rfl rfl ?_
      refine z_iconst (v := 0) X dX8_order_47 (by decide) ?_
      refine z_aload_n X 1 dX8_order_48 rfl rfl ?_
      refine z_getI (ci := 11) (j := 30) (x := nI nk) X dX8_order_49 zmm_c1 rfl (by decide) hlk_195 (Or.inl rfl) (fun _ => rfl) (by show i 1 30 = (nI nk); exact hk) ?_
      refine z_iconst (v := 1) X dX8_order_52 (by decide) ?_
      refine z_isub X dX8_order_53 ?_
      refine z_callSi (As := [.int kd, .int 0, .int ((nI nk) - 1)]) (rest := [.ref 1]) (n1 := 3) X dX8_order_54 (c_X8_in l _ kd 0 ((nI nk) - 1)) gX8_order_X8_in rfl rfl (by decide +kernel) ⟨by decide, by decide⟩ rfl (Nat.le_of_ble_eq_true rfl) ⟨by decide, by decide⟩ (fun _ h => h.elim) ?_
      rintro _ _ ⟨rfl, rfl⟩
      refine z_if_ne X 64 dX8_order_57 (by decide) (fun c_57 => ?_) (fun c_57 => ?_)
      · skip
        refine z_iload X 0 dX8_order_64 rfl ?_
        refine z_if_ne X 73 dX8_order_66 (by decide) (fun c_66 => ?_) (fun c_66 => ?_)
        · exact absurd c_66 (by decide)
        · skip
          refine z_iconst (v := 2) X dX8_order_69 (by decide) ?_
          refine z_goto (tgt := 87) X dX8_order_70 (by decide) ?_
          refine z_putI (ci := 11) (j := 43) X dX8_order_87 zmm_c1 rfl (by decide) hlk_116 (Or.inl rfl) (Or.inl rfl) (fun _ => rfl) rfl rfl ?_
          obtain ⟨i_3, hi_3⟩ : ∃ q, q = zup i 1 43 2 := ⟨_, rfl⟩
          refine z_mem (M' := zmm i_3 lm) (by rw [hi_3]; rfl) ?_
          refine z_aload_n X 1 dX8_order_90 rfl rfl ?_
          refine z_getI (ci := 11) (j := 43) (x := 2) X dX8_order_91 zmm_c1 rfl (by decide) hlk_116 (Or.inl rfl) (fun _ => rfl) (by show i_3 1 43 = 2; rw [hi_3, zup_s]) ?_
          refine z_if_le X 99 dX8_order_94 (by decide) (fun c_94 => ?_) (fun c_94 => ?_)
          · exact absurd c_94 (by decide)
          · skip
            refine z_iconst (v := 0) X dX8_order_97 (by decide) ?_
            refine z_iret X rfl rfl (Nat.le_refl _) (Nat.le_refl _) dX8_order_98 ?_
            subst hi_3
            (try simp only [zb_0, Classical.not_not] at c_7 c_18 c_57 c_66 c_94)
            exact ⟨_, rfl, by (first | rfl | (simp only [Int32.lt_irrefl, if_true, if_false, not_true_eq_false, not_false_eq_true, and_true, true_and, and_false, false_and, or_true, true_or, or_false, false_or, and_self, ite_self, zb, q_orderV, q_orderF, c_7, c_18, c_57, c_66, c_94, eq_true c_7, eq_true c_18, eq_true c_57, eq_true c_66, eq_true c_94]; done) | (simp only [Int32.lt_irrefl, if_true, if_false, not_true_eq_false, not_false_eq_true, and_true, true_and, and_false, false_and, or_true, true_or, or_false, false_or, and_self, ite_self, zb, q_orderV, q_orderF, c_7, c_18, c_57, c_66, c_94, eq_true c_7, eq_true c_18, eq_true c_57, eq_true c_66, eq_true c_94]; rfl)), by (first | rfl | (simp only [Int32.lt_irrefl, if_true, if_false, not_true_eq_false, not_false_eq_true, and_true, true_and, and_false, false_and, or_true, true_or, or_false, false_or, and_self, ite_self, zb, q_orderV, q_orderF, c_7, c_18, c_57, c_66, c_94, eq_true c_7, eq_true c_18, eq_true c_57, eq_true c_66, eq_true c_94]; done) | (simp only [Int32.lt_irrefl, if_true, if_false, not_true_eq_false, not_false_eq_true, and_true, true_and, and_false, false_and, or_true, true_or, or_false, false_or, and_self, ite_self, zb, q_orderV, q_orderF, c_7, c_18, c_57, c_66, c_94, eq_true c_7, eq_true c_18, eq_true c_57, eq_true c_66, eq_true c_94]; rfl))⟩
      · skip
        refine z_iconst (v := 1) X dX8_order_60 (by decide) ?_
        refine z_goto (tgt := 87) X dX8_order_61 (by decide) ?_
        refine z_putI (ci := 11) (j := 43) X dX8_order_87 zmm_c1 rfl (by decide) hlk_116 (Or.inl rfl) (Or.inl rfl) (fun _ => rfl) rfl rfl ?_
        obtain ⟨i_4, hi_4⟩ : ∃ q, q = zup i 1 43 1 := ⟨_, rfl⟩
        refine z_mem (M' := zmm i_4 lm) (by rw [hi_4]; rfl) ?_
        refine z_aload_n X 1 dX8_order_90 rfl rfl ?_
        refine z_getI (ci := 11) (j := 43) (x := 1) X dX8_order_91 zmm_c1 rfl (by decide) hlk_116 (Or.inl rfl) (fun _ => rfl) (by show i_4 1 43 = 1; rw [hi_4, zup_s]) ?_
        refine z_if_le X 99 dX8_order_94 (by decide) (fun c_94 => ?_) (fun c_94 => ?_)
        · exact absurd c_94 (by decide)
        · skip
          refine z_iconst (v := 0) X dX8_order_97 (by decide) ?_
          refine z_iret X rfl rfl (Nat.le_refl _) (Nat.le_refl _) dX8_order_98 ?_
          subst hi_4
          (try simp only [zb_0, Classical.not_not] at c_7 c_18 c_57 c_94)
          exact ⟨_, rfl, by (first | rfl | (simp only [Int32.lt_irrefl, if_true, if_false, not_true_eq_false, not_false_eq_true, and_true, true_and, and_false, false_and, or_true, true_or, or_false, false_or, and_self, ite_self, zb, q_orderV, q_orderF, c_7, c_18, c_57, c_94, eq_true c_7, eq_true c_18, eq_true c_57, eq_true c_94]; done) | (simp only [Int32.lt_irrefl, if_true, if_false, not_true_eq_false, not_false_eq_true, and_true, true_and, and_false, false_and, or_true, true_or, or_false, false_or, and_self, ite_self, zb, q_orderV, q_orderF, c_7, c_18, c_57, c_94, eq_true c_7, eq_true c_18, eq_true c_57, eq_true c_94]; rfl)), by (first | rfl | (simp only [Int32.lt_irrefl, if_true, if_false, not_true_eq_false, not_false_eq_true, and_true, true_and, and_false, false_and, or_true, true_or, or_false, false_or, and_self, ite_self, zb, q_orderV, q_orderF, c_7, c_18, c_57, c_94, eq_true c_7, eq_true c_18, eq_true c_57, eq_true c_94]; done) | (simp only [Int32.lt_irrefl, if_true, if_false, not_true_eq_false, not_false_eq_true, and_true, true_and, and_false, false_and, or_true, true_or, or_false, false_or, and_self, ite_self, zb, q_orderV, q_orderF, c_7, c_18, c_57, c_94, eq_true c_7, eq_true c_18, eq_true c_57, eq_true c_94]; rfl))⟩
    · skip
      refine z_iload X 4 dX8_order_21 rfl ?_
      refine z_aload_n X 0 dX8_order_23 rfl rfl ?_
      refine z_getI (ci := 11) (j := 0) (x := i 1 0) X dX8_order_24 zmm_c1 rfl (by decide) hlk_132 (Or.inl rfl) (fun _ => rfl) (rfl) ?_
      refine z_iconst (v := 1) X dX8_order_27 (by decide) ?_
      refine z_iadd X dX8_order_28 ?_
      refine z_sipush (v := 960) X dX8_order_29 (by decide) ?_
      refine z_callSi (As := [.int e, .int ((i 1 0) + 1), .int 960]) (rest := []) (n1 := 3) X dX8_order_32 (c_X8_in l _ e ((i 1 0) + 1) 960) gX8_order_X8_in rfl rfl (by decide +kernel) ⟨by decide, by decide⟩ rfl (Nat.le_of_ble_eq_true rfl) ⟨by decide, by decide⟩ (fun _ h => h.elim) ?_
      rintro _ _ ⟨rfl, rfl⟩
      refine z_if_eq X 42 dX8_order_35 (by decide) (fun c_35 => ?_) (fun c_35 => ?_)
      · skip
        refine z_iconst (v := 0) X dX8_order_42 (by decide) ?_
        refine z_istore (ls' := [(5, .int 0), (0, .ref 1), (1, .int kd), (2, .int a), (3, .int b), (4, .int e)]) X dX8_order_43 (by decide) rfl ?_
        refine z_aload_n X 1 dX8_order_45 rfl rfl ?_
        refine z_iload_n X 2 dX8_order_46 rfl rfl ?_
        refine z_iconst (v := 0) X dX8_order_47 (by decide) ?_
        refine z_aload_n X 1 dX8_order_48 rfl rfl ?_
        refine z_getI (ci := 11) (j := 30) (x := nI nk) X dX8_order_49 zmm_c1 rfl (by decide) hlk_195 (Or.inl rfl) (fun _ => rfl) (by show i 1 30 = (nI nk); exact hk) ?_
        refine z_iconst (v := 1) X dX8_order_52 (by decide) ?_
        refine z_isub X dX8_order_53 ?_
        refine z_callSi (As := [.int kd, .int 0, .int ((nI nk) - 1)]) (rest := [.ref 1]) (n1 := 3) X dX8_order_54 (c_X8_in l _ kd 0 ((nI nk) - 1)) gX8_order_X8_in rfl rfl (by decide +kernel) ⟨by decide, by decide⟩ rfl (Nat.le_of_ble_eq_true rfl) ⟨by decide, by decide⟩ (fun _ h => h.elim) ?_
        rintro _ _ ⟨rfl, rfl⟩
        refine z_if_ne X 64 dX8_order_57 (by decide) (fun c_57 => ?_) (fun c_57 => ?_)
        · skip
          refine z_iload X 0 dX8_order_64 rfl ?_
          refine z_if_ne X 73 dX8_order_66 (by decide) (fun c_66 => ?_) (fun c_66 => ?_)
          · exact absurd c_66 (by decide)
          · skip
            refine z_iconst (v := 2) X dX8_order_69 (by decide) ?_
            refine z_goto (tgt := 87) X dX8_order_70 (by decide) ?_
            refine z_putI (ci := 11) (j := 43) X dX8_order_87 zmm_c1 rfl (by decide) hlk_116 (Or.inl rfl) (Or.inl rfl) (fun _ => rfl) rfl rfl ?_
            obtain ⟨i_5, hi_5⟩ : ∃ q, q = zup i 1 43 2 := ⟨_, rfl⟩
            refine z_mem (M' := zmm i_5 lm) (by rw [hi_5]; rfl) ?_
            refine z_aload_n X 1 dX8_order_90 rfl rfl ?_
            refine z_getI (ci := 11) (j := 43) (x := 2) X dX8_order_91 zmm_c1 rfl (by decide) hlk_116 (Or.inl rfl) (fun _ => rfl) (by show i_5 1 43 = 2; rw [hi_5, zup_s]) ?_
            refine z_if_le X 99 dX8_order_94 (by decide) (fun c_94 => ?_) (fun c_94 => ?_)
            · exact absurd c_94 (by decide)
            · skip
              refine z_iconst (v := 0) X dX8_order_97 (by decide) ?_
              refine z_iret X rfl rfl (Nat.le_refl _) (Nat.le_refl _) dX8_order_98 ?_
              subst hi_5
              (try simp only [zb_0, Classical.not_not] at c_7 c_18 c_35 c_57 c_66 c_94)
              exact ⟨_, rfl, by (first | rfl | (simp only [Int32.lt_irrefl, if_true, if_false, not_true_eq_false, not_false_eq_true, and_true, true_and, and_false, false_and, or_true, true_or, or_false, false_or, and_self, ite_self, zb, q_orderV, q_orderF, c_7, c_18, c_35, c_57, c_66, c_94, eq_true c_7, eq_true c_18, eq_true c_35, eq_true c_57, eq_true c_66, eq_true c_94]; done) | (simp only [Int32.lt_irrefl, if_true, if_false, not_true_eq_false, not_false_eq_true, and_true, true_and, and_false, false_and, or_true, true_or, or_false, false_or, and_self, ite_self, zb, q_orderV, q_orderF, c_7, c_18, c_35, c_57, c_66, c_94, eq_true c_7, eq_true c_18, eq_true c_35, eq_true c_57, eq_true c_66, eq_true c_94]; rfl)), by (first | rfl | (simp only [Int32.lt_irrefl, if_true, if_false, not_true_eq_false, not_false_eq_true, and_true, true_and, and_false, false_and, or_true, true_or, or_false, false_or, and_self, ite_self, zb, q_orderV, q_orderF, c_7, c_18, c_35, c_57, c_66, c_94, eq_true c_7, eq_true c_18, eq_true c_35, eq_true c_57, eq_true c_66, eq_true c_94]; done) | (simp only [Int32.lt_irrefl, if_true, if_false, not_true_eq_false, not_false_eq_true, and_true, true_and, and_false, false_and, or_true, true_or, or_false, false_or, and_self, ite_self, zb, q_orderV, q_orderF, c_7, c_18, c_35, c_57, c_66, c_94, eq_true c_7, eq_true c_18, eq_true c_35, eq_true c_57, eq_true c_66, eq_true c_94]; rfl))⟩
        · skip
          refine z_iconst (v := 1) X dX8_order_60 (by decide) ?_
          refine z_goto (tgt := 87) X dX8_order_61 (by decide) ?_
          refine z_putI (ci := 11) (j := 43) X dX8_order_87 zmm_c1 rfl (by decide) hlk_116 (Or.inl rfl) (Or.inl rfl) (fun _ => rfl) rfl rfl ?_
          obtain ⟨i_6, hi_6⟩ : ∃ q, q = zup i 1 43 1 := ⟨_, rfl⟩
          refine z_mem (M' := zmm i_6 lm) (by rw [hi_6]; rfl) ?_
          refine z_aload_n X 1 dX8_order_90 rfl rfl ?_
          refine z_getI (ci := 11) (j := 43) (x := 1) X dX8_order_91 zmm_c1 rfl (by decide) hlk_116 (Or.inl rfl) (fun _ => rfl) (by show i_6 1 43 = 1; rw [hi_6, zup_s]) ?_
          refine z_if_le X 99 dX8_order_94 (by decide) (fun c_94 => ?_) (fun c_94 => ?_)
          · exact absurd c_94 (by decide)
          · skip
            refine z_iconst (v := 0) X dX8_order_97 (by decide) ?_
            refine z_iret X rfl rfl (Nat.le_refl _) (Nat.le_refl _) dX8_order_98 ?_
            subst hi_6
            (try simp only [zb_0, Classical.not_not] at c_7 c_18 c_35 c_57 c_94)
            exact ⟨_, rfl, by (first | rfl | (simp only [Int32.lt_irrefl, if_true, if_false, not_true_eq_false, not_false_eq_true, and_true, true_and, and_false, false_and, or_true, true_or, or_false, false_or, and_self, ite_self, zb, q_orderV, q_orderF, c_7, c_18, c_35, c_57, c_94, eq_true c_7, eq_true c_18, eq_true c_35, eq_true c_57, eq_true c_94]; done) | (simp only [Int32.lt_irrefl, if_true, if_false, not_true_eq_false, not_false_eq_true, and_true, true_and, and_false, false_and, or_true, true_or, or_false, false_or, and_self, ite_self, zb, q_orderV, q_orderF, c_7, c_18, c_35, c_57, c_94, eq_true c_7, eq_true c_18, eq_true c_35, eq_true c_57, eq_true c_94]; rfl)), by (first | rfl | (simp only [Int32.lt_irrefl, if_true, if_false, not_true_eq_false, not_false_eq_true, and_true, true_and, and_false, false_and, or_true, true_or, or_false, false_or, and_self, ite_self, zb, q_orderV, q_orderF, c_7, c_18, c_35, c_57, c_94, eq_true c_7, eq_true c_18, eq_true c_35, eq_true c_57, eq_true c_94]; done) | (simp only [Int32.lt_irrefl, if_true, if_false, not_true_eq_false, not_false_eq_true, and_true, true_and, and_false, false_and, or_true, true_or, or_false, false_or, and_self, ite_self, zb, q_orderV, q_orderF, c_7, c_18, c_35, c_57, c_94, eq_true c_7, eq_true c_18, eq_true c_35, eq_true c_57, eq_true c_94]; rfl))⟩
      · skip
        refine z_iconst (v := 1) X dX8_order_38 (by decide) ?_
        refine z_goto (tgt := 43) X dX8_order_39 (by decide) ?_
        refine z_istore (ls' := [(5, .int 1), (0, .ref 1), (1, .int kd), (2, .int a), (3, .int b), (4, .int e)]) X dX8_order_43 (by decide) rfl ?_
        refine z_aload_n X 1 dX8_order_45 rfl rfl ?_
        refine z_iload_n X 2 dX8_order_46 rfl rfl ?_
        refine z_iconst (v := 0) X dX8_order_47 (by decide) ?_
        refine z_aload_n X 1 dX8_order_48 rfl rfl ?_
        refine z_getI (ci := 11) (j := 30) (x := nI nk) X dX8_order_49 zmm_c1 rfl (by decide) hlk_195 (Or.inl rfl) (fun _ => rfl) (by show i 1 30 = (nI nk); exact hk) ?_
        refine z_iconst (v := 1) X dX8_order_52 (by decide) ?_
        refine z_isub X dX8_order_53 ?_
        refine z_callSi (As := [.int kd, .int 0, .int ((nI nk) - 1)]) (rest := [.ref 1]) (n1 := 3) X dX8_order_54 (c_X8_in l _ kd 0 ((nI nk) - 1)) gX8_order_X8_in rfl rfl (by decide +kernel) ⟨by decide, by decide⟩ rfl (Nat.le_of_ble_eq_true rfl) ⟨by decide, by decide⟩ (fun _ h => h.elim) ?_
        rintro _ _ ⟨rfl, rfl⟩
        refine z_if_ne X 64 dX8_order_57 (by decide) (fun c_57 => ?_) (fun c_57 => ?_)
        · skip
          refine z_iload X 0 dX8_order_64 rfl ?_
          refine z_if_ne X 73 dX8_order_66 (by decide) (fun c_66 => ?_) (fun c_66 => ?_)
          · skip
            refine z_aload_n X 1 dX8_order_73 rfl rfl ?_
            refine z_getI (ci := 11) (j := 42) (x := nI no) X dX8_order_74 zmm_c1 rfl (by decide) hlk_129 (Or.inl rfl) (fun _ => rfl) (by show i 1 42 = (nI no); exact ho) ?_
            refine z_bipush (v := 12) X dX8_order_77 (by decide) ?_
            refine z_icmp_ne X 86 dX8_order_79 (by decide) (fun c_79 => ?_) (fun c_79 => ?_)
            · skip
              refine z_iconst (v := 0) X dX8_order_86 (by decide) ?_
              refine z_putI (ci := 11) (j := 43) X dX8_order_87 zmm_c1 rfl (by decide) hlk_116 (Or.inl rfl) (Or.inl rfl) (fun _ => rfl) rfl rfl ?_
              obtain ⟨i_7, hi_7⟩ : ∃ q, q = zup i 1 43 0 := ⟨_, rfl⟩
              refine z_mem (M' := zmm i_7 lm) (by rw [hi_7]; rfl) ?_
              refine z_aload_n X 1 dX8_order_90 rfl rfl ?_
              refine z_getI (ci := 11) (j := 43) (x := 0) X dX8_order_91 zmm_c1 rfl (by decide) hlk_116 (Or.inl rfl) (fun _ => rfl) (by show i_7 1 43 = 0; rw [hi_7, zup_s]) ?_
              refine z_if_le X 99 dX8_order_94 (by decide) (fun c_94 => ?_) (fun c_94 => ?_)
              · skip
                refine z_aload_n X 1 dX8_order_99 rfl rfl ?_
                refine z_getR (ci := 11) (j := 36) (o' := 136) X dX8_order_100 zmm_c1 rfl (by decide) hlk_98 (Or.inl rfl) (fun _ => rfl) (zmm_r136) ?_
                refine z_aload_n X 1 dX8_order_103 rfl rfl ?_
                refine z_getI (ci := 11) (j := 42) (x := nI no) X dX8_order_104 zmm_c1 rfl (by decide) hlk_129 (Or.inl rfl) (fun _ => rfl) (by show i_7 1 42 = (nI no); rw [hi_7, zup_n (by decide)]; exact ho) ?_
                refine z_iload_n X 2 dX8_order_107 rfl rfl ?_
                refine z_iast (j := no) X dX8_order_108 zmm_c136 (by rw [zmm_n136]; exact vp_in_nI (nI_ltc (N := 12) h12 c_79) (by decide)) (nI_clamp (by omega)) ?_
                obtain ⟨i_8, hi_8⟩ : ∃ q, q = zup i_7 136 no kd := ⟨_, rfl⟩
                refine z_mem (M' := zmm i_8 lm) (by rw [hi_8]; rfl) ?_
                refine z_aload_n X 1 dX8_order_109 rfl rfl ?_
                refine z_getR (ci := 11) (j := 37) (o' := 137) X dX8_order_110 zmm_c1 rfl (by decide) hlk_101 (Or.inl rfl) (fun _ => rfl) (zmm_r137) ?_
                refine z_aload_n X 1 dX8_order_113 rfl rfl ?_
                refine z_getI (ci := 11) (j := 42) (x := nI no) X dX8_order_114 zmm_c1 rfl (by decide) hlk_129 (Or.inl rfl) (fun _ => rfl) (by show i_8 1 42 = (nI no); rw [hi_8, zup_n (by omega)]; rw [hi_7, zup_n (by decide)]; exact ho) ?_
                refine z_iload_n X 3 dX8_order_117 rfl rfl ?_
                refine z_iast (j := no) X dX8_order_118 zmm_c137 (by rw [zmm_n137]; exact vp_in_nI (nI_ltc (N := 12) h12 c_79) (by decide)) (nI_clamp (by omega)) ?_
                obtain ⟨i_9, hi_9⟩ : ∃ q, q = zup i_8 137 no a := ⟨_, rfl⟩
                refine z_mem (M' := zmm i_9 lm) (by rw [hi_9]; rfl) ?_
                refine z_aload_n X 1 dX8_order_119 rfl rfl ?_
                refine z_getR (ci := 11) (j := 38) (o' := 138) X dX8_order_120 zmm_c1 rfl (by decide) hlk_104 (Or.inl rfl) (fun _ => rfl) (zmm_r138) ?_
                refine z_aload_n X 1 dX8_order_123 rfl rfl ?_
                refine z_getI (ci := 11) (j := 42) (x := nI no) X dX8_order_124 zmm_c1 rfl (by decide) hlk_129 (Or.inl rfl) (fun _ => rfl) (by show i_9 1 42 = (nI no); rw [hi_9, zup_n (by omega)]; rw [hi_8, zup_n (by omega)]; rw [hi_7, zup_n (by decide)]; exact ho) ?_
                refine z_iload_n X 4 dX8_order_127 rfl rfl ?_
                refine z_iast (j := no) X dX8_order_128 zmm_c138 (by rw [zmm_n138]; exact vp_in_nI (nI_ltc (N := 12) h12 c_79) (by decide)) (nI_clamp (by omega)) ?_
                obtain ⟨i_10, hi_10⟩ : ∃ q, q = zup i_9 138 no b := ⟨_, rfl⟩
                refine z_mem (M' := zmm i_10 lm) (by rw [hi_10]; rfl) ?_
                refine z_aload_n X 1 dX8_order_129 rfl rfl ?_
                refine z_getR (ci := 11) (j := 39) (o' := 139) X dX8_order_130 zmm_c1 rfl (by decide) hlk_107 (Or.inl rfl) (fun _ => rfl) (zmm_r139) ?_
                refine z_aload_n X 1 dX8_order_133 rfl rfl ?_
                refine z_getI (ci := 11) (j := 42) (x := nI no) X dX8_order_134 zmm_c1 rfl (by decide) hlk_129 (Or.inl rfl) (fun _ => rfl) (by show i_10 1 42 = (nI no); rw [hi_10, zup_n (by omega)]; rw [hi_9, zup_n (by omega)]; rw [hi_8, zup_n (by omega)]; rw [hi_7, zup_n (by decide)]; exact ho) ?_
                refine z_iload X 5 dX8_order_137 rfl ?_
                refine z_iast (j := no) X dX8_order_139 zmm_c139 (by rw [zmm_n139]; exact vp_in_nI (nI_ltc (N := 12) h12 c_79) (by decide)) (nI_clamp (by omega)) ?_
                obtain ⟨i_11, hi_11⟩ : ∃ q, q = zup i_10 139 no e := ⟨_, rfl⟩
                refine z_mem (M' := zmm i_11 lm) (by rw [hi_11]; rfl) ?_
                refine z_aload_n X 1 dX8_order_140 rfl rfl ?_
                refine z_getR (ci := 11) (j := 40) (o' := 140) X dX8_order_141 zmm_c1 rfl (by decide) hlk_110 (Or.inl rfl) (fun _ => rfl) (zmm_r140) ?_
                refine z_aload_n X 1 dX8_order_144 rfl rfl ?_
                refine z_getI (ci := 11) (j := 42) (x := nI no) X dX8_order_145 zmm_c1 rfl (by decide) hlk_129 (Or.inl rfl) (fun _ => rfl) (by show i_11 1 42 = (nI no); rw [hi_11, zup_n (by omega)]; rw [hi_10, zup_n (by omega)]; rw [hi_9, zup_n (by omega)]; rw [hi_8, zup_n (by omega)]; rw [hi_7, zup_n (by decide)]; exact ho) ?_
                refine z_bipush (v := 111) X dX8_order_148 (by decide) ?_
                refine z_cast (j := no) X dX8_order_150 zmm_c140 (by rw [zmm_n140]; exact vp_in_nI (nI_ltc (N := 12) h12 c_79) (by decide)) (nI_clamp (by omega)) (rfl) ?_
                obtain ⟨i_12, hi_12⟩ : ∃ q, q = zup i_11 140 no 111 := ⟨_, rfl⟩
                refine z_mem (M' := zmm i_12 lm) (by rw [hi_12]; rfl) ?_
                refine z_aload_n X 1 dX8_order_151 rfl rfl ?_
                refine z_dup X dX8_order_152 rfl ?_
                refine z_getI (ci := 11) (j := 42) (x := nI no) X dX8_order_153 zmm_c1 rfl (by decide) hlk_129 (Or.inl rfl) (fun _ => rfl) (by show i_12 1 42 = (nI no); rw [hi_12, zup_n (by omega)]; rw [hi_11, zup_n (by omega)]; rw [hi_10, zup_n (by omega)]; rw [hi_9, zup_n (by omega)]; rw [hi_8, zup_n (by omega)]; rw [hi_7, zup_n (by decide)]; exact ho) ?_
                refine z_iconst (v := 1) X dX8_order_156 (by decide) ?_
                refine z_iadd X dX8_order_157 ?_
                refine z_putI (ci := 11) (j := 42) X dX8_order_158 zmm_c1 rfl (by decide) hlk_129 (Or.inl rfl) (Or.inl rfl) (fun _ => rfl) rfl rfl ?_
                obtain ⟨i_13, hi_13⟩ : ∃ q, q = zup i_12 1 42 ((nI no) + 1) := ⟨_, rfl⟩
                refine z_mem (M' := zmm i_13 lm) (by rw [hi_13]; rfl) ?_
                refine z_aload_n X 1 dX8_order_161 rfl rfl ?_
                refine z_getI (ci := 11) (j := 42) (x := (nI no) + 1) X dX8_order_162 zmm_c1 rfl (by decide) hlk_129 (Or.inl rfl) (fun _ => rfl) (by show i_13 1 42 = ((nI no) + 1); rw [hi_13, zup_s]) ?_
                refine z_iconst (v := 1) X dX8_order_165 (by decide) ?_
                refine z_isub X dX8_order_166 ?_
                refine z_iret X rfl rfl (Nat.le_refl _) (Nat.le_refl _) dX8_order_167 ?_
                subst hi_13
                subst hi_12
                subst hi_11
                subst hi_10
                subst hi_9
                subst hi_8
                subst hi_7
                (try simp only [zb_0, Classical.not_not] at c_7 c_18 c_35 c_57 c_66 c_79 c_94)
                exact ⟨_, rfl, by (first | rfl | (simp only [Int32.lt_irrefl, if_true, if_false, not_true_eq_false, not_false_eq_true, and_true, true_and, and_false, false_and, or_true, true_or, or_false, false_or, and_self, ite_self, zb, q_orderV, q_orderF, c_7, c_18, c_35, c_57, c_66, c_79, c_94, eq_true c_7, eq_true c_18, eq_true c_35, eq_true c_57, eq_true c_66, eq_true c_79, eq_true c_94]; done) | (simp only [Int32.lt_irrefl, if_true, if_false, not_true_eq_false, not_false_eq_true, and_true, true_and, and_false, false_and, or_true, true_or, or_false, false_or, and_self, ite_self, zb, q_orderV, q_orderF, c_7, c_18, c_35, c_57, c_66, c_79, c_94, eq_true c_7, eq_true c_18, eq_true c_35, eq_true c_57, eq_true c_66, eq_true c_79, eq_true c_94]; rfl)), by (first | rfl | (simp only [Int32.lt_irrefl, if_true, if_false, not_true_eq_false, not_false_eq_true, and_true, true_and, and_false, false_and, or_true, true_or, or_false, false_or, and_self, ite_self, zb, q_orderV, q_orderF, c_7, c_18, c_35, c_57, c_66, c_79, c_94, eq_true c_7, eq_true c_18, eq_true c_35, eq_true c_57, eq_true c_66, eq_true c_79, eq_true c_94]; done) | (simp only [Int32.lt_irrefl, if_true, if_false, not_true_eq_false, not_false_eq_true, and_true, true_and, and_false, false_and, or_true, true_or, or_false, false_or, and_self, ite_self, zb, q_orderV, q_orderF, c_7, c_18, c_35, c_57, c_66, c_79, c_94, eq_true c_7, eq_true c_18, eq_true c_35, eq_true c_57, eq_true c_66, eq_true c_79, eq_true c_94]; rfl))⟩
              · exact absurd c_94 (by decide)
            · skip
              refine z_iconst (v := 3) X dX8_order_82 (by decide) ?_
              refine z_goto (tgt := 87) X dX8_order_83 (by decide) ?_
              refine z_putI (ci := 11) (j := 43) X dX8_order_87 zmm_c1 rfl (by decide) hlk_116 (Or.inl rfl) (Or.inl rfl) (fun _ => rfl) rfl rfl ?_
              obtain ⟨i_14, hi_14⟩ : ∃ q, q = zup i 1 43 3 := ⟨_, rfl⟩
              refine z_mem (M' := zmm i_14 lm) (by rw [hi_14]; rfl) ?_
              refine z_aload_n X 1 dX8_order_90 rfl rfl ?_
              refine z_getI (ci := 11) (j := 43) (x := 3) X dX8_order_91 zmm_c1 rfl (by decide) hlk_116 (Or.inl rfl) (fun _ => rfl) (by show i_14 1 43 = 3; rw [hi_14, zup_s]) ?_
              refine z_if_le X 99 dX8_order_94 (by decide) (fun c_94 => ?_) (fun c_94 => ?_)
              · exact absurd c_94 (by decide)
              · skip
                refine z_iconst (v := 0) X dX8_order_97 (by decide) ?_
                refine z_iret X rfl rfl (Nat.le_refl _) (Nat.le_refl _) dX8_order_98 ?_
                subst hi_14
                (try simp only [zb_0, Classical.not_not] at c_7 c_18 c_35 c_57 c_66 c_79 c_94)
                exact ⟨_, rfl, by (first | rfl | (simp only [Int32.lt_irrefl, if_true, if_false, not_true_eq_false, not_false_eq_true, and_true, true_and, and_false, false_and, or_true, true_or, or_false, false_or, and_self, ite_self, zb, q_orderV, q_orderF, c_7, c_18, c_35, c_57, c_66, c_79, c_94, eq_true c_7, eq_true c_18, eq_true c_35, eq_true c_57, eq_true c_66, eq_true c_79, eq_true c_94]; done) | (simp only [Int32.lt_irrefl, if_true, if_false, not_true_eq_false, not_false_eq_true, and_true, true_and, and_false, false_and, or_true, true_or, or_false, false_or, and_self, ite_self, zb, q_orderV, q_orderF, c_7, c_18, c_35, c_57, c_66, c_79, c_94, eq_true c_7, eq_true c_18, eq_true c_35, eq_true c_57, eq_true c_66, eq_true c_79, eq_true c_94]; rfl)), by (first | rfl | (simp only [Int32.lt_irrefl, if_true, if_false, not_true_eq_false, not_false_eq_true, and_true, true_and, and_false, false_and, or_true, true_or, or_false, false_or, and_self, ite_self, zb, q_orderV, q_orderF, c_7, c_18, c_35, c_57, c_66, c_79, c_94, eq_true c_7, eq_true c_18, eq_true c_35, eq_true c_57, eq_true c_66, eq_true c_79, eq_true c_94]; done) | (simp only [Int32.lt_irrefl, if_true, if_false, not_true_eq_false, not_false_eq_true, and_true, true_and, and_false, false_and, or_true, true_or, or_false, false_or, and_self, ite_self, zb, q_orderV, q_orderF, c_7, c_18, c_35, c_57, c_66, c_79, c_94, eq_true c_7, eq_true c_18, eq_true c_35, eq_true c_57, eq_true c_66, eq_true c_79, eq_true c_94]; rfl))⟩
          · exact absurd c_66 (by decide)
        · skip
          refine z_iconst (v := 1) X dX8_order_60 (by decide) ?_
          refine z_goto (tgt := 87) X dX8_order_61 (by decide) ?_
          refine z_putI (ci := 11) (j := 43) X dX8_order_87 zmm_c1 rfl (by decide) hlk_116 (Or.inl rfl) (Or.inl rfl) (fun _ => rfl) rfl rfl ?_
          obtain ⟨i_15, hi_15⟩ : ∃ q, q = zup i 1 43 1 := ⟨_, rfl⟩
          refine z_mem (M' := zmm i_15 lm) (by rw [hi_15]; rfl) ?_
          refine z_aload_n X 1 dX8_order_90 rfl rfl ?_
          refine z_getI (ci := 11) (j := 43) (x := 1) X dX8_order_91 zmm_c1 rfl (by decide) hlk_116 (Or.inl rfl) (fun _ => rfl) (by show i_15 1 43 = 1; rw [hi_15, zup_s]) ?_
          refine z_if_le X 99 dX8_order_94 (by decide) (fun c_94 => ?_) (fun c_94 => ?_)
          · exact absurd c_94 (by decide)
          · skip
            refine z_iconst (v := 0) X dX8_order_97 (by decide) ?_
            refine z_iret X rfl rfl (Nat.le_refl _) (Nat.le_refl _) dX8_order_98 ?_
            subst hi_15
            (try simp only [zb_0, Classical.not_not] at c_7 c_18 c_35 c_57 c_94)
            exact ⟨_, rfl, by (first | rfl | (simp only [Int32.lt_irrefl, if_true, if_false, not_true_eq_false, not_false_eq_true, and_true, true_and, and_false, false_and, or_true, true_or, or_false, false_or, and_self, ite_self, zb, q_orderV, q_orderF, c_7, c_18, c_35, c_57, c_94, eq_true c_7, eq_true c_18, eq_true c_35, eq_true c_57, eq_true c_94]; done) | (simp only [Int32.lt_irrefl, if_true, if_false, not_true_eq_false, not_false_eq_true, and_true, true_and, and_false, false_and, or_true, true_or, or_false, false_or, and_self, ite_self, zb, q_orderV, q_orderF, c_7, c_18, c_35, c_57, c_94, eq_true c_7, eq_true c_18, eq_true c_35, eq_true c_57, eq_true c_94]; rfl)), by (first | rfl | (simp only [Int32.lt_irrefl, if_true, if_false, not_true_eq_false, not_false_eq_true, and_true, true_and, and_false, false_and, or_true, true_or, or_false, false_or, and_self, ite_self, zb, q_orderV, q_orderF, c_7, c_18, c_35, c_57, c_94, eq_true c_7, eq_true c_18, eq_true c_35, eq_true c_57, eq_true c_94]; done) | (simp only [Int32.lt_irrefl, if_true, if_false, not_true_eq_false, not_false_eq_true, and_true, true_and, and_false, false_and, or_true, true_or, or_false, false_or, and_self, ite_self, zb, q_orderV, q_orderF, c_7, c_18, c_35, c_57, c_94, eq_true c_7, eq_true c_18, eq_true c_35, eq_true c_57, eq_true c_94]; rfl))⟩

set_option maxRecDepth 100000 in
set_option maxHeartbeats 4000000 in
theorem c_X8_cancel (l : Launch) (i : Nat → Nat → Int32) (lm : Nat → Nat → Int64) (no : Nat) (ho : i 1 42 = nI no) (h12 : no ≤ 12) (o : Int32) : zS l yX8_cancel wsX8_cancel 2 43 0 0 [.ref 1, .int o] (zmm i lm) (zpi (fun rr M1 => rr = q_cancelV i no o ∧ M1 = zmm (q_cancelF i no o) lm)) zno := by
  refine z_intro (cc := cX8_cancel) (maxL := 4) (ret := (some .int)) (by decide +kernel) rfl (Nat.le_of_ble_eq_true rfl) ?_
  have hlk_110 : Cond.fieldLink RX8 110 "ColdStoreModel" "orderStates" "[C" ∈ wsX8_cancel := by decide +kernel
  have hlk_116 : Cond.fieldLink RX8 116 "ColdStoreModel" "thrown" "I" ∈ wsX8_cancel := by decide +kernel
  have hlk_129 : Cond.fieldLink RX8 129 "ColdStoreModel" "orders" "I" ∈ wsX8_cancel := by decide +kernel
  intro g X
  show zE g 4 0 [(0, .ref 1), (1, .int o)] [] (zmm i lm) 0 0
  refine z_aload_n X 0 dX8_cancel_0 rfl rfl ?_
  refine z_aload_n X 0 dX8_cancel_1 rfl rfl ?_
  refine z_iload_n X 1 dX8_cancel_2 rfl rfl ?_
  refine z_callVi (As := [.int o]) (rest := [.ref 1]) (n1 := 1) (ci := 11) X dX8_cancel_3 (c_X8_isOrder l _ _ o) gX8_cancel_X8_isOrder rfl rfl (by decide +kernel) ⟨by decide, by decide⟩ zmm_c1 rfl rfl (Nat.le_of_ble_eq_true rfl) ⟨by decide, by decide⟩ (fun _ h => h.elim) ?_
  rintro _ _ ⟨rfl, rfl⟩
  refine z_if_ne X 13 dX8_cancel_6 (by decide) (fun c_6 => ?_) (fun c_6 => ?_)
  · skip
    refine z_aload_n X 0 dX8_cancel_13 rfl rfl ?_
    refine z_getR (ci := 11) (j := 40) (o' := 140) X dX8_cancel_14 zmm_c1 rfl (by decide) hlk_110 (Or.inl rfl) (fun _ => rfl) (zmm_r140) ?_
    refine z_iload_n X 1 dX8_cancel_17 rfl rfl ?_
    refine z_cald (j := cl o) (x := i 140 (cl o)) X dX8_cancel_18 zmm_c140 (by rw [zmm_n140]; exact (zin_vp (zb_n0.mp c_6) ho h12 (by decide))) (rfl) (rfl) ?_
    refine z_bipush (v := 111) X dX8_cancel_19 (by decide) ?_
    refine z_icmp_eq X 28 dX8_cancel_21 (by decide) (fun c_21 => ?_) (fun c_21 => ?_)
    · skip
      refine z_iconst (v := 0) X dX8_cancel_28 (by decide) ?_
      refine z_putI (ci := 11) (j := 43) X dX8_cancel_29 zmm_c1 rfl (by decide) hlk_116 (Or.inl rfl) (Or.inl rfl) (fun _ => rfl) rfl rfl ?_
      obtain ⟨i_1, hi_1⟩ : ∃ q, q = zup i 1 43 0 := ⟨_, rfl⟩
      refine z_mem (M' := zmm i_1 lm) (by rw [hi_1]; rfl) ?_
      refine z_aload_n X 0 dX8_cancel_32 rfl rfl ?_
      refine z_getI (ci := 11) (j := 43) (x := 0) X dX8_cancel_33 zmm_c1 rfl (by decide) hlk_116 (Or.inl rfl) (fun _ => rfl) (by show i_1 1 43 = 0; rw [hi_1, zup_s]) ?_
      refine z_if_le X 41 dX8_cancel_36 (by decide) (fun c_36 => ?_) (fun c_36 => ?_)
      · skip
        refine z_aload_n X 0 dX8_cancel_41 rfl rfl ?_
        refine z_getR (ci := 11) (j := 40) (o' := 140) X dX8_cancel_42 zmm_c1 rfl (by decide) hlk_110 (Or.inl rfl) (fun _ => rfl) (zmm_r140) ?_
        refine z_iload_n X 1 dX8_cancel_45 rfl rfl ?_
        refine z_bipush (v := 99) X dX8_cancel_46 (by decide) ?_
        refine z_cast (j := cl o) X dX8_cancel_48 zmm_c140 (by rw [zmm_n140]; exact (zin_vp (zb_n0.mp c_6) ho h12 (by decide))) (rfl) (rfl) ?_
        obtain ⟨i_2, hi_2⟩ : ∃ q, q = zup i_1 140 (cl o) 99 := ⟨_, rfl⟩
        refine z_mem (M' := zmm i_2 lm) (by rw [hi_2]; rfl) ?_
        refine z_iconst (v := 0) X dX8_cancel_49 (by decide) ?_
        refine z_istore_n (ls' := [(2, .int 0), (0, .ref 1), (1, .int o)]) X dX8_cancel_50 rfl (by decide) rfl ?_
        refine z_iconst (v := 0) X dX8_cancel_51 (by decide) ?_
        refine z_istore_n (ls' := [(3, .int 0), (2, .int 0), (0, .ref 1), (1, .int o)]) X dX8_cancel_52 rfl (by decide) rfl ?_
        have hloop53 : ∀ q : Nat, q ≤ no → zE g 4 53 [(0, .ref 1), (1, .int o), (2, .int (m_openN i_2 q)), (3, .int (nI q))] [] (zmm i_2 lm) 0 0 := by
          refine z_loop (fun q => zE g 4 53 [(0, .ref 1), (1, .int o), (2, .int (m_openN i_2 q)), (3, .int (nI q))] [] (zmm i_2 lm) 0 0) no ?_ ?_
          · show zE g 4 53 [(0, .ref 1), (1, .int o), (2, .int (m_openN i_2 no)), (3, .int (nI no))] [] (zmm i_2 lm) 0 0
            refine z_iload_n X 3 dX8_cancel_53 rfl rfl ?_
            refine z_aload_n X 0 dX8_cancel_54 rfl rfl ?_
            refine z_getI (ci := 11) (j := 42) (x := i 1 42) X dX8_cancel_55 zmm_c1 rfl (by decide) hlk_129 (Or.inl rfl) (fun _ => rfl) (by show i_2 1 42 = (i 1 42); rw [hi_2, zup_n (by omega)]; rw [hi_1, zup_n (by decide)]) ?_
            refine z_icmp_ge X 86 dX8_cancel_58 (by decide) (fun c_58 => ?_) (fun c_58 => ?_)
            · skip
              refine z_iload_n X 2 dX8_cancel_86 rfl rfl ?_
              refine z_iret X rfl rfl (Nat.le_refl _) (Nat.le_refl _) dX8_cancel_87 ?_
              subst hi_2
              subst hi_1
              (try simp only [zb_0, Classical.not_not] at c_6 c_21 c_36 c_58)
              exact ⟨_, rfl, by (first | rfl | (simp only [Int32.lt_irrefl, if_true, if_false, not_true_eq_false, not_false_eq_true, and_true, true_and, and_false, false_and, or_true, true_or, or_false, false_or, and_self, ite_self, zb, q_cancelV, q_cancelF, c_6, c_21, c_36, c_58, eq_true c_6, eq_true c_21, eq_true c_36, eq_true c_58]; done) | (simp only [Int32.lt_irrefl, if_true, if_false, not_true_eq_false, not_false_eq_true, and_true, true_and, and_false, false_and, or_true, true_or, or_false, false_or, and_self, ite_self, zb, q_cancelV, q_cancelF, c_6, c_21, c_36, c_58, eq_true c_6, eq_true c_21, eq_true c_36, eq_true c_58]; rfl)), by (first | rfl | (simp only [Int32.lt_irrefl, if_true, if_false, not_true_eq_false, not_false_eq_true, and_true, true_and, and_false, false_and, or_true, true_or, or_false, false_or, and_self, ite_self, zb, q_cancelV, q_cancelF, c_6, c_21, c_36, c_58, eq_true c_6, eq_true c_21, eq_true c_36, eq_true c_58]; done) | (simp only [Int32.lt_irrefl, if_true, if_false, not_true_eq_false, not_false_eq_true, and_true, true_and, and_false, false_and, or_true, true_or, or_false, false_or, and_self, ite_self, zb, q_cancelV, q_cancelF, c_6, c_21, c_36, c_58, eq_true c_6, eq_true c_21, eq_true c_36, eq_true c_58]; rfl))⟩
            · exact absurd (by rw [ho]; exact Int32.le_refl _) c_58
          · intro q hq_53 ih53
            have ih53 : zE g 4 53 [(0, .ref 1), (1, .int o), (2, .int (m_openN i_2 (q + 1))), (3, .int (nI (q + 1)))] [] (zmm i_2 lm) 0 0 := ih53
            show zE g 4 53 [(0, .ref 1), (1, .int o), (2, .int (m_openN i_2 q)), (3, .int (nI q))] [] (zmm i_2 lm) 0 0
            refine z_iload_n X 3 dX8_cancel_53 rfl rfl ?_
            refine z_aload_n X 0 dX8_cancel_54 rfl rfl ?_
            refine z_getI (ci := 11) (j := 42) (x := i 1 42) X dX8_cancel_55 zmm_c1 rfl (by decide) hlk_129 (Or.inl rfl) (fun _ => rfl) (by show i_2 1 42 = (i 1 42); rw [hi_2, zup_n (by omega)]; rw [hi_1, zup_n (by decide)]) ?_
            refine z_icmp_ge X 86 dX8_cancel_58 (by decide) (fun c_58 => ?_) (fun c_58 => ?_)
            · exact absurd (by rw [← ho]; exact c_58) (nI_ge hq_53 (by omega))
            · skip
              refine z_iload_n X 2 dX8_cancel_61 rfl rfl ?_
              refine z_aload_n X 0 dX8_cancel_62 rfl rfl ?_
              refine z_getR (ci := 11) (j := 40) (o' := 140) X dX8_cancel_63 zmm_c1 rfl (by decide) hlk_110 (Or.inl rfl) (fun _ => rfl) (zmm_r140) ?_
              refine z_iload_n X 3 dX8_cancel_66 rfl rfl ?_
              refine z_cald (j := q) (x := i_2 140 q) X dX8_cancel_67 zmm_c140 (by rw [zmm_n140]; exact vp_in_nI (by omega) (by decide)) (nI_clamp (by omega)) (rfl) ?_
              refine z_bipush (v := 111) X dX8_cancel_68 (by decide) ?_
              refine z_icmp_ne X 77 dX8_cancel_70 (by decide) (fun c_70 => ?_) (fun c_70 => ?_)
              · skip
                refine z_iconst (v := 0) X dX8_cancel_77 (by decide) ?_
                refine z_iadd X dX8_cancel_78 ?_
                refine z_istore_n (ls' := [(2, .int ((m_openN i_2 q) + 0)), (0, .ref 1), (1, .int o), (3, .int (nI q))]) X dX8_cancel_79 rfl (by decide) rfl ?_
                refine z_iinc (ls' := [(3, .int (nI (q + 1))), (2, .int ((m_openN i_2 q) + 0)), (0, .ref 1), (1, .int o)]) (v := nI (q + 1)) X 3 dX8_cancel_80 rfl (nI_1 _) (by decide) rfl ?_
                refine z_goto (tgt := 53) X dX8_cancel_83 (by decide) ?_
                refine z_sub (ls' := [(0, .ref 1), (1, .int o), (2, .int ((m_openN i_2 q) + 0)), (3, .int (nI (q + 1)))]) [2, 3, 1, 0] rfl ?_
                refine z_lse (ls' := [(0, .ref 1), (1, .int o), (2, .int (m_openN i_2 (q + 1))), (3, .int (nI (q + 1)))]) (by (try simp only [zb_0, Classical.not_not] at c_6 c_21 c_36 c_58 c_70); (first | rfl | (simp only [Int32.lt_irrefl, if_true, if_false, not_true_eq_false, not_false_eq_true, and_true, true_and, and_false, false_and, or_true, true_or, or_false, false_or, and_self, ite_self, zb, m_openN, c_6, c_21, c_36, c_58, c_70, eq_true c_6, eq_true c_21, eq_true c_36, eq_true c_58, eq_true c_70]; done) | (simp only [Int32.lt_irrefl, if_true, if_false, not_true_eq_false, not_false_eq_true, and_true, true_and, and_false, false_and, or_true, true_or, or_false, false_or, and_self, ite_self, zb, m_openN, c_6, c_21, c_36, c_58, c_70, eq_true c_6, eq_true c_21, eq_true c_36, eq_true c_58, eq_true c_70]; rfl))) ?_
                exact ih53
              · skip
                refine z_iconst (v := 1) X dX8_cancel_73 (by decide) ?_
                refine z_goto (tgt := 78) X dX8_cancel_74 (by decide) ?_
                refine z_iadd X dX8_cancel_78 ?_
                refine z_istore_n (ls' := [(2, .int ((m_openN i_2 q) + 1)), (0, .ref 1), (1, .int o), (3, .int (nI q))]) X dX8_cancel_79 rfl (by decide) rfl ?_
                refine z_iinc (ls' := [(3, .int (nI (q + 1))), (2, .int ((m_openN i_2 q) + 1)), (0, .ref 1), (1, .int o)]) (v := nI (q + 1)) X 3 dX8_cancel_80 rfl (nI_1 _) (by decide) rfl ?_
                refine z_goto (tgt := 53) X dX8_cancel_83 (by decide) ?_
                refine z_sub (ls' := [(0, .ref 1), (1, .int o), (2, .int ((m_openN i_2 q) + 1)), (3, .int (nI (q + 1)))]) [2, 3, 1, 0] rfl ?_
                refine z_lse (ls' := [(0, .ref 1), (1, .int o), (2, .int (m_openN i_2 (q + 1))), (3, .int (nI (q + 1)))]) (by (try simp only [zb_0, Classical.not_not] at c_6 c_21 c_36 c_58 c_70); (first | rfl | (simp only [Int32.lt_irrefl, if_true, if_false, not_true_eq_false, not_false_eq_true, and_true, true_and, and_false, false_and, or_true, true_or, or_false, false_or, and_self, ite_self, zb, m_openN, c_6, c_21, c_36, c_58, c_70, eq_true c_6, eq_true c_21, eq_true c_36, eq_true c_58, eq_true c_70]; done) | (simp only [Int32.lt_irrefl, if_true, if_false, not_true_eq_false, not_false_eq_true, and_true, true_and, and_false, false_and, or_true, true_or, or_false, false_or, and_self, ite_self, zb, m_openN, c_6, c_21, c_36, c_58, c_70, eq_true c_6, eq_true c_21, eq_true c_36, eq_true c_58, eq_true c_70]; rfl))) ?_
                exact ih53
        refine z_sub (ls' := [(0, .ref 1), (1, .int o), (2, .int 0), (3, .int 0)]) [2, 3, 1, 0] rfl ?_
        refine z_lse (ls' := [(0, .ref 1), (1, .int o), (2, .int (m_openN i_2 0)), (3, .int (nI 0))]) (rfl) ?_
        exact hloop53 0 (Nat.zero_le _)
      · exact absurd c_36 (by decide)
    · skip
      refine z_iconst (v := 2) X dX8_cancel_24 (by decide) ?_
      refine z_goto (tgt := 29) X dX8_cancel_25 (by decide) ?_
      refine z_putI (ci := 11) (j := 43) X dX8_cancel_29 zmm_c1 rfl (by decide) hlk_116 (Or.inl rfl) (Or.inl rfl) (fun _ => rfl) rfl rfl ?_
      obtain ⟨i_3, hi_3⟩ : ∃ q, q = zup i 1 43 2 := ⟨_, rfl⟩
      refine z_mem (M' := zmm i_3 lm) (by rw [hi_3]; rfl) ?_
      refine z_aload_n X 0 dX8_cancel_32 rfl rfl ?_
      refine z_getI (ci := 11) (j := 43) (x := 2) X dX8_cancel_33 zmm_c1 rfl (by decide) hlk_116 (Or.inl rfl) (fun _ => rfl) (by show i_3 1 43 = 2; rw [hi_3, zup_s]) ?_
      refine z_if_le X 41 dX8_cancel_36 (by decide) (fun c_36 => ?_) (fun c_36 => ?_)
      · exact absurd c_36 (by decide)
      · skip
        refine z_iconst (v := 0) X dX8_cancel_39 (by decide) ?_
        refine z_iret X rfl rfl (Nat.le_refl _) (Nat.le_refl _) dX8_cancel_40 ?_
        subst hi_3
        (try simp only [zb_0, Classical.not_not] at c_6 c_21 c_36)
        exact ⟨_, rfl, by (first | rfl | (simp only [Int32.lt_irrefl, if_true, if_false, not_true_eq_false, not_false_eq_true, and_true, true_and, and_false, false_and, or_true, true_or, or_false, false_or, and_self, ite_self, zb, q_cancelV, q_cancelF, c_6, c_21, c_36, eq_true c_6, eq_true c_21, eq_true c_36]; done) | (simp only [Int32.lt_irrefl, if_true, if_false, not_true_eq_false, not_false_eq_true, and_true, true_and, and_false, false_and, or_true, true_or, or_false, false_or, and_self, ite_self, zb, q_cancelV, q_cancelF, c_6, c_21, c_36, eq_true c_6, eq_true c_21, eq_true c_36]; rfl)), by (first | rfl | (simp only [Int32.lt_irrefl, if_true, if_false, not_true_eq_false, not_false_eq_true, and_true, true_and, and_false, false_and, or_true, true_or, or_false, false_or, and_self, ite_self, zb, q_cancelV, q_cancelF, c_6, c_21, c_36, eq_true c_6, eq_true c_21, eq_true c_36]; done) | (simp only [Int32.lt_irrefl, if_true, if_false, not_true_eq_false, not_false_eq_true, and_true, true_and, and_false, false_and, or_true, true_or, or_false, false_or, and_self, ite_self, zb, q_cancelV, q_cancelF, c_6, c_21, c_36, eq_true c_6, eq_true c_21, eq_true c_36]; rfl))⟩
  · skip
    refine z_iconst (v := 1) X dX8_cancel_9 (by decide) ?_
    refine z_goto (tgt := 29) X dX8_cancel_10 (by decide) ?_
    refine z_putI (ci := 11) (j := 43) X dX8_cancel_29 zmm_c1 rfl (by decide) hlk_116 (Or.inl rfl) (Or.inl rfl) (fun _ => rfl) rfl rfl ?_
    obtain ⟨i_4, hi_4⟩ : ∃ q, q = zup i 1 43 1 := ⟨_, rfl⟩
    refine z_mem (M' := zmm i_4 lm) (by rw [hi_4]; rfl) ?_
    refine z_aload_n X 0 dX8_cancel_32 rfl rfl ?_
    refine z_getI (ci := 11) (j := 43) (x := 1) X dX8_cancel_33 zmm_c1 rfl (by decide) hlk_116 (Or.inl rfl) (fun _ => rfl) (by show i_4 1 43 = 1; rw [hi_4, zup_s]) ?_
    refine z_if_le X 41 dX8_cancel_36 (by decide) (fun c_36 => ?_) (fun c_36 => ?_)
    · exact absurd c_36 (by decide)
    · skip
      refine z_iconst (v := 0) X dX8_cancel_39 (by decide) ?_
      refine z_iret X rfl rfl (Nat.le_refl _) (Nat.le_refl _) dX8_cancel_40 ?_
      subst hi_4
      (try simp only [zb_0, Classical.not_not] at c_6 c_36)
      exact ⟨_, rfl, by (first | rfl | (simp only [Int32.lt_irrefl, if_true, if_false, not_true_eq_false, not_false_eq_true, and_true, true_and, and_false, false_and, or_true, true_or, or_false, false_or, and_self, ite_self, zb, q_cancelV, q_cancelF, c_6, c_36, eq_true c_6, eq_true c_36]; done) | (simp only [Int32.lt_irrefl, if_true, if_false, not_true_eq_false, not_false_eq_true, and_true, true_and, and_false, false_and, or_true, true_or, or_false, false_or, and_self, ite_self, zb, q_cancelV, q_cancelF, c_6, c_36, eq_true c_6, eq_true c_36]; rfl)), by (first | rfl | (simp only [Int32.lt_irrefl, if_true, if_false, not_true_eq_false, not_false_eq_true, and_true, true_and, and_false, false_and, or_true, true_or, or_false, false_or, and_self, ite_self, zb, q_cancelV, q_cancelF, c_6, c_36, eq_true c_6, eq_true c_36]; done) | (simp only [Int32.lt_irrefl, if_true, if_false, not_true_eq_false, not_false_eq_true, and_true, true_and, and_false, false_and, or_true, true_or, or_false, false_or, and_self, ite_self, zb, q_cancelV, q_cancelF, c_6, c_36, eq_true c_6, eq_true c_36]; rfl))⟩

set_option maxRecDepth 100000 in
set_option maxHeartbeats 4000000 in
theorem c_X8_candidates (l : Launch) (i : Nat → Nat → Int32) (lm : Nat → Nat → Int64) (np : Nat) (hp : i 1 35 = nI np) (h24 : np ≤ 24) (no : Nat) (ho : i 1 42 = nI no) (h12 : no ≤ 12) (o : Int32) : zS l yX8_candidates wsX8_candidates 2 45 0 0 [.ref 1, .int o] (zmm i lm) (zpi (fun rr M1 => rr = q_candidatesV i np o ∧ M1 = zmm (q_candidatesF i np o) lm)) zno := by
  refine z_intro (cc := cX8_candidates) (maxL := 2) (ret := (some .int)) (by decide +kernel) rfl (Nat.le_of_ble_eq_true rfl) ?_
  have hlk_116 : Cond.fieldLink RX8 116 "ColdStoreModel" "thrown" "I" ∈ wsX8_candidates := by decide +kernel
  intro g X
  show zE g 2 0 [(0, .ref 1), (1, .int o)] [] (zmm i lm) 0 0
  refine z_aload_n X 0 dX8_candidates_0 rfl rfl ?_
  refine z_aload_n X 0 dX8_candidates_1 rfl rfl ?_
  refine z_iload_n X 1 dX8_candidates_2 rfl rfl ?_
  refine z_callVi (As := [.int o]) (rest := [.ref 1]) (n1 := 1) (ci := 11) X dX8_candidates_3 (c_X8_isOrder l _ _ o) gX8_candidates_X8_isOrder rfl rfl (by decide +kernel) ⟨by decide, by decide⟩ zmm_c1 rfl rfl (Nat.le_of_ble_eq_true rfl) ⟨by decide, by decide⟩ (fun _ h => h.elim) ?_
  rintro _ _ ⟨rfl, rfl⟩
  refine z_if_eq X 13 dX8_candidates_6 (by decide) (fun c_6 => ?_) (fun c_6 => ?_)
  · skip
    refine z_iconst (v := 1) X dX8_candidates_13 (by decide) ?_
    refine z_putI (ci := 11) (j := 43) X dX8_candidates_14 zmm_c1 rfl (by decide) hlk_116 (Or.inl rfl) (Or.inl rfl) (fun _ => rfl) rfl rfl ?_
    obtain ⟨i_1, hi_1⟩ : ∃ q, q = zup i 1 43 1 := ⟨_, rfl⟩
    refine z_mem (M' := zmm i_1 lm) (by rw [hi_1]; rfl) ?_
    refine z_aload_n X 0 dX8_candidates_17 rfl rfl ?_
    refine z_getI (ci := 11) (j := 43) (x := 1) X dX8_candidates_18 zmm_c1 rfl (by decide) hlk_116 (Or.inl rfl) (fun _ => rfl) (by show i_1 1 43 = 1; rw [hi_1, zup_s]) ?_
    refine z_if_le X 28 dX8_candidates_21 (by decide) (fun c_21 => ?_) (fun c_21 => ?_)
    · exact absurd c_21 (by decide)
    · skip
      refine z_iconst (v := 0) X dX8_candidates_24 (by decide) ?_
      refine z_goto (tgt := 33) X dX8_candidates_25 (by decide) ?_
      refine z_iret X rfl rfl (Nat.le_refl _) (Nat.le_refl _) dX8_candidates_33 ?_
      subst hi_1
      (try simp only [zb_0, Classical.not_not] at c_6 c_21)
      exact ⟨_, rfl, by (first | rfl | (simp only [Int32.lt_irrefl, if_true, if_false, not_true_eq_false, not_false_eq_true, and_true, true_and, and_false, false_and, or_true, true_or, or_false, false_or, and_self, ite_self, zb, q_candidatesV, q_candidatesF, c_6, c_21, eq_true c_6, eq_true c_21]; done) | (simp only [Int32.lt_irrefl, if_true, if_false, not_true_eq_false, not_false_eq_true, and_true, true_and, and_false, false_and, or_true, true_or, or_false, false_or, and_self, ite_self, zb, q_candidatesV, q_candidatesF, c_6, c_21, eq_true c_6, eq_true c_21]; rfl)), by (first | rfl | (simp only [Int32.lt_irrefl, if_true, if_false, not_true_eq_false, not_false_eq_true, and_true, true_and, and_false, false_and, or_true, true_or, or_false, false_or, and_self, ite_self, zb, q_candidatesV, q_candidatesF, c_6, c_21, eq_true c_6, eq_true c_21]; done) | (simp only [Int32.lt_irrefl, if_true, if_false, not_true_eq_false, not_false_eq_true, and_true, true_and, and_false, false_and, or_true, true_or, or_false, false_or, and_self, ite_self, zb, q_candidatesV, q_candidatesF, c_6, c_21, eq_true c_6, eq_true c_21]; rfl))⟩
  · skip
    refine z_iconst (v := 0) X dX8_candidates_9 (by decide) ?_
    refine z_goto (tgt := 14) X dX8_candidates_10 (by decide) ?_
    refine z_putI (ci := 11) (j := 43) X dX8_candidates_14 zmm_c1 rfl (by decide) hlk_116 (Or.inl rfl) (Or.inl rfl) (fun _ => rfl) rfl rfl ?_
    obtain ⟨i_2, hi_2⟩ : ∃ q, q = zup i 1 43 0 := ⟨_, rfl⟩
    refine z_mem (M' := zmm i_2 lm) (by rw [hi_2]; rfl) ?_
    refine z_aload_n X 0 dX8_candidates_17 rfl rfl ?_
    refine z_getI (ci := 11) (j := 43) (x := 0) X dX8_candidates_18 zmm_c1 rfl (by decide) hlk_116 (Or.inl rfl) (fun _ => rfl) (by show i_2 1 43 = 0; rw [hi_2, zup_s]) ?_
    refine z_if_le X 28 dX8_candidates_21 (by decide) (fun c_21 => ?_) (fun c_21 => ?_)
    · skip
      refine z_aload_n X 0 dX8_candidates_28 rfl rfl ?_
      refine z_iload_n X 1 dX8_candidates_29 rfl rfl ?_
      obtain ⟨oj, hoj, rfl⟩ : ∃ j, j < no ∧ o = nI j := vp_in_of (zin_vp (zb_n0.mp c_6) ho (Nat.le_refl no) (by omega)) (by omega)
      have hcl : cl (nI oj) = oj := nI_clamp (by omega)
      refine z_callVi (As := [.int (nI oj)]) (rest := []) (n1 := 1) (ci := 11) X dX8_candidates_30 (c_X8_candidatesOf l _ _ oj (by omega) np (by subst hi_2; rw [zup_n (by omega)]; exact hp) h24) gX8_candidates_X8_candidatesOf rfl rfl (by decide +kernel) ⟨by decide, by decide⟩ zmm_c1 rfl rfl (Nat.le_of_ble_eq_true rfl) ⟨by decide, by decide⟩ (fun _ h => h.elim) ?_
      rintro _ _ ⟨rfl, rfl⟩
      refine z_iret X rfl rfl (Nat.le_refl _) (Nat.le_refl _) dX8_candidates_33 ?_
      subst hi_2
      (try simp only [zb_0, Classical.not_not, hcl] at c_6 c_21)
      exact ⟨_, rfl, by (first | rfl | (simp only [Int32.lt_irrefl, if_true, if_false, not_true_eq_false, not_false_eq_true, and_true, true_and, and_false, false_and, or_true, true_or, or_false, false_or, and_self, ite_self, zb, q_candidatesV, q_candidatesF, hcl, c_6, c_21, eq_true c_6, eq_true c_21]; done) | (simp only [Int32.lt_irrefl, if_true, if_false, not_true_eq_false, not_false_eq_true, and_true, true_and, and_false, false_and, or_true, true_or, or_false, false_or, and_self, ite_self, zb, q_candidatesV, q_candidatesF, hcl, c_6, c_21, eq_true c_6, eq_true c_21]; rfl)), by (first | rfl | (simp only [Int32.lt_irrefl, if_true, if_false, not_true_eq_false, not_false_eq_true, and_true, true_and, and_false, false_and, or_true, true_or, or_false, false_or, and_self, ite_self, zb, q_candidatesV, q_candidatesF, hcl, c_6, c_21, eq_true c_6, eq_true c_21]; done) | (simp only [Int32.lt_irrefl, if_true, if_false, not_true_eq_false, not_false_eq_true, and_true, true_and, and_false, false_and, or_true, true_or, or_false, false_or, and_self, ite_self, zb, q_candidatesV, q_candidatesF, hcl, c_6, c_21, eq_true c_6, eq_true c_21]; rfl))⟩
    · exact absurd c_21 (by decide)

set_option maxRecDepth 100000 in
set_option maxHeartbeats 4000000 in
theorem c_X8_candidateAt (l : Launch) (i : Nat → Nat → Int32) (lm : Nat → Nat → Int64) (np : Nat) (hp : i 1 35 = nI np) (h24 : np ≤ 24) (no : Nat) (ho : i 1 42 = nI no) (h12 : no ≤ 12) (o : Int32) (x : Int32) : zS l yX8_candidateAt wsX8_candidateAt 2 47 0 0 [.ref 1, .int o, .int x] (zmm i lm) (zpi (fun rr M1 => rr = q_candidateAtV i np o x ∧ M1 = zmm (q_candidateAtF i np o x) lm)) zno := by
  refine z_intro (cc := cX8_candidateAt) (maxL := 4) (ret := (some .int)) (by decide +kernel) rfl (Nat.le_of_ble_eq_true rfl) ?_
  have hlk_116 : Cond.fieldLink RX8 116 "ColdStoreModel" "thrown" "I" ∈ wsX8_candidateAt := by decide +kernel
  intro g X
  show zE g 4 0 [(0, .ref 1), (1, .int o), (2, .int x)] [] (zmm i lm) 0 0
  refine z_aload_n X 0 dX8_candidateAt_0 rfl rfl ?_
  refine z_iload_n X 1 dX8_candidateAt_1 rfl rfl ?_
  refine z_callVi (As := [.int o]) (rest := []) (n1 := 1) (ci := 11) X dX8_candidateAt_2 (c_X8_isOrder l _ _ o) gX8_candidateAt_X8_isOrder rfl rfl (by decide +kernel) ⟨by decide, by decide⟩ zmm_c1 rfl rfl (Nat.le_of_ble_eq_true rfl) ⟨by decide, by decide⟩ (fun _ h => h.elim) ?_
  rintro _ _ ⟨rfl, rfl⟩
  refine z_if_ne X 14 dX8_candidateAt_5 (by decide) (fun c_5 => ?_) (fun c_5 => ?_)
  · skip
    refine z_aload_n X 0 dX8_candidateAt_14 rfl rfl ?_
    refine z_iload_n X 1 dX8_candidateAt_15 rfl rfl ?_
    refine z_iload_n X 2 dX8_candidateAt_16 rfl rfl ?_
    obtain ⟨oj, hoj, rfl⟩ : ∃ j, j < no ∧ o = nI j := vp_in_of (zin_vp (zb_n0.mp c_5) ho (Nat.le_refl no) (by omega)) (by omega)
    have hcl : cl (nI oj) = oj := nI_clamp (by omega)
    refine z_callVi (As := [.int (nI oj), .int x]) (rest := []) (n1 := 2) (ci := 11) X dX8_candidateAt_17 (c_X8_candidate l _ _ oj (by omega) x np hp h24) gX8_candidateAt_X8_candidate rfl rfl (by decide +kernel) ⟨by decide, by decide⟩ zmm_c1 rfl rfl (Nat.le_of_ble_eq_true rfl) ⟨by decide, by decide⟩ (fun _ h => h.elim) ?_
    rintro _ _ ⟨rfl, rfl⟩
    refine z_istore_n (ls' := [(3, .int (m_cand i oj np x)), (0, .ref 1), (1, .int (nI oj)), (2, .int x)]) X dX8_candidateAt_20 rfl (by decide) rfl ?_
    refine z_aload_n X 1 dX8_candidateAt_21 rfl rfl ?_
    refine z_iload_n X 0 dX8_candidateAt_22 rfl rfl ?_
    refine z_iconst (v := (-1)) X dX8_candidateAt_23 (by decide) ?_
    refine z_icmp_ne X 31 dX8_candidateAt_24 (by decide) (fun c_24 => ?_) (fun c_24 => ?_)
    · skip
      refine z_iconst (v := 0) X dX8_candidateAt_31 (by decide) ?_
      refine z_putI (ci := 11) (j := 43) X dX8_candidateAt_32 zmm_c1 rfl (by decide) hlk_116 (Or.inl rfl) (Or.inl rfl) (fun _ => rfl) rfl rfl ?_
      obtain ⟨i_1, hi_1⟩ : ∃ q, q = zup i 1 43 0 := ⟨_, rfl⟩
      refine z_mem (M' := zmm i_1 lm) (by rw [hi_1]; rfl) ?_
      refine z_aload_n X 1 dX8_candidateAt_35 rfl rfl ?_
      refine z_getI (ci := 11) (j := 43) (x := 0) X dX8_candidateAt_36 zmm_c1 rfl (by decide) hlk_116 (Or.inl rfl) (fun _ => rfl) (by show i_1 1 43 = 0; rw [hi_1, zup_s]) ?_
      refine z_if_le X 46 dX8_candidateAt_39 (by decide) (fun c_39 => ?_) (fun c_39 => ?_)
      · skip
        refine z_iload_n X 0 dX8_candidateAt_46 rfl rfl ?_
        refine z_iret X rfl rfl (Nat.le_refl _) (Nat.le_refl _) dX8_candidateAt_47 ?_
        subst hi_1
        (try simp only [zb_0, Classical.not_not, hcl] at c_5 c_24 c_39)
        exact ⟨_, rfl, by (first | rfl | (simp only [Int32.lt_irrefl, if_true, if_false, not_true_eq_false, not_false_eq_true, and_true, true_and, and_false, false_and, or_true, true_or, or_false, false_or, and_self, ite_self, zb, q_candidateAtV, q_candidateAtF, hcl, c_5, c_24, c_39, eq_true c_5, eq_true c_24, eq_true c_39]; done) | (simp only [Int32.lt_irrefl, if_true, if_false, not_true_eq_false, not_false_eq_true, and_true, true_and, and_false, false_and, or_true, true_or, or_false, false_or, and_self, ite_self, zb, q_candidateAtV, q_candidateAtF, hcl, c_5, c_24, c_39, eq_true c_5, eq_true c_24, eq_true c_39]; rfl)), by (first | rfl | (simp only [Int32.lt_irrefl, if_true, if_false, not_true_eq_false, not_false_eq_true, and_true, true_and, and_false, false_and, or_true, true_or, or_false, false_or, and_self, ite_self, zb, q_candidateAtV, q_candidateAtF, hcl, c_5, c_24, c_39, eq_true c_5, eq_true c_24, eq_true c_39]; done) | (simp only [Int32.lt_irrefl, if_true, if_false, not_true_eq_false, not_false_eq_true, and_true, true_and, and_false, false_and, or_true, true_or, or_false, false_or, and_self, ite_self, zb, q_candidateAtV, q_candidateAtF, hcl, c_5, c_24, c_39, eq_true c_5, eq_true c_24, eq_true c_39]; rfl))⟩
      · exact absurd c_39 (by decide)
    · skip
      refine z_iconst (v := 2) X dX8_candidateAt_27 (by decide) ?_
      refine z_goto (tgt := 32) X dX8_candidateAt_28 (by decide) ?_
      refine z_putI (ci := 11) (j := 43) X dX8_candidateAt_32 zmm_c1 rfl (by decide) hlk_116 (Or.inl rfl) (Or.inl rfl) (fun _ => rfl) rfl rfl ?_
      obtain ⟨i_2, hi_2⟩ : ∃ q, q = zup i 1 43 2 := ⟨_, rfl⟩
      refine z_mem (M' := zmm i_2 lm) (by rw [hi_2]; rfl) ?_
      refine z_aload_n X 1 dX8_candidateAt_35 rfl rfl ?_
      refine z_getI (ci := 11) (j := 43) (x := 2) X dX8_candidateAt_36 zmm_c1 rfl (by decide) hlk_116 (Or.inl rfl) (fun _ => rfl) (by show i_2 1 43 = 2; rw [hi_2, zup_s]) ?_
      refine z_if_le X 46 dX8_candidateAt_39 (by decide) (fun c_39 => ?_) (fun c_39 => ?_)
      · exact absurd c_39 (by decide)
      · skip
        refine z_iconst (v := 0) X dX8_candidateAt_42 (by decide) ?_
        refine z_goto (tgt := 47) X dX8_candidateAt_43 (by decide) ?_
        refine z_iret X rfl rfl (Nat.le_refl _) (Nat.le_refl _) dX8_candidateAt_47 ?_
        subst hi_2
        (try simp only [zb_0, Classical.not_not, hcl] at c_5 c_24 c_39)
        exact ⟨_, rfl, by (first | rfl | (simp only [Int32.lt_irrefl, if_true, if_false, not_true_eq_false, not_false_eq_true, and_true, true_and, and_false, false_and, or_true, true_or, or_false, false_or, and_self, ite_self, zb, q_candidateAtV, q_candidateAtF, hcl, c_5, c_24, c_39, eq_true c_5, eq_true c_24, eq_true c_39]; done) | (simp only [Int32.lt_irrefl, if_true, if_false, not_true_eq_false, not_false_eq_true, and_true, true_and, and_false, false_and, or_true, true_or, or_false, false_or, and_self, ite_self, zb, q_candidateAtV, q_candidateAtF, hcl, c_5, c_24, c_39, eq_true c_5, eq_true c_24, eq_true c_39]; rfl)), by (first | rfl | (simp only [Int32.lt_irrefl, if_true, if_false, not_true_eq_false, not_false_eq_true, and_true, true_and, and_false, false_and, or_true, true_or, or_false, false_or, and_self, ite_self, zb, q_candidateAtV, q_candidateAtF, hcl, c_5, c_24, c_39, eq_true c_5, eq_true c_24, eq_true c_39]; done) | (simp only [Int32.lt_irrefl, if_true, if_false, not_true_eq_false, not_false_eq_true, and_true, true_and, and_false, false_and, or_true, true_or, or_false, false_or, and_self, ite_self, zb, q_candidateAtV, q_candidateAtF, hcl, c_5, c_24, c_39, eq_true c_5, eq_true c_24, eq_true c_39]; rfl))⟩
  · skip
    refine z_aload_n X 0 dX8_candidateAt_8 rfl rfl ?_
    refine z_iconst (v := 1) X dX8_candidateAt_9 (by decide) ?_
    refine z_callVi (As := [.int 1]) (rest := []) (n1 := 1) (ci := 11) X dX8_candidateAt_10 (c_X8_raises l _ _ 1) gX8_candidateAt_X8_raises rfl rfl (by decide +kernel) ⟨by decide, by decide⟩ zmm_c1 rfl rfl (Nat.le_of_ble_eq_true rfl) ⟨by decide, by decide⟩ (fun _ h => h.elim) ?_
    rintro _ _ ⟨rfl, rfl⟩
    refine z_iret X rfl rfl (Nat.le_refl _) (Nat.le_refl _) dX8_candidateAt_13 ?_
    (try simp only [zb_0, Classical.not_not] at c_5)
    exact ⟨_, rfl, by (first | rfl | (simp only [Int32.lt_irrefl, if_true, if_false, not_true_eq_false, not_false_eq_true, and_true, true_and, and_false, false_and, or_true, true_or, or_false, false_or, and_self, ite_self, zb, q_candidateAtV, q_candidateAtF, c_5, eq_true c_5]; done) | (simp only [Int32.lt_irrefl, if_true, if_false, not_true_eq_false, not_false_eq_true, and_true, true_and, and_false, false_and, or_true, true_or, or_false, false_or, and_self, ite_self, zb, q_candidateAtV, q_candidateAtF, c_5, eq_true c_5]; rfl)), by (first | rfl | (simp only [Int32.lt_irrefl, if_true, if_false, not_true_eq_false, not_false_eq_true, and_true, true_and, and_false, false_and, or_true, true_or, or_false, false_or, and_self, ite_self, zb, q_candidateAtV, q_candidateAtF, c_5, eq_true c_5]; done) | (simp only [Int32.lt_irrefl, if_true, if_false, not_true_eq_false, not_false_eq_true, and_true, true_and, and_false, false_and, or_true, true_or, or_false, false_or, and_self, ite_self, zb, q_candidateAtV, q_candidateAtF, c_5, eq_true c_5]; rfl))⟩

set_option maxRecDepth 100000 in
set_option maxHeartbeats 4000000 in
theorem c_X8_ship (l : Launch) (i : Nat → Nat → Int32) (lm : Nat → Nat → Int64) (np : Nat) (hp : i 1 35 = nI np) (h24 : np ≤ 24) (no : Nat) (ho : i 1 42 = nI no) (h12 : no ≤ 12) (o : Int32) (hct : ∀ o, o < no → ∃ c, 1 ≤ c ∧ c ≤ 8 ∧ i 137 o = nI c) : zS l yX8_ship wsX8_ship 3 71 0 0 [.ref 1, .int o] (zmm i lm) (zpi (fun rr M1 => rr = q_shipV i np o ∧ M1 = zmm (q_shipF i np o) lm)) zno := by
  refine z_intro (cc := cX8_ship) (maxL := 2) (ret := (some .int)) (by decide +kernel) rfl (Nat.le_of_ble_eq_true rfl) ?_
  have hlk_110 : Cond.fieldLink RX8 110 "ColdStoreModel" "orderStates" "[C" ∈ wsX8_ship := by decide +kernel
  have hlk_101 : Cond.fieldLink RX8 101 "ColdStoreModel" "counts" "[I" ∈ wsX8_ship := by decide +kernel
  have hlk_116 : Cond.fieldLink RX8 116 "ColdStoreModel" "thrown" "I" ∈ wsX8_ship := by decide +kernel
  intro g X
  show zE g 2 0 [(0, .ref 1), (1, .int o)] [] (zmm i lm) 0 0
  refine z_aload_n X 0 dX8_ship_0 rfl rfl ?_
  refine z_aload_n X 0 dX8_ship_1 rfl rfl ?_
  refine z_iload_n X 1 dX8_ship_2 rfl rfl ?_
  refine z_callVi (As := [.int o]) (rest := [.ref 1]) (n1 := 1) (ci := 11) X dX8_ship_3 (c_X8_isOrder l _ _ o) gX8_ship_X8_isOrder rfl rfl (by decide +kernel) ⟨by decide, by decide⟩ zmm_c1 rfl rfl (Nat.le_of_ble_eq_true rfl) ⟨by decide, by decide⟩ (fun _ h => h.elim) ?_
  rintro _ _ ⟨rfl, rfl⟩
  refine z_if_ne X 13 dX8_ship_6 (by decide) (fun c_6 => ?_) (fun c_6 => ?_)
  · skip
    refine z_aload_n X 0 dX8_ship_13 rfl rfl ?_
    refine z_getR (ci := 11) (j := 40) (o' := 140) X dX8_ship_14 zmm_c1 rfl (by decide) hlk_110 (Or.inl rfl) (fun _ => rfl) (zmm_r140) ?_
    refine z_iload_n X 1 dX8_ship_17 rfl rfl ?_
    refine z_cald (j := cl o) (x := i 140 (cl o)) X dX8_ship_18 zmm_c140 (by rw [zmm_n140]; exact (zin_vp (zb_n0.mp c_6) ho h12 (by decide))) (rfl) (rfl) ?_
    refine z_bipush (v := 111) X dX8_ship_19 (by decide) ?_
    refine z_icmp_eq X 28 dX8_ship_21 (by decide) (fun c_21 => ?_) (fun c_21 => ?_)
    · skip
      refine z_aload_n X 0 dX8_ship_28 rfl rfl ?_
      refine z_iload_n X 1 dX8_ship_29 rfl rfl ?_
      obtain ⟨oj, hoj, rfl⟩ : ∃ j, j < no ∧ o = nI j := vp_in_of (zin_vp (zb_n0.mp c_6) ho (Nat.le_refl no) (by omega)) (by omega)
      have hcl : cl (nI oj) = oj := nI_clamp (by omega)
      refine z_callVi (As := [.int (nI oj)]) (rest := [.ref 1]) (n1 := 1) (ci := 11) X dX8_ship_30 (c_X8_candidatesOf l _ _ oj (by omega) np hp h24) gX8_ship_X8_candidatesOf rfl rfl (by decide +kernel) ⟨by decide, by decide⟩ zmm_c1 rfl rfl (Nat.le_of_ble_eq_true rfl) ⟨by decide, by decide⟩ (fun _ h => h.elim) ?_
      rintro _ _ ⟨rfl, rfl⟩
      refine z_aload_n X 0 dX8_ship_33 rfl rfl ?_
      refine z_getR (ci := 11) (j := 37) (o' := 137) X dX8_ship_34 zmm_c1 rfl (by decide) hlk_101 (Or.inl rfl) (fun _ => rfl) (zmm_r137) ?_
      refine z_iload_n X 1 dX8_ship_37 rfl rfl ?_
      refine z_iald (j := oj) (x := i 137 oj) X dX8_ship_38 zmm_c137 (by rw [zmm_n137]; exact vp_in_nI (by omega) (by decide)) (nI_clamp (by omega)) (rfl) ?_
      refine z_icmp_ge X 46 dX8_ship_39 (by decide) (fun c_39 => ?_) (fun c_39 => ?_)
      · skip
        refine z_iconst (v := 0) X dX8_ship_46 (by decide) ?_
        refine z_putI (ci := 11) (j := 43) X dX8_ship_47 zmm_c1 rfl (by decide) hlk_116 (Or.inl rfl) (Or.inl rfl) (fun _ => rfl) rfl rfl ?_
        obtain ⟨i_1, hi_1⟩ : ∃ q, q = zup i 1 43 0 := ⟨_, rfl⟩
        refine z_mem (M' := zmm i_1 lm) (by rw [hi_1]; rfl) ?_
        refine z_aload_n X 0 dX8_ship_50 rfl rfl ?_
        refine z_getI (ci := 11) (j := 43) (x := 0) X dX8_ship_51 zmm_c1 rfl (by decide) hlk_116 (Or.inl rfl) (fun _ => rfl) (by show i_1 1 43 = 0; rw [hi_1, zup_s]) ?_
        refine z_if_le X 61 dX8_ship_54 (by decide) (fun c_54 => ?_) (fun c_54 => ?_)
        · skip
          refine z_aload_n X 0 dX8_ship_61 rfl rfl ?_
          refine z_iload_n X 1 dX8_ship_62 rfl rfl ?_
          obtain ⟨c9, hc91, hc98, hc9⟩ := hct oj (by omega)
          have h37 : i_1 137 oj = nI c9 := by subst hi_1; rw [zup_n (by omega)]; exact hc9
          have hN : m_cntN i_1 oj np = m_cntN i oj np := by subst hi_1; exact m_cntN_off np (fun p hp => by unfold m_isC; rw [zup_n (by omega), zup_n (by omega), zup_n (by omega), zup_n (by omega), zup_n (by omega)])
          refine z_callVi (As := [.int (nI oj)]) (rest := []) (n1 := 1) (ci := 11) X dX8_ship_63 (c_X8_ships l _ _ oj (by omega) np (by subst hi_1; rw [zup_n (by omega)]; exact hp) h24 c9 hc91 (by have h8 := c_39; (try simp only [hcl] at h8); rw [m_cnt_N, hc9] at h8; rw [hN]; rcases Nat.lt_or_ge (m_cntN i oj np) c9 with q | q; exact absurd h8 (nI_ge q (by omega)); exact q) h37) gX8_ship_X8_ships rfl rfl (by decide +kernel) ⟨by decide, by decide⟩ zmm_c1 rfl rfl (Nat.le_of_ble_eq_true rfl) ⟨by decide, by decide⟩ (fun _ h => h.elim) ?_
          rintro _ _ ⟨rfl, rfl⟩
          refine z_iret X rfl rfl (Nat.le_refl _) (Nat.le_refl _) dX8_ship_66 ?_
          have hc0 : c9 = cl (i 137 oj) := by rw [hc9]; exact (nI_clamp (by omega)).symm
          subst hc0
          subst hi_1
          (try simp only [zb_0, Classical.not_not, hcl] at c_6 c_21 c_39 c_54)
          exact ⟨_, rfl, by (first | rfl | (simp only [Int32.lt_irrefl, if_true, if_false, not_true_eq_false, not_false_eq_true, and_true, true_and, and_false, false_and, or_true, true_or, or_false, false_or, and_self, ite_self, zb, q_shipV, q_shipF, hcl, c_6, c_21, c_39, c_54, eq_true c_6, eq_true c_21, eq_true c_39, eq_true c_54]; done) | (simp only [Int32.lt_irrefl, if_true, if_false, not_true_eq_false, not_false_eq_true, and_true, true_and, and_false, false_and, or_true, true_or, or_false, false_or, and_self, ite_self, zb, q_shipV, q_shipF, hcl, c_6, c_21, c_39, c_54, eq_true c_6, eq_true c_21, eq_true c_39, eq_true c_54]; rfl)), by (first | rfl | (simp only [Int32.lt_irrefl, if_true, if_false, not_true_eq_false, not_false_eq_true, and_true, true_and, and_false, false_and, or_true, true_or, or_false, false_or, and_self, ite_self, zb, q_shipV, q_shipF, hcl, c_6, c_21, c_39, c_54, eq_true c_6, eq_true c_21, eq_true c_39, eq_true c_54]; done) | (simp only [Int32.lt_irrefl, if_true, if_false, not_true_eq_false, not_false_eq_true, and_true, true_and, and_false, false_and, or_true, true_or, or_false, false_or, and_self, ite_self, zb, q_shipV, q_shipF, hcl, c_6, c_21, c_39, c_54, eq_true c_6, eq_true c_21, eq_true c_39, eq_true c_54]; rfl))⟩
        · exact absurd c_54 (by decide)
      · skip
        refine z_iconst (v := 3) X dX8_ship_42 (by decide) ?_
        refine z_goto (tgt := 47) X dX8_ship_43 (by decide) ?_
        refine z_putI (ci := 11) (j := 43) X dX8_ship_47 zmm_c1 rfl (by decide) hlk_116 (Or.inl rfl) (Or.inl rfl) (fun _ => rfl) rfl rfl ?_
        obtain ⟨i_2, hi_2⟩ : ∃ q, q = zup i 1 43 3 := ⟨_, rfl⟩
        refine z_mem (M' := zmm i_2 lm) (by rw [hi_2]; rfl) ?_
        refine z_aload_n X 0 dX8_ship_50 rfl rfl ?_
        refine z_getI (ci := 11) (j := 43) (x := 3) X dX8_ship_51 zmm_c1 rfl (by decide) hlk_116 (Or.inl rfl) (fun _ => rfl) (by show i_2 1 43 = 3; rw [hi_2, zup_s]) ?_
        refine z_if_le X 61 dX8_ship_54 (by decide) (fun c_54 => ?_) (fun c_54 => ?_)
        · exact absurd c_54 (by decide)
        · skip
          refine z_iconst (v := 0) X dX8_ship_57 (by decide) ?_
          refine z_goto (tgt := 66) X dX8_ship_58 (by decide) ?_
          refine z_iret X rfl rfl (Nat.le_refl _) (Nat.le_refl _) dX8_ship_66 ?_
          subst hi_2
          (try simp only [zb_0, Classical.not_not, hcl] at c_6 c_21 c_39 c_54)
          exact ⟨_, rfl, by (first | rfl | (simp only [Int32.lt_irrefl, if_true, if_false, not_true_eq_false, not_false_eq_true, and_true, true_and, and_false, false_and, or_true, true_or, or_false, false_or, and_self, ite_self, zb, q_shipV, q_shipF, hcl, c_6, c_21, c_39, c_54, eq_true c_6, eq_true c_21, eq_true c_39, eq_true c_54]; done) | (simp only [Int32.lt_irrefl, if_true, if_false, not_true_eq_false, not_false_eq_true, and_true, true_and, and_false, false_and, or_true, true_or, or_false, false_or, and_self, ite_self, zb, q_shipV, q_shipF, hcl, c_6, c_21, c_39, c_54, eq_true c_6, eq_true c_21, eq_true c_39, eq_true c_54]; rfl)), by (first | rfl | (simp only [Int32.lt_irrefl, if_true, if_false, not_true_eq_false, not_false_eq_true, and_true, true_and, and_false, false_and, or_true, true_or, or_false, false_or, and_self, ite_self, zb, q_shipV, q_shipF, hcl, c_6, c_21, c_39, c_54, eq_true c_6, eq_true c_21, eq_true c_39, eq_true c_54]; done) | (simp only [Int32.lt_irrefl, if_true, if_false, not_true_eq_false, not_false_eq_true, and_true, true_and, and_false, false_and, or_true, true_or, or_false, false_or, and_self, ite_self, zb, q_shipV, q_shipF, hcl, c_6, c_21, c_39, c_54, eq_true c_6, eq_true c_21, eq_true c_39, eq_true c_54]; rfl))⟩
    · skip
      refine z_iconst (v := 2) X dX8_ship_24 (by decide) ?_
      refine z_goto (tgt := 47) X dX8_ship_25 (by decide) ?_
      refine z_putI (ci := 11) (j := 43) X dX8_ship_47 zmm_c1 rfl (by decide) hlk_116 (Or.inl rfl) (Or.inl rfl) (fun _ => rfl) rfl rfl ?_
      obtain ⟨i_3, hi_3⟩ : ∃ q, q = zup i 1 43 2 := ⟨_, rfl⟩
      refine z_mem (M' := zmm i_3 lm) (by rw [hi_3]; rfl) ?_
      refine z_aload_n X 0 dX8_ship_50 rfl rfl ?_
      refine z_getI (ci := 11) (j := 43) (x := 2) X dX8_ship_51 zmm_c1 rfl (by decide) hlk_116 (Or.inl rfl) (fun _ => rfl) (by show i_3 1 43 = 2; rw [hi_3, zup_s]) ?_
      refine z_if_le X 61 dX8_ship_54 (by decide) (fun c_54 => ?_) (fun c_54 => ?_)
      · exact absurd c_54 (by decide)
      · skip
        refine z_iconst (v := 0) X dX8_ship_57 (by decide) ?_
        refine z_goto (tgt := 66) X dX8_ship_58 (by decide) ?_
        refine z_iret X rfl rfl (Nat.le_refl _) (Nat.le_refl _) dX8_ship_66 ?_
        subst hi_3
        (try simp only [zb_0, Classical.not_not] at c_6 c_21 c_54)
        exact ⟨_, rfl, by (first | rfl | (simp only [Int32.lt_irrefl, if_true, if_false, not_true_eq_false, not_false_eq_true, and_true, true_and, and_false, false_and, or_true, true_or, or_false, false_or, and_self, ite_self, zb, q_shipV, q_shipF, c_6, c_21, c_54, eq_true c_6, eq_true c_21, eq_true c_54]; done) | (simp only [Int32.lt_irrefl, if_true, if_false, not_true_eq_false, not_false_eq_true, and_true, true_and, and_false, false_and, or_true, true_or, or_false, false_or, and_self, ite_self, zb, q_shipV, q_shipF, c_6, c_21, c_54, eq_true c_6, eq_true c_21, eq_true c_54]; rfl)), by (first | rfl | (simp only [Int32.lt_irrefl, if_true, if_false, not_true_eq_false, not_false_eq_true, and_true, true_and, and_false, false_and, or_true, true_or, or_false, false_or, and_self, ite_self, zb, q_shipV, q_shipF, c_6, c_21, c_54, eq_true c_6, eq_true c_21, eq_true c_54]; done) | (simp only [Int32.lt_irrefl, if_true, if_false, not_true_eq_false, not_false_eq_true, and_true, true_and, and_false, false_and, or_true, true_or, or_false, false_or, and_self, ite_self, zb, q_shipV, q_shipF, c_6, c_21, c_54, eq_true c_6, eq_true c_21, eq_true c_54]; rfl))⟩
  · skip
    refine z_iconst (v := 1) X dX8_ship_9 (by decide) ?_
    refine z_goto (tgt := 47) X dX8_ship_10 (by decide) ?_
    refine z_putI (ci := 11) (j := 43) X dX8_ship_47 zmm_c1 rfl (by decide) hlk_116 (Or.inl rfl) (Or.inl rfl) (fun _ => rfl) rfl rfl ?_
    obtain ⟨i_4, hi_4⟩ : ∃ q, q = zup i 1 43 1 := ⟨_, rfl⟩
    refine z_mem (M' := zmm i_4 lm) (by rw [hi_4]; rfl) ?_
    refine z_aload_n X 0 dX8_ship_50 rfl rfl ?_
    refine z_getI (ci := 11) (j := 43) (x := 1) X dX8_ship_51 zmm_c1 rfl (by decide) hlk_116 (Or.inl rfl) (fun _ => rfl) (by show i_4 1 43 = 1; rw [hi_4, zup_s]) ?_
    refine z_if_le X 61 dX8_ship_54 (by decide) (fun c_54 => ?_) (fun c_54 => ?_)
    · exact absurd c_54 (by decide)
    · skip
      refine z_iconst (v := 0) X dX8_ship_57 (by decide) ?_
      refine z_goto (tgt := 66) X dX8_ship_58 (by decide) ?_
      refine z_iret X rfl rfl (Nat.le_refl _) (Nat.le_refl _) dX8_ship_66 ?_
      subst hi_4
      (try simp only [zb_0, Classical.not_not] at c_6 c_54)
      exact ⟨_, rfl, by (first | rfl | (simp only [Int32.lt_irrefl, if_true, if_false, not_true_eq_false, not_false_eq_true, and_true, true_and, and_false, false_and, or_true, true_or, or_false, false_or, and_self, ite_self, zb, q_shipV, q_shipF, c_6, c_54, eq_true c_6, eq_true c_54]; done) | (simp only [Int32.lt_irrefl, if_true, if_false, not_true_eq_false, not_false_eq_true, and_true, true_and, and_false, false_and, or_true, true_or, or_false, false_or, and_self, ite_self, zb, q_shipV, q_shipF, c_6, c_54, eq_true c_6, eq_true c_54]; rfl)), by (first | rfl | (simp only [Int32.lt_irrefl, if_true, if_false, not_true_eq_false, not_false_eq_true, and_true, true_and, and_false, false_and, or_true, true_or, or_false, false_or, and_self, ite_self, zb, q_shipV, q_shipF, c_6, c_54, eq_true c_6, eq_true c_54]; done) | (simp only [Int32.lt_irrefl, if_true, if_false, not_true_eq_false, not_false_eq_true, and_true, true_and, and_false, false_and, or_true, true_or, or_false, false_or, and_self, ite_self, zb, q_shipV, q_shipF, c_6, c_54, eq_true c_6, eq_true c_54]; rfl))⟩

set_option maxRecDepth 100000 in
set_option maxHeartbeats 4000000 in
theorem c_X8_orderState (l : Launch) (i : Nat → Nat → Int32) (lm : Nat → Nat → Int64) (no : Nat) (ho : i 1 42 = nI no) (h12 : no ≤ 12) (o : Int32) (hrow : ∀ j, narrow .char (.int (i 140 j)) = .int (i 140 j)) : zS l yX8_orderState wsX8_orderState 2 43 0 0 [.ref 1, .int o] (zmm i lm) (zpi (fun rr M1 => rr = q_orderStateV i o ∧ M1 = zmm (q_orderStateF i o) lm)) zno := by
  refine z_intro (cc := cX8_orderState) (maxL := 2) (ret := (some .char)) (by decide +kernel) rfl (Nat.le_of_ble_eq_true rfl) ?_
  have hlk_116 : Cond.fieldLink RX8 116 "ColdStoreModel" "thrown" "I" ∈ wsX8_orderState := by decide +kernel
  have hlk_110 : Cond.fieldLink RX8 110 "ColdStoreModel" "orderStates" "[C" ∈ wsX8_orderState := by decide +kernel
  intro g X
  show zE g 2 0 [(0, .ref 1), (1, .int o)] [] (zmm i lm) 0 0
  refine z_aload_n X 0 dX8_orderState_0 rfl rfl ?_
  refine z_aload_n X 0 dX8_orderState_1 rfl rfl ?_
  refine z_iload_n X 1 dX8_orderState_2 rfl rfl ?_
  refine z_callVi (As := [.int o]) (rest := [.ref 1]) (n1 := 1) (ci := 11) X dX8_orderState_3 (c_X8_isOrder l _ _ o) gX8_orderState_X8_isOrder rfl rfl (by decide +kernel) ⟨by decide, by decide⟩ zmm_c1 rfl rfl (Nat.le_of_ble_eq_true rfl) ⟨by decide, by decide⟩ (fun _ h => h.elim) ?_
  rintro _ _ ⟨rfl, rfl⟩
  refine z_if_eq X 13 dX8_orderState_6 (by decide) (fun c_6 => ?_) (fun c_6 => ?_)
  · skip
    refine z_iconst (v := 1) X dX8_orderState_13 (by decide) ?_
    refine z_putI (ci := 11) (j := 43) X dX8_orderState_14 zmm_c1 rfl (by decide) hlk_116 (Or.inl rfl) (Or.inl rfl) (fun _ => rfl) rfl rfl ?_
    obtain ⟨i_1, hi_1⟩ : ∃ q, q = zup i 1 43 1 := ⟨_, rfl⟩
    refine z_mem (M' := zmm i_1 lm) (by rw [hi_1]; rfl) ?_
    refine z_aload_n X 0 dX8_orderState_17 rfl rfl ?_
    refine z_getI (ci := 11) (j := 43) (x := 1) X dX8_orderState_18 zmm_c1 rfl (by decide) hlk_116 (Or.inl rfl) (fun _ => rfl) (by show i_1 1 43 = 1; rw [hi_1, zup_s]) ?_
    refine z_if_le X 29 dX8_orderState_21 (by decide) (fun c_21 => ?_) (fun c_21 => ?_)
    · exact absurd c_21 (by decide)
    · skip
      refine z_bipush (v := 32) X dX8_orderState_24 (by decide) ?_
      refine z_goto (tgt := 35) X dX8_orderState_26 (by decide) ?_
      refine z_iret X rfl (rfl) (Nat.le_refl _) (Nat.le_refl _) dX8_orderState_35 ?_
      subst hi_1
      (try simp only [zb_0, Classical.not_not] at c_6 c_21)
      exact ⟨_, rfl, by (first | rfl | (simp only [Int32.lt_irrefl, if_true, if_false, not_true_eq_false, not_false_eq_true, and_true, true_and, and_false, false_and, or_true, true_or, or_false, false_or, and_self, ite_self, zb, q_orderStateV, q_orderStateF, c_6, c_21, eq_true c_6, eq_true c_21]; done) | (simp only [Int32.lt_irrefl, if_true, if_false, not_true_eq_false, not_false_eq_true, and_true, true_and, and_false, false_and, or_true, true_or, or_false, false_or, and_self, ite_self, zb, q_orderStateV, q_orderStateF, c_6, c_21, eq_true c_6, eq_true c_21]; rfl)), by (first | rfl | (simp only [Int32.lt_irrefl, if_true, if_false, not_true_eq_false, not_false_eq_true, and_true, true_and, and_false, false_and, or_true, true_or, or_false, false_or, and_self, ite_self, zb, q_orderStateV, q_orderStateF, c_6, c_21, eq_true c_6, eq_true c_21]; done) | (simp only [Int32.lt_irrefl, if_true, if_false, not_true_eq_false, not_false_eq_true, and_true, true_and, and_false, false_and, or_true, true_or, or_false, false_or, and_self, ite_self, zb, q_orderStateV, q_orderStateF, c_6, c_21, eq_true c_6, eq_true c_21]; rfl))⟩
  · skip
    refine z_iconst (v := 0) X dX8_orderState_9 (by decide) ?_
    refine z_goto (tgt := 14) X dX8_orderState_10 (by decide) ?_
    refine z_putI (ci := 11) (j := 43) X dX8_orderState_14 zmm_c1 rfl (by decide) hlk_116 (Or.inl rfl) (Or.inl rfl) (fun _ => rfl) rfl rfl ?_
    obtain ⟨i_2, hi_2⟩ : ∃ q, q = zup i 1 43 0 := ⟨_, rfl⟩
    refine z_mem (M' := zmm i_2 lm) (by rw [hi_2]; rfl) ?_
    refine z_aload_n X 0 dX8_orderState_17 rfl rfl ?_
    refine z_getI (ci := 11) (j := 43) (x := 0) X dX8_orderState_18 zmm_c1 rfl (by decide) hlk_116 (Or.inl rfl) (fun _ => rfl) (by show i_2 1 43 = 0; rw [hi_2, zup_s]) ?_
    refine z_if_le X 29 dX8_orderState_21 (by decide) (fun c_21 => ?_) (fun c_21 => ?_)
    · skip
      refine z_aload_n X 0 dX8_orderState_29 rfl rfl ?_
      refine z_getR (ci := 11) (j := 40) (o' := 140) X dX8_orderState_30 zmm_c1 rfl (by decide) hlk_110 (Or.inl rfl) (fun _ => rfl) (zmm_r140) ?_
      refine z_iload_n X 1 dX8_orderState_33 rfl rfl ?_
      refine z_cald (j := cl o) (x := i 140 (cl o)) X dX8_orderState_34 zmm_c140 (by rw [zmm_n140]; exact (zin_vp (zb_n0.mp c_6) ho h12 (by decide))) (rfl) (by show i_2 140 (cl o) = (i 140 (cl o)); rw [hi_2, zup_n (by omega)]) ?_
      refine z_iret X rfl (hrow _) (Nat.le_refl _) (Nat.le_refl _) dX8_orderState_35 ?_
      subst hi_2
      (try simp only [zb_0, Classical.not_not] at c_6 c_21)
      exact ⟨_, rfl, by (first | rfl | (simp only [Int32.lt_irrefl, if_true, if_false, not_true_eq_false, not_false_eq_true, and_true, true_and, and_false, false_and, or_true, true_or, or_false, false_or, and_self, ite_self, zb, q_orderStateV, q_orderStateF, c_6, c_21, eq_true c_6, eq_true c_21]; done) | (simp only [Int32.lt_irrefl, if_true, if_false, not_true_eq_false, not_false_eq_true, and_true, true_and, and_false, false_and, or_true, true_or, or_false, false_or, and_self, ite_self, zb, q_orderStateV, q_orderStateF, c_6, c_21, eq_true c_6, eq_true c_21]; rfl)), by (first | rfl | (simp only [Int32.lt_irrefl, if_true, if_false, not_true_eq_false, not_false_eq_true, and_true, true_and, and_false, false_and, or_true, true_or, or_false, false_or, and_self, ite_self, zb, q_orderStateV, q_orderStateF, c_6, c_21, eq_true c_6, eq_true c_21]; done) | (simp only [Int32.lt_irrefl, if_true, if_false, not_true_eq_false, not_false_eq_true, and_true, true_and, and_false, false_and, or_true, true_or, or_false, false_or, and_self, ite_self, zb, q_orderStateV, q_orderStateF, c_6, c_21, eq_true c_6, eq_true c_21]; rfl))⟩
    · exact absurd c_21 (by decide)

set_option maxRecDepth 100000 in
set_option maxHeartbeats 4000000 in
theorem c_X8_leastShipped (l : Launch) (i : Nat → Nat → Int32) (lm : Nat → Nat → Int64) (no : Nat) (ho : i 1 42 = nI no) (h12 : no ≤ 12) (o : Int32) : zS l yX8_leastShipped wsX8_leastShipped 2 43 0 0 [.ref 1, .int o] (zmm i lm) (zpi (fun rr M1 => rr = q_leastShippedV i o ∧ M1 = zmm (q_leastShippedF i o) lm)) zno := by
  refine z_intro (cc := cX8_leastShipped) (maxL := 2) (ret := (some .int)) (by decide +kernel) rfl (Nat.le_of_ble_eq_true rfl) ?_
  have hlk_110 : Cond.fieldLink RX8 110 "ColdStoreModel" "orderStates" "[C" ∈ wsX8_leastShipped := by decide +kernel
  have hlk_116 : Cond.fieldLink RX8 116 "ColdStoreModel" "thrown" "I" ∈ wsX8_leastShipped := by decide +kernel
  have hlk_113 : Cond.fieldLink RX8 113 "ColdStoreModel" "leasts" "[I" ∈ wsX8_leastShipped := by decide +kernel
  intro g X
  show zE g 2 0 [(0, .ref 1), (1, .int o)] [] (zmm i lm) 0 0
  refine z_aload_n X 0 dX8_leastShipped_0 rfl rfl ?_
  refine z_aload_n X 0 dX8_leastShipped_1 rfl rfl ?_
  refine z_iload_n X 1 dX8_leastShipped_2 rfl rfl ?_
  refine z_callVi (As := [.int o]) (rest := [.ref 1]) (n1 := 1) (ci := 11) X dX8_leastShipped_3 (c_X8_isOrder l _ _ o) gX8_leastShipped_X8_isOrder rfl rfl (by decide +kernel) ⟨by decide, by decide⟩ zmm_c1 rfl rfl (Nat.le_of_ble_eq_true rfl) ⟨by decide, by decide⟩ (fun _ h => h.elim) ?_
  rintro _ _ ⟨rfl, rfl⟩
  refine z_if_ne X 13 dX8_leastShipped_6 (by decide) (fun c_6 => ?_) (fun c_6 => ?_)
  · skip
    refine z_aload_n X 0 dX8_leastShipped_13 rfl rfl ?_
    refine z_getR (ci := 11) (j := 40) (o' := 140) X dX8_leastShipped_14 zmm_c1 rfl (by decide) hlk_110 (Or.inl rfl) (fun _ => rfl) (zmm_r140) ?_
    refine z_iload_n X 1 dX8_leastShipped_17 rfl rfl ?_
    refine z_cald (j := cl o) (x := i 140 (cl o)) X dX8_leastShipped_18 zmm_c140 (by rw [zmm_n140]; exact (zin_vp (zb_n0.mp c_6) ho h12 (by decide))) (rfl) (rfl) ?_
    refine z_bipush (v := 115) X dX8_leastShipped_19 (by decide) ?_
    refine z_icmp_eq X 28 dX8_leastShipped_21 (by decide) (fun c_21 => ?_) (fun c_21 => ?_)
    · skip
      refine z_iconst (v := 0) X dX8_leastShipped_28 (by decide) ?_
      refine z_putI (ci := 11) (j := 43) X dX8_leastShipped_29 zmm_c1 rfl (by decide) hlk_116 (Or.inl rfl) (Or.inl rfl) (fun _ => rfl) rfl rfl ?_
      obtain ⟨i_1, hi_1⟩ : ∃ q, q = zup i 1 43 0 := ⟨_, rfl⟩
      refine z_mem (M' := zmm i_1 lm) (by rw [hi_1]; rfl) ?_
      refine z_aload_n X 0 dX8_leastShipped_32 rfl rfl ?_
      refine z_getI (ci := 11) (j := 43) (x := 0) X dX8_leastShipped_33 zmm_c1 rfl (by decide) hlk_116 (Or.inl rfl) (fun _ => rfl) (by show i_1 1 43 = 0; rw [hi_1, zup_s]) ?_
      refine z_if_le X 43 dX8_leastShipped_36 (by decide) (fun c_36 => ?_) (fun c_36 => ?_)
      · skip
        refine z_aload_n X 0 dX8_leastShipped_43 rfl rfl ?_
        refine z_getR (ci := 11) (j := 41) (o' := 141) X dX8_leastShipped_44 zmm_c1 rfl (by decide) hlk_113 (Or.inl rfl) (fun _ => rfl) (zmm_r141) ?_
        refine z_iload_n X 1 dX8_leastShipped_47 rfl rfl ?_
        refine z_iald (j := cl o) (x := i 141 (cl o)) X dX8_leastShipped_48 zmm_c141 (by rw [zmm_n141]; exact (zin_vp (zb_n0.mp c_6) ho h12 (by decide))) (rfl) (by show i_1 141 (cl o) = (i 141 (cl o)); rw [hi_1, zup_n (by omega)]) ?_
        refine z_iret X rfl rfl (Nat.le_refl _) (Nat.le_refl _) dX8_leastShipped_49 ?_
        subst hi_1
        (try simp only [zb_0, Classical.not_not] at c_6 c_21 c_36)
        exact ⟨_, rfl, by (first | rfl | (simp only [Int32.lt_irrefl, if_true, if_false, not_true_eq_false, not_false_eq_true, and_true, true_and, and_false, false_and, or_true, true_or, or_false, false_or, and_self, ite_self, zb, q_leastShippedV, q_leastShippedF, c_6, c_21, c_36, eq_true c_6, eq_true c_21, eq_true c_36]; done) | (simp only [Int32.lt_irrefl, if_true, if_false, not_true_eq_false, not_false_eq_true, and_true, true_and, and_false, false_and, or_true, true_or, or_false, false_or, and_self, ite_self, zb, q_leastShippedV, q_leastShippedF, c_6, c_21, c_36, eq_true c_6, eq_true c_21, eq_true c_36]; rfl)), by (first | rfl | (simp only [Int32.lt_irrefl, if_true, if_false, not_true_eq_false, not_false_eq_true, and_true, true_and, and_false, false_and, or_true, true_or, or_false, false_or, and_self, ite_self, zb, q_leastShippedV, q_leastShippedF, c_6, c_21, c_36, eq_true c_6, eq_true c_21, eq_true c_36]; done) | (simp only [Int32.lt_irrefl, if_true, if_false, not_true_eq_false, not_false_eq_true, and_true, true_and, and_false, false_and, or_true, true_or, or_false, false_or, and_self, ite_self, zb, q_leastShippedV, q_leastShippedF, c_6, c_21, c_36, eq_true c_6, eq_true c_21, eq_true c_36]; rfl))⟩
      · exact absurd c_36 (by decide)
    · skip
      refine z_iconst (v := 2) X dX8_leastShipped_24 (by decide) ?_
      refine z_goto (tgt := 29) X dX8_leastShipped_25 (by decide) ?_
      refine z_putI (ci := 11) (j := 43) X dX8_leastShipped_29 zmm_c1 rfl (by decide) hlk_116 (Or.inl rfl) (Or.inl rfl) (fun _ => rfl) rfl rfl ?_
      obtain ⟨i_2, hi_2⟩ : ∃ q, q = zup i 1 43 2 := ⟨_, rfl⟩
      refine z_mem (M' := zmm i_2 lm) (by rw [hi_2]; rfl) ?_
      refine z_aload_n X 0 dX8_leastShipped_32 rfl rfl ?_
      refine z_getI (ci := 11) (j := 43) (x := 2) X dX8_leastShipped_33 zmm_c1 rfl (by decide) hlk_116 (Or.inl rfl) (fun _ => rfl) (by show i_2 1 43 = 2; rw [hi_2, zup_s]) ?_
      refine z_if_le X 43 dX8_leastShipped_36 (by decide) (fun c_36 => ?_) (fun c_36 => ?_)
      · exact absurd c_36 (by decide)
      · skip
        refine z_iconst (v := 0) X dX8_leastShipped_39 (by decide) ?_
        refine z_goto (tgt := 49) X dX8_leastShipped_40 (by decide) ?_
        refine z_iret X rfl rfl (Nat.le_refl _) (Nat.le_refl _) dX8_leastShipped_49 ?_
        subst hi_2
        (try simp only [zb_0, Classical.not_not] at c_6 c_21 c_36)
        exact ⟨_, rfl, by (first | rfl | (simp only [Int32.lt_irrefl, if_true, if_false, not_true_eq_false, not_false_eq_true, and_true, true_and, and_false, false_and, or_true, true_or, or_false, false_or, and_self, ite_self, zb, q_leastShippedV, q_leastShippedF, c_6, c_21, c_36, eq_true c_6, eq_true c_21, eq_true c_36]; done) | (simp only [Int32.lt_irrefl, if_true, if_false, not_true_eq_false, not_false_eq_true, and_true, true_and, and_false, false_and, or_true, true_or, or_false, false_or, and_self, ite_self, zb, q_leastShippedV, q_leastShippedF, c_6, c_21, c_36, eq_true c_6, eq_true c_21, eq_true c_36]; rfl)), by (first | rfl | (simp only [Int32.lt_irrefl, if_true, if_false, not_true_eq_false, not_false_eq_true, and_true, true_and, and_false, false_and, or_true, true_or, or_false, false_or, and_self, ite_self, zb, q_leastShippedV, q_leastShippedF, c_6, c_21, c_36, eq_true c_6, eq_true c_21, eq_true c_36]; done) | (simp only [Int32.lt_irrefl, if_true, if_false, not_true_eq_false, not_false_eq_true, and_true, true_and, and_false, false_and, or_true, true_or, or_false, false_or, and_self, ite_self, zb, q_leastShippedV, q_leastShippedF, c_6, c_21, c_36, eq_true c_6, eq_true c_21, eq_true c_36]; rfl))⟩
  · skip
    refine z_iconst (v := 1) X dX8_leastShipped_9 (by decide) ?_
    refine z_goto (tgt := 29) X dX8_leastShipped_10 (by decide) ?_
    refine z_putI (ci := 11) (j := 43) X dX8_leastShipped_29 zmm_c1 rfl (by decide) hlk_116 (Or.inl rfl) (Or.inl rfl) (fun _ => rfl) rfl rfl ?_
    obtain ⟨i_3, hi_3⟩ : ∃ q, q = zup i 1 43 1 := ⟨_, rfl⟩
    refine z_mem (M' := zmm i_3 lm) (by rw [hi_3]; rfl) ?_
    refine z_aload_n X 0 dX8_leastShipped_32 rfl rfl ?_
    refine z_getI (ci := 11) (j := 43) (x := 1) X dX8_leastShipped_33 zmm_c1 rfl (by decide) hlk_116 (Or.inl rfl) (fun _ => rfl) (by show i_3 1 43 = 1; rw [hi_3, zup_s]) ?_
    refine z_if_le X 43 dX8_leastShipped_36 (by decide) (fun c_36 => ?_) (fun c_36 => ?_)
    · exact absurd c_36 (by decide)
    · skip
      refine z_iconst (v := 0) X dX8_leastShipped_39 (by decide) ?_
      refine z_goto (tgt := 49) X dX8_leastShipped_40 (by decide) ?_
      refine z_iret X rfl rfl (Nat.le_refl _) (Nat.le_refl _) dX8_leastShipped_49 ?_
      subst hi_3
      (try simp only [zb_0, Classical.not_not] at c_6 c_36)
      exact ⟨_, rfl, by (first | rfl | (simp only [Int32.lt_irrefl, if_true, if_false, not_true_eq_false, not_false_eq_true, and_true, true_and, and_false, false_and, or_true, true_or, or_false, false_or, and_self, ite_self, zb, q_leastShippedV, q_leastShippedF, c_6, c_36, eq_true c_6, eq_true c_36]; done) | (simp only [Int32.lt_irrefl, if_true, if_false, not_true_eq_false, not_false_eq_true, and_true, true_and, and_false, false_and, or_true, true_or, or_false, false_or, and_self, ite_self, zb, q_leastShippedV, q_leastShippedF, c_6, c_36, eq_true c_6, eq_true c_36]; rfl)), by (first | rfl | (simp only [Int32.lt_irrefl, if_true, if_false, not_true_eq_false, not_false_eq_true, and_true, true_and, and_false, false_and, or_true, true_or, or_false, false_or, and_self, ite_self, zb, q_leastShippedV, q_leastShippedF, c_6, c_36, eq_true c_6, eq_true c_36]; done) | (simp only [Int32.lt_irrefl, if_true, if_false, not_true_eq_false, not_false_eq_true, and_true, true_and, and_false, false_and, or_true, true_or, or_false, false_or, and_self, ite_self, zb, q_leastShippedV, q_leastShippedF, c_6, c_36, eq_true c_6, eq_true c_36]; rfl))⟩

set_option maxRecDepth 100000 in
set_option maxHeartbeats 4000000 in
theorem c_X8_pass (l : Launch) (i : Nat → Nat → Int32) (lm : Nat → Nat → Int64) (nr np no : Nat) (hw : mWF i nr np no) (t : Int32) : zS l yX8_pass wsX8_pass 4 94 0 0 [.ref 1, .int t] (zmm i lm) (zpi (fun x M1 => x = q_passV i nr np no t ∧ M1 = zmm (q_passF i nr np no t) (q_passL i lm nr np no t))) zno := by
  refine z_intro (cc := cX8_pass) (maxL := 4) (ret := (some .int)) (by decide +kernel) rfl (Nat.le_of_ble_eq_true rfl) ?_
  have hlk_132 : Cond.fieldLink RX8 132 "ColdStoreModel" "time" "I" ∈ wsX8_pass := by decide +kernel
  have hlk_116 : Cond.fieldLink RX8 116 "ColdStoreModel" "thrown" "I" ∈ wsX8_pass := by decide +kernel
  intro g X
  show zE g 4 0 [(0, .ref 1), (1, .int t)] [] (zmm i lm) 0 0
  refine z_aload_n X 0 dX8_pass_0 rfl rfl ?_
  refine z_iload_n X 1 dX8_pass_1 rfl rfl ?_
  refine z_iconst (v := 1) X dX8_pass_2 (by decide) ?_
  refine z_bipush (v := 96) X dX8_pass_3 (by decide) ?_
  refine z_callSi (As := [.int t, .int 1, .int 96]) (rest := [.ref 1]) (n1 := 3) X dX8_pass_5 (c_X8_in l _ t 1 96) gX8_pass_X8_in rfl rfl (by decide +kernel) ⟨by decide, by decide⟩ rfl (Nat.le_of_ble_eq_true rfl) ⟨by decide, by decide⟩ (fun _ h => h.elim) ?_
  rintro _ _ ⟨rfl, rfl⟩
  refine z_if_ne X 15 dX8_pass_8 (by decide) (fun c_8 => ?_) (fun c_8 => ?_)
  · skip
    refine z_aload_n X 0 dX8_pass_15 rfl rfl ?_
    refine z_getI (ci := 11) (j := 0) (x := i 1 0) X dX8_pass_16 zmm_c1 rfl (by decide) hlk_132 (Or.inl rfl) (fun _ => rfl) (rfl) ?_
    refine z_iload_n X 1 dX8_pass_19 rfl rfl ?_
    refine z_iadd X dX8_pass_20 ?_
    refine z_sipush (v := 960) X dX8_pass_21 (by decide) ?_
    refine z_icmp_le X 31 dX8_pass_24 (by decide) (fun c_24 => ?_) (fun c_24 => ?_)
    · skip
      refine z_iconst (v := 0) X dX8_pass_31 (by decide) ?_
      refine z_putI (ci := 11) (j := 43) X dX8_pass_32 zmm_c1 rfl (by decide) hlk_116 (Or.inl rfl) (Or.inl rfl) (fun _ => rfl) rfl rfl ?_
      obtain ⟨i_1, hi_1⟩ : ∃ q, q = zup i 1 43 0 := ⟨_, rfl⟩
      refine z_mem (M' := zmm i_1 lm) (by rw [hi_1]; rfl) ?_
      refine z_iconst (v := 0) X dX8_pass_35 (by decide) ?_
      refine z_istore_n (ls' := [(2, .int 0), (0, .ref 1), (1, .int t)]) X dX8_pass_36 rfl (by decide) rfl ?_
      refine z_iconst (v := 0) X dX8_pass_37 (by decide) ?_
      refine z_istore_n (ls' := [(3, .int 0), (2, .int 0), (0, .ref 1), (1, .int t)]) X dX8_pass_38 rfl (by decide) rfl ?_
      obtain ⟨tn, htn, htn1, rfl⟩ : ∃ j : Nat, j ≤ 96 ∧ 1 ≤ j ∧ t = nI j := zin_pos (zb_n0.mp c_8)
      have hcl : cl (nI tn) = tn := nI_clamp (by omega)
      have hloop39 : ∀ k : Nat, k ≤ tn → zE g 4 39 [(0, .ref 1), (1, .int (nI tn)), (2, .int (m_tkS nr np no (zup i 1 43 0) k)), (3, .int (nI k))] [] (zmm (m_tkI nr np no (zup i 1 43 0) k) (m_tkL nr np no (zup i 1 43 0) lm k)) 0 0 := by
        refine z_loop (fun k => zE g 4 39 [(0, .ref 1), (1, .int (nI tn)), (2, .int (m_tkS nr np no (zup i 1 43 0) k)), (3, .int (nI k))] [] (zmm (m_tkI nr np no (zup i 1 43 0) k) (m_tkL nr np no (zup i 1 43 0) lm k)) 0 0) tn ?_ ?_
        · show zE g 4 39 [(0, .ref 1), (1, .int (nI tn)), (2, .int (m_tkS nr np no (zup i 1 43 0) tn)), (3, .int (nI tn))] [] (zmm (m_tkI nr np no (zup i 1 43 0) tn) (m_tkL nr np no (zup i 1 43 0) lm tn)) 0 0
          refine z_iload_n X 3 dX8_pass_39 rfl rfl ?_
          refine z_iload_n X 1 dX8_pass_40 rfl rfl ?_
          refine z_icmp_ge X 64 dX8_pass_41 (by decide) (fun c_41 => ?_) (fun c_41 => ?_)
          · skip
            refine z_iload_n X 2 dX8_pass_64 rfl rfl ?_
            refine z_iret X rfl rfl (Nat.le_refl _) (Nat.le_refl _) dX8_pass_65 ?_
            (try simp only [zb_0, Classical.not_not, hcl] at c_8 c_24 c_41)
            exact ⟨_, rfl, by (first | rfl | (simp only [Int32.lt_irrefl, if_true, if_false, not_true_eq_false, not_false_eq_true, and_true, true_and, and_false, false_and, or_true, true_or, or_false, false_or, and_self, ite_self, zb, q_passV, q_passF, q_passL, hcl, c_8, c_24, c_41, eq_true c_8, eq_true c_24, eq_true c_41]; done) | (simp only [Int32.lt_irrefl, if_true, if_false, not_true_eq_false, not_false_eq_true, and_true, true_and, and_false, false_and, or_true, true_or, or_false, false_or, and_self, ite_self, zb, q_passV, q_passF, q_passL, hcl, c_8, c_24, c_41, eq_true c_8, eq_true c_24, eq_true c_41]; rfl)), by (first | rfl | (simp only [Int32.lt_irrefl, if_true, if_false, not_true_eq_false, not_false_eq_true, and_true, true_and, and_false, false_and, or_true, true_or, or_false, false_or, and_self, ite_self, zb, q_passV, q_passF, q_passL, hcl, c_8, c_24, c_41, eq_true c_8, eq_true c_24, eq_true c_41]; done) | (simp only [Int32.lt_irrefl, if_true, if_false, not_true_eq_false, not_false_eq_true, and_true, true_and, and_false, false_and, or_true, true_or, or_false, false_or, and_self, ite_self, zb, q_passV, q_passF, q_passL, hcl, c_8, c_24, c_41, eq_true c_8, eq_true c_24, eq_true c_41]; rfl))⟩
          · exact absurd (Int32.le_refl _) c_41
        · intro k hk_39 ih39
          have ih39 : zE g 4 39 [(0, .ref 1), (1, .int (nI tn)), (2, .int (m_tkS nr np no (zup i 1 43 0) (k + 1))), (3, .int (nI (k + 1)))] [] (zmm (m_tkI nr np no (zup i 1 43 0) (k + 1)) (m_tkL nr np no (zup i 1 43 0) lm (k + 1))) 0 0 := ih39
          show zE g 4 39 [(0, .ref 1), (1, .int (nI tn)), (2, .int (m_tkS nr np no (zup i 1 43 0) k)), (3, .int (nI k))] [] (zmm (m_tkI nr np no (zup i 1 43 0) k) (m_tkL nr np no (zup i 1 43 0) lm k)) 0 0
          refine z_iload_n X 3 dX8_pass_39 rfl rfl ?_
          refine z_iload_n X 1 dX8_pass_40 rfl rfl ?_
          refine z_icmp_ge X 64 dX8_pass_41 (by decide) (fun c_41 => ?_) (fun c_41 => ?_)
          · exact absurd c_41 (nI_ge hk_39 (by omega))
          · skip
            refine z_aload_n X 0 dX8_pass_44 rfl rfl ?_
            refine z_getI (ci := 11) (j := 43) (x := (m_tkI nr np no (zup i 1 43 0) k) 1 43) X dX8_pass_45 zmm_c1 rfl (by decide) hlk_116 (Or.inl rfl) (fun _ => rfl) (rfl) ?_
            refine z_if_ne X 64 dX8_pass_48 (by decide) (fun c_48 => ?_) (fun c_48 => ?_)
            · exact absurd (by rw [m_tkI_o (by omega)]; exact zup_s) c_48
            · skip
              refine z_iload_n X 2 dX8_pass_51 rfl rfl ?_
              refine z_aload_n X 0 dX8_pass_52 rfl rfl ?_
              refine z_callVi (As := []) (rest := [.int (m_tkS nr np no (zup i 1 43 0) k)]) (n1 := 0) (ci := 11) X dX8_pass_53 (c_X8_tick l _ _ nr np no (hw.of (fun a b h => (m_tkI_o (by omega) _).trans (zup_n (by omega))))) gX8_pass_X8_tick rfl rfl (by decide +kernel) ⟨by decide, by decide⟩ zmm_c1 rfl rfl (Nat.le_of_ble_eq_true rfl) ⟨by decide, by decide⟩ (fun _ h => h.elim) ?_
              rintro _ _ ⟨rfl, rfl⟩
              refine z_iadd X dX8_pass_56 ?_
              refine z_istore_n (ls' := [(2, .int ((m_tkS nr np no (zup i 1 43 0) k) + (m_tickS (m_tkI nr np no (zup i 1 43 0) k) nr np no))), (0, .ref 1), (1, .int (nI tn)), (3, .int (nI k))]) X dX8_pass_57 rfl (by decide) rfl ?_
              refine z_iinc (ls' := [(3, .int (nI (k + 1))), (2, .int ((m_tkS nr np no (zup i 1 43 0) k) + (m_tickS (m_tkI nr np no (zup i 1 43 0) k) nr np no))), (0, .ref 1), (1, .int (nI tn))]) (v := nI (k + 1)) X 3 dX8_pass_58 rfl (nI_1 _) (by decide) rfl ?_
              refine z_goto (tgt := 39) X dX8_pass_61 (by decide) ?_
              refine z_sub (ls' := [(0, .ref 1), (1, .int (nI tn)), (2, .int ((m_tkS nr np no (zup i 1 43 0) k) + (m_tickS (m_tkI nr np no (zup i 1 43 0) k) nr np no))), (3, .int (nI (k + 1)))]) [2, 3, 1, 0] rfl ?_
              refine z_lse (ls' := [(0, .ref 1), (1, .int (nI tn)), (2, .int (m_tkS nr np no (zup i 1 43 0) (k + 1))), (3, .int (nI (k + 1)))]) (rfl) ?_
              refine z_mem (M' := zmm (m_tkI nr np no (zup i 1 43 0) (k + 1)) (m_tkL nr np no (zup i 1 43 0) lm (k + 1))) (by rfl) ?_
              exact ih39
      refine z_sub (ls' := [(0, .ref 1), (1, .int (nI tn)), (2, .int 0), (3, .int 0)]) [2, 3, 1, 0] rfl ?_
      refine z_lse (ls' := [(0, .ref 1), (1, .int (nI tn)), (2, .int (m_tkS nr np no (zup i 1 43 0) 0)), (3, .int (nI 0))]) (rfl) ?_
      refine z_mem (M' := zmm (m_tkI nr np no (zup i 1 43 0) 0) (m_tkL nr np no (zup i 1 43 0) lm 0)) (by subst hi_1; rfl) ?_
      exact hloop39 0 (Nat.zero_le _)
    · skip
      refine z_iconst (v := 2) X dX8_pass_27 (by decide) ?_
      refine z_goto (tgt := 32) X dX8_pass_28 (by decide) ?_
      refine z_putI (ci := 11) (j := 43) X dX8_pass_32 zmm_c1 rfl (by decide) hlk_116 (Or.inl rfl) (Or.inl rfl) (fun _ => rfl) rfl rfl ?_
      obtain ⟨i_2, hi_2⟩ : ∃ q, q = zup i 1 43 2 := ⟨_, rfl⟩
      refine z_mem (M' := zmm i_2 lm) (by rw [hi_2]; rfl) ?_
      refine z_iconst (v := 0) X dX8_pass_35 (by decide) ?_
      refine z_istore_n (ls' := [(2, .int 0), (0, .ref 1), (1, .int t)]) X dX8_pass_36 rfl (by decide) rfl ?_
      refine z_iconst (v := 0) X dX8_pass_37 (by decide) ?_
      refine z_istore_n (ls' := [(3, .int 0), (2, .int 0), (0, .ref 1), (1, .int t)]) X dX8_pass_38 rfl (by decide) rfl ?_
      refine z_iload_n X 0 dX8_pass_39 rfl rfl ?_
      refine z_iload_n X 3 dX8_pass_40 rfl rfl ?_
      refine z_icmp_ge X 64 dX8_pass_41 (by decide) (fun c_41 => ?_) (fun c_41 => ?_)
      · skip
        refine z_iload_n X 1 dX8_pass_64 rfl rfl ?_
        refine z_iret X rfl rfl (Nat.le_refl _) (Nat.le_refl _) dX8_pass_65 ?_
        subst hi_2
        (try simp only [zb_0, Classical.not_not] at c_8 c_24 c_41)
        exact ⟨_, rfl, by (first | rfl | (simp only [Int32.lt_irrefl, if_true, if_false, not_true_eq_false, not_false_eq_true, and_true, true_and, and_false, false_and, or_true, true_or, or_false, false_or, and_self, ite_self, zb, q_passV, q_passF, q_passL, c_8, c_24, c_41, eq_true c_8, eq_true c_24, eq_true c_41]; done) | (simp only [Int32.lt_irrefl, if_true, if_false, not_true_eq_false, not_false_eq_true, and_true, true_and, and_false, false_and, or_true, true_or, or_false, false_or, and_self, ite_self, zb, q_passV, q_passF, q_passL, c_8, c_24, c_41, eq_true c_8, eq_true c_24, eq_true c_41]; rfl)), by (first | rfl | (simp only [Int32.lt_irrefl, if_true, if_false, not_true_eq_false, not_false_eq_true, and_true, true_and, and_false, false_and, or_true, true_or, or_false, false_or, and_self, ite_self, zb, q_passV, q_passF, q_passL, c_8, c_24, c_41, eq_true c_8, eq_true c_24, eq_true c_41]; done) | (simp only [Int32.lt_irrefl, if_true, if_false, not_true_eq_false, not_false_eq_true, and_true, true_and, and_false, false_and, or_true, true_or, or_false, false_or, and_self, ite_self, zb, q_passV, q_passF, q_passL, c_8, c_24, c_41, eq_true c_8, eq_true c_24, eq_true c_41]; rfl))⟩
      · skip
        refine z_aload_n X 2 dX8_pass_44 rfl rfl ?_
        refine z_getI (ci := 11) (j := 43) (x := 2) X dX8_pass_45 zmm_c1 rfl (by decide) hlk_116 (Or.inl rfl) (fun _ => rfl) (by show i_2 1 43 = 2; rw [hi_2, zup_s]) ?_
        refine z_if_ne X 64 dX8_pass_48 (by decide) (fun c_48 => ?_) (fun c_48 => ?_)
        · skip
          refine z_iload_n X 1 dX8_pass_64 rfl rfl ?_
          refine z_iret X rfl rfl (Nat.le_refl _) (Nat.le_refl _) dX8_pass_65 ?_
          subst hi_2
          (try simp only [zb_0, Classical.not_not] at c_8 c_24 c_41 c_48)
          exact ⟨_, rfl, by (first | rfl | (simp only [Int32.lt_irrefl, if_true, if_false, not_true_eq_false, not_false_eq_true, and_true, true_and, and_false, false_and, or_true, true_or, or_false, false_or, and_self, ite_self, zb, q_passV, q_passF, q_passL, c_8, c_24, c_41, c_48, eq_true c_8, eq_true c_24, eq_true c_41, eq_true c_48]; done) | (simp only [Int32.lt_irrefl, if_true, if_false, not_true_eq_false, not_false_eq_true, and_true, true_and, and_false, false_and, or_true, true_or, or_false, false_or, and_self, ite_self, zb, q_passV, q_passF, q_passL, c_8, c_24, c_41, c_48, eq_true c_8, eq_true c_24, eq_true c_41, eq_true c_48]; rfl)), by (first | rfl | (simp only [Int32.lt_irrefl, if_true, if_false, not_true_eq_false, not_false_eq_true, and_true, true_and, and_false, false_and, or_true, true_or, or_false, false_or, and_self, ite_self, zb, q_passV, q_passF, q_passL, c_8, c_24, c_41, c_48, eq_true c_8, eq_true c_24, eq_true c_41, eq_true c_48]; done) | (simp only [Int32.lt_irrefl, if_true, if_false, not_true_eq_false, not_false_eq_true, and_true, true_and, and_false, false_and, or_true, true_or, or_false, false_or, and_self, ite_self, zb, q_passV, q_passF, q_passL, c_8, c_24, c_41, c_48, eq_true c_8, eq_true c_24, eq_true c_41, eq_true c_48]; rfl))⟩
        · exact absurd c_48 (by decide)
  · skip
    refine z_iconst (v := 1) X dX8_pass_11 (by decide) ?_
    refine z_goto (tgt := 32) X dX8_pass_12 (by decide) ?_
    refine z_putI (ci := 11) (j := 43) X dX8_pass_32 zmm_c1 rfl (by decide) hlk_116 (Or.inl rfl) (Or.inl rfl) (fun _ => rfl) rfl rfl ?_
    obtain ⟨i_3, hi_3⟩ : ∃ q, q = zup i 1 43 1 := ⟨_, rfl⟩
    refine z_mem (M' := zmm i_3 lm) (by rw [hi_3]; rfl) ?_
    refine z_iconst (v := 0) X dX8_pass_35 (by decide) ?_
    refine z_istore_n (ls' := [(2, .int 0), (0, .ref 1), (1, .int t)]) X dX8_pass_36 rfl (by decide) rfl ?_
    refine z_iconst (v := 0) X dX8_pass_37 (by decide) ?_
    refine z_istore_n (ls' := [(3, .int 0), (2, .int 0), (0, .ref 1), (1, .int t)]) X dX8_pass_38 rfl (by decide) rfl ?_
    refine z_iload_n X 0 dX8_pass_39 rfl rfl ?_
    refine z_iload_n X 3 dX8_pass_40 rfl rfl ?_
    refine z_icmp_ge X 64 dX8_pass_41 (by decide) (fun c_41 => ?_) (fun c_41 => ?_)
    · skip
      refine z_iload_n X 1 dX8_pass_64 rfl rfl ?_
      refine z_iret X rfl rfl (Nat.le_refl _) (Nat.le_refl _) dX8_pass_65 ?_
      subst hi_3
      (try simp only [zb_0, Classical.not_not] at c_8 c_41)
      exact ⟨_, rfl, by (first | rfl | (simp only [Int32.lt_irrefl, if_true, if_false, not_true_eq_false, not_false_eq_true, and_true, true_and, and_false, false_and, or_true, true_or, or_false, false_or, and_self, ite_self, zb, q_passV, q_passF, q_passL, c_8, c_41, eq_true c_8, eq_true c_41]; done) | (simp only [Int32.lt_irrefl, if_true, if_false, not_true_eq_false, not_false_eq_true, and_true, true_and, and_false, false_and, or_true, true_or, or_false, false_or, and_self, ite_self, zb, q_passV, q_passF, q_passL, c_8, c_41, eq_true c_8, eq_true c_41]; rfl)), by (first | rfl | (simp only [Int32.lt_irrefl, if_true, if_false, not_true_eq_false, not_false_eq_true, and_true, true_and, and_false, false_and, or_true, true_or, or_false, false_or, and_self, ite_self, zb, q_passV, q_passF, q_passL, c_8, c_41, eq_true c_8, eq_true c_41]; done) | (simp only [Int32.lt_irrefl, if_true, if_false, not_true_eq_false, not_false_eq_true, and_true, true_and, and_false, false_and, or_true, true_or, or_false, false_or, and_self, ite_self, zb, q_passV, q_passF, q_passL, c_8, c_41, eq_true c_8, eq_true c_41]; rfl))⟩
    · skip
      refine z_aload_n X 2 dX8_pass_44 rfl rfl ?_
      refine z_getI (ci := 11) (j := 43) (x := 1) X dX8_pass_45 zmm_c1 rfl (by decide) hlk_116 (Or.inl rfl) (fun _ => rfl) (by show i_3 1 43 = 1; rw [hi_3, zup_s]) ?_
      refine z_if_ne X 64 dX8_pass_48 (by decide) (fun c_48 => ?_) (fun c_48 => ?_)
      · skip
        refine z_iload_n X 1 dX8_pass_64 rfl rfl ?_
        refine z_iret X rfl rfl (Nat.le_refl _) (Nat.le_refl _) dX8_pass_65 ?_
        subst hi_3
        (try simp only [zb_0, Classical.not_not] at c_8 c_41 c_48)
        exact ⟨_, rfl, by (first | rfl | (simp only [Int32.lt_irrefl, if_true, if_false, not_true_eq_false, not_false_eq_true, and_true, true_and, and_false, false_and, or_true, true_or, or_false, false_or, and_self, ite_self, zb, q_passV, q_passF, q_passL, c_8, c_41, c_48, eq_true c_8, eq_true c_41, eq_true c_48]; done) | (simp only [Int32.lt_irrefl, if_true, if_false, not_true_eq_false, not_false_eq_true, and_true, true_and, and_false, false_and, or_true, true_or, or_false, false_or, and_self, ite_self, zb, q_passV, q_passF, q_passL, c_8, c_41, c_48, eq_true c_8, eq_true c_41, eq_true c_48]; rfl)), by (first | rfl | (simp only [Int32.lt_irrefl, if_true, if_false, not_true_eq_false, not_false_eq_true, and_true, true_and, and_false, false_and, or_true, true_or, or_false, false_or, and_self, ite_self, zb, q_passV, q_passF, q_passL, c_8, c_41, c_48, eq_true c_8, eq_true c_41, eq_true c_48]; done) | (simp only [Int32.lt_irrefl, if_true, if_false, not_true_eq_false, not_false_eq_true, and_true, true_and, and_false, false_and, or_true, true_or, or_false, false_or, and_self, ite_self, zb, q_passV, q_passF, q_passL, c_8, c_41, c_48, eq_true c_8, eq_true c_41, eq_true c_48]; rfl))⟩
      · exact absurd c_48 (by decide)
