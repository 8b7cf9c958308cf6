set_option maxRecDepth 100000 in
set_option maxHeartbeats 4000000 in
theorem c_X8_loss (l : Launch) (i : Nat → Nat → Int32) (lm : Nat → Nat → Int64) (p : Nat) (t : Int32) (h24 : p < 24) (h5 : vp_in (i 131 p) 5) : zS l yX8_loss wsX8_loss 1 21 0 0 [.ref 1, .int (nI p), .int t] (zmm i lm) (zpi (fun x M1 => x = m_loss i p t ∧ M1 = zmm i lm)) zno := by
  refine z_intro (cc := cX8_loss) (maxL := 4) (ret := (some .int)) (by decide +kernel) rfl (Nat.le_of_ble_eq_true rfl) ?_
  have hlk_86 : Cond.fieldLink RX8 86 "ColdStoreModel" "kindOf" "[I" ∈ wsX8_loss := by decide +kernel
  have hlk_83 : Cond.fieldLink RX8 83 "ColdStoreModel" "lowests" "[I" ∈ wsX8_loss := by decide +kernel
  have hlk_80 : Cond.fieldLink RX8 80 "ColdStoreModel" "bests" "[I" ∈ wsX8_loss := by decide +kernel
  intro g X
  show zE g 4 0 [(0, .ref 1), (1, .int (nI p)), (2, .int t)] [] (zmm i lm) 0 0
  refine z_aload_n X 0 dX8_loss_0 rfl rfl ?_
  refine z_getR (ci := 11) (j := 31) (o' := 131) X dX8_loss_1 zmm_c1 rfl (by decide) hlk_86 (Or.inl rfl) (fun _ => rfl) (zmm_r131) ?_
  refine z_iload_n X 1 dX8_loss_4 rfl rfl ?_
  refine z_iald (j := p) (x := i 131 p) X dX8_loss_5 zmm_c131 (by rw [zmm_n131]; exact vp_in_nI (by omega) (by decide)) (nI_clamp (by omega)) (rfl) ?_
  refine z_istore_n (ls' := [(3, .int (i 131 p)), (0, .ref 1), (1, .int (nI p)), (2, .int t)]) X dX8_loss_6 rfl (by decide) rfl ?_
  refine z_iload_n X 3 dX8_loss_7 rfl rfl ?_
  refine z_aload_n X 1 dX8_loss_8 rfl rfl ?_
  refine z_getR (ci := 11) (j := 29) (o' := 129) X dX8_loss_9 zmm_c1 rfl (by decide) hlk_83 (Or.inl rfl) (fun _ => rfl) (zmm_r129) ?_
  refine z_iload_n X 0 dX8_loss_12 rfl rfl ?_
  refine z_iald (j := cl (i 131 p)) (x := i 129 (cl (i 131 p))) X dX8_loss_13 zmm_c129 (by rw [zmm_n129]; exact h5) (rfl) (rfl) ?_
  refine z_icmp_ge X 20 dX8_loss_14 (by decide) (fun c_14 => ?_) (fun c_14 => ?_)
  · skip
    refine z_iconst (v := 1) X dX8_loss_20 (by decide) ?_
    refine z_iconst (v := 0) X dX8_loss_21 (by decide) ?_
    refine z_iload_n X 3 dX8_loss_22 rfl rfl ?_
    refine z_aload_n X 1 dX8_loss_23 rfl rfl ?_
    refine z_getR (ci := 11) (j := 28) (o' := 128) X dX8_loss_24 zmm_c1 rfl (by decide) hlk_80 (Or.inl rfl) (fun _ => rfl) (zmm_r128) ?_
    refine z_iload_n X 0 dX8_loss_27 rfl rfl ?_
    refine z_iald (j := cl (i 131 p)) (x := i 128 (cl (i 131 p))) X dX8_loss_28 zmm_c128 (by rw [zmm_n128]; exact h5) (rfl) (rfl) ?_
    refine z_isub X dX8_loss_29 ?_
    refine z_mmax X dX8_loss_30 (by decide +kernel) (by decide +kernel) (by decide +kernel) (by decide +kernel) (by decide) (Nat.le_of_ble_eq_true rfl) (by decide) (by decide) ?_
    refine z_bipush (v := 20) X dX8_loss_33 (by decide) ?_
    refine z_idiv X dX8_loss_35 (by decide) ?_
    refine z_iadd X dX8_loss_36 ?_
    refine z_iret X rfl rfl (Nat.le_refl _) (Nat.le_refl _) dX8_loss_37 ?_
    (try simp only [zb_0, Classical.not_not] at c_14)
    exact ⟨_, rfl, by (first | rfl | (simp only [Int32.lt_irrefl, if_true, if_false, not_true_eq_false, not_false_eq_true, and_true, true_and, and_false, false_and, or_true, true_or, or_false, false_or, and_self, ite_self, zb, m_loss, c_14, eq_true c_14]; done) | (simp only [Int32.lt_irrefl, if_true, if_false, not_true_eq_false, not_false_eq_true, and_true, true_and, and_false, false_and, or_true, true_or, or_false, false_or, and_self, ite_self, zb, m_loss, c_14, eq_true c_14]; rfl)), by (first | rfl | (simp only [Int32.lt_irrefl, if_true, if_false, not_true_eq_false, not_false_eq_true, and_true, true_and, and_false, false_and, or_true, true_or, or_false, false_or, and_self, ite_self, zb, m_loss, c_14, eq_true c_14]; done) | (simp only [Int32.lt_irrefl, if_true, if_false, not_true_eq_false, not_false_eq_true, and_true, true_and, and_false, false_and, or_true, true_or, or_false, false_or, and_self, ite_self, zb, m_loss, c_14, eq_true c_14]; rfl))⟩
  · skip
    refine z_bipush (v := 10) X dX8_loss_17 (by decide) ?_
    refine z_iret X rfl rfl (Nat.le_refl _) (Nat.le_refl _) dX8_loss_19 ?_
    (try simp only [zb_0, Classical.not_not] at c_14)
    exact ⟨_, rfl, by (first | rfl | (simp only [Int32.lt_irrefl, if_true, if_false, not_true_eq_false, not_false_eq_true, and_true, true_and, and_false, false_and, or_true, true_or, or_false, false_or, and_self, ite_self, zb, m_loss, c_14, eq_true c_14]; done) | (simp only [Int32.lt_irrefl, if_true, if_false, not_true_eq_false, not_false_eq_true, and_true, true_and, and_false, false_and, or_true, true_or, or_false, false_or, and_self, ite_self, zb, m_loss, c_14, eq_true c_14]; rfl)), by (first | rfl | (simp only [Int32.lt_irrefl, if_true, if_false, not_true_eq_false, not_false_eq_true, and_true, true_and, and_false, false_and, or_true, true_or, or_false, false_or, and_self, ite_self, zb, m_loss, c_14, eq_true c_14]; done) | (simp only [Int32.lt_irrefl, if_true, if_false, not_true_eq_false, not_false_eq_true, and_true, true_and, and_false, false_and, or_true, true_or, or_false, false_or, and_self, ite_self, zb, m_loss, c_14, eq_true c_14]; rfl))⟩

set_option maxRecDepth 100000 in
set_option maxHeartbeats 4000000 in
theorem c_X8_isCandidate (l : Launch) (i : Nat → Nat → Int32) (lm : Nat → Nat → Int64) (o p : Nat) (ho : o < 12) (hp : p < 24) : zS l yX8_isCandidate wsX8_isCandidate 0 0 0 0 [.ref 1, .int (nI o), .int (nI p)] (zmm i lm) (zpi (fun x M1 => x = zb (m_isC i o p) ∧ M1 = zmm i lm)) zno := by
  refine z_intro (cc := cX8_isCandidate) (maxL := 3) (ret := (some .boolean)) (by decide +kernel) rfl (Nat.le_of_ble_eq_true rfl) ?_
  have hlk_95 : Cond.fieldLink RX8 95 "ColdStoreModel" "states" "[C" ∈ wsX8_isCandidate := by decide +kernel
  have hlk_86 : Cond.fieldLink RX8 86 "ColdStoreModel" "kindOf" "[I" ∈ wsX8_isCandidate := by decide +kernel
  have hlk_98 : Cond.fieldLink RX8 98 "ColdStoreModel" "orderKinds" "[I" ∈ wsX8_isCandidate := by decide +kernel
  have hlk_92 : Cond.fieldLink RX8 92 "ColdStoreModel" "lifeOf" "[I" ∈ wsX8_isCandidate := by decide +kernel
  have hlk_104 : Cond.fieldLink RX8 104 "ColdStoreModel" "promises" "[I" ∈ wsX8_isCandidate := by decide +kernel
  intro g X
  show zE g 3 0 [(0, .ref 1), (1, .int (nI o)), (2, .int (nI p))] [] (zmm i lm) 0 0
  refine z_aload_n X 0 dX8_isCandidate_0 rfl rfl ?_
  refine z_getR (ci := 11) (j := 34) (o' := 134) X dX8_isCandidate_1 zmm_c1 rfl (by decide) hlk_95 (Or.inl rfl) (fun _ => rfl) (zmm_r134) ?_
  refine z_iload_n X 2 dX8_isCandidate_4 rfl rfl ?_
  refine z_cald (j := p) (x := i 134 p) X dX8_isCandidate_5 zmm_c134 (by rw [zmm_n134]; exact vp_in_nI (by omega) (by decide)) (nI_clamp (by omega)) (rfl) ?_
  refine z_bipush (v := 114) X dX8_isCandidate_6 (by decide) ?_
  refine z_icmp_ne X 45 dX8_isCandidate_8 (by decide) (fun c_8 => ?_) (fun c_8 => ?_)
  · skip
    refine z_iconst (v := 0) X dX8_isCandidate_45 (by decide) ?_
    refine z_iret X rfl (rfl) (Nat.le_refl _) (Nat.le_refl _) dX8_isCandidate_46 ?_
    (try simp only [zb_0, Classical.not_not] at c_8)
    exact ⟨_, rfl, by (first | rfl | (simp only [Int32.lt_irrefl, if_true, if_false, not_true_eq_false, not_false_eq_true, and_true, true_and, and_false, false_and, or_true, true_or, or_false, false_or, and_self, ite_self, zb, m_isC, c_8, eq_true c_8]; done) | (simp only [Int32.lt_irrefl, if_true, if_false, not_true_eq_false, not_false_eq_true, and_true, true_and, and_false, false_and, or_true, true_or, or_false, false_or, and_self, ite_self, zb, m_isC, c_8, eq_true c_8]; rfl)), by (first | rfl | (simp only [Int32.lt_irrefl, if_true, if_false, not_true_eq_false, not_false_eq_true, and_true, true_and, and_false, false_and, or_true, true_or, or_false, false_or, and_self, ite_self, zb, m_isC, c_8, eq_true c_8]; done) | (simp only [Int32.lt_irrefl, if_true, if_false, not_true_eq_false, not_false_eq_true, and_true, true_and, and_false, false_and, or_true, true_or, or_false, false_or, and_self, ite_self, zb, m_isC, c_8, eq_true c_8]; rfl))⟩
  · skip
    refine z_aload_n X 0 dX8_isCandidate_11 rfl rfl ?_
    refine z_getR (ci := 11) (j := 31) (o' := 131) X dX8_isCandidate_12 zmm_c1 rfl (by decide) hlk_86 (Or.inl rfl) (fun _ => rfl) (zmm_r131) ?_
    refine z_iload_n X 2 dX8_isCandidate_15 rfl rfl ?_
    refine z_iald (j := p) (x := i 131 p) X dX8_isCandidate_16 zmm_c131 (by rw [zmm_n131]; exact vp_in_nI (by omega) (by decide)) (nI_clamp (by omega)) (rfl) ?_
    refine z_aload_n X 0 dX8_isCandidate_17 rfl rfl ?_
    refine z_getR (ci := 11) (j := 36) (o' := 136) X dX8_isCandidate_18 zmm_c1 rfl (by decide) hlk_98 (Or.inl rfl) (fun _ => rfl) (zmm_r136) ?_
    refine z_iload_n X 1 dX8_isCandidate_21 rfl rfl ?_
    refine z_iald (j := o) (x := i 136 o) X dX8_isCandidate_22 zmm_c136 (by rw [zmm_n136]; exact vp_in_nI (by omega) (by decide)) (nI_clamp (by omega)) (rfl) ?_
    refine z_icmp_ne X 45 dX8_isCandidate_23 (by decide) (fun c_23 => ?_) (fun c_23 => ?_)
    · skip
      refine z_iconst (v := 0) X dX8_isCandidate_45 (by decide) ?_
      refine z_iret X rfl (rfl) (Nat.le_refl _) (Nat.le_refl _) dX8_isCandidate_46 ?_
      (try simp only [zb_0, Classical.not_not] at c_8 c_23)
      exact ⟨_, rfl, by (first | rfl | (simp only [Int32.lt_irrefl, if_true, if_false, not_true_eq_false, not_false_eq_true, and_true, true_and, and_false, false_and, or_true, true_or, or_false, false_or, and_self, ite_self, zb, m_isC, c_8, c_23, eq_true c_8, eq_true c_23]; done) | (simp only [Int32.lt_irrefl, if_true, if_false, not_true_eq_false, not_false_eq_true, and_true, true_and, and_false, false_and, or_true, true_or, or_false, false_or, and_self, ite_self, zb, m_isC, c_8, c_23, eq_true c_8, eq_true c_23]; rfl)), by (first | rfl | (simp only [Int32.lt_irrefl, if_true, if_false, not_true_eq_false, not_false_eq_true, and_true, true_and, and_false, false_and, or_true, true_or, or_false, false_or, and_self, ite_self, zb, m_isC, c_8, c_23, eq_true c_8, eq_true c_23]; done) | (simp only [Int32.lt_irrefl, if_true, if_false, not_true_eq_false, not_false_eq_true, and_true, true_and, and_false, false_and, or_true, true_or, or_false, false_or, and_self, ite_self, zb, m_isC, c_8, c_23, eq_true c_8, eq_true c_23]; rfl))⟩
    · skip
      refine z_aload_n X 0 dX8_isCandidate_26 rfl rfl ?_
      refine z_getR (ci := 11) (j := 33) (o' := 133) X dX8_isCandidate_27 zmm_c1 rfl (by decide) hlk_92 (Or.inl rfl) (fun _ => rfl) (zmm_r133) ?_
      refine z_iload_n X 2 dX8_isCandidate_30 rfl rfl ?_
      refine z_iald (j := p) (x := i 133 p) X dX8_isCandidate_31 zmm_c133 (by rw [zmm_n133]; exact vp_in_nI (by omega) (by decide)) (nI_clamp (by omega)) (rfl) ?_
      refine z_aload_n X 0 dX8_isCandidate_32 rfl rfl ?_
      refine z_getR (ci := 11) (j := 38) (o' := 138) X dX8_isCandidate_33 zmm_c1 rfl (by decide) hlk_104 (Or.inl rfl) (fun _ => rfl) (zmm_r138) ?_
      refine z_iload_n X 1 dX8_isCandidate_36 rfl rfl ?_
      refine z_iald (j := o) (x := i 138 o) X dX8_isCandidate_37 zmm_c138 (by rw [zmm_n138]; exact vp_in_nI (by omega) (by decide)) (nI_clamp (by omega)) (rfl) ?_
      refine z_icmp_lt X 45 dX8_isCandidate_38 (by decide) (fun c_38 => ?_) (fun c_38 => ?_)
      · skip
        refine z_iconst (v := 0) X dX8_isCandidate_45 (by decide) ?_
        refine z_iret X rfl (rfl) (Nat.le_refl _) (Nat.le_refl _) dX8_isCandidate_46 ?_
        (try simp only [zb_0, Classical.not_not] at c_8 c_23 c_38)
        exact ⟨_, rfl, by (first | rfl | (simp only [Int32.lt_irrefl, if_true, if_false, not_true_eq_false, not_false_eq_true, and_true, true_and, and_false, false_and, or_true, true_or, or_false, false_or, and_self, ite_self, zb, m_isC, c_8, c_23, c_38, eq_true c_8, eq_true c_23, eq_true c_38]; done) | (simp only [Int32.lt_irrefl, if_true, if_false, not_true_eq_false, not_false_eq_true, and_true, true_and, and_false, false_and, or_true, true_or, or_false, false_or, and_self, ite_self, zb, m_isC, c_8, c_23, c_38, eq_true c_8, eq_true c_23, eq_true c_38]; rfl)), by (first | rfl | (simp only [Int32.lt_irrefl, if_true, if_false, not_true_eq_false, not_false_eq_true, and_true, true_and, and_false, false_and, or_true, true_or, or_false, false_or, and_self, ite_self, zb, m_isC, c_8, c_23, c_38, eq_true c_8, eq_true c_23, eq_true c_38]; done) | (simp only [Int32.lt_irrefl, if_true, if_false, not_true_eq_false, not_false_eq_true, and_true, true_and, and_false, false_and, or_true, true_or, or_false, false_or, and_self, ite_self, zb, m_isC, c_8, c_23, c_38, eq_true c_8, eq_true c_23, eq_true c_38]; rfl))⟩
      · skip
        refine z_iconst (v := 1) X dX8_isCandidate_41 (by decide) ?_
        refine z_goto (tgt := 46) X dX8_isCandidate_42 (by decide) ?_
        refine z_iret X rfl (rfl) (Nat.le_refl _) (Nat.le_refl _) dX8_isCandidate_46 ?_
        (try simp only [zb_0, Classical.not_not] at c_8 c_23 c_38)
        exact ⟨_, rfl, by (first | rfl | (simp only [Int32.lt_irrefl, if_true, if_false, not_true_eq_false, not_false_eq_true, and_true, true_and, and_false, false_and, or_true, true_or, or_false, false_or, and_self, ite_self, zb, m_isC, c_8, c_23, c_38, eq_true c_8, eq_true c_23, eq_true c_38]; done) | (simp only [Int32.lt_irrefl, if_true, if_false, not_true_eq_false, not_false_eq_true, and_true, true_and, and_false, false_and, or_true, true_or, or_false, false_or, and_self, ite_self, zb, m_isC, c_8, c_23, c_38, eq_true c_8, eq_true c_23, eq_true c_38]; rfl)), by (first | rfl | (simp only [Int32.lt_irrefl, if_true, if_false, not_true_eq_false, not_false_eq_true, and_true, true_and, and_false, false_and, or_true, true_or, or_false, false_or, and_self, ite_self, zb, m_isC, c_8, c_23, c_38, eq_true c_8, eq_true c_23, eq_true c_38]; done) | (simp only [Int32.lt_irrefl, if_true, if_false, not_true_eq_false, not_false_eq_true, and_true, true_and, and_false, false_and, or_true, true_or, or_false, false_or, and_self, ite_self, zb, m_isC, c_8, c_23, c_38, eq_true c_8, eq_true c_23, eq_true c_38]; rfl))⟩

set_option maxRecDepth 100000 in
set_option maxHeartbeats 4000000 in
theorem c_X8_candidatesOf (l : Launch) (i : Nat → Nat → Int32) (lm : Nat → Nat → Int64) (o : Nat) (ho : o < 12) (np : Nat) (hp : i 1 35 = nI np) (h24 : np ≤ 24) : zS l yX8_candidatesOf wsX8_candidatesOf 1 22 0 0 [.ref 1, .int (nI o)] (zmm i lm) (zpi (fun x M1 => x = m_cnt i o np ∧ M1 = zmm i lm)) zno := by
  refine z_intro (cc := cX8_candidatesOf) (maxL := 4) (ret := (some .int)) (by decide +kernel) rfl (Nat.le_of_ble_eq_true rfl) ?_
  have hlk_126 : Cond.fieldLink RX8 126 "ColdStoreModel" "pallets" "I" ∈ wsX8_candidatesOf := by decide +kernel
  intro g X
  show zE g 4 0 [(0, .ref 1), (1, .int (nI o))] [] (zmm i lm) 0 0
  refine z_iconst (v := 0) X dX8_candidatesOf_0 (by decide) ?_
  refine z_istore_n (ls' := [(2, .int 0), (0, .ref 1), (1, .int (nI o))]) X dX8_candidatesOf_1 rfl (by decide) rfl ?_
  refine z_iconst (v := 0) X dX8_candidatesOf_2 (by decide) ?_
  refine z_istore_n (ls' := [(3, .int 0), (2, .int 0), (0, .ref 1), (1, .int (nI o))]) X dX8_candidatesOf_3 rfl (by decide) rfl ?_
  have hloop4 : ∀ p : Nat, p ≤ np → zE g 4 4 [(0, .ref 1), (1, .int (nI o)), (2, .int (m_cnt i o p)), (3, .int (nI p))] [] (zmm i lm) 0 0 := by
    refine z_loop (fun p => zE g 4 4 [(0, .ref 1), (1, .int (nI o)), (2, .int (m_cnt i o p)), (3, .int (nI p))] [] (zmm i lm) 0 0) np ?_ ?_
    · show zE g 4 4 [(0, .ref 1), (1, .int (nI o)), (2, .int (m_cnt i o np)), (3, .int (nI np))] [] (zmm i lm) 0 0
      refine z_iload_n X 3 dX8_candidatesOf_4 rfl rfl ?_
      refine z_aload_n X 0 dX8_candidatesOf_5 rfl rfl ?_
      refine z_getI (ci := 11) (j := 35) (x := i 1 35) X dX8_candidatesOf_6 zmm_c1 rfl (by decide) hlk_126 (Or.inl rfl) (fun _ => rfl) (rfl) ?_
      refine z_icmp_ge X 35 dX8_candidatesOf_9 (by decide) (fun c_9 => ?_) (fun c_9 => ?_)
      · skip
        refine z_iload_n X 2 dX8_candidatesOf_35 rfl rfl ?_
        refine z_iret X rfl rfl (Nat.le_refl _) (Nat.le_refl _) dX8_candidatesOf_36 ?_
        exact ⟨_, rfl, rfl, rfl⟩
      · exact absurd (by rw [hp]; exact Int32.le_refl _) c_9
    · intro p hp_4 ih4
      have ih4 : zE g 4 4 [(0, .ref 1), (1, .int (nI o)), (2, .int (m_cnt i o (p + 1))), (3, .int (nI (p + 1)))] [] (zmm i lm) 0 0 := ih4
      show zE g 4 4 [(0, .ref 1), (1, .int (nI o)), (2, .int (m_cnt i o p)), (3, .int (nI p))] [] (zmm i lm) 0 0
      refine z_iload_n X 3 dX8_candidatesOf_4 rfl rfl ?_
      refine z_aload_n X 0 dX8_candidatesOf_5 rfl rfl ?_
      refine z_getI (ci := 11) (j := 35) (x := i 1 35) X dX8_candidatesOf_6 zmm_c1 rfl (by decide) hlk_126 (Or.inl rfl) (fun _ => rfl) (rfl) ?_
      refine z_icmp_ge X 35 dX8_candidatesOf_9 (by decide) (fun c_9 => ?_) (fun c_9 => ?_)
      · exact absurd (by rw [← hp]; exact c_9) (nI_ge hp_4 (by omega))
      · skip
        refine z_iload_n X 2 dX8_candidatesOf_12 rfl rfl ?_
        refine z_aload_n X 0 dX8_candidatesOf_13 rfl rfl ?_
        refine z_iload_n X 1 dX8_candidatesOf_14 rfl rfl ?_
        refine z_iload_n X 3 dX8_candidatesOf_15 rfl rfl ?_
        refine z_callVi (As := [.int (nI o), .int (nI p)]) (rest := [.int (m_cnt i o p)]) (n1 := 2) (ci := 11) X dX8_candidatesOf_16 (c_X8_isCandidate l _ _ o p (by omega) (by omega)) gX8_candidatesOf_X8_isCandidate rfl rfl (by decide +kernel) ⟨by decide, by decide⟩ zmm_c1 rfl rfl (Nat.le_of_ble_eq_true rfl) ⟨by decide, by decide⟩ (fun _ h => h.elim) ?_
        rintro _ _ ⟨rfl, rfl⟩
        refine z_if_eq X 26 dX8_candidatesOf_19 (by decide) (fun c_19 => ?_) (fun c_19 => ?_)
        · skip
          refine z_iconst (v := 0) X dX8_candidatesOf_26 (by decide) ?_
          refine z_iadd X dX8_candidatesOf_27 ?_
          refine z_istore_n (ls' := [(2, .int ((m_cnt i o p) + 0)), (0, .ref 1), (1, .int (nI o)), (3, .int (nI p))]) X dX8_candidatesOf_28 rfl (by decide) rfl ?_
          refine z_iinc (ls' := [(3, .int (nI (p + 1))), (2, .int ((m_cnt i o p) + 0)), (0, .ref 1), (1, .int (nI o))]) (v := nI (p + 1)) X 3 dX8_candidatesOf_29 rfl (nI_1 _) (by decide) rfl ?_
          refine z_goto (tgt := 4) X dX8_candidatesOf_32 (by decide) ?_
          refine z_sub (ls' := [(0, .ref 1), (1, .int (nI o)), (2, .int ((m_cnt i o p) + 0)), (3, .int (nI (p + 1)))]) [2, 3, 1, 0] rfl ?_
          refine z_lse (ls' := [(0, .ref 1), (1, .int (nI o)), (2, .int (m_cnt i o (p + 1))), (3, .int (nI (p + 1)))]) (by (try simp only [zb_0, Classical.not_not] at c_9 c_19); (first | rfl | (simp only [Int32.lt_irrefl, if_true, if_false, not_true_eq_false, not_false_eq_true, and_true, true_and, and_false, false_and, or_true, true_or, or_false, false_or, and_self, ite_self, zb, m_cnt, c_9, c_19, eq_true c_9, eq_true c_19]; done) | (simp only [Int32.lt_irrefl, if_true, if_false, not_true_eq_false, not_false_eq_true, and_true, true_and, and_false, false_and, or_true, true_or, or_false, false_or, and_self, ite_self, zb, m_cnt, c_9, c_19, eq_true c_9, eq_true c_19]; rfl))) ?_
          exact ih4
        · skip
          refine z_iconst (v := 1) X dX8_candidatesOf_22 (by decide) ?_
          refine z_goto (tgt := 27) X dX8_candidatesOf_23 (by decide) ?_
          refine z_iadd X dX8_candidatesOf_27 ?_
          refine z_istore_n (ls' := [(2, .int ((m_cnt i o p) + 1)), (0, .ref 1), (1, .int (nI o)), (3, .int (nI p))]) X dX8_candidatesOf_28 rfl (by decide) rfl ?_
          refine z_iinc (ls' := [(3, .int (nI (p + 1))), (2, .int ((m_cnt i o p) + 1)), (0, .ref 1), (1, .int (nI o))]) (v := nI (p + 1)) X 3 dX8_candidatesOf_29 rfl (nI_1 _) (by decide) rfl ?_
          refine z_goto (tgt := 4) X dX8_candidatesOf_32 (by decide) ?_
          refine z_sub (ls' := [(0, .ref 1), (1, .int (nI o)), (2, .int ((m_cnt i o p) + 1)), (3, .int (nI (p + 1)))]) [2, 3, 1, 0] rfl ?_
          refine z_lse (ls' := [(0, .ref 1), (1, .int (nI o)), (2, .int (m_cnt i o (p + 1))), (3, .int (nI (p + 1)))]) (by (try simp only [zb_0, Classical.not_not] at c_9 c_19); (first | rfl | (simp only [Int32.lt_irrefl, if_true, if_false, not_true_eq_false, not_false_eq_true, and_true, true_and, and_false, false_and, or_true, true_or, or_false, false_or, and_self, ite_self, zb, m_cnt, c_9, c_19, eq_true c_9, eq_true c_19]; done) | (simp only [Int32.lt_irrefl, if_true, if_false, not_true_eq_false, not_false_eq_true, and_true, true_and, and_false, false_and, or_true, true_or, or_false, false_or, and_self, ite_self, zb, m_cnt, c_9, c_19, eq_true c_9, eq_true c_19]; rfl))) ?_
          exact ih4
  refine z_sub (ls' := [(0, .ref 1), (1, .int (nI o)), (2, .int 0), (3, .int 0)]) [2, 3, 1, 0] rfl ?_
  refine z_lse (ls' := [(0, .ref 1), (1, .int (nI o)), (2, .int (m_cnt i o 0)), (3, .int (nI 0))]) (rfl) ?_
  exact hloop4 0 (Nat.zero_le _)

set_option maxRecDepth 100000 in
set_option maxHeartbeats 4000000 in
theorem c_X8_filled (l : Launch) (i : Nat → Nat → Int32) (lm : Nat → Nat → Int64) (r : Int32) (np : Nat) (hp : i 1 35 = nI np) (h24 : np ≤ 24) : zS l yX8_filled wsX8_filled 0 0 0 0 [.ref 1, .int r] (zmm i lm) (zpi (fun x M1 => x = m_filled i r np ∧ M1 = zmm i lm)) zno := by
  refine z_intro (cc := cX8_filled) (maxL := 4) (ret := (some .int)) (by decide +kernel) rfl (Nat.le_of_ble_eq_true rfl) ?_
  have hlk_126 : Cond.fieldLink RX8 126 "ColdStoreModel" "pallets" "I" ∈ wsX8_filled := by decide +kernel
  have hlk_95 : Cond.fieldLink RX8 95 "ColdStoreModel" "states" "[C" ∈ wsX8_filled := by decide +kernel
  have hlk_89 : Cond.fieldLink RX8 89 "ColdStoreModel" "roomOf" "[I" ∈ wsX8_filled := by decide +kernel
  intro g X
  show zE g 4 0 [(0, .ref 1), (1, .int r)] [] (zmm i lm) 0 0
  refine z_iconst (v := 0) X dX8_filled_0 (by decide) ?_
  refine z_istore_n (ls' := [(2, .int 0), (0, .ref 1), (1, .int r)]) X dX8_filled_1 rfl (by decide) rfl ?_
  refine z_iconst (v := 0) X dX8_filled_2 (by decide) ?_
  refine z_istore_n (ls' := [(3, .int 0), (2, .int 0), (0, .ref 1), (1, .int r)]) X dX8_filled_3 rfl (by decide) rfl ?_
  have hloop4 : ∀ p : Nat, p ≤ np → zE g 4 4 [(0, .ref 1), (1, .int r), (2, .int (m_filled i r p)), (3, .int (nI p))] [] (zmm i lm) 0 0 := by
    refine z_loop (fun p => zE g 4 4 [(0, .ref 1), (1, .int r), (2, .int (m_filled i r p)), (3, .int (nI p))] [] (zmm i lm) 0 0) np ?_ ?_
    · show zE g 4 4 [(0, .ref 1), (1, .int r), (2, .int (m_filled i r np)), (3, .int (nI np))] [] (zmm i lm) 0 0
      refine z_iload_n X 3 dX8_filled_4 rfl rfl ?_
      refine z_aload_n X 0 dX8_filled_5 rfl rfl ?_
      refine z_getI (ci := 11) (j := 35) (x := i 1 35) X dX8_filled_6 zmm_c1 rfl (by decide) hlk_126 (Or.inl rfl) (fun _ => rfl) (rfl) ?_
      refine z_icmp_ge X 47 dX8_filled_9 (by decide) (fun c_9 => ?_) (fun c_9 => ?_)
      · skip
        refine z_iload_n X 2 dX8_filled_47 rfl rfl ?_
        refine z_iret X rfl rfl (Nat.le_refl _) (Nat.le_refl _) dX8_filled_48 ?_
        exact ⟨_, rfl, rfl, rfl⟩
      · exact absurd (by rw [hp]; exact Int32.le_refl _) c_9
    · intro p hp_4 ih4
      have ih4 : zE g 4 4 [(0, .ref 1), (1, .int r), (2, .int (m_filled i r (p + 1))), (3, .int (nI (p + 1)))] [] (zmm i lm) 0 0 := ih4
      show zE g 4 4 [(0, .ref 1), (1, .int r), (2, .int (m_filled i r p)), (3, .int (nI p))] [] (zmm i lm) 0 0
      refine z_iload_n X 3 dX8_filled_4 rfl rfl ?_
      refine z_aload_n X 0 dX8_filled_5 rfl rfl ?_
      refine z_getI (ci := 11) (j := 35) (x := i 1 35) X dX8_filled_6 zmm_c1 rfl (by decide) hlk_126 (Or.inl rfl) (fun _ => rfl) (rfl) ?_
      refine z_icmp_ge X 47 dX8_filled_9 (by decide) (fun c_9 => ?_) (fun c_9 => ?_)
      · exact absurd (by rw [← hp]; exact c_9) (nI_ge hp_4 (by omega))
      · skip
        refine z_iload_n X 2 dX8_filled_12 rfl rfl ?_
        refine z_aload_n X 0 dX8_filled_13 rfl rfl ?_
        refine z_getR (ci := 11) (j := 34) (o' := 134) X dX8_filled_14 zmm_c1 rfl (by decide) hlk_95 (Or.inl rfl) (fun _ => rfl) (zmm_r134) ?_
        refine z_iload_n X 3 dX8_filled_17 rfl rfl ?_
        refine z_cald (j := p) (x := i 134 p) X dX8_filled_18 zmm_c134 (by rw [zmm_n134]; exact vp_in_nI (by omega) (by decide)) (nI_clamp (by omega)) (rfl) ?_
        refine z_bipush (v := 114) X dX8_filled_19 (by decide) ?_
        refine z_icmp_ne X 38 dX8_filled_21 (by decide) (fun c_21 => ?_) (fun c_21 => ?_)
        · skip
          refine z_iconst (v := 0) X dX8_filled_38 (by decide) ?_
          refine z_iadd X dX8_filled_39 ?_
          refine z_istore_n (ls' := [(2, .int ((m_filled i r p) + 0)), (0, .ref 1), (1, .int r), (3, .int (nI p))]) X dX8_filled_40 rfl (by decide) rfl ?_
          refine z_iinc (ls' := [(3, .int (nI (p + 1))), (2, .int ((m_filled i r p) + 0)), (0, .ref 1), (1, .int r)]) (v := nI (p + 1)) X 3 dX8_filled_41 rfl (nI_1 _) (by decide) rfl ?_
          refine z_goto (tgt := 4) X dX8_filled_44 (by decide) ?_
          refine z_sub (ls' := [(0, .ref 1), (1, .int r), (2, .int ((m_filled i r p) + 0)), (3, .int (nI (p + 1)))]) [2, 3, 1, 0] rfl ?_
          refine z_lse (ls' := [(0, .ref 1), (1, .int r), (2, .int (m_filled i r (p + 1))), (3, .int (nI (p + 1)))]) (by (try simp only [zb_0, Classical.not_not] at c_9 c_21); (first | rfl | (simp only [Int32.lt_irrefl, if_true, if_false, not_true_eq_false, not_false_eq_true, and_true, true_and, and_false, false_and, or_true, true_or, or_false, false_or, and_self, ite_self, zb, m_filled, c_9, c_21, eq_true c_9, eq_true c_21]; done) | (simp only [Int32.lt_irrefl, if_true, if_false, not_true_eq_false, not_false_eq_true, and_true, true_and, and_false, false_and, or_true, true_or, or_false, false_or, and_self, ite_self, zb, m_filled, c_9, c_21, eq_true c_9, eq_true c_21]; rfl))) ?_
          exact ih4
        · skip
          refine z_aload_n X 0 dX8_filled_24 rfl rfl ?_
          refine z_getR (ci := 11) (j := 32) (o' := 132) X dX8_filled_25 zmm_c1 rfl (by decide) hlk_89 (Or.inl rfl) (fun _ => rfl) (zmm_r132) ?_
          refine z_iload_n X 3 dX8_filled_28 rfl rfl ?_
          refine z_iald (j := p) (x := i 132 p) X dX8_filled_29 zmm_c132 (by rw [zmm_n132]; exact vp_in_nI (by omega) (by decide)) (nI_clamp (by omega)) (rfl) ?_
          refine z_iload_n X 1 dX8_filled_30 rfl rfl ?_
          refine z_icmp_ne X 38 dX8_filled_31 (by decide) (fun c_31 => ?_) (fun c_31 => ?_)
          · skip
            refine z_iconst (v := 0) X dX8_filled_38 (by decide) ?_
            refine z_iadd X dX8_filled_39 ?_
            refine z_istore_n (ls' := [(2, .int ((m_filled i r p) + 0)), (0, .ref 1), (1, .int r), (3, .int (nI p))]) X dX8_filled_40 rfl (by decide) rfl ?_
            refine z_iinc (ls' := [(3, .int (nI (p + 1))), (2, .int ((m_filled i r p) + 0)), (0, .ref 1), (1, .int r)]) (v := nI (p + 1)) X 3 dX8_filled_41 rfl (nI_1 _) (by decide) rfl ?_
            refine z_goto (tgt := 4) X dX8_filled_44 (by decide) ?_
            refine z_sub (ls' := [(0, .ref 1), (1, .int r), (2, .int ((m_filled i r p) + 0)), (3, .int (nI (p + 1)))]) [2, 3, 1, 0] rfl ?_
            refine z_lse (ls' := [(0, .ref 1), (1, .int r), (2, .int (m_filled i r (p + 1))), (3, .int (nI (p + 1)))]) (by (try simp only [zb_0, Classical.not_not] at c_9 c_21 c_31); (first | rfl | (simp only [Int32.lt_irrefl, if_true, if_false, not_true_eq_false, not_false_eq_true, and_true, true_and, and_false, false_and, or_true, true_or, or_false, false_or, and_self, ite_self, zb, m_filled, c_9, c_21, c_31, eq_true c_9, eq_true c_21, eq_true c_31]; done) | (simp only [Int32.lt_irrefl, if_true, if_false, not_true_eq_false, not_false_eq_true, and_true, true_and, and_false, false_and, or_true, true_or, or_false, false_or, and_self, ite_self, zb, m_filled, c_9, c_21, c_31, eq_true c_9, eq_true c_21, eq_true c_31]; rfl))) ?_
            exact ih4
          · skip
            refine z_iconst (v := 1) X dX8_filled_34 (by decide) ?_
            refine z_goto (tgt := 39) X dX8_filled_35 (by decide) ?_
            refine z_iadd X dX8_filled_39 ?_
            refine z_istore_n (ls' := [(2, .int ((m_filled i r p) + 1)), (0, .ref 1), (1, .int r), (3, .int (nI p))]) X dX8_filled_40 rfl (by decide) rfl ?_
            refine z_iinc (ls' := [(3, .int (nI (p + 1))), (2, .int ((m_filled i r p) + 1)), (0, .ref 1), (1, .int r)]) (v := nI (p + 1)) X 3 dX8_filled_41 rfl (nI_1 _) (by decide) rfl ?_
            refine z_goto (tgt := 4) X dX8_filled_44 (by decide) ?_
            refine z_sub (ls' := [(0, .ref 1), (1, .int r), (2, .int ((m_filled i r p) + 1)), (3, .int (nI (p + 1)))]) [2, 3, 1, 0] rfl ?_
            refine z_lse (ls' := [(0, .ref 1), (1, .int r), (2, .int (m_filled i r (p + 1))), (3, .int (nI (p + 1)))]) (by (try simp only [zb_0, Classical.not_not] at c_9 c_21 c_31); (first | rfl | (simp only [Int32.lt_irrefl, if_true, if_false, not_true_eq_false, not_false_eq_true, and_true, true_and, and_false, false_and, or_true, true_or, or_false, false_or, and_self, ite_self, zb, m_filled, c_9, c_21, c_31, eq_true c_9, eq_true c_21, eq_true c_31]; done) | (simp only [Int32.lt_irrefl, if_true, if_false, not_true_eq_false, not_false_eq_true, and_true, true_and, and_false, false_and, or_true, true_or, or_false, false_or, and_self, ite_self, zb, m_filled, c_9, c_21, c_31, eq_true c_9, eq_true c_21, eq_true c_31]; rfl))) ?_
            exact ih4
  refine z_sub (ls' := [(0, .ref 1), (1, .int r), (2, .int 0), (3, .int 0)]) [2, 3, 1, 0] rfl ?_
  refine z_lse (ls' := [(0, .ref 1), (1, .int r), (2, .int (m_filled i r 0)), (3, .int (nI 0))]) (rfl) ?_
  exact hloop4 0 (Nat.zero_le _)

set_option maxRecDepth 100000 in
set_option maxHeartbeats 4000000 in
theorem c_X8_warms (l : Launch) (i : Nat → Nat → Int32) (lm : Nat → Nat → Int64) (nr : Nat) (hn : i 1 17 = nI nr) (h4 : nr ≤ 4) : zS l yX8_warms wsX8_warms 1 21 0 0 [.ref 1] (zmm i lm) (zpv (fun M1 => M1 = zmm (m_warmI i nr) (m_warmL i lm nr))) zno := by
  refine z_intro (cc := cX8_warms) (maxL := 2) (ret := none) (by decide +kernel) rfl (Nat.le_of_ble_eq_true rfl) ?_
  have hlk_119 : Cond.fieldLink RX8 119 "ColdStoreModel" "rooms" "I" ∈ wsX8_warms := by decide +kernel
  have hlk_39 : Cond.fieldLink RX8 39 "ColdStoreModel" "temps" "[I" ∈ wsX8_warms := by decide +kernel
  have hlk_7 : Cond.fieldLink RX8 7 "ColdStoreModel" "outside" "I" ∈ wsX8_warms := by decide +kernel
  have hlk_13 : Cond.fieldLink RX8 13 "ColdStoreModel" "leaks" "[I" ∈ wsX8_warms := by decide +kernel
  have hlk_46 : Cond.fieldLink RX8 46 "ColdStoreModel" "cooled" "[Z" ∈ wsX8_warms := by decide +kernel
  have hlk_52 : Cond.fieldLink RX8 52 "ColdStoreModel" "warmests" "[I" ∈ wsX8_warms := by decide +kernel
  have hlk_59 : Cond.fieldLink RX8 59 "ColdStoreModel" "ticks" "[I" ∈ wsX8_warms := by decide +kernel
  have hlk_55 : Cond.fieldLink RX8 55 "ColdStoreModel" "tempSums" "[J" ∈ wsX8_warms := by decide +kernel
  have hlk_17 : Cond.fieldLink RX8 17 "ColdStoreModel" "strengths" "[I" ∈ wsX8_warms := by decide +kernel
  intro g X
  show zE g 2 0 [(0, .ref 1)] [] (zmm i lm) 0 0
  refine z_iconst (v := 0) X dX8_warms_0 (by decide) ?_
  refine z_istore_n (ls' := [(1, .int 0), (0, .ref 1)]) X dX8_warms_1 rfl (by decide) rfl ?_
  have hloop2 : ∀ p : Nat, p ≤ nr → zE g 2 2 [(0, .ref 1), (1, .int (nI p))] [] (zmm (m_warmI i p) (m_warmL i lm p)) 0 0 := by
    refine z_loop (fun p => zE g 2 2 [(0, .ref 1), (1, .int (nI p))] [] (zmm (m_warmI i p) (m_warmL i lm p)) 0 0) nr ?_ ?_
    · show zE g 2 2 [(0, .ref 1), (1, .int (nI nr))] [] (zmm (m_warmI i nr) (m_warmL i lm nr)) 0 0
      refine z_iload_n X 1 dX8_warms_2 rfl rfl ?_
      refine z_aload_n X 0 dX8_warms_3 rfl rfl ?_
      refine z_getI (ci := 11) (j := 17) (x := (m_warmI i nr) 1 17) X dX8_warms_4 zmm_c1 rfl (by decide) hlk_119 (Or.inl rfl) (fun _ => rfl) (rfl) ?_
      refine z_icmp_ge X 155 dX8_warms_7 (by decide) (fun c_7 => ?_) (fun c_7 => ?_)
      · skip
        refine z_vret X rfl (Nat.le_refl _) (Nat.le_refl _) dX8_warms_155 ?_
        exact ⟨rfl, rfl⟩
      · exact absurd (by rw [m_warmI_k, hn]; exact Int32.le_refl _) c_7
    · intro p hp_2 ih2
      have ih2 : zE g 2 2 [(0, .ref 1), (1, .int (nI (p + 1)))] [] (zmm (m_warmI i (p + 1)) (m_warmL i lm (p + 1))) 0 0 := ih2
      show zE g 2 2 [(0, .ref 1), (1, .int (nI p))] [] (zmm (m_warmI i p) (m_warmL i lm p)) 0 0
      refine z_iload_n X 1 dX8_warms_2 rfl rfl ?_
      refine z_aload_n X 0 dX8_warms_3 rfl rfl ?_
      refine z_getI (ci := 11) (j := 17) (x := (m_warmI i p) 1 17) X dX8_warms_4 zmm_c1 rfl (by decide) hlk_119 (Or.inl rfl) (fun _ => rfl) (rfl) ?_
      refine z_icmp_ge X 155 dX8_warms_7 (by decide) (fun c_7 => ?_) (fun c_7 => ?_)
      · exact absurd (by rw [m_warmI_k, hn] at c_7; exact c_7) (nI_ge hp_2 (by omega))
      · skip
        refine z_aload_n X 0 dX8_warms_10 rfl rfl ?_
        refine z_getR (ci := 11) (j := 10) (o' := 110) X dX8_warms_11 zmm_c1 rfl (by decide) hlk_39 (Or.inl rfl) (fun _ => rfl) (zmm_r110) ?_
        refine z_iload_n X 1 dX8_warms_14 rfl rfl ?_
        refine z_dup2 X dX8_warms_15 rfl rfl ?_
        refine z_iald (j := p) (x := (m_warmI i p) 110 p) X dX8_warms_16 zmm_c110 (by rw [zmm_n110]; exact vp_in_nI (by omega) (by decide)) (nI_clamp (by omega)) (rfl) ?_
        refine z_aload_n X 0 dX8_warms_17 rfl rfl ?_
        refine z_getI (ci := 11) (j := 1) (x := (m_warmI i p) 1 1) X dX8_warms_18 zmm_c1 rfl (by decide) hlk_7 (Or.inl rfl) (fun _ => rfl) (rfl) ?_
        refine z_aload_n X 0 dX8_warms_21 rfl rfl ?_
        refine z_getR (ci := 11) (j := 10) (o' := 110) X dX8_warms_22 zmm_c1 rfl (by decide) hlk_39 (Or.inl rfl) (fun _ => rfl) (zmm_r110) ?_
        refine z_iload_n X 1 dX8_warms_25 rfl rfl ?_
        refine z_iald (j := p) (x := (m_warmI i p) 110 p) X dX8_warms_26 zmm_c110 (by rw [zmm_n110]; exact vp_in_nI (by omega) (by decide)) (nI_clamp (by omega)) (rfl) ?_
        refine z_isub X dX8_warms_27 ?_
        refine z_aload_n X 0 dX8_warms_28 rfl rfl ?_
        refine z_getR (ci := 11) (j := 2) (o' := 102) X dX8_warms_29 zmm_c1 rfl (by decide) hlk_13 (Or.inl rfl) (fun _ => rfl) (zmm_r102) ?_
        refine z_iload_n X 1 dX8_warms_32 rfl rfl ?_
        refine z_iald (j := p) (x := (m_warmI i p) 102 p) X dX8_warms_33 zmm_c102 (by rw [zmm_n102]; exact vp_in_nI (by omega) (by decide)) (nI_clamp (by omega)) (rfl) ?_
        refine z_imul X dX8_warms_34 ?_
        refine z_bipush (v := 100) X dX8_warms_35 (by decide) ?_
        refine z_idiv X dX8_warms_37 (by decide) ?_
        refine z_aload_n X 0 dX8_warms_38 rfl rfl ?_
        refine z_getR (ci := 11) (j := 12) (o' := 112) X dX8_warms_39 zmm_c1 rfl (by decide) hlk_46 (Or.inl rfl) (fun _ => rfl) (zmm_r112) ?_
        refine z_iload_n X 1 dX8_warms_42 rfl rfl ?_
        refine z_zald (j := p) (x := (m_warmI i p) 112 p) X dX8_warms_43 zmm_c112 (by rw [zmm_n112]; exact vp_in_nI (by omega) (by decide)) (nI_clamp (by omega)) (rfl) ?_
        refine z_if_eq X 56 dX8_warms_44 (by decide) (fun c_44 => ?_) (fun c_44 => ?_)
        · skip
          refine z_iconst (v := 0) X dX8_warms_56 (by decide) ?_
          refine z_isub X dX8_warms_57 ?_
          refine z_iadd X dX8_warms_58 ?_
          refine z_iast (j := p) X dX8_warms_59 zmm_c110 (by rw [zmm_n110]; exact vp_in_nI (by omega) (by decide)) (nI_clamp (by omega)) ?_
          obtain ⟨i_1, hi_1⟩ : ∃ q, q = zup (m_warmI i p) 110 p (((m_warmI i p) 110 p) + ((((((m_warmI i p) 1 1) - ((m_warmI i p) 110 p)) * ((m_warmI i p) 102 p)) / 100) - 0)) := ⟨_, rfl⟩
          refine z_mem (M' := zmm i_1 (m_warmL i lm p)) (by rw [hi_1]; rfl) ?_
          refine z_aload_n X 0 dX8_warms_60 rfl rfl ?_
          refine z_getR (ci := 11) (j := 10) (o' := 110) X dX8_warms_61 zmm_c1 rfl (by decide) hlk_39 (Or.inl rfl) (fun _ => rfl) (zmm_r110) ?_
          refine z_iload_n X 1 dX8_warms_64 rfl rfl ?_
          refine z_sipush (v := (-400)) X dX8_warms_65 (by decide) ?_
          refine z_aload_n X 0 dX8_warms_68 rfl rfl ?_
          refine z_getR (ci := 11) (j := 10) (o' := 110) X dX8_warms_69 zmm_c1 rfl (by decide) hlk_39 (Or.inl rfl) (fun _ => rfl) (zmm_r110) ?_
          refine z_iload_n X 1 dX8_warms_72 rfl rfl ?_
          refine z_iald (j := p) (x := ((m_warmI i p) 110 p) + ((((((m_warmI i p) 1 1) - ((m_warmI i p) 110 p)) * ((m_warmI i p) 102 p)) / 100) - 0)) X dX8_warms_73 zmm_c110 (by rw [zmm_n110]; exact vp_in_nI (by omega) (by decide)) (nI_clamp (by omega)) (by show i_1 110 p = (((m_warmI i p) 110 p) + ((((((m_warmI i p) 1 1) - ((m_warmI i p) 110 p)) * ((m_warmI i p) 102 p)) / 100) - 0)); rw [hi_1, zup_s]) ?_
          refine z_mmax X dX8_warms_74 (by decide +kernel) (by decide +kernel) (by decide +kernel) (by decide +kernel) (by decide) (Nat.le_of_ble_eq_true rfl) (by decide) (by decide) ?_
          refine z_iast (j := p) X dX8_warms_77 zmm_c110 (by rw [zmm_n110]; exact vp_in_nI (by omega) (by decide)) (nI_clamp (by omega)) ?_
          obtain ⟨i_2, hi_2⟩ : ∃ q, q = zup i_1 110 p (if (-400) < (((m_warmI i p) 110 p) + ((((((m_warmI i p) 1 1) - ((m_warmI i p) 110 p)) * ((m_warmI i p) 102 p)) / 100) - 0)) then (((m_warmI i p) 110 p) + ((((((m_warmI i p) 1 1) - ((m_warmI i p) 110 p)) * ((m_warmI i p) 102 p)) / 100) - 0)) else (-400)) := ⟨_, rfl⟩
          refine z_mem (M' := zmm i_2 (m_warmL i lm p)) (by rw [hi_2]; rfl) ?_
          refine z_aload_n X 0 dX8_warms_78 rfl rfl ?_
          refine z_getR (ci := 11) (j := 14) (o' := 114) X dX8_warms_79 zmm_c1 rfl (by decide) hlk_52 (Or.inl rfl) (fun _ => rfl) (zmm_r114) ?_
          refine z_iload_n X 1 dX8_warms_82 rfl rfl ?_
          refine z_aload_n X 0 dX8_warms_83 rfl rfl ?_
          refine z_getR (ci := 11) (j := 16) (o' := 116) X dX8_warms_84 zmm_c1 rfl (by decide) hlk_59 (Or.inl rfl) (fun _ => rfl) (zmm_r116) ?_
          refine z_iload_n X 1 dX8_warms_87 rfl rfl ?_
          refine z_iald (j := p) (x := (m_warmI i p) 116 p) X dX8_warms_88 zmm_c116 (by rw [zmm_n116]; exact vp_in_nI (by omega) (by decide)) (nI_clamp (by omega)) (by show i_2 116 p = ((m_warmI i p) 116 p); rw [hi_2, zup_n (by omega)]; rw [hi_1, zup_n (by omega)]) ?_
          refine z_if_eq X 107 dX8_warms_89 (by decide) (fun c_89 => ?_) (fun c_89 => ?_)
          · skip
            refine z_aload_n X 0 dX8_warms_107 rfl rfl ?_
            refine z_getR (ci := 11) (j := 10) (o' := 110) X dX8_warms_108 zmm_c1 rfl (by decide) hlk_39 (Or.inl rfl) (fun _ => rfl) (zmm_r110) ?_
            refine z_iload_n X 1 dX8_warms_111 rfl rfl ?_
            refine z_iald (j := p) (x := if (-400) < (((m_warmI i p) 110 p) + ((((((m_warmI i p) 1 1) - ((m_warmI i p) 110 p)) * ((m_warmI i p) 102 p)) / 100) - 0)) then (((m_warmI i p) 110 p) + ((((((m_warmI i p) 1 1) - ((m_warmI i p) 110 p)) * ((m_warmI i p) 102 p)) / 100) - 0)) else (-400)) X dX8_warms_112 zmm_c110 (by rw [zmm_n110]; exact vp_in_nI (by omega) (by decide)) (nI_clamp (by omega)) (by show i_2 110 p = (if (-400) < (((m_warmI i p) 110 p) + ((((((m_warmI i p) 1 1) - ((m_warmI i p) 110 p)) * ((m_warmI i p) 102 p)) / 100) - 0)) then (((m_warmI i p) 110 p) + ((((((m_warmI i p) 1 1) - ((m_warmI i p) 110 p)) * ((m_warmI i p) 102 p)) / 100) - 0)) else (-400)); rw [hi_2, zup_s]) ?_
            refine z_goto (tgt := 122) X dX8_warms_113 (by decide) ?_
            refine z_iast (j := p) X dX8_warms_122 zmm_c114 (by rw [zmm_n114]; exact vp_in_nI (by omega) (by decide)) (nI_clamp (by omega)) ?_
            obtain ⟨i_3, hi_3⟩ : ∃ q, q = zup i_2 114 p (if (-400) < (((m_warmI i p) 110 p) + ((((((m_warmI i p) 1 1) - ((m_warmI i p) 110 p)) * ((m_warmI i p) 102 p)) / 100) - 0)) then (((m_warmI i p) 110 p) + ((((((m_warmI i p) 1 1) - ((m_warmI i p) 110 p)) * ((m_warmI i p) 102 p)) / 100) - 0)) else (-400)) := ⟨_, rfl⟩
            refine z_mem (M' := zmm i_3 (m_warmL i lm p)) (by rw [hi_3]; rfl) ?_
            refine z_aload_n X 0 dX8_warms_123 rfl rfl ?_
            refine z_getR (ci := 11) (j := 15) (o' := 115) X dX8_warms_124 zmm_c1 rfl (by decide) hlk_55 (Or.inl rfl) (fun _ => rfl) (zmm_r115) ?_
            refine z_iload_n X 1 dX8_warms_127 rfl rfl ?_
            refine z_dup2 X dX8_warms_128 rfl rfl ?_
            refine z_lald (j := p) (x := (m_warmL i lm p) 115 p) X dX8_warms_129 zmm_c115 (by rw [zmm_n115]; exact vp_in_nI (by omega) (by decide)) (nI_clamp (by omega)) (rfl) ?_
            refine z_aload_n X 0 dX8_warms_130 rfl rfl ?_
            refine z_getR (ci := 11) (j := 10) (o' := 110) X dX8_warms_131 zmm_c1 rfl (by decide) hlk_39 (Or.inl rfl) (fun _ => rfl) (zmm_r110) ?_
            refine z_iload_n X 1 dX8_warms_134 rfl rfl ?_
            refine z_iald (j := p) (x := if (-400) < (((m_warmI i p) 110 p) + ((((((m_warmI i p) 1 1) - ((m_warmI i p) 110 p)) * ((m_warmI i p) 102 p)) / 100) - 0)) then (((m_warmI i p) 110 p) + ((((((m_warmI i p) 1 1) - ((m_warmI i p) 110 p)) * ((m_warmI i p) 102 p)) / 100) - 0)) else (-400)) X dX8_warms_135 zmm_c110 (by rw [zmm_n110]; exact vp_in_nI (by omega) (by decide)) (nI_clamp (by omega)) (by show i_3 110 p = (if (-400) < (((m_warmI i p) 110 p) + ((((((m_warmI i p) 1 1) - ((m_warmI i p) 110 p)) * ((m_warmI i p) 102 p)) / 100) - 0)) then (((m_warmI i p) 110 p) + ((((((m_warmI i p) 1 1) - ((m_warmI i p) 110 p)) * ((m_warmI i p) 102 p)) / 100) - 0)) else (-400)); rw [hi_3, zup_n (by omega)]; rw [hi_2, zup_s]) ?_
            refine z_i2l X dX8_warms_136 ?_
            refine z_ladd X dX8_warms_137 ?_
            refine z_last (j := p) X dX8_warms_138 zmm_c115 (by rw [zmm_n115]; exact vp_in_nI (by omega) (by decide)) (nI_clamp (by omega)) ?_
            obtain ⟨l_4, hl_4⟩ : ∃ q, q = zup (m_warmL i lm p) 115 p (((m_warmL i lm p) 115 p) + ((if (-400) < (((m_warmI i p) 110 p) + ((((((m_warmI i p) 1 1) - ((m_warmI i p) 110 p)) * ((m_warmI i p) 102 p)) / 100) - 0)) then (((m_warmI i p) 110 p) + ((((((m_warmI i p) 1 1) - ((m_warmI i p) 110 p)) * ((m_warmI i p) 102 p)) / 100) - 0)) else (-400)).toInt64)) := ⟨_, rfl⟩
            refine z_mem (M' := zmm i_3 l_4) (by rw [hl_4]; rfl) ?_
            refine z_aload_n X 0 dX8_warms_139 rfl rfl ?_
            refine z_getR (ci := 11) (j := 16) (o' := 116) X dX8_warms_140 zmm_c1 rfl (by decide) hlk_59 (Or.inl rfl) (fun _ => rfl) (zmm_r116) ?_
            refine z_iload_n X 1 dX8_warms_143 rfl rfl ?_
            refine z_dup2 X dX8_warms_144 rfl rfl ?_
            refine z_iald (j := p) (x := (m_warmI i p) 116 p) X dX8_warms_145 zmm_c116 (by rw [zmm_n116]; exact vp_in_nI (by omega) (by decide)) (nI_clamp (by omega)) (by show i_3 116 p = ((m_warmI i p) 116 p); rw [hi_3, zup_n (by omega)]; rw [hi_2, zup_n (by omega)]; rw [hi_1, zup_n (by omega)]) ?_
            refine z_iconst (v := 1) X dX8_warms_146 (by decide) ?_
            refine z_iadd X dX8_warms_147 ?_
            refine z_iast (j := p) X dX8_warms_148 zmm_c116 (by rw [zmm_n116]; exact vp_in_nI (by omega) (by decide)) (nI_clamp (by omega)) ?_
            obtain ⟨i_5, hi_5⟩ : ∃ q, q = zup i_3 116 p (((m_warmI i p) 116 p) + 1) := ⟨_, rfl⟩
            refine z_mem (M' := zmm i_5 l_4) (by rw [hi_5]; rfl) ?_
            refine z_iinc (ls' := [(1, .int (nI (p + 1))), (0, .ref 1)]) (v := nI (p + 1)) X 1 dX8_warms_149 rfl (nI_1 _) (by decide) rfl ?_
            refine z_goto (tgt := 2) X dX8_warms_152 (by decide) ?_
            refine z_sub (ls' := [(0, .ref 1), (1, .int (nI (p + 1)))]) [1, 0] rfl ?_
            refine z_lse (ls' := [(0, .ref 1), (1, .int (nI (p + 1)))]) (rfl) ?_
            refine z_mem (M' := zmm (m_warmI i (p + 1)) (m_warmL i lm (p + 1))) (by subst hi_5; subst hi_3; subst hi_2; subst hi_1; subst hl_4; show zmm _ _ = zmm (m_warm1 (m_warmI i p) p) (zup (m_warmL i lm p) 115 p _); (first | rfl | (simp only [Int32.lt_irrefl, if_true, if_false, not_true_eq_false, not_false_eq_true, and_true, true_and, and_false, false_and, or_true, true_or, or_false, false_or, and_self, ite_self, zb, m_warm1, m_t, m_t1, c_7, c_44, c_89, eq_true c_7, eq_true c_44, eq_true c_89]; done) | (simp only [Int32.lt_irrefl, if_true, if_false, not_true_eq_false, not_false_eq_true, and_true, true_and, and_false, false_and, or_true, true_or, or_false, false_or, and_self, ite_self, zb, m_warm1, m_t, m_t1, c_7, c_44, c_89, eq_true c_7, eq_true c_44, eq_true c_89]; rfl))) ?_
            exact ih2
          · skip
            refine z_aload_n X 0 dX8_warms_92 rfl rfl ?_
            refine z_getR (ci := 11) (j := 10) (o' := 110) X dX8_warms_93 zmm_c1 rfl (by decide) hlk_39 (Or.inl rfl) (fun _ => rfl) (zmm_r110) ?_
            refine z_iload_n X 1 dX8_warms_96 rfl rfl ?_
            refine z_iald (j := p) (x := if (-400) < (((m_warmI i p) 110 p) + ((((((m_warmI i p) 1 1) - ((m_warmI i p) 110 p)) * ((m_warmI i p) 102 p)) / 100) - 0)) then (((m_warmI i p) 110 p) + ((((((m_warmI i p) 1 1) - ((m_warmI i p) 110 p)) * ((m_warmI i p) 102 p)) / 100) - 0)) else (-400)) X dX8_warms_97 zmm_c110 (by rw [zmm_n110]; exact vp_in_nI (by omega) (by decide)) (nI_clamp (by omega)) (by show i_2 110 p = (if (-400) < (((m_warmI i p) 110 p) + ((((((m_warmI i p) 1 1) - ((m_warmI i p) 110 p)) * ((m_warmI i p) 102 p)) / 100) - 0)) then (((m_warmI i p) 110 p) + ((((((m_warmI i p) 1 1) - ((m_warmI i p) 110 p)) * ((m_warmI i p) 102 p)) / 100) - 0)) else (-400)); rw [hi_2, zup_s]) ?_
            refine z_aload_n X 0 dX8_warms_98 rfl rfl ?_
            refine z_getR (ci := 11) (j := 14) (o' := 114) X dX8_warms_99 zmm_c1 rfl (by decide) hlk_52 (Or.inl rfl) (fun _ => rfl) (zmm_r114) ?_
            refine z_iload_n X 1 dX8_warms_102 rfl rfl ?_
            refine z_iald (j := p) (x := (m_warmI i p) 114 p) X dX8_warms_103 zmm_c114 (by rw [zmm_n114]; exact vp_in_nI (by omega) (by decide)) (nI_clamp (by omega)) (by show i_2 114 p = ((m_warmI i p) 114 p); rw [hi_2, zup_n (by omega)]; rw [hi_1, zup_n (by omega)]) ?_
            refine z_icmp_le X 116 dX8_warms_104 (by decide) (fun c_104 => ?_) (fun c_104 => ?_)
            · skip
              refine z_aload_n X 0 dX8_warms_116 rfl rfl ?_
              refine z_getR (ci := 11) (j := 14) (o' := 114) X dX8_warms_117 zmm_c1 rfl (by decide) hlk_52 (Or.inl rfl) (fun _ => rfl) (zmm_r114) ?_
              refine z_iload_n X 1 dX8_warms_120 rfl rfl ?_
              refine z_iald (j := p) (x := (m_warmI i p) 114 p) X dX8_warms_121 zmm_c114 (by rw [zmm_n114]; exact vp_in_nI (by omega) (by decide)) (nI_clamp (by omega)) (by show i_2 114 p = ((m_warmI i p) 114 p); rw [hi_2, zup_n (by omega)]; rw [hi_1, zup_n (by omega)]) ?_
              refine z_iast (j := p) X dX8_warms_122 zmm_c114 (by rw [zmm_n114]; exact vp_in_nI (by omega) (by decide)) (nI_clamp (by omega)) ?_
              obtain ⟨i_6, hi_6⟩ : ∃ q, q = zup i_2 114 p ((m_warmI i p) 114 p) := ⟨_, rfl⟩
              refine z_mem (M' := zmm i_6 (m_warmL i lm p)) (by rw [hi_6]; rfl) ?_
              refine z_aload_n X 0 dX8_warms_123 rfl rfl ?_
              refine z_getR (ci := 11) (j := 15) (o' := 115) X dX8_warms_124 zmm_c1 rfl (by decide) hlk_55 (Or.inl rfl) (fun _ => rfl) (zmm_r115) ?_
              refine z_iload_n X 1 dX8_warms_127 rfl rfl ?_
              refine z_dup2 X dX8_warms_128 rfl rfl ?_
              refine z_lald (j := p) (x := (m_warmL i lm p) 115 p) X dX8_warms_129 zmm_c115 (by rw [zmm_n115]; exact vp_in_nI (by omega) (by decide)) (nI_clamp (by omega)) (rfl) ?_
              refine z_aload_n X 0 dX8_warms_130 rfl rfl ?_
              refine z_getR (ci := 11) (j := 10) (o' := 110) X dX8_warms_131 zmm_c1 rfl (by decide) hlk_39 (Or.inl rfl) (fun _ => rfl) (zmm_r110) ?_
              refine z_iload_n X 1 dX8_warms_134 rfl rfl ?_
              refine z_iald (j := p) (x := if (-400) < (((m_warmI i p) 110 p) + ((((((m_warmI i p) 1 1) - ((m_warmI i p) 110 p)) * ((m_warmI i p) 102 p)) / 100) - 0)) then (((m_warmI i p) 110 p) + ((((((m_warmI i p) 1 1) - ((m_warmI i p) 110 p)) * ((m_warmI i p) 102 p)) / 100) - 0)) else (-400)) X dX8_warms_135 zmm_c110 (by rw [zmm_n110]; exact vp_in_nI (by omega) (by decide)) (nI_clamp (by omega)) (by show i_6 110 p = (if (-400) < (((m_warmI i p) 110 p) + ((((((m_warmI i p) 1 1) - ((m_warmI i p) 110 p)) * ((m_warmI i p) 102 p)) / 100) - 0)) then (((m_warmI i p) 110 p) + ((((((m_warmI i p) 1 1) - ((m_warmI i p) 110 p)) * ((m_warmI i p) 102 p)) / 100) - 0)) else (-400)); rw [hi_6, zup_n (by omega)]; rw [hi_2, zup_s]) ?_
              refine z_i2l X dX8_warms_136 ?_
              refine z_ladd X dX8_warms_137 ?_
              refine z_last (j := p) X dX8_warms_138 zmm_c115 (by rw [zmm_n115]; exact vp_in_nI (by omega) (by decide)) (nI_clamp (by omega)) ?_
              obtain ⟨l_7, hl_7⟩ : ∃ q, q = zup (m_warmL i lm p) 115 p (((m_warmL i lm p) 115 p) + ((if (-400) < (((m_warmI i p) 110 p) + ((((((m_warmI i p) 1 1) - ((m_warmI i p) 110 p)) * ((m_warmI i p) 102 p)) / 100) - 0)) then (((m_warmI i p) 110 p) + ((((((m_warmI i p) 1 1) - ((m_warmI i p) 110 p)) * ((m_warmI i p) 102 p)) / 100) - 0)) else (-400)).toInt64)) := ⟨_, rfl⟩
              refine z_mem (M' := zmm i_6 l_7) (by rw [hl_7]; rfl) ?_
              refine z_aload_n X 0 dX8_warms_139 rfl rfl ?_
              refine z_getR (ci := 11) (j := 16) (o' := 116) X dX8_warms_140 zmm_c1 rfl (by decide) hlk_59 (Or.inl rfl) (fun _ => rfl) (zmm_r116) ?_
              refine z_iload_n X 1 dX8_warms_143 rfl rfl ?_
              refine z_dup2 X dX8_warms_144 rfl rfl ?_
              refine z_iald (j := p) (x := (m_warmI i p) 116 p) X dX8_warms_145 zmm_c116 (by rw [zmm_n116]; exact vp_in_nI (by omega) (by decide)) (nI_clamp (by omega)) (by show i_6 116 p = ((m_warmI i p) 116 p); rw [hi_6, zup_n (by omega)]; rw [hi_2, zup_n (by omega)]; rw [hi_1, zup_n (by omega)]) ?_
              refine z_iconst (v := 1) X dX8_warms_146 (by decide) ?_
              refine z_iadd X dX8_warms_147 ?_
              refine z_iast (j := p) X dX8_warms_148 zmm_c116 (by rw [zmm_n116]; exact vp_in_nI (by omega) (by decide)) (nI_clamp (by omega)) ?_
              obtain ⟨i_8, hi_8⟩ : ∃ q, q = zup i_6 116 p (((m_warmI i p) 116 p) + 1) := ⟨_, rfl⟩
              refine z_mem (M' := zmm i_8 l_7) (by rw [hi_8]; rfl) ?_
              refine z_iinc (ls' := [(1, .int (nI (p + 1))), (0, .ref 1)]) (v := nI (p + 1)) X 1 dX8_warms_149 rfl (nI_1 _) (by decide) rfl ?_
              refine z_goto (tgt := 2) X dX8_warms_152 (by decide) ?_
              refine z_sub (ls' := [(0, .ref 1), (1, .int (nI (p + 1)))]) [1, 0] rfl ?_
              refine z_lse (ls' := [(0, .ref 1), (1, .int (nI (p + 1)))]) (rfl) ?_
              refine z_mem (M' := zmm (m_warmI i (p + 1)) (m_warmL i lm (p + 1))) (by subst hi_8; subst hi_6; subst hi_2; subst hi_1; subst hl_7; show zmm _ _ = zmm (m_warm1 (m_warmI i p) p) (zup (m_warmL i lm p) 115 p _); (first | rfl | (simp only [Int32.lt_irrefl, if_true, if_false, not_true_eq_false, not_false_eq_true, and_true, true_and, and_false, false_and, or_true, true_or, or_false, false_or, and_self, ite_self, zb, m_warm1, m_t, m_t1, c_7, c_44, c_89, c_104, eq_true c_7, eq_true c_44, eq_true c_89, eq_true c_104]; done) | (simp only [Int32.lt_irrefl, if_true, if_false, not_true_eq_false, not_false_eq_true, and_true, true_and, and_false, false_and, or_true, true_or, or_false, false_or, and_self, ite_self, zb, m_warm1, m_t, m_t1, c_7, c_44, c_89, c_104, eq_true c_7, eq_true c_44, eq_true c_89, eq_true c_104]; rfl))) ?_
              exact ih2
            · skip
              refine z_aload_n X 0 dX8_warms_107 rfl rfl ?_
              refine z_getR (ci := 11) (j := 10) (o' := 110) X dX8_warms_108 zmm_c1 rfl (by decide) hlk_39 (Or.inl rfl) (fun _ => rfl) (zmm_r110) ?_
              refine z_iload_n X 1 dX8_warms_111 rfl rfl ?_
              refine z_iald (j := p) (x := if (-400) < (((m_warmI i p) 110 p) + ((((((m_warmI i p) 1 1) - ((m_warmI i p) 110 p)) * ((m_warmI i p) 102 p)) / 100) - 0)) then (((m_warmI i p) 110 p) + ((((((m_warmI i p) 1 1) - ((m_warmI i p) 110 p)) * ((m_warmI i p) 102 p)) / 100) - 0)) else (-400)) X dX8_warms_112 zmm_c110 (by rw [zmm_n110]; exact vp_in_nI (by omega) (by decide)) (nI_clamp (by omega)) (by show i_2 110 p = (if (-400) < (((m_warmI i p) 110 p) + ((((((m_warmI i p) 1 1) - ((m_warmI i p) 110 p)) * ((m_warmI i p) 102 p)) / 100) - 0)) then (((m_warmI i p) 110 p) + ((((((m_warmI i p) 1 1) - ((m_warmI i p) 110 p)) * ((m_warmI i p) 102 p)) / 100) - 0)) else (-400)); rw [hi_2, zup_s]) ?_
              refine z_goto (tgt := 122) X dX8_warms_113 (by decide) ?_
              refine z_iast (j := p) X dX8_warms_122 zmm_c114 (by rw [zmm_n114]; exact vp_in_nI (by omega) (by decide)) (nI_clamp (by omega)) ?_
              obtain ⟨i_9, hi_9⟩ : ∃ q, q = zup i_2 114 p (if (-400) < (((m_warmI i p) 110 p) + ((((((m_warmI i p) 1 1) - ((m_warmI i p) 110 p)) * ((m_warmI i p) 102 p)) / 100) - 0)) then (((m_warmI i p) 110 p) + ((((((m_warmI i p) 1 1) - ((m_warmI i p) 110 p)) * ((m_warmI i p) 102 p)) / 100) - 0)) else (-400)) := ⟨_, rfl⟩
              refine z_mem (M' := zmm i_9 (m_warmL i lm p)) (by rw [hi_9]; rfl) ?_
              refine z_aload_n X 0 dX8_warms_123 rfl rfl ?_
              refine z_getR (ci := 11) (j := 15) (o' := 115) X dX8_warms_124 zmm_c1 rfl (by decide) hlk_55 (Or.inl rfl) (fun _ => rfl) (zmm_r115) ?_
              refine z_iload_n X 1 dX8_warms_127 rfl rfl ?_
              refine z_dup2 X dX8_warms_128 rfl rfl ?_
              refine z_lald (j := p) (x := (m_warmL i lm p) 115 p) X dX8_warms_129 zmm_c115 (by rw [zmm_n115]; exact vp_in_nI (by omega) (by decide)) (nI_clamp (by omega)) (rfl) ?_
              refine z_aload_n X 0 dX8_warms_130 rfl rfl ?_
              refine z_getR (ci := 11) (j := 10) (o' := 110) X dX8_warms_131 zmm_c1 rfl (by decide) hlk_39 (Or.inl rfl) (fun _ => rfl) (zmm_r110) ?_
              refine z_iload_n X 1 dX8_warms_134 rfl rfl ?_
              refine z_iald (j := p) (x := if (-400) < (((m_warmI i p) 110 p) + ((((((m_warmI i p) 1 1) - ((m_warmI i p) 110 p)) * ((m_warmI i p) 102 p)) / 100) - 0)) then (((m_warmI i p) 110 p) + ((((((m_warmI i p) 1 1) - ((m_warmI i p) 110 p)) * ((m_warmI i p) 102 p)) / 100) - 0)) else (-400)) X dX8_warms_135 zmm_c110 (by rw [zmm_n110]; exact vp_in_nI (by omega) (by decide)) (nI_clamp (by omega)) (by show i_9 110 p = (if (-400) < (((m_warmI i p) 110 p) + ((((((m_warmI i p) 1 1) - ((m_warmI i p) 110 p)) * ((m_warmI i p) 102 p)) / 100) - 0)) then (((m_warmI i p) 110 p) + ((((((m_warmI i p) 1 1) - ((m_warmI i p) 110 p)) * ((m_warmI i p) 102 p)) / 100) - 0)) else (-400)); rw [hi_9, zup_n (by omega)]; rw [hi_2, zup_s]) ?_
              refine z_i2l X dX8_warms_136 ?_
              refine z_ladd X dX8_warms_137 ?_
              refine z_last (j := p) X dX8_warms_138 zmm_c115 (by rw [zmm_n115]; exact vp_in_nI (by omega) (by decide)) (nI_clamp (by omega)) ?_
              obtain ⟨l_10, hl_10⟩ : ∃ q, q = zup (m_warmL i lm p) 115 p (((m_warmL i lm p) 115 p) + ((if (-400) < (((m_warmI i p) 110 p) + ((((((m_warmI i p) 1 1) - ((m_warmI i p) 110 p)) * ((m_warmI i p) 102 p)) / 100) - 0)) then (((m_warmI i p) 110 p) + ((((((m_warmI i p) 1 1) - ((m_warmI i p) 110 p)) * ((m_warmI i p) 102 p)) / 100) - 0)) else (-400)).toInt64)) := ⟨_, rfl⟩
              refine z_mem (M' := zmm i_9 l_10) (by rw [hl_10]; rfl) ?_
              refine z_aload_n X 0 dX8_warms_139 rfl rfl ?_
              refine z_getR (ci := 11) (j := 16) (o' := 116) X dX8_warms_140 zmm_c1 rfl (by decide) hlk_59 (Or.inl rfl) (fun _ => rfl) (zmm_r116) ?_
              refine z_iload_n X 1 dX8_warms_143 rfl rfl ?_
              refine z_dup2 X dX8_warms_144 rfl rfl ?_
              refine z_iald (j := p) (x := (m_warmI i p) 116 p) X dX8_warms_145 zmm_c116 (by rw [zmm_n116]; exact vp_in_nI (by omega) (by decide)) (nI_clamp (by omega)) (by show i_9 116 p = ((m_warmI i p) 116 p); rw [hi_9, zup_n (by omega)]; rw [hi_2, zup_n (by omega)]; rw [hi_1, zup_n (by omega)]) ?_
              refine z_iconst (v := 1) X dX8_warms_146 (by decide) ?_
              refine z_iadd X dX8_warms_147 ?_
              refine z_iast (j := p) X dX8_warms_148 zmm_c116 (by rw [zmm_n116]; exact vp_in_nI (by omega) (by decide)) (nI_clamp (by omega)) ?_
              obtain ⟨i_11, hi_11⟩ : ∃ q, q = zup i_9 116 p (((m_warmI i p) 116 p) + 1) := ⟨_, rfl⟩
              refine z_mem (M' := zmm i_11 l_10) (by rw [hi_11]; rfl) ?_
              refine z_iinc (ls' := [(1, .int (nI (p + 1))), (0, .ref 1)]) (v := nI (p + 1)) X 1 dX8_warms_149 rfl (nI_1 _) (by decide) rfl ?_
              refine z_goto (tgt := 2) X dX8_warms_152 (by decide) ?_
              refine z_sub (ls' := [(0, .ref 1), (1, .int (nI (p + 1)))]) [1, 0] rfl ?_
              refine z_lse (ls' := [(0, .ref 1), (1, .int (nI (p + 1)))]) (rfl) ?_
              refine z_mem (M' := zmm (m_warmI i (p + 1)) (m_warmL i lm (p + 1))) (by subst hi_11; subst hi_9; subst hi_2; subst hi_1; subst hl_10; show zmm _ _ = zmm (m_warm1 (m_warmI i p) p) (zup (m_warmL i lm p) 115 p _); (first | rfl | (simp only [Int32.lt_irrefl, if_true, if_false, not_true_eq_false, not_false_eq_true, and_true, true_and, and_false, false_and, or_true, true_or, or_false, false_or, and_self, ite_self, zb, m_warm1, m_t, m_t1, c_7, c_44, c_89, c_104, eq_true c_7, eq_true c_44, eq_true c_89, eq_true c_104]; done) | (simp only [Int32.lt_irrefl, if_true, if_false, not_true_eq_false, not_false_eq_true, and_true, true_and, and_false, false_and, or_true, true_or, or_false, false_or, and_self, ite_self, zb, m_warm1, m_t, m_t1, c_7, c_44, c_89, c_104, eq_true c_7, eq_true c_44, eq_true c_89, eq_true c_104]; rfl))) ?_
              exact ih2
        · skip
          refine z_aload_n X 0 dX8_warms_47 rfl rfl ?_
          refine z_getR (ci := 11) (j := 3) (o' := 103) X dX8_warms_48 zmm_c1 rfl (by decide) hlk_17 (Or.inl rfl) (fun _ => rfl) (zmm_r103) ?_
          refine z_iload_n X 1 dX8_warms_51 rfl rfl ?_
          refine z_iald (j := p) (x := (m_warmI i p) 103 p) X dX8_warms_52 zmm_c103 (by rw [zmm_n103]; exact vp_in_nI (by omega) (by decide)) (nI_clamp (by omega)) (rfl) ?_
          refine z_goto (tgt := 57) X dX8_warms_53 (by decide) ?_
          refine z_isub X dX8_warms_57 ?_
          refine z_iadd X dX8_warms_58 ?_
          refine z_iast (j := p) X dX8_warms_59 zmm_c110 (by rw [zmm_n110]; exact vp_in_nI (by omega) (by decide)) (nI_clamp (by omega)) ?_
          obtain ⟨i_12, hi_12⟩ : ∃ q, q = zup (m_warmI i p) 110 p (((m_warmI i p) 110 p) + ((((((m_warmI i p) 1 1) - ((m_warmI i p) 110 p)) * ((m_warmI i p) 102 p)) / 100) - ((m_warmI i p) 103 p))) := ⟨_, rfl⟩
          refine z_mem (M' := zmm i_12 (m_warmL i lm p)) (by rw [hi_12]; rfl) ?_
          refine z_aload_n X 0 dX8_warms_60 rfl rfl ?_
          refine z_getR (ci := 11) (j := 10) (o' := 110) X dX8_warms_61 zmm_c1 rfl (by decide) hlk_39 (Or.inl rfl) (fun _ => rfl) (zmm_r110) ?_
          refine z_iload_n X 1 dX8_warms_64 rfl rfl ?_
          refine z_sipush (v := (-400)) X dX8_warms_65 (by decide) ?_
          refine z_aload_n X 0 dX8_warms_68 rfl rfl ?_
          refine z_getR (ci := 11) (j := 10) (o' := 110) X dX8_warms_69 zmm_c1 rfl (by decide) hlk_39 (Or.inl rfl) (fun _ => rfl) (zmm_r110) ?_
          refine z_iload_n X 1 dX8_warms_72 rfl rfl ?_
          refine z_iald (j := p) (x := ((m_warmI i p) 110 p) + ((((((m_warmI i p) 1 1) - ((m_warmI i p) 110 p)) * ((m_warmI i p) 102 p)) / 100) - ((m_warmI i p) 103 p))) X dX8_warms_73 zmm_c110 (by rw [zmm_n110]; exact vp_in_nI (by omega) (by decide)) (nI_clamp (by omega)) (by show i_12 110 p = (((m_warmI i p) 110 p) + ((((((m_warmI i p) 1 1) - ((m_warmI i p) 110 p)) * ((m_warmI i p) 102 p)) / 100) - ((m_warmI i p) 103 p))); rw [hi_12, zup_s]) ?_
          refine z_mmax X dX8_warms_74 (by decide +kernel) (by decide +kernel) (by decide +kernel) (by decide +kernel) (by decide) (Nat.le_of_ble_eq_true rfl) (by decide) (by decide) ?_
          refine z_iast (j := p) X dX8_warms_77 zmm_c110 (by rw [zmm_n110]; exact vp_in_nI (by omega) (by decide)) (nI_clamp (by omega)) ?_
          obtain ⟨i_13, hi_13⟩ : ∃ q, q = zup i_12 110 p (if (-400) < (((m_warmI i p) 110 p) + ((((((m_warmI i p) 1 1) - ((m_warmI i p) 110 p)) * ((m_warmI i p) 102 p)) / 100) - ((m_warmI i p) 103 p))) then (((m_warmI i p) 110 p) + ((((((m_warmI i p) 1 1) - ((m_warmI i p) 110 p)) * ((m_warmI i p) 102 p)) / 100) - ((m_warmI i p) 103 p))) else (-400)) := ⟨_, rfl⟩
          refine z_mem (M' := zmm i_13 (m_warmL i lm p)) (by rw [hi_13]; rfl) ?_
          refine z_aload_n X 0 dX8_warms_78 rfl rfl ?_
          refine z_getR (ci := 11) (j := 14) (o' := 114) X dX8_warms_79 zmm_c1 rfl (by decide) hlk_52 (Or.inl rfl) (fun _ => rfl) (zmm_r114) ?_
          refine z_iload_n X 1 dX8_warms_82 rfl rfl ?_
          refine z_aload_n X 0 dX8_warms_83 rfl rfl ?_
          refine z_getR (ci := 11) (j := 16) (o' := 116) X dX8_warms_84 zmm_c1 rfl (by decide) hlk_59 (Or.inl rfl) (fun _ => rfl) (zmm_r116) ?_
          refine z_iload_n X 1 dX8_warms_87 rfl rfl ?_
          refine z_iald (j := p) (x := (m_warmI i p) 116 p) X dX8_warms_88 zmm_c116 (by rw [zmm_n116]; exact vp_in_nI (by omega) (by decide)) (nI_clamp (by omega)) (by show i_13 116 p = ((m_warmI i p) 116 p); rw [hi_13, zup_n (by omega)]; rw [hi_12, zup_n (by omega)]) ?_
          refine z_if_eq X 107 dX8_warms_89 (by decide) (fun c_89 => ?_) (fun c_89 => ?_)
          · skip
            refine z_aload_n X 0 dX8_warms_107 rfl rfl ?_
            refine z_getR (ci := 11) (j := 10) (o' := 110) X dX8_warms_108 zmm_c1 rfl (by decide) hlk_39 (Or.inl rfl) (fun _ => rfl) (zmm_r110) ?_
            refine z_iload_n X 1 dX8_warms_111 rfl rfl ?_
            refine z_iald (j := p) (x := if (-400) < (((m_warmI i p) 110 p) + ((((((m_warmI i p) 1 1) - ((m_warmI i p) 110 p)) * ((m_warmI i p) 102 p)) / 100) - ((m_warmI i p) 103 p))) then (((m_warmI i p) 110 p) + ((((((m_warmI i p) 1 1) - ((m_warmI i p) 110 p)) * ((m_warmI i p) 102 p)) / 100) - ((m_warmI i p) 103 p))) else (-400)) X dX8_warms_112 zmm_c110 (by rw [zmm_n110]; exact vp_in_nI (by omega) (by decide)) (nI_clamp (by omega)) (by show i_13 110 p = (if (-400) < (((m_warmI i p) 110 p) + ((((((m_warmI i p) 1 1) - ((m_warmI i p) 110 p)) * ((m_warmI i p) 102 p)) / 100) - ((m_warmI i p) 103 p))) then (((m_warmI i p) 110 p) + ((((((m_warmI i p) 1 1) - ((m_warmI i p) 110 p)) * ((m_warmI i p) 102 p)) / 100) - ((m_warmI i p) 103 p))) else (-400)); rw [hi_13, zup_s]) ?_
            refine z_goto (tgt := 122) X dX8_warms_113 (by decide) ?_
            refine z_iast (j := p) X dX8_warms_122 zmm_c114 (by rw [zmm_n114]; exact vp_in_nI (by omega) (by decide)) (nI_clamp (by omega)) ?_
            obtain ⟨i_14, hi_14⟩ : ∃ q, q = zup i_13 114 p (if (-400) < (((m_warmI i p) 110 p) + ((((((m_warmI i p) 1 1) - ((m_warmI i p) 110 p)) * ((m_warmI i p) 102 p)) / 100) - ((m_warmI i p) 103 p))) then (((m_warmI i p) 110 p) + ((((((m_warmI i p) 1 1) - ((m_warmI i p) 110 p)) * ((m_warmI i p) 102 p)) / 100) - ((m_warmI i p) 103 p))) else (-400)) := ⟨_, rfl⟩
            refine z_mem (M' := zmm i_14 (m_warmL i lm p)) (by rw [hi_14]; rfl) ?_
            refine z_aload_n X 0 dX8_warms_123 rfl rfl ?_
            refine z_getR (ci := 11) (j := 15) (o' := 115) X dX8_warms_124 zmm_c1 rfl (by decide) hlk_55 (Or.inl rfl) (fun _ => rfl) (zmm_r115) ?_
            refine z_iload_n X 1 dX8_warms_127 rfl rfl ?_
            refine z_dup2 X dX8_warms_128 rfl rfl ?_
            refine z_lald (j := p) (x := (m_warmL i lm p) 115 p) X dX8_warms_129 zmm_c115 (by rw [zmm_n115]; exact vp_in_nI (by omega) (by decide)) (nI_clamp (by omega)) (rfl) ?_
            refine z_aload_n X 0 dX8_warms_130 rfl rfl ?_
            refine z_getR (ci := 11) (j := 10) (o' := 110) X dX8_warms_131 zmm_c1 rfl (by decide) hlk_39 (Or.inl rfl) (fun _ => rfl) (zmm_r110) ?_
            refine z_iload_n X 1 dX8_warms_134 rfl rfl ?_
            refine z_iald (j := p) (x := if (-400) < (((m_warmI i p) 110 p) + ((((((m_warmI i p) 1 1) - ((m_warmI i p) 110 p)) * ((m_warmI i p) 102 p)) / 100) - ((m_warmI i p) 103 p))) then (((m_warmI i p) 110 p) + ((((((m_warmI i p) 1 1) - ((m_warmI i p) 110 p)) * ((m_warmI i p) 102 p)) / 100) - ((m_warmI i p) 103 p))) else (-400)) X dX8_warms_135 zmm_c110 (by rw [zmm_n110]; exact vp_in_nI (by omega) (by decide)) (nI_clamp (by omega)) (by show i_14 110 p = (if (-400) < (((m_warmI i p) 110 p) + ((((((m_warmI i p) 1 1) - ((m_warmI i p) 110 p)) * ((m_warmI i p) 102 p)) / 100) - ((m_warmI i p) 103 p))) then (((m_warmI i p) 110 p) + ((((((m_warmI i p) 1 1) - ((m_warmI i p) 110 p)) * ((m_warmI i p) 102 p)) / 100) - ((m_warmI i p) 103 p))) else (-400)); rw [hi_14, zup_n (by omega)]; rw [hi_13, zup_s]) ?_
            refine z_i2l X dX8_warms_136 ?_
            refine z_ladd X dX8_warms_137 ?_
            refine z_last (j := p) X dX8_warms_138 zmm_c115 (by rw [zmm_n115]; exact vp_in_nI (by omega) (by decide)) (nI_clamp (by omega)) ?_
            obtain ⟨l_15, hl_15⟩ : ∃ q, q = zup (m_warmL i lm p) 115 p (((m_warmL i lm p) 115 p) + ((if (-400) < (((m_warmI i p) 110 p) + ((((((m_warmI i p) 1 1) - ((m_warmI i p) 110 p)) * ((m_warmI i p) 102 p)) / 100) - ((m_warmI i p) 103 p))) then (((m_warmI i p) 110 p) + ((((((m_warmI i p) 1 1) - ((m_warmI i p) 110 p)) * ((m_warmI i p) 102 p)) / 100) - ((m_warmI i p) 103 p))) else (-400)).toInt64)) := ⟨_, rfl⟩
            refine z_mem (M' := zmm i_14 l_15) (by rw [hl_15]; rfl) ?_
            refine z_aload_n X 0 dX8_warms_139 rfl rfl ?_
            refine z_getR (ci := 11) (j := 16) (o' := 116) X dX8_warms_140 zmm_c1 rfl (by decide) hlk_59 (Or.inl rfl) (fun _ => rfl) (zmm_r116) ?_
            refine z_iload_n X 1 dX8_warms_143 rfl rfl ?_
            refine z_dup2 X dX8_warms_144 rfl rfl ?_
            refine z_iald (j := p) (x := (m_warmI i p) 116 p) X dX8_warms_145 zmm_c116 (by rw [zmm_n116]; exact vp_in_nI (by omega) (by decide)) (nI_clamp (by omega)) (by show i_14 116 p = ((m_warmI i p) 116 p); rw [hi_14, zup_n (by omega)]; rw [hi_13, zup_n (by omega)]; rw [hi_12, zup_n (by omega)]) ?_
            refine z_iconst (v := 1) X dX8_warms_146 (by decide) ?_
            refine z_iadd X dX8_warms_147 ?_
            refine z_iast (j := p) X dX8_warms_148 zmm_c116 (by rw [zmm_n116]; exact vp_in_nI (by omega) (by decide)) (nI_clamp (by omega)) ?_
            obtain ⟨i_16, hi_16⟩ : ∃ q, q = zup i_14 116 p (((m_warmI i p) 116 p) + 1) := ⟨_, rfl⟩
            refine z_mem (M' := zmm i_16 l_15) (by rw [hi_16]; rfl) ?_
            refine z_iinc (ls' := [(1, .int (nI (p + 1))), (0, .ref 1)]) (v := nI (p + 1)) X 1 dX8_warms_149 rfl (nI_1 _) (by decide) rfl ?_
            refine z_goto (tgt := 2) X dX8_warms_152 (by decide) ?_
            refine z_sub (ls' := [(0, .ref 1), (1, .int (nI (p + 1)))]) [1, 0] rfl ?_
            refine z_lse (ls' := [(0, .ref 1), (1, .int (nI (p + 1)))]) (rfl) ?_
            refine z_mem (M' := zmm (m_warmI i (p + 1)) (m_warmL i lm (p + 1))) (by subst hi_16; subst hi_14; subst hi_13; subst hi_12; subst hl_15; show zmm _ _ = zmm (m_warm1 (m_warmI i p) p) (zup (m_warmL i lm p) 115 p _); (first | rfl | (simp only [Int32.lt_irrefl, if_true, if_false, not_true_eq_false, not_false_eq_true, and_true, true_and, and_false, false_and, or_true, true_or, or_false, false_or, and_self, ite_self, zb, m_warm1, m_t, m_t1, c_7, c_44, c_89, eq_true c_7, eq_true c_44, eq_true c_89]; done) | (simp only [Int32.lt_irrefl, if_true, if_false, not_true_eq_false, not_false_eq_true, and_true, true_and, and_false, false_and, or_true, true_or, or_false, false_or, and_self, ite_self, zb, m_warm1, m_t, m_t1, c_7, c_44, c_89, eq_true c_7, eq_true c_44, eq_true c_89]; rfl))) ?_
            exact ih2
          · skip
            refine z_aload_n X 0 dX8_warms_92 rfl rfl ?_
            refine z_getR (ci := 11) (j := 10) (o' := 110) X dX8_warms_93 zmm_c1 rfl (by decide) hlk_39 (Or.inl rfl) (fun _ => rfl) (zmm_r110) ?_
            refine z_iload_n X 1 dX8_warms_96 rfl rfl ?_
            refine z_iald (j := p) (x := if (-400) < (((m_warmI i p) 110 p) + ((((((m_warmI i p) 1 1) - ((m_warmI i p) 110 p)) * ((m_warmI i p) 102 p)) / 100) - ((m_warmI i p) 103 p))) then (((m_warmI i p) 110 p) + ((((((m_warmI i p) 1 1) - ((m_warmI i p) 110 p)) * ((m_warmI i p) 102 p)) / 100) - ((m_warmI i p) 103 p))) else (-400)) X dX8_warms_97 zmm_c110 (by rw [zmm_n110]; exact vp_in_nI (by omega) (by decide)) (nI_clamp (by omega)) (by show i_13 110 p = (if (-400) < (((m_warmI i p) 110 p) + ((((((m_warmI i p) 1 1) - ((m_warmI i p) 110 p)) * ((m_warmI i p) 102 p)) / 100) - ((m_warmI i p) 103 p))) then (((m_warmI i p) 110 p) + ((((((m_warmI i p) 1 1) - ((m_warmI i p) 110 p)) * ((m_warmI i p) 102 p)) / 100) - ((m_warmI i p) 103 p))) else (-400)); rw [hi_13, zup_s]) ?_
            refine z_aload_n X 0 dX8_warms_98 rfl rfl ?_
            refine z_getR (ci := 11) (j := 14) (o' := 114) X dX8_warms_99 zmm_c1 rfl (by decide) hlk_52 (Or.inl rfl) (fun _ => rfl) (zmm_r114) ?_
            refine z_iload_n X 1 dX8_warms_102 rfl rfl ?_
            refine z_iald (j := p) (x := (m_warmI i p) 114 p) X dX8_warms_103 zmm_c114 (by rw [zmm_n114]; exact vp_in_nI (by omega) (by decide)) (nI_clamp (by omega)) (by show i_13 114 p = ((m_warmI i p) 114 p); rw [hi_13, zup_n (by omega)]; rw [hi_12, zup_n (by omega)]) ?_
            refine z_icmp_le X 116 dX8_warms_104 (by decide) (fun c_104 => ?_) (fun c_104 => ?_)
            · skip
              refine z_aload_n X 0 dX8_warms_116 rfl rfl ?_
              refine z_getR (ci := 11) (j := 14) (o' := 114) X dX8_warms_117 zmm_c1 rfl (by decide) hlk_52 (Or.inl rfl) (fun _ => rfl) (zmm_r114) ?_
              refine z_iload_n X 1 dX8_warms_120 rfl rfl ?_
              refine z_iald (j := p) (x := (m_warmI i p) 114 p) X dX8_warms_121 zmm_c114 (by rw [zmm_n114]; exact vp_in_nI (by omega) (by decide)) (nI_clamp (by omega)) (by show i_13 114 p = ((m_warmI i p) 114 p); rw [hi_13, zup_n (by omega)]; rw [hi_12, zup_n (by omega)]) ?_
              refine z_iast (j := p) X dX8_warms_122 zmm_c114 (by rw [zmm_n114]; exact vp_in_nI (by omega) (by decide)) (nI_clamp (by omega)) ?_
              obtain ⟨i_17, hi_17⟩ : ∃ q, q = zup i_13 114 p ((m_warmI i p) 114 p) := ⟨_, rfl⟩
              refine z_mem (M' := zmm i_17 (m_warmL i lm p)) (by rw [hi_17]; rfl) ?_
              refine z_aload_n X 0 dX8_warms_123 rfl rfl ?_
              refine z_getR (ci := 11) (j := 15) (o' := 115) X dX8_warms_124 zmm_c1 rfl (by decide) hlk_55 (Or.inl rfl) (fun _ => rfl) (zmm_r115) ?_
              refine z_iload_n X 1 dX8_warms_127 rfl rfl ?_
              refine z_dup2 X dX8_warms_128 rfl rfl ?_
              refine z_lald (j := p) (x := (m_warmL i lm p) 115 p) X dX8_warms_129 zmm_c115 (by rw [zmm_n115]; exact vp_in_nI (by omega) (by decide)) (nI_clamp (by omega)) (rfl) ?_
              refine z_aload_n X 0 dX8_warms_130 rfl rfl ?_
              refine z_getR (ci := 11) (j := 10) (o' := 110) X dX8_warms_131 zmm_c1 rfl (by decide) hlk_39 (Or.inl rfl) (fun _ => rfl) (zmm_r110) ?_
              refine z_iload_n X 1 dX8_warms_134 rfl rfl ?_
              refine z_iald (j := p) (x := if (-400) < (((m_warmI i p) 110 p) + ((((((m_warmI i p) 1 1) - ((m_warmI i p) 110 p)) * ((m_warmI i p) 102 p)) / 100) - ((m_warmI i p) 103 p))) then (((m_warmI i p) 110 p) + ((((((m_warmI i p) 1 1) - ((m_warmI i p) 110 p)) * ((m_warmI i p) 102 p)) / 100) - ((m_warmI i p) 103 p))) else (-400)) X dX8_warms_135 zmm_c110 (by rw [zmm_n110]; exact vp_in_nI (by omega) (by decide)) (nI_clamp (by omega)) (by show i_17 110 p = (if (-400) < (((m_warmI i p) 110 p) + ((((((m_warmI i p) 1 1) - ((m_warmI i p) 110 p)) * ((m_warmI i p) 102 p)) / 100) - ((m_warmI i p) 103 p))) then (((m_warmI i p) 110 p) + ((((((m_warmI i p) 1 1) - ((m_warmI i p) 110 p)) * ((m_warmI i p) 102 p)) / 100) - ((m_warmI i p) 103 p))) else (-400)); rw [hi_17, zup_n (by omega)]; rw [hi_13, zup_s]) ?_
              refine z_i2l X dX8_warms_136 ?_
              refine z_ladd X dX8_warms_137 ?_
              refine z_last (j := p) X dX8_warms_138 zmm_c115 (by rw [zmm_n115]; exact vp_in_nI (by omega) (by decide)) (nI_clamp (by omega)) ?_
              obtain ⟨l_18, hl_18⟩ : ∃ q, q = zup (m_warmL i lm p) 115 p (((m_warmL i lm p) 115 p) + ((if (-400) < (((m_warmI i p) 110 p) + ((((((m_warmI i p) 1 1) - ((m_warmI i p) 110 p)) * ((m_warmI i p) 102 p)) / 100) - ((m_warmI i p) 103 p))) then (((m_warmI i p) 110 p) + ((((((m_warmI i p) 1 1) - ((m_warmI i p) 110 p)) * ((m_warmI i p) 102 p)) / 100) - ((m_warmI i p) 103 p))) else (-400)).toInt64)) := ⟨_, rfl⟩
              refine z_mem (M' := zmm i_17 l_18) (by rw [hl_18]; rfl) ?_
              refine z_aload_n X 0 dX8_warms_139 rfl rfl ?_
              refine z_getR (ci := 11) (j := 16) (o' := 116) X dX8_warms_140 zmm_c1 rfl (by decide) hlk_59 (Or.inl rfl) (fun _ => rfl) (zmm_r116) ?_
              refine z_iload_n X 1 dX8_warms_143 rfl rfl ?_
              refine z_dup2 X dX8_warms_144 rfl rfl ?_
              refine z_iald (j := p) (x := (m_warmI i p) 116 p) X dX8_warms_145 zmm_c116 (by rw [zmm_n116]; exact vp_in_nI (by omega) (by decide)) (nI_clamp (by omega)) (by show i_17 116 p = ((m_warmI i p) 116 p); rw [hi_17, zup_n (by omega)]; rw [hi_13, zup_n (by omega)]; rw [hi_12, zup_n (by omega)]) ?_
              refine z_iconst (v := 1) X dX8_warms_146 (by decide) ?_
              refine z_iadd X dX8_warms_147 ?_
              refine z_iast (j := p) X dX8_warms_148 zmm_c116 (by rw [zmm_n116]; exact vp_in_nI (by omega) (by decide)) (nI_clamp (by omega)) ?_
              obtain ⟨i_19, hi_19⟩ : ∃ q, q = zup i_17 116 p (((m_warmI i p) 116 p) + 1) := ⟨_, rfl⟩
              refine z_mem (M' := zmm i_19 l_18) (by rw [hi_19]; rfl) ?_
              refine z_iinc (ls' := [(1, .int (nI (p + 1))), (0, .ref 1)]) (v := nI (p + 1)) X 1 dX8_warms_149 rfl (nI_1 _) (by decide) rfl ?_
              refine z_goto (tgt := 2) X dX8_warms_152 (by decide) ?_
              refine z_sub (ls' := [(0, .ref 1), (1, .int (nI (p + 1)))]) [1, 0] rfl ?_
              refine z_lse (ls' := [(0, .ref 1), (1, .int (nI (p + 1)))]) (rfl) ?_
              refine z_mem (M' := zmm (m_warmI i (p + 1)) (m_warmL i lm (p + 1))) (by subst hi_19; subst hi_17; subst hi_13; subst hi_12; subst hl_18; show zmm _ _ = zmm (m_warm1 (m_warmI i p) p) (zup (m_warmL i lm p) 115 p _); (first | rfl | (simp only [Int32.lt_irrefl, if_true, if_false, not_true_eq_false, not_false_eq_true, and_true, true_and, and_false, false_and, or_true, true_or, or_false, false_or, and_self, ite_self, zb, m_warm1, m_t, m_t1, c_7, c_44, c_89, c_104, eq_true c_7, eq_true c_44, eq_true c_89, eq_true c_104]; done) | (simp only [Int32.lt_irrefl, if_true, if_false, not_true_eq_false, not_false_eq_true, and_true, true_and, and_false, false_and, or_true, true_or, or_false, false_or, and_self, ite_self, zb, m_warm1, m_t, m_t1, c_7, c_44, c_89, c_104, eq_true c_7, eq_true c_44, eq_true c_89, eq_true c_104]; rfl))) ?_
              exact ih2
            · skip
              refine z_aload_n X 0 dX8_warms_107 rfl rfl ?_
              refine z_getR (ci := 11) (j := 10) (o' := 110) X dX8_warms_108 zmm_c1 rfl (by decide) hlk_39 (Or.inl rfl) (fun _ => rfl) (zmm_r110) ?_
              refine z_iload_n X 1 dX8_warms_111 rfl rfl ?_
              refine z_iald (j := p) (x := if (-400) < (((m_warmI i p) 110 p) + ((((((m_warmI i p) 1 1) - ((m_warmI i p) 110 p)) * ((m_warmI i p) 102 p)) / 100) - ((m_warmI i p) 103 p))) then (((m_warmI i p) 110 p) + ((((((m_warmI i p) 1 1) - ((m_warmI i p) 110 p)) * ((m_warmI i p) 102 p)) / 100) - ((m_warmI i p) 103 p))) else (-400)) X dX8_warms_112 zmm_c110 (by rw [zmm_n110]; exact vp_in_nI (by omega) (by decide)) (nI_clamp (by omega)) (by show i_13 110 p = (if (-400) < (((m_warmI i p) 110 p) + ((((((m_warmI i p) 1 1) - ((m_warmI i p) 110 p)) * ((m_warmI i p) 102 p)) / 100) - ((m_warmI i p) 103 p))) then (((m_warmI i p) 110 p) + ((((((m_warmI i p) 1 1) - ((m_warmI i p) 110 p)) * ((m_warmI i p) 102 p)) / 100) - ((m_warmI i p) 103 p))) else (-400)); rw [hi_13, zup_s]) ?_
              refine z_goto (tgt := 122) X dX8_warms_113 (by decide) ?_
              refine z_iast (j := p) X dX8_warms_122 zmm_c114 (by rw [zmm_n114]; exact vp_in_nI (by omega) (by decide)) (nI_clamp (by omega)) ?_
              obtain ⟨i_20, hi_20⟩ : ∃ q, q = zup i_13 114 p (if (-400) < (((m_warmI i p) 110 p) + ((((((m_warmI i p) 1 1) - ((m_warmI i p) 110 p)) * ((m_warmI i p) 102 p)) / 100) - ((m_warmI i p) 103 p))) then (((m_warmI i p) 110 p) + ((((((m_warmI i p) 1 1) - ((m_warmI i p) 110 p)) * ((m_warmI i p) 102 p)) / 100) - ((m_warmI i p) 103 p))) else (-400)) := ⟨_, rfl⟩
              refine z_mem (M' := zmm i_20 (m_warmL i lm p)) (by rw [hi_20]; rfl) ?_
              refine z_aload_n X 0 dX8_warms_123 rfl rfl ?_
              refine z_getR (ci := 11) (j := 15) (o' := 115) X dX8_warms_124 zmm_c1 rfl (by decide) hlk_55 (Or.inl rfl) (fun _ => rfl) (zmm_r115) ?_
              refine z_iload_n X 1 dX8_warms_127 rfl rfl ?_
              refine z_dup2 X dX8_warms_128 rfl rfl ?_
              refine z_lald (j := p) (x := (m_warmL i lm p) 115 p) X dX8_warms_129 zmm_c115 (by rw [zmm_n115]; exact vp_in_nI (by omega) (by decide)) (nI_clamp (by omega)) (rfl) ?_
              refine z_aload_n X 0 dX8_warms_130 rfl rfl ?_
              refine z_getR (ci := 11) (j := 10) (o' := 110) X dX8_warms_131 zmm_c1 rfl (by decide) hlk_39 (Or.inl rfl) (fun _ => rfl) (zmm_r110) ?_
              refine z_iload_n X 1 dX8_warms_134 rfl rfl ?_
              refine z_iald (j := p) (x := if (-400) < (((m_warmI i p) 110 p) + ((((((m_warmI i p) 1 1) - ((m_warmI i p) 110 p)) * ((m_warmI i p) 102 p)) / 100) - ((m_warmI i p) 103 p))) then (((m_warmI i p) 110 p) + ((((((m_warmI i p) 1 1) - ((m_warmI i p) 110 p)) * ((m_warmI i p) 102 p)) / 100) - ((m_warmI i p) 103 p))) else (-400)) X dX8_warms_135 zmm_c110 (by rw [zmm_n110]; exact vp_in_nI (by omega) (by decide)) (nI_clamp (by omega)) (by show i_20 110 p = (if (-400) < (((m_warmI i p) 110 p) + ((((((m_warmI i p) 1 1) - ((m_warmI i p) 110 p)) * ((m_warmI i p) 102 p)) / 100) - ((m_warmI i p) 103 p))) then (((m_warmI i p) 110 p) + ((((((m_warmI i p) 1 1) - ((m_warmI i p) 110 p)) * ((m_warmI i p) 102 p)) / 100) - ((m_warmI i p) 103 p))) else (-400)); rw [hi_20, zup_n (by omega)]; rw [hi_13, zup_s]) ?_
              refine z_i2l X dX8_warms_136 ?_
              refine z_ladd X dX8_warms_137 ?_
              refine z_last (j := p) X dX8_warms_138 zmm_c115 (by rw [zmm_n115]; exact vp_in_nI (by omega) (by decide)) (nI_clamp (by omega)) ?_
              obtain ⟨l_21, hl_21⟩ : ∃ q, q = zup (m_warmL i lm p) 115 p (((m_warmL i lm p) 115 p) + ((if (-400) < (((m_warmI i p) 110 p) + ((((((m_warmI i p) 1 1) - ((m_warmI i p) 110 p)) * ((m_warmI i p) 102 p)) / 100) - ((m_warmI i p) 103 p))) then (((m_warmI i p) 110 p) + ((((((m_warmI i p) 1 1) - ((m_warmI i p) 110 p)) * ((m_warmI i p) 102 p)) / 100) - ((m_warmI i p) 103 p))) else (-400)).toInt64)) := ⟨_, rfl⟩
              refine z_mem (M' := zmm i_20 l_21) (by rw [hl_21]; rfl) ?_
              refine z_aload_n X 0 dX8_warms_139 rfl rfl ?_
              refine z_getR (ci := 11) (j := 16) (o' := 116) X dX8_warms_140 zmm_c1 rfl (by decide) hlk_59 (Or.inl rfl) (fun _ => rfl) (zmm_r116) ?_
              refine z_iload_n X 1 dX8_warms_143 rfl rfl ?_
              refine z_dup2 X dX8_warms_144 rfl rfl ?_
              refine z_iald (j := p) (x := (m_warmI i p) 116 p) X dX8_warms_145 zmm_c116 (by rw [zmm_n116]; exact vp_in_nI (by omega) (by decide)) (nI_clamp (by omega)) (by show i_20 116 p = ((m_warmI i p) 116 p); rw [hi_20, zup_n (by omega)]; rw [hi_13, zup_n (by omega)]; rw [hi_12, zup_n (by omega)]) ?_
              refine z_iconst (v := 1) X dX8_warms_146 (by decide) ?_
              refine z_iadd X dX8_warms_147 ?_
              refine z_iast (j := p) X dX8_warms_148 zmm_c116 (by rw [zmm_n116]; exact vp_in_nI (by omega) (by decide)) (nI_clamp (by omega)) ?_
              obtain ⟨i_22, hi_22⟩ : ∃ q, q = zup i_20 116 p (((m_warmI i p) 116 p) + 1) := ⟨_, rfl⟩
              refine z_mem (M' := zmm i_22 l_21) (by rw [hi_22]; rfl) ?_
              refine z_iinc (ls' := [(1, .int (nI (p + 1))), (0, .ref 1)]) (v := nI (p + 1)) X 1 dX8_warms_149 rfl (nI_1 _) (by decide) rfl ?_
              refine z_goto (tgt := 2) X dX8_warms_152 (by decide) ?_
              refine z_sub (ls' := [(0, .ref 1), (1, .int (nI (p + 1)))]) [1, 0] rfl ?_
              refine z_lse (ls' := [(0, .ref 1), (1, .int (nI (p + 1)))]) (rfl) ?_
              refine z_mem (M' := zmm (m_warmI i (p + 1)) (m_warmL i lm (p + 1))) (by subst hi_22; subst hi_20; subst hi_13; subst hi_12; subst hl_21; show zmm _ _ = zmm (m_warm1 (m_warmI i p) p) (zup (m_warmL i lm p) 115 p _); (first | rfl | (simp only [Int32.lt_irrefl, if_true, if_false, not_true_eq_false, not_false_eq_true, and_true, true_and, and_false, false_and, or_true, true_or, or_false, false_or, and_self, ite_self, zb, m_warm1, m_t, m_t1, c_7, c_44, c_89, c_104, eq_true c_7, eq_true c_44, eq_true c_89, eq_true c_104]; done) | (simp only [Int32.lt_irrefl, if_true, if_false, not_true_eq_false, not_false_eq_true, and_true, true_and, and_false, false_and, or_true, true_or, or_false, false_or, and_self, ite_self, zb, m_warm1, m_t, m_t1, c_7, c_44, c_89, c_104, eq_true c_7, eq_true c_44, eq_true c_89, eq_true c_104]; rfl))) ?_
              exact ih2
  refine z_sub (ls' := [(0, .ref 1), (1, .int 0)]) [1, 0] rfl ?_
  refine z_lse (ls' := [(0, .ref 1), (1, .int (nI 0))]) (rfl) ?_
  refine z_mem (M' := zmm (m_warmI i 0) (m_warmL i lm 0)) (by rfl) ?_
  exact hloop2 0 (Nat.zero_le _)
