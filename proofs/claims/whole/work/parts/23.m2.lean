set_option maxRecDepth 100000 in
set_option maxHeartbeats 4000000 in
theorem c_X8_wishes (l : Launch) (i : Nat → Nat → Int32) (lm : Nat → Nat → Int64) (j : Nat) (hj : j < 4) : zS l yX8_wishes wsX8_wishes 2 42 0 0 [.ref 1, .int (nI j)] (zmm i lm) (zpv (fun M1 => M1 = zmm (m_wish i j) lm)) zno := by
  refine z_intro (cc := cX8_wishes) (maxL := 3) (ret := none) (by decide +kernel) rfl (Nat.le_of_ble_eq_true rfl) ?_
  have hlk_35 : Cond.fieldLink RX8 35 "ColdStoreModel" "modes" "[C" ∈ wsX8_wishes := by decide +kernel
  have hlk_68 : Cond.fieldLink RX8 68 "ColdStoreModel" "first" "I" ∈ wsX8_wishes := by decide +kernel
  have hlk_39 : Cond.fieldLink RX8 39 "ColdStoreModel" "temps" "[I" ∈ wsX8_wishes := by decide +kernel
  have hlk_26 : Cond.fieldLink RX8 26 "ColdStoreModel" "uppers" "[I" ∈ wsX8_wishes := by decide +kernel
  have hlk_23 : Cond.fieldLink RX8 23 "ColdStoreModel" "lowers" "[I" ∈ wsX8_wishes := by decide +kernel
  have hlk_42 : Cond.fieldLink RX8 42 "ColdStoreModel" "wants" "[Z" ∈ wsX8_wishes := by decide +kernel
  have hlk_132 : Cond.fieldLink RX8 132 "ColdStoreModel" "time" "I" ∈ wsX8_wishes := by decide +kernel
  have hlk_29 : Cond.fieldLink RX8 29 "ColdStoreModel" "leads" "[I" ∈ wsX8_wishes := by decide +kernel
  have hlk_32 : Cond.fieldLink RX8 32 "ColdStoreModel" "depths" "[I" ∈ wsX8_wishes := by decide +kernel
  intro g X
  show zE g 3 0 [(0, .ref 1), (1, .int (nI j))] [] (zmm i lm) 0 0
  refine z_aload_n X 0 dX8_wishes_0 rfl rfl ?_
  refine z_getR (ci := 11) (j := 9) (o' := 109) X dX8_wishes_1 zmm_c1 rfl (by decide) hlk_35 (Or.inl rfl) (fun _ => rfl) (zmm_r109) ?_
  refine z_iload_n X 1 dX8_wishes_4 rfl rfl ?_
  refine z_cald (j := j) (x := i 109 j) X dX8_wishes_5 zmm_c109 (by rw [zmm_n109]; exact vp_in_nI (by omega) (by decide)) (nI_clamp (by omega)) (rfl) ?_
  refine z_bipush (v := 97) X dX8_wishes_6 (by decide) ?_
  refine z_icmp_eq X 34 dX8_wishes_8 (by decide) (fun c_8 => ?_) (fun c_8 => ?_)
  · skip
    refine z_iconst (v := 0) X dX8_wishes_34 (by decide) ?_
    refine z_istore_n (ls' := [(2, .int 0), (0, .ref 1), (1, .int (nI j))]) X dX8_wishes_35 rfl (by decide) rfl ?_
    refine z_aload_n X 1 dX8_wishes_36 rfl rfl ?_
    refine z_callVi (As := []) (rest := []) (n1 := 0) (ci := 11) X dX8_wishes_37 (c_X8_isPeak l _ _) gX8_wishes_X8_isPeak rfl rfl (by decide +kernel) ⟨by decide, by decide⟩ zmm_c1 rfl rfl (Nat.le_of_ble_eq_true rfl) ⟨by decide, by decide⟩ (fun _ h => h.elim) ?_
    rintro _ _ ⟨rfl, rfl⟩
    refine z_if_eq X 53 dX8_wishes_40 (by decide) (fun c_40 => ?_) (fun c_40 => ?_)
    · skip
      refine z_aload_n X 1 dX8_wishes_53 rfl rfl ?_
      refine z_getI (ci := 11) (j := 20) (x := i 1 20) X dX8_wishes_54 zmm_c1 rfl (by decide) hlk_68 (Or.inl rfl) (fun _ => rfl) (rfl) ?_
      refine z_iconst (v := (-1)) X dX8_wishes_57 (by decide) ?_
      refine z_icmp_eq X 94 dX8_wishes_58 (by decide) (fun c_58 => ?_) (fun c_58 => ?_)
      · skip
        refine z_aload_n X 1 dX8_wishes_94 rfl rfl ?_
        refine z_getR (ci := 11) (j := 10) (o' := 110) X dX8_wishes_95 zmm_c1 rfl (by decide) hlk_39 (Or.inl rfl) (fun _ => rfl) (zmm_r110) ?_
        refine z_iload_n X 2 dX8_wishes_98 rfl rfl ?_
        refine z_iald (j := j) (x := i 110 j) X dX8_wishes_99 zmm_c110 (by rw [zmm_n110]; exact vp_in_nI (by omega) (by decide)) (nI_clamp (by omega)) (rfl) ?_
        refine z_aload_n X 1 dX8_wishes_100 rfl rfl ?_
        refine z_getR (ci := 11) (j := 6) (o' := 106) X dX8_wishes_101 zmm_c1 rfl (by decide) hlk_26 (Or.inl rfl) (fun _ => rfl) (zmm_r106) ?_
        refine z_iload_n X 2 dX8_wishes_104 rfl rfl ?_
        refine z_iald (j := j) (x := i 106 j) X dX8_wishes_105 zmm_c106 (by rw [zmm_n106]; exact vp_in_nI (by omega) (by decide)) (nI_clamp (by omega)) (rfl) ?_
        refine z_iload_n X 0 dX8_wishes_106 rfl rfl ?_
        refine z_iadd X dX8_wishes_107 ?_
        refine z_icmp_le X 121 dX8_wishes_108 (by decide) (fun c_108 => ?_) (fun c_108 => ?_)
        · skip
          refine z_aload_n X 1 dX8_wishes_121 rfl rfl ?_
          refine z_getR (ci := 11) (j := 10) (o' := 110) X dX8_wishes_122 zmm_c1 rfl (by decide) hlk_39 (Or.inl rfl) (fun _ => rfl) (zmm_r110) ?_
          refine z_iload_n X 2 dX8_wishes_125 rfl rfl ?_
          refine z_iald (j := j) (x := i 110 j) X dX8_wishes_126 zmm_c110 (by rw [zmm_n110]; exact vp_in_nI (by omega) (by decide)) (nI_clamp (by omega)) (rfl) ?_
          refine z_aload_n X 1 dX8_wishes_127 rfl rfl ?_
          refine z_getR (ci := 11) (j := 5) (o' := 105) X dX8_wishes_128 zmm_c1 rfl (by decide) hlk_23 (Or.inl rfl) (fun _ => rfl) (zmm_r105) ?_
          refine z_iload_n X 2 dX8_wishes_131 rfl rfl ?_
          refine z_iald (j := j) (x := i 105 j) X dX8_wishes_132 zmm_c105 (by rw [zmm_n105]; exact vp_in_nI (by omega) (by decide)) (nI_clamp (by omega)) (rfl) ?_
          refine z_iload_n X 0 dX8_wishes_133 rfl rfl ?_
          refine z_iadd X dX8_wishes_134 ?_
          refine z_icmp_gt X 145 dX8_wishes_135 (by decide) (fun c_135 => ?_) (fun c_135 => ?_)
          · skip
            refine z_vret X rfl (Nat.le_refl _) (Nat.le_refl _) dX8_wishes_145 ?_
            (try simp only [zb_0, Classical.not_not] at c_8 c_40 c_58 c_108 c_135)
            exact ⟨rfl, by (first | rfl | (simp only [Int32.lt_irrefl, if_true, if_false, not_true_eq_false, not_false_eq_true, and_true, true_and, and_false, false_and, or_true, true_or, or_false, false_or, and_self, ite_self, zb, m_wish, m_want, m_by, mq, zup_id, c_8, c_40, c_58, c_108, c_135, eq_true c_8, eq_true c_40, eq_true c_58, eq_true c_108, eq_true c_135]; done) | (simp only [Int32.lt_irrefl, if_true, if_false, not_true_eq_false, not_false_eq_true, and_true, true_and, and_false, false_and, or_true, true_or, or_false, false_or, and_self, ite_self, zb, m_wish, m_want, m_by, mq, zup_id, c_8, c_40, c_58, c_108, c_135, eq_true c_8, eq_true c_40, eq_true c_58, eq_true c_108, eq_true c_135]; rfl))⟩
          · skip
            refine z_aload_n X 1 dX8_wishes_138 rfl rfl ?_
            refine z_getR (ci := 11) (j := 11) (o' := 111) X dX8_wishes_139 zmm_c1 rfl (by decide) hlk_42 (Or.inl rfl) (fun _ => rfl) (zmm_r111) ?_
            refine z_iload_n X 2 dX8_wishes_142 rfl rfl ?_
            refine z_iconst (v := 0) X dX8_wishes_143 (by decide) ?_
            refine z_zast (j := j) X dX8_wishes_144 zmm_c111 (by rw [zmm_n111]; exact vp_in_nI (by omega) (by decide)) (nI_clamp (by omega)) (rfl) ?_
            obtain ⟨i_1, hi_1⟩ : ∃ q, q = zup i 111 j 0 := ⟨_, rfl⟩
            refine z_mem (M' := zmm i_1 lm) (by rw [hi_1]; rfl) ?_
            refine z_vret X rfl (Nat.le_refl _) (Nat.le_refl _) dX8_wishes_145 ?_
            subst hi_1
            (try simp only [zb_0, Classical.not_not] at c_8 c_40 c_58 c_108 c_135)
            exact ⟨rfl, by (first | rfl | (simp only [Int32.lt_irrefl, if_true, if_false, not_true_eq_false, not_false_eq_true, and_true, true_and, and_false, false_and, or_true, true_or, or_false, false_or, and_self, ite_self, zb, m_wish, m_want, m_by, mq, zup_id, c_8, c_40, c_58, c_108, c_135, eq_true c_8, eq_true c_40, eq_true c_58, eq_true c_108, eq_true c_135]; done) | (simp only [Int32.lt_irrefl, if_true, if_false, not_true_eq_false, not_false_eq_true, and_true, true_and, and_false, false_and, or_true, true_or, or_false, false_or, and_self, ite_self, zb, m_wish, m_want, m_by, mq, zup_id, c_8, c_40, c_58, c_108, c_135, eq_true c_8, eq_true c_40, eq_true c_58, eq_true c_108, eq_true c_135]; rfl))⟩
        · skip
          refine z_aload_n X 1 dX8_wishes_111 rfl rfl ?_
          refine z_getR (ci := 11) (j := 11) (o' := 111) X dX8_wishes_112 zmm_c1 rfl (by decide) hlk_42 (Or.inl rfl) (fun _ => rfl) (zmm_r111) ?_
          refine z_iload_n X 2 dX8_wishes_115 rfl rfl ?_
          refine z_iconst (v := 1) X dX8_wishes_116 (by decide) ?_
          refine z_zast (j := j) X dX8_wishes_117 zmm_c111 (by rw [zmm_n111]; exact vp_in_nI (by omega) (by decide)) (nI_clamp (by omega)) (rfl) ?_
          obtain ⟨i_2, hi_2⟩ : ∃ q, q = zup i 111 j 1 := ⟨_, rfl⟩
          refine z_mem (M' := zmm i_2 lm) (by rw [hi_2]; rfl) ?_
          refine z_goto (tgt := 145) X dX8_wishes_118 (by decide) ?_
          refine z_vret X rfl (Nat.le_refl _) (Nat.le_refl _) dX8_wishes_145 ?_
          subst hi_2
          (try simp only [zb_0, Classical.not_not] at c_8 c_40 c_58 c_108)
          exact ⟨rfl, by (first | rfl | (simp only [Int32.lt_irrefl, if_true, if_false, not_true_eq_false, not_false_eq_true, and_true, true_and, and_false, false_and, or_true, true_or, or_false, false_or, and_self, ite_self, zb, m_wish, m_want, m_by, mq, zup_id, c_8, c_40, c_58, c_108, eq_true c_8, eq_true c_40, eq_true c_58, eq_true c_108]; done) | (simp only [Int32.lt_irrefl, if_true, if_false, not_true_eq_false, not_false_eq_true, and_true, true_and, and_false, false_and, or_true, true_or, or_false, false_or, and_self, ite_self, zb, m_wish, m_want, m_by, mq, zup_id, c_8, c_40, c_58, c_108, eq_true c_8, eq_true c_40, eq_true c_58, eq_true c_108]; rfl))⟩
      · skip
        refine z_aload_n X 1 dX8_wishes_61 rfl rfl ?_
        refine z_getI (ci := 11) (j := 20) (x := i 1 20) X dX8_wishes_62 zmm_c1 rfl (by decide) hlk_68 (Or.inl rfl) (fun _ => rfl) (rfl) ?_
        refine z_aload_n X 1 dX8_wishes_65 rfl rfl ?_
        refine z_getI (ci := 11) (j := 0) (x := i 1 0) X dX8_wishes_66 zmm_c1 rfl (by decide) hlk_132 (Or.inl rfl) (fun _ => rfl) (rfl) ?_
        refine z_bipush (v := 96) X dX8_wishes_69 (by decide) ?_
        refine z_irem X dX8_wishes_71 (by decide) ?_
        refine z_isub X dX8_wishes_72 ?_
        refine z_iconst (v := 1) X dX8_wishes_73 (by decide) ?_
        refine z_aload_n X 1 dX8_wishes_74 rfl rfl ?_
        refine z_getR (ci := 11) (j := 7) (o' := 107) X dX8_wishes_75 zmm_c1 rfl (by decide) hlk_29 (Or.inl rfl) (fun _ => rfl) (zmm_r107) ?_
        refine z_iload_n X 2 dX8_wishes_78 rfl rfl ?_
        refine z_iald (j := j) (x := i 107 j) X dX8_wishes_79 zmm_c107 (by rw [zmm_n107]; exact vp_in_nI (by omega) (by decide)) (nI_clamp (by omega)) (rfl) ?_
        refine z_callSi (As := [.int ((i 1 20) - ((i 1 0) - (i 1 0) / 96 * 96)), .int 1, .int (i 107 j)]) (rest := []) (n1 := 3) X dX8_wishes_80 (c_X8_in l _ ((i 1 20) - ((i 1 0) - (i 1 0) / 96 * 96)) 1 (i 107 j)) gX8_wishes_X8_in rfl rfl (by decide +kernel) ⟨by decide, by decide⟩ rfl (Nat.le_of_ble_eq_true rfl) ⟨by decide, by decide⟩ (fun _ h => h.elim) ?_
        rintro _ _ ⟨rfl, rfl⟩
        refine z_if_eq X 94 dX8_wishes_83 (by decide) (fun c_83 => ?_) (fun c_83 => ?_)
        · skip
          refine z_aload_n X 1 dX8_wishes_94 rfl rfl ?_
          refine z_getR (ci := 11) (j := 10) (o' := 110) X dX8_wishes_95 zmm_c1 rfl (by decide) hlk_39 (Or.inl rfl) (fun _ => rfl) (zmm_r110) ?_
          refine z_iload_n X 2 dX8_wishes_98 rfl rfl ?_
          refine z_iald (j := j) (x := i 110 j) X dX8_wishes_99 zmm_c110 (by rw [zmm_n110]; exact vp_in_nI (by omega) (by decide)) (nI_clamp (by omega)) (rfl) ?_
          refine z_aload_n X 1 dX8_wishes_100 rfl rfl ?_
          refine z_getR (ci := 11) (j := 6) (o' := 106) X dX8_wishes_101 zmm_c1 rfl (by decide) hlk_26 (Or.inl rfl) (fun _ => rfl) (zmm_r106) ?_
          refine z_iload_n X 2 dX8_wishes_104 rfl rfl ?_
          refine z_iald (j := j) (x := i 106 j) X dX8_wishes_105 zmm_c106 (by rw [zmm_n106]; exact vp_in_nI (by omega) (by decide)) (nI_clamp (by omega)) (rfl) ?_
          refine z_iload_n X 0 dX8_wishes_106 rfl rfl ?_
          refine z_iadd X dX8_wishes_107 ?_
          refine z_icmp_le X 121 dX8_wishes_108 (by decide) (fun c_108 => ?_) (fun c_108 => ?_)
          · skip
            refine z_aload_n X 1 dX8_wishes_121 rfl rfl ?_
            refine z_getR (ci := 11) (j := 10) (o' := 110) X dX8_wishes_122 zmm_c1 rfl (by decide) hlk_39 (Or.inl rfl) (fun _ => rfl) (zmm_r110) ?_
            refine z_iload_n X 2 dX8_wishes_125 rfl rfl ?_
            refine z_iald (j := j) (x := i 110 j) X dX8_wishes_126 zmm_c110 (by rw [zmm_n110]; exact vp_in_nI (by omega) (by decide)) (nI_clamp (by omega)) (rfl) ?_
            refine z_aload_n X 1 dX8_wishes_127 rfl rfl ?_
            refine z_getR (ci := 11) (j := 5) (o' := 105) X dX8_wishes_128 zmm_c1 rfl (by decide) hlk_23 (Or.inl rfl) (fun _ => rfl) (zmm_r105) ?_
            refine z_iload_n X 2 dX8_wishes_131 rfl rfl ?_
            refine z_iald (j := j) (x := i 105 j) X dX8_wishes_132 zmm_c105 (by rw [zmm_n105]; exact vp_in_nI (by omega) (by decide)) (nI_clamp (by omega)) (rfl) ?_
            refine z_iload_n X 0 dX8_wishes_133 rfl rfl ?_
            refine z_iadd X dX8_wishes_134 ?_
            refine z_icmp_gt X 145 dX8_wishes_135 (by decide) (fun c_135 => ?_) (fun c_135 => ?_)
            · skip
              refine z_vret X rfl (Nat.le_refl _) (Nat.le_refl _) dX8_wishes_145 ?_
              (try simp only [zb_0, Classical.not_not] at c_8 c_40 c_58 c_83 c_108 c_135)
              exact ⟨rfl, by (first | rfl | (simp only [Int32.lt_irrefl, if_true, if_false, not_true_eq_false, not_false_eq_true, and_true, true_and, and_false, false_and, or_true, true_or, or_false, false_or, and_self, ite_self, zb, m_wish, m_want, m_by, mq, zup_id, c_8, c_40, c_58, c_83, c_108, c_135, eq_true c_8, eq_true c_40, eq_true c_58, eq_true c_83, eq_true c_108, eq_true c_135]; done) | (simp only [Int32.lt_irrefl, if_true, if_false, not_true_eq_false, not_false_eq_true, and_true, true_and, and_false, false_and, or_true, true_or, or_false, false_or, and_self, ite_self, zb, m_wish, m_want, m_by, mq, zup_id, c_8, c_40, c_58, c_83, c_108, c_135, eq_true c_8, eq_true c_40, eq_true c_58, eq_true c_83, eq_true c_108, eq_true c_135]; rfl))⟩
            · skip
              refine z_aload_n X 1 dX8_wishes_138 rfl rfl ?_
              refine z_getR (ci := 11) (j := 11) (o' := 111) X dX8_wishes_139 zmm_c1 rfl (by decide) hlk_42 (Or.inl rfl) (fun _ => rfl) (zmm_r111) ?_
              refine z_iload_n X 2 dX8_wishes_142 rfl rfl ?_
              refine z_iconst (v := 0) X dX8_wishes_143 (by decide) ?_
              refine z_zast (j := j) X dX8_wishes_144 zmm_c111 (by rw [zmm_n111]; exact vp_in_nI (by omega) (by decide)) (nI_clamp (by omega)) (rfl) ?_
              obtain ⟨i_3, hi_3⟩ : ∃ q, q = zup i 111 j 0 := ⟨_, rfl⟩
              refine z_mem (M' := zmm i_3 lm) (by rw [hi_3]; rfl) ?_
              refine z_vret X rfl (Nat.le_refl _) (Nat.le_refl _) dX8_wishes_145 ?_
              subst hi_3
              (try simp only [zb_0, Classical.not_not] at c_8 c_40 c_58 c_83 c_108 c_135)
              exact ⟨rfl, by (first | rfl | (simp only [Int32.lt_irrefl, if_true, if_false, not_true_eq_false, not_false_eq_true, and_true, true_and, and_false, false_and, or_true, true_or, or_false, false_or, and_self, ite_self, zb, m_wish, m_want, m_by, mq, zup_id, c_8, c_40, c_58, c_83, c_108, c_135, eq_true c_8, eq_true c_40, eq_true c_58, eq_true c_83, eq_true c_108, eq_true c_135]; done) | (simp only [Int32.lt_irrefl, if_true, if_false, not_true_eq_false, not_false_eq_true, and_true, true_and, and_false, false_and, or_true, true_or, or_false, false_or, and_self, ite_self, zb, m_wish, m_want, m_by, mq, zup_id, c_8, c_40, c_58, c_83, c_108, c_135, eq_true c_8, eq_true c_40, eq_true c_58, eq_true c_83, eq_true c_108, eq_true c_135]; rfl))⟩
          · skip
            refine z_aload_n X 1 dX8_wishes_111 rfl rfl ?_
            refine z_getR (ci := 11) (j := 11) (o' := 111) X dX8_wishes_112 zmm_c1 rfl (by decide) hlk_42 (Or.inl rfl) (fun _ => rfl) (zmm_r111) ?_
            refine z_iload_n X 2 dX8_wishes_115 rfl rfl ?_
            refine z_iconst (v := 1) X dX8_wishes_116 (by decide) ?_
            refine z_zast (j := j) X dX8_wishes_117 zmm_c111 (by rw [zmm_n111]; exact vp_in_nI (by omega) (by decide)) (nI_clamp (by omega)) (rfl) ?_
            obtain ⟨i_4, hi_4⟩ : ∃ q, q = zup i 111 j 1 := ⟨_, rfl⟩
            refine z_mem (M' := zmm i_4 lm) (by rw [hi_4]; rfl) ?_
            refine z_goto (tgt := 145) X dX8_wishes_118 (by decide) ?_
            refine z_vret X rfl (Nat.le_refl _) (Nat.le_refl _) dX8_wishes_145 ?_
            subst hi_4
            (try simp only [zb_0, Classical.not_not] at c_8 c_40 c_58 c_83 c_108)
            exact ⟨rfl, by (first | rfl | (simp only [Int32.lt_irrefl, if_true, if_false, not_true_eq_false, not_false_eq_true, and_true, true_and, and_false, false_and, or_true, true_or, or_false, false_or, and_self, ite_self, zb, m_wish, m_want, m_by, mq, zup_id, c_8, c_40, c_58, c_83, c_108, eq_true c_8, eq_true c_40, eq_true c_58, eq_true c_83, eq_true c_108]; done) | (simp only [Int32.lt_irrefl, if_true, if_false, not_true_eq_false, not_false_eq_true, and_true, true_and, and_false, false_and, or_true, true_or, or_false, false_or, and_self, ite_self, zb, m_wish, m_want, m_by, mq, zup_id, c_8, c_40, c_58, c_83, c_108, eq_true c_8, eq_true c_40, eq_true c_58, eq_true c_83, eq_true c_108]; rfl))⟩
        · skip
          refine z_aload_n X 1 dX8_wishes_86 rfl rfl ?_
          refine z_getR (ci := 11) (j := 8) (o' := 108) X dX8_wishes_87 zmm_c1 rfl (by decide) hlk_32 (Or.inl rfl) (fun _ => rfl) (zmm_r108) ?_
          refine z_iload_n X 2 dX8_wishes_90 rfl rfl ?_
          refine z_iald (j := j) (x := i 108 j) X dX8_wishes_91 zmm_c108 (by rw [zmm_n108]; exact vp_in_nI (by omega) (by decide)) (nI_clamp (by omega)) (rfl) ?_
          refine z_ineg X dX8_wishes_92 ?_
          refine z_istore_n (ls' := [(2, .int (-(i 108 j))), (0, .ref 1), (1, .int (nI j))]) X dX8_wishes_93 rfl (by decide) rfl ?_
          refine z_aload_n X 1 dX8_wishes_94 rfl rfl ?_
          refine z_getR (ci := 11) (j := 10) (o' := 110) X dX8_wishes_95 zmm_c1 rfl (by decide) hlk_39 (Or.inl rfl) (fun _ => rfl) (zmm_r110) ?_
          refine z_iload_n X 2 dX8_wishes_98 rfl rfl ?_
          refine z_iald (j := j) (x := i 110 j) X dX8_wishes_99 zmm_c110 (by rw [zmm_n110]; exact vp_in_nI (by omega) (by decide)) (nI_clamp (by omega)) (rfl) ?_
          refine z_aload_n X 1 dX8_wishes_100 rfl rfl ?_
          refine z_getR (ci := 11) (j := 6) (o' := 106) X dX8_wishes_101 zmm_c1 rfl (by decide) hlk_26 (Or.inl rfl) (fun _ => rfl) (zmm_r106) ?_
          refine z_iload_n X 2 dX8_wishes_104 rfl rfl ?_
          refine z_iald (j := j) (x := i 106 j) X dX8_wishes_105 zmm_c106 (by rw [zmm_n106]; exact vp_in_nI (by omega) (by decide)) (nI_clamp (by omega)) (rfl) ?_
          refine z_iload_n X 0 dX8_wishes_106 rfl rfl ?_
          refine z_iadd X dX8_wishes_107 ?_
          refine z_icmp_le X 121 dX8_wishes_108 (by decide) (fun c_108 => ?_) (fun c_108 => ?_)
          · skip
            refine z_aload_n X 1 dX8_wishes_121 rfl rfl ?_
            refine z_getR (ci := 11) (j := 10) (o' := 110) X dX8_wishes_122 zmm_c1 rfl (by decide) hlk_39 (Or.inl rfl) (fun _ => rfl) (zmm_r110) ?_
            refine z_iload_n X 2 dX8_wishes_125 rfl rfl ?_
            refine z_iald (j := j) (x := i 110 j) X dX8_wishes_126 zmm_c110 (by rw [zmm_n110]; exact vp_in_nI (by omega) (by decide)) (nI_clamp (by omega)) (rfl) ?_
            refine z_aload_n X 1 dX8_wishes_127 rfl rfl ?_
            refine z_getR (ci := 11) (j := 5) (o' := 105) X dX8_wishes_128 zmm_c1 rfl (by decide) hlk_23 (Or.inl rfl) (fun _ => rfl) (zmm_r105) ?_
            refine z_iload_n X 2 dX8_wishes_131 rfl rfl ?_
            refine z_iald (j := j) (x := i 105 j) X dX8_wishes_132 zmm_c105 (by rw [zmm_n105]; exact vp_in_nI (by omega) (by decide)) (nI_clamp (by omega)) (rfl) ?_
            refine z_iload_n X 0 dX8_wishes_133 rfl rfl ?_
            refine z_iadd X dX8_wishes_134 ?_
            refine z_icmp_gt X 145 dX8_wishes_135 (by decide) (fun c_135 => ?_) (fun c_135 => ?_)
            · skip
              refine z_vret X rfl (Nat.le_refl _) (Nat.le_refl _) dX8_wishes_145 ?_
              (try simp only [zb_0, Classical.not_not] at c_8 c_40 c_58 c_83 c_108 c_135)
              exact ⟨rfl, by (first | rfl | (simp only [Int32.lt_irrefl, if_true, if_false, not_true_eq_false, not_false_eq_true, and_true, true_and, and_false, false_and, or_true, true_or, or_false, false_or, and_self, ite_self, zb, m_wish, m_want, m_by, mq, zup_id, c_8, c_40, c_58, c_83, c_108, c_135, eq_true c_8, eq_true c_40, eq_true c_58, eq_true c_83, eq_true c_108, eq_true c_135]; done) | (simp only [Int32.lt_irrefl, if_true, if_false, not_true_eq_false, not_false_eq_true, and_true, true_and, and_false, false_and, or_true, true_or, or_false, false_or, and_self, ite_self, zb, m_wish, m_want, m_by, mq, zup_id, c_8, c_40, c_58, c_83, c_108, c_135, eq_true c_8, eq_true c_40, eq_true c_58, eq_true c_83, eq_true c_108, eq_true c_135]; rfl))⟩
            · skip
              refine z_aload_n X 1 dX8_wishes_138 rfl rfl ?_
              refine z_getR (ci := 11) (j := 11) (o' := 111) X dX8_wishes_139 zmm_c1 rfl (by decide) hlk_42 (Or.inl rfl) (fun _ => rfl) (zmm_r111) ?_
              refine z_iload_n X 2 dX8_wishes_142 rfl rfl ?_
              refine z_iconst (v := 0) X dX8_wishes_143 (by decide) ?_
              refine z_zast (j := j) X dX8_wishes_144 zmm_c111 (by rw [zmm_n111]; exact vp_in_nI (by omega) (by decide)) (nI_clamp (by omega)) (rfl) ?_
              obtain ⟨i_5, hi_5⟩ : ∃ q, q = zup i 111 j 0 := ⟨_, rfl⟩
              refine z_mem (M' := zmm i_5 lm) (by rw [hi_5]; rfl) ?_
              refine z_vret X rfl (Nat.le_refl _) (Nat.le_refl _) dX8_wishes_145 ?_
              subst hi_5
              (try simp only [zb_0, Classical.not_not] at c_8 c_40 c_58 c_83 c_108 c_135)
              exact ⟨rfl, by (first | rfl | (simp only [Int32.lt_irrefl, if_true, if_false, not_true_eq_false, not_false_eq_true, and_true, true_and, and_false, false_and, or_true, true_or, or_false, false_or, and_self, ite_self, zb, m_wish, m_want, m_by, mq, zup_id, c_8, c_40, c_58, c_83, c_108, c_135, eq_true c_8, eq_true c_40, eq_true c_58, eq_true c_83, eq_true c_108, eq_true c_135]; done) | (simp only [Int32.lt_irrefl, if_true, if_false, not_true_eq_false, not_false_eq_true, and_true, true_and, and_false, false_and, or_true, true_or, or_false, false_or, and_self, ite_self, zb, m_wish, m_want, m_by, mq, zup_id, c_8, c_40, c_58, c_83, c_108, c_135, eq_true c_8, eq_true c_40, eq_true c_58, eq_true c_83, eq_true c_108, eq_true c_135]; rfl))⟩
          · skip
            refine z_aload_n X 1 dX8_wishes_111 rfl rfl ?_
            refine z_getR (ci := 11) (j := 11) (o' := 111) X dX8_wishes_112 zmm_c1 rfl (by decide) hlk_42 (Or.inl rfl) (fun _ => rfl) (zmm_r111) ?_
            refine z_iload_n X 2 dX8_wishes_115 rfl rfl ?_
            refine z_iconst (v := 1) X dX8_wishes_116 (by decide) ?_
            refine z_zast (j := j) X dX8_wishes_117 zmm_c111 (by rw [zmm_n111]; exact vp_in_nI (by omega) (by decide)) (nI_clamp (by omega)) (rfl) ?_
            obtain ⟨i_6, hi_6⟩ : ∃ q, q = zup i 111 j 1 := ⟨_, rfl⟩
            refine z_mem (M' := zmm i_6 lm) (by rw [hi_6]; rfl) ?_
            refine z_goto (tgt := 145) X dX8_wishes_118 (by decide) ?_
            refine z_vret X rfl (Nat.le_refl _) (Nat.le_refl _) dX8_wishes_145 ?_
            subst hi_6
            (try simp only [zb_0, Classical.not_not] at c_8 c_40 c_58 c_83 c_108)
            exact ⟨rfl, by (first | rfl | (simp only [Int32.lt_irrefl, if_true, if_false, not_true_eq_false, not_false_eq_true, and_true, true_and, and_false, false_and, or_true, true_or, or_false, false_or, and_self, ite_self, zb, m_wish, m_want, m_by, mq, zup_id, c_8, c_40, c_58, c_83, c_108, eq_true c_8, eq_true c_40, eq_true c_58, eq_true c_83, eq_true c_108]; done) | (simp only [Int32.lt_irrefl, if_true, if_false, not_true_eq_false, not_false_eq_true, and_true, true_and, and_false, false_and, or_true, true_or, or_false, false_or, and_self, ite_self, zb, m_wish, m_want, m_by, mq, zup_id, c_8, c_40, c_58, c_83, c_108, eq_true c_8, eq_true c_40, eq_true c_58, eq_true c_83, eq_true c_108]; rfl))⟩
    · skip
      refine z_aload_n X 1 dX8_wishes_43 rfl rfl ?_
      refine z_getR (ci := 11) (j := 8) (o' := 108) X dX8_wishes_44 zmm_c1 rfl (by decide) hlk_32 (Or.inl rfl) (fun _ => rfl) (zmm_r108) ?_
      refine z_iload_n X 2 dX8_wishes_47 rfl rfl ?_
      refine z_iald (j := j) (x := i 108 j) X dX8_wishes_48 zmm_c108 (by rw [zmm_n108]; exact vp_in_nI (by omega) (by decide)) (nI_clamp (by omega)) (rfl) ?_
      refine z_istore_n (ls' := [(2, .int (i 108 j)), (0, .ref 1), (1, .int (nI j))]) X dX8_wishes_49 rfl (by decide) rfl ?_
      refine z_goto (tgt := 94) X dX8_wishes_50 (by decide) ?_
      refine z_aload_n X 1 dX8_wishes_94 rfl rfl ?_
      refine z_getR (ci := 11) (j := 10) (o' := 110) X dX8_wishes_95 zmm_c1 rfl (by decide) hlk_39 (Or.inl rfl) (fun _ => rfl) (zmm_r110) ?_
      refine z_iload_n X 2 dX8_wishes_98 rfl rfl ?_
      refine z_iald (j := j) (x := i 110 j) X dX8_wishes_99 zmm_c110 (by rw [zmm_n110]; exact vp_in_nI (by omega) (by decide)) (nI_clamp (by omega)) (rfl) ?_
      refine z_aload_n X 1 dX8_wishes_100 rfl rfl ?_
      refine z_getR (ci := 11) (j := 6) (o' := 106) X dX8_wishes_101 zmm_c1 rfl (by decide) hlk_26 (Or.inl rfl) (fun _ => rfl) (zmm_r106) ?_
      refine z_iload_n X 2 dX8_wishes_104 rfl rfl ?_
      refine z_iald (j := j) (x := i 106 j) X dX8_wishes_105 zmm_c106 (by rw [zmm_n106]; exact vp_in_nI (by omega) (by decide)) (nI_clamp (by omega)) (rfl) ?_
      refine z_iload_n X 0 dX8_wishes_106 rfl rfl ?_
      refine z_iadd X dX8_wishes_107 ?_
      refine z_icmp_le X 121 dX8_wishes_108 (by decide) (fun c_108 => ?_) (fun c_108 => ?_)
      · skip
        refine z_aload_n X 1 dX8_wishes_121 rfl rfl ?_
        refine z_getR (ci := 11) (j := 10) (o' := 110) X dX8_wishes_122 zmm_c1 rfl (by decide) hlk_39 (Or.inl rfl) (fun _ => rfl) (zmm_r110) ?_
        refine z_iload_n X 2 dX8_wishes_125 rfl rfl ?_
        refine z_iald (j := j) (x := i 110 j) X dX8_wishes_126 zmm_c110 (by rw [zmm_n110]; exact vp_in_nI (by omega) (by decide)) (nI_clamp (by omega)) (rfl) ?_
        refine z_aload_n X 1 dX8_wishes_127 rfl rfl ?_
        refine z_getR (ci := 11) (j := 5) (o' := 105) X dX8_wishes_128 zmm_c1 rfl (by decide) hlk_23 (Or.inl rfl) (fun _ => rfl) (zmm_r105) ?_
        refine z_iload_n X 2 dX8_wishes_131 rfl rfl ?_
        refine z_iald (j := j) (x := i 105 j) X dX8_wishes_132 zmm_c105 (by rw [zmm_n105]; exact vp_in_nI (by omega) (by decide)) (nI_clamp (by omega)) (rfl) ?_
        refine z_iload_n X 0 dX8_wishes_133 rfl rfl ?_
        refine z_iadd X dX8_wishes_134 ?_
        refine z_icmp_gt X 145 dX8_wishes_135 (by decide) (fun c_135 => ?_) (fun c_135 => ?_)
        · skip
          refine z_vret X rfl (Nat.le_refl _) (Nat.le_refl _) dX8_wishes_145 ?_
          (try simp only [zb_0, Classical.not_not] at c_8 c_40 c_108 c_135)
          exact ⟨rfl, by (first | rfl | (simp only [Int32.lt_irrefl, if_true, if_false, not_true_eq_false, not_false_eq_true, and_true, true_and, and_false, false_and, or_true, true_or, or_false, false_or, and_self, ite_self, zb, m_wish, m_want, m_by, mq, zup_id, c_8, c_40, c_108, c_135, eq_true c_8, eq_true c_40, eq_true c_108, eq_true c_135]; done) | (simp only [Int32.lt_irrefl, if_true, if_false, not_true_eq_false, not_false_eq_true, and_true, true_and, and_false, false_and, or_true, true_or, or_false, false_or, and_self, ite_self, zb, m_wish, m_want, m_by, mq, zup_id, c_8, c_40, c_108, c_135, eq_true c_8, eq_true c_40, eq_true c_108, eq_true c_135]; rfl))⟩
        · skip
          refine z_aload_n X 1 dX8_wishes_138 rfl rfl ?_
          refine z_getR (ci := 11) (j := 11) (o' := 111) X dX8_wishes_139 zmm_c1 rfl (by decide) hlk_42 (Or.inl rfl) (fun _ => rfl) (zmm_r111) ?_
          refine z_iload_n X 2 dX8_wishes_142 rfl rfl ?_
          refine z_iconst (v := 0) X dX8_wishes_143 (by decide) ?_
          refine z_zast (j := j) X dX8_wishes_144 zmm_c111 (by rw [zmm_n111]; exact vp_in_nI (by omega) (by decide)) (nI_clamp (by omega)) (rfl) ?_
          obtain ⟨i_7, hi_7⟩ : ∃ q, q = zup i 111 j 0 := ⟨_, rfl⟩
          refine z_mem (M' := zmm i_7 lm) (by rw [hi_7]; rfl) ?_
          refine z_vret X rfl (Nat.le_refl _) (Nat.le_refl _) dX8_wishes_145 ?_
          subst hi_7
          (try simp only [zb_0, Classical.not_not] at c_8 c_40 c_108 c_135)
          exact ⟨rfl, by (first | rfl | (simp only [Int32.lt_irrefl, if_true, if_false, not_true_eq_false, not_false_eq_true, and_true, true_and, and_false, false_and, or_true, true_or, or_false, false_or, and_self, ite_self, zb, m_wish, m_want, m_by, mq, zup_id, c_8, c_40, c_108, c_135, eq_true c_8, eq_true c_40, eq_true c_108, eq_true c_135]; done) | (simp only [Int32.lt_irrefl, if_true, if_false, not_true_eq_false, not_false_eq_true, and_true, true_and, and_false, false_and, or_true, true_or, or_false, false_or, and_self, ite_self, zb, m_wish, m_want, m_by, mq, zup_id, c_8, c_40, c_108, c_135, eq_true c_8, eq_true c_40, eq_true c_108, eq_true c_135]; rfl))⟩
      · skip
        refine z_aload_n X 1 dX8_wishes_111 rfl rfl ?_
        refine z_getR (ci := 11) (j := 11) (o' := 111) X dX8_wishes_112 zmm_c1 rfl (by decide) hlk_42 (Or.inl rfl) (fun _ => rfl) (zmm_r111) ?_
        refine z_iload_n X 2 dX8_wishes_115 rfl rfl ?_
        refine z_iconst (v := 1) X dX8_wishes_116 (by decide) ?_
        refine z_zast (j := j) X dX8_wishes_117 zmm_c111 (by rw [zmm_n111]; exact vp_in_nI (by omega) (by decide)) (nI_clamp (by omega)) (rfl) ?_
        obtain ⟨i_8, hi_8⟩ : ∃ q, q = zup i 111 j 1 := ⟨_, rfl⟩
        refine z_mem (M' := zmm i_8 lm) (by rw [hi_8]; rfl) ?_
        refine z_goto (tgt := 145) X dX8_wishes_118 (by decide) ?_
        refine z_vret X rfl (Nat.le_refl _) (Nat.le_refl _) dX8_wishes_145 ?_
        subst hi_8
        (try simp only [zb_0, Classical.not_not] at c_8 c_40 c_108)
        exact ⟨rfl, by (first | rfl | (simp only [Int32.lt_irrefl, if_true, if_false, not_true_eq_false, not_false_eq_true, and_true, true_and, and_false, false_and, or_true, true_or, or_false, false_or, and_self, ite_self, zb, m_wish, m_want, m_by, mq, zup_id, c_8, c_40, c_108, eq_true c_8, eq_true c_40, eq_true c_108]; done) | (simp only [Int32.lt_irrefl, if_true, if_false, not_true_eq_false, not_false_eq_true, and_true, true_and, and_false, false_and, or_true, true_or, or_false, false_or, and_self, ite_self, zb, m_wish, m_want, m_by, mq, zup_id, c_8, c_40, c_108, eq_true c_8, eq_true c_40, eq_true c_108]; rfl))⟩
  · skip
    refine z_aload_n X 0 dX8_wishes_11 rfl rfl ?_
    refine z_getR (ci := 11) (j := 11) (o' := 111) X dX8_wishes_12 zmm_c1 rfl (by decide) hlk_42 (Or.inl rfl) (fun _ => rfl) (zmm_r111) ?_
    refine z_iload_n X 1 dX8_wishes_15 rfl rfl ?_
    refine z_aload_n X 0 dX8_wishes_16 rfl rfl ?_
    refine z_getR (ci := 11) (j := 9) (o' := 109) X dX8_wishes_17 zmm_c1 rfl (by decide) hlk_35 (Or.inl rfl) (fun _ => rfl) (zmm_r109) ?_
    refine z_iload_n X 1 dX8_wishes_20 rfl rfl ?_
    refine z_cald (j := j) (x := i 109 j) X dX8_wishes_21 zmm_c109 (by rw [zmm_n109]; exact vp_in_nI (by omega) (by decide)) (nI_clamp (by omega)) (rfl) ?_
    refine z_bipush (v := 111) X dX8_wishes_22 (by decide) ?_
    refine z_icmp_ne X 31 dX8_wishes_24 (by decide) (fun c_24 => ?_) (fun c_24 => ?_)
    · skip
      refine z_iconst (v := 0) X dX8_wishes_31 (by decide) ?_
      refine z_zast (j := j) X dX8_wishes_32 zmm_c111 (by rw [zmm_n111]; exact vp_in_nI (by omega) (by decide)) (nI_clamp (by omega)) (rfl) ?_
      obtain ⟨i_9, hi_9⟩ : ∃ q, q = zup i 111 j 0 := ⟨_, rfl⟩
      refine z_mem (M' := zmm i_9 lm) (by rw [hi_9]; rfl) ?_
      refine z_vret X rfl (Nat.le_refl _) (Nat.le_refl _) dX8_wishes_33 ?_
      subst hi_9
      (try simp only [zb_0, Classical.not_not] at c_8 c_24)
      exact ⟨rfl, by (first | rfl | (simp only [Int32.lt_irrefl, if_true, if_false, not_true_eq_false, not_false_eq_true, and_true, true_and, and_false, false_and, or_true, true_or, or_false, false_or, and_self, ite_self, zb, m_wish, m_want, m_by, mq, zup_id, c_8, c_24, eq_true c_8, eq_true c_24]; done) | (simp only [Int32.lt_irrefl, if_true, if_false, not_true_eq_false, not_false_eq_true, and_true, true_and, and_false, false_and, or_true, true_or, or_false, false_or, and_self, ite_self, zb, m_wish, m_want, m_by, mq, zup_id, c_8, c_24, eq_true c_8, eq_true c_24]; rfl))⟩
    · skip
      refine z_iconst (v := 1) X dX8_wishes_27 (by decide) ?_
      refine z_goto (tgt := 32) X dX8_wishes_28 (by decide) ?_
      refine z_zast (j := j) X dX8_wishes_32 zmm_c111 (by rw [zmm_n111]; exact vp_in_nI (by omega) (by decide)) (nI_clamp (by omega)) (rfl) ?_
      obtain ⟨i_10, hi_10⟩ : ∃ q, q = zup i 111 j 1 := ⟨_, rfl⟩
      refine z_mem (M' := zmm i_10 lm) (by rw [hi_10]; rfl) ?_
      refine z_vret X rfl (Nat.le_refl _) (Nat.le_refl _) dX8_wishes_33 ?_
      subst hi_10
      (try simp only [zb_0, Classical.not_not] at c_8 c_24)
      exact ⟨rfl, by (first | rfl | (simp only [Int32.lt_irrefl, if_true, if_false, not_true_eq_false, not_false_eq_true, and_true, true_and, and_false, false_and, or_true, true_or, or_false, false_or, and_self, ite_self, zb, m_wish, m_want, m_by, mq, zup_id, c_8, c_24, eq_true c_8, eq_true c_24]; done) | (simp only [Int32.lt_irrefl, if_true, if_false, not_true_eq_false, not_false_eq_true, and_true, true_and, and_false, false_and, or_true, true_or, or_false, false_or, and_self, ite_self, zb, m_wish, m_want, m_by, mq, zup_id, c_8, c_24, eq_true c_8, eq_true c_24]; rfl))⟩

set_option maxRecDepth 100000 in
set_option maxHeartbeats 4000000 in
theorem c_X8_next (l : Launch) (i : Nat → Nat → Int32) (lm : Nat → Nat → Int64) (nr : Nat) (hn : i 1 17 = nI nr) (h4 : nr ≤ 4) : zS l yX8_next wsX8_next 0 0 0 0 [.ref 1] (zmm i lm) (zpi (fun x M1 => x = m_next i nr ∧ M1 = zmm i lm)) zno := by
  refine z_intro (cc := cX8_next) (maxL := 4) (ret := (some .int)) (by decide +kernel) rfl (Nat.le_of_ble_eq_true rfl) ?_
  have hlk_119 : Cond.fieldLink RX8 119 "ColdStoreModel" "rooms" "I" ∈ wsX8_next := by decide +kernel
  have hlk_42 : Cond.fieldLink RX8 42 "ColdStoreModel" "wants" "[Z" ∈ wsX8_next := by decide +kernel
  have hlk_49 : Cond.fieldLink RX8 49 "ColdStoreModel" "isGiven" "[Z" ∈ wsX8_next := by decide +kernel
  have hlk_39 : Cond.fieldLink RX8 39 "ColdStoreModel" "temps" "[I" ∈ wsX8_next := by decide +kernel
  have hlk_26 : Cond.fieldLink RX8 26 "ColdStoreModel" "uppers" "[I" ∈ wsX8_next := by decide +kernel
  intro g X
  show zE g 4 0 [(0, .ref 1)] [] (zmm i lm) 0 0
  refine z_iconst (v := (-1)) X dX8_next_0 (by decide) ?_
  refine z_istore_n (ls' := [(1, .int (-1)), (0, .ref 1)]) X dX8_next_1 rfl (by decide) rfl ?_
  refine z_iconst (v := 0) X dX8_next_2 (by decide) ?_
  refine z_istore_n (ls' := [(2, .int 0), (1, .int (-1)), (0, .ref 1)]) X dX8_next_3 rfl (by decide) rfl ?_
  have hloop4 : ∀ p : Nat, p ≤ nr → zE g 4 4 [(0, .ref 1), (1, .int (m_next i p)), (2, .int (nI p))] [] (zmm i lm) 0 0 := by
    refine z_loop (fun p => zE g 4 4 [(0, .ref 1), (1, .int (m_next i p)), (2, .int (nI p))] [] (zmm i lm) 0 0) nr ?_ ?_
    · show zE g 4 4 [(0, .ref 1), (1, .int (m_next i nr)), (2, .int (nI nr))] [] (zmm i lm) 0 0
      refine z_iload_n X 2 dX8_next_4 rfl rfl ?_
      refine z_aload_n X 0 dX8_next_5 rfl rfl ?_
      refine z_getI (ci := 11) (j := 17) (x := i 1 17) X dX8_next_6 zmm_c1 rfl (by decide) hlk_119 (Or.inl rfl) (fun _ => rfl) (rfl) ?_
      refine z_icmp_ge X 86 dX8_next_9 (by decide) (fun c_9 => ?_) (fun c_9 => ?_)
      · skip
        refine z_iload_n X 1 dX8_next_86 rfl rfl ?_
        refine z_iret X rfl rfl (Nat.le_refl _) (Nat.le_refl _) dX8_next_87 ?_
        exact ⟨_, rfl, rfl, rfl⟩
      · exact absurd (by rw [hn]; exact Int32.le_refl _) c_9
    · intro p hp_4 ih4
      have ih4 : zE g 4 4 [(0, .ref 1), (1, .int (m_next i (p + 1))), (2, .int (nI (p + 1)))] [] (zmm i lm) 0 0 := ih4
      show zE g 4 4 [(0, .ref 1), (1, .int (m_next i p)), (2, .int (nI p))] [] (zmm i lm) 0 0
      refine z_iload_n X 2 dX8_next_4 rfl rfl ?_
      refine z_aload_n X 0 dX8_next_5 rfl rfl ?_
      refine z_getI (ci := 11) (j := 17) (x := i 1 17) X dX8_next_6 zmm_c1 rfl (by decide) hlk_119 (Or.inl rfl) (fun _ => rfl) (rfl) ?_
      refine z_icmp_ge X 86 dX8_next_9 (by decide) (fun c_9 => ?_) (fun c_9 => ?_)
      · exact absurd (by rw [← hn]; exact c_9) (nI_ge hp_4 (by omega))
      · skip
        refine z_aload_n X 0 dX8_next_12 rfl rfl ?_
        refine z_getR (ci := 11) (j := 11) (o' := 111) X dX8_next_13 zmm_c1 rfl (by decide) hlk_42 (Or.inl rfl) (fun _ => rfl) (zmm_r111) ?_
        refine z_iload_n X 2 dX8_next_16 rfl rfl ?_
        refine z_zald (j := p) (x := i 111 p) X dX8_next_17 zmm_c111 (by rw [zmm_n111]; exact vp_in_nI (by omega) (by decide)) (nI_clamp (by omega)) (rfl) ?_
        refine z_if_eq X 34 dX8_next_18 (by decide) (fun c_18 => ?_) (fun c_18 => ?_)
        · skip
          refine z_iconst (v := 0) X dX8_next_34 (by decide) ?_
          refine z_istore_n (ls' := [(3, .int 0), (0, .ref 1), (1, .int (m_next i p)), (2, .int (nI p))]) X dX8_next_35 rfl (by decide) rfl ?_
          refine z_iload_n X 0 dX8_next_36 rfl rfl ?_
          refine z_if_eq X 78 dX8_next_37 (by decide) (fun c_37 => ?_) (fun c_37 => ?_)
          · skip
            refine z_iload_n X 2 dX8_next_78 rfl rfl ?_
            refine z_istore_n (ls' := [(1, .int (m_next i p)), (3, .int 0), (0, .ref 1), (2, .int (nI p))]) X dX8_next_79 rfl (by decide) rfl ?_
            refine z_iinc (ls' := [(2, .int (nI (p + 1))), (1, .int (m_next i p)), (3, .int 0), (0, .ref 1)]) (v := nI (p + 1)) X 3 dX8_next_80 rfl (nI_1 _) (by decide) rfl ?_
            refine z_goto (tgt := 4) X dX8_next_83 (by decide) ?_
            refine z_sub (ls' := [(0, .ref 1), (1, .int (m_next i p)), (2, .int (nI (p + 1)))]) [3, 1, 0] rfl ?_
            refine z_lse (ls' := [(0, .ref 1), (1, .int (m_next i (p + 1))), (2, .int (nI (p + 1)))]) (by (try simp only [zb_0, Classical.not_not] at c_9 c_18 c_37); (first | rfl | (simp only [Int32.lt_irrefl, if_true, if_false, not_true_eq_false, not_false_eq_true, and_true, true_and, and_false, false_and, or_true, true_or, or_false, false_or, and_self, ite_self, zb, m_next, c_9, c_18, c_37, eq_true c_9, eq_true c_18, eq_true c_37]; done) | (simp only [Int32.lt_irrefl, if_true, if_false, not_true_eq_false, not_false_eq_true, and_true, true_and, and_false, false_and, or_true, true_or, or_false, false_or, and_self, ite_self, zb, m_next, c_9, c_18, c_37, eq_true c_9, eq_true c_18, eq_true c_37]; rfl))) ?_
            exact ih4
          · exact absurd c_37 (by decide)
        · skip
          refine z_aload_n X 0 dX8_next_21 rfl rfl ?_
          refine z_getR (ci := 11) (j := 13) (o' := 113) X dX8_next_22 zmm_c1 rfl (by decide) hlk_49 (Or.inl rfl) (fun _ => rfl) (zmm_r113) ?_
          refine z_iload_n X 2 dX8_next_25 rfl rfl ?_
          refine z_zald (j := p) (x := i 113 p) X dX8_next_26 zmm_c113 (by rw [zmm_n113]; exact vp_in_nI (by omega) (by decide)) (nI_clamp (by omega)) (rfl) ?_
          refine z_if_ne X 34 dX8_next_27 (by decide) (fun c_27 => ?_) (fun c_27 => ?_)
          · skip
            refine z_iconst (v := 0) X dX8_next_34 (by decide) ?_
            refine z_istore_n (ls' := [(3, .int 0), (0, .ref 1), (1, .int (m_next i p)), (2, .int (nI p))]) X dX8_next_35 rfl (by decide) rfl ?_
            refine z_iload_n X 0 dX8_next_36 rfl rfl ?_
            refine z_if_eq X 78 dX8_next_37 (by decide) (fun c_37 => ?_) (fun c_37 => ?_)
            · skip
              refine z_iload_n X 2 dX8_next_78 rfl rfl ?_
              refine z_istore_n (ls' := [(1, .int (m_next i p)), (3, .int 0), (0, .ref 1), (2, .int (nI p))]) X dX8_next_79 rfl (by decide) rfl ?_
              refine z_iinc (ls' := [(2, .int (nI (p + 1))), (1, .int (m_next i p)), (3, .int 0), (0, .ref 1)]) (v := nI (p + 1)) X 3 dX8_next_80 rfl (nI_1 _) (by decide) rfl ?_
              refine z_goto (tgt := 4) X dX8_next_83 (by decide) ?_
              refine z_sub (ls' := [(0, .ref 1), (1, .int (m_next i p)), (2, .int (nI (p + 1)))]) [3, 1, 0] rfl ?_
              refine z_lse (ls' := [(0, .ref 1), (1, .int (m_next i (p + 1))), (2, .int (nI (p + 1)))]) (by (try simp only [zb_0, Classical.not_not] at c_9 c_18 c_27 c_37); (first | rfl | (simp only [Int32.lt_irrefl, if_true, if_false, not_true_eq_false, not_false_eq_true, and_true, true_and, and_false, false_and, or_true, true_or, or_false, false_or, and_self, ite_self, zb, m_next, c_9, c_18, c_27, c_37, eq_true c_9, eq_true c_18, eq_true c_27, eq_true c_37]; done) | (simp only [Int32.lt_irrefl, if_true, if_false, not_true_eq_false, not_false_eq_true, and_true, true_and, and_false, false_and, or_true, true_or, or_false, false_or, and_self, ite_self, zb, m_next, c_9, c_18, c_27, c_37, eq_true c_9, eq_true c_18, eq_true c_27, eq_true c_37]; rfl))) ?_
              exact ih4
            · exact absurd c_37 (by decide)
          · skip
            refine z_iconst (v := 1) X dX8_next_30 (by decide) ?_
            refine z_goto (tgt := 35) X dX8_next_31 (by decide) ?_
            refine z_istore_n (ls' := [(3, .int 1), (0, .ref 1), (1, .int (m_next i p)), (2, .int (nI p))]) X dX8_next_35 rfl (by decide) rfl ?_
            refine z_iload_n X 0 dX8_next_36 rfl rfl ?_
            refine z_if_eq X 78 dX8_next_37 (by decide) (fun c_37 => ?_) (fun c_37 => ?_)
            · exact absurd c_37 (by decide)
            · skip
              refine z_iload_n X 2 dX8_next_40 rfl rfl ?_
              refine z_iconst (v := (-1)) X dX8_next_41 (by decide) ?_
              refine z_icmp_eq X 74 dX8_next_42 (by decide) (fun c_42 => ?_) (fun c_42 => ?_)
              · skip
                refine z_iload_n X 3 dX8_next_74 rfl rfl ?_
                refine z_goto (tgt := 79) X dX8_next_75 (by decide) ?_
                refine z_istore_n (ls' := [(1, .int (nI p)), (3, .int 1), (0, .ref 1), (2, .int (nI p))]) X dX8_next_79 rfl (by decide) rfl ?_
                refine z_iinc (ls' := [(2, .int (nI (p + 1))), (1, .int (nI p)), (3, .int 1), (0, .ref 1)]) (v := nI (p + 1)) X 3 dX8_next_80 rfl (nI_1 _) (by decide) rfl ?_
                refine z_goto (tgt := 4) X dX8_next_83 (by decide) ?_
                refine z_sub (ls' := [(0, .ref 1), (1, .int (nI p)), (2, .int (nI (p + 1)))]) [3, 1, 0] rfl ?_
                refine z_lse (ls' := [(0, .ref 1), (1, .int (m_next i (p + 1))), (2, .int (nI (p + 1)))]) (by (try simp only [zb_0, Classical.not_not] at c_9 c_18 c_27 c_37 c_42); (first | rfl | (simp only [Int32.lt_irrefl, if_true, if_false, not_true_eq_false, not_false_eq_true, and_true, true_and, and_false, false_and, or_true, true_or, or_false, false_or, and_self, ite_self, zb, m_next, c_9, c_18, c_27, c_37, c_42, eq_true c_9, eq_true c_18, eq_true c_27, eq_true c_37, eq_true c_42]; done) | (simp only [Int32.lt_irrefl, if_true, if_false, not_true_eq_false, not_false_eq_true, and_true, true_and, and_false, false_and, or_true, true_or, or_false, false_or, and_self, ite_self, zb, m_next, c_9, c_18, c_27, c_37, c_42, eq_true c_9, eq_true c_18, eq_true c_27, eq_true c_37, eq_true c_42]; rfl))) ?_
                exact ih4
              · skip
                refine z_aload_n X 1 dX8_next_45 rfl rfl ?_
                refine z_getR (ci := 11) (j := 10) (o' := 110) X dX8_next_46 zmm_c1 rfl (by decide) hlk_39 (Or.inl rfl) (fun _ => rfl) (zmm_r110) ?_
                refine z_iload_n X 3 dX8_next_49 rfl rfl ?_
                refine z_iald (j := p) (x := i 110 p) X dX8_next_50 zmm_c110 (by rw [zmm_n110]; exact vp_in_nI (by omega) (by decide)) (nI_clamp (by omega)) (rfl) ?_
                refine z_aload_n X 1 dX8_next_51 rfl rfl ?_
                refine z_getR (ci := 11) (j := 6) (o' := 106) X dX8_next_52 zmm_c1 rfl (by decide) hlk_26 (Or.inl rfl) (fun _ => rfl) (zmm_r106) ?_
                refine z_iload_n X 3 dX8_next_55 rfl rfl ?_
                refine z_iald (j := p) (x := i 106 p) X dX8_next_56 zmm_c106 (by rw [zmm_n106]; exact vp_in_nI (by omega) (by decide)) (nI_clamp (by omega)) (rfl) ?_
                refine z_isub X dX8_next_57 ?_
                refine z_aload_n X 1 dX8_next_58 rfl rfl ?_
                refine z_getR (ci := 11) (j := 10) (o' := 110) X dX8_next_59 zmm_c1 rfl (by decide) hlk_39 (Or.inl rfl) (fun _ => rfl) (zmm_r110) ?_
                refine z_iload_n X 2 dX8_next_62 rfl rfl ?_
                refine z_iald (j := cl (m_next i p)) (x := i 110 (cl (m_next i p))) X dX8_next_63 zmm_c110 (by rw [zmm_n110]; exact m_next_in i (by omega) c_42) (rfl) (rfl) ?_
                refine z_aload_n X 1 dX8_next_64 rfl rfl ?_
                refine z_getR (ci := 11) (j := 6) (o' := 106) X dX8_next_65 zmm_c1 rfl (by decide) hlk_26 (Or.inl rfl) (fun _ => rfl) (zmm_r106) ?_
                refine z_iload_n X 2 dX8_next_68 rfl rfl ?_
                refine z_iald (j := cl (m_next i p)) (x := i 106 (cl (m_next i p))) X dX8_next_69 zmm_c106 (by rw [zmm_n106]; exact m_next_in i (by omega) c_42) (rfl) (rfl) ?_
                refine z_isub X dX8_next_70 ?_
                refine z_icmp_le X 78 dX8_next_71 (by decide) (fun c_71 => ?_) (fun c_71 => ?_)
                · skip
                  refine z_iload_n X 2 dX8_next_78 rfl rfl ?_
                  refine z_istore_n (ls' := [(1, .int (m_next i p)), (3, .int 1), (0, .ref 1), (2, .int (nI p))]) X dX8_next_79 rfl (by decide) rfl ?_
                  refine z_iinc (ls' := [(2, .int (nI (p + 1))), (1, .int (m_next i p)), (3, .int 1), (0, .ref 1)]) (v := nI (p + 1)) X 3 dX8_next_80 rfl (nI_1 _) (by decide) rfl ?_
                  refine z_goto (tgt := 4) X dX8_next_83 (by decide) ?_
                  refine z_sub (ls' := [(0, .ref 1), (1, .int (m_next i p)), (2, .int (nI (p + 1)))]) [3, 1, 0] rfl ?_
                  refine z_lse (ls' := [(0, .ref 1), (1, .int (m_next i (p + 1))), (2, .int (nI (p + 1)))]) (by (try simp only [zb_0, Classical.not_not] at c_9 c_18 c_27 c_37 c_42 c_71); (first | rfl | (simp only [Int32.lt_irrefl, if_true, if_false, not_true_eq_false, not_false_eq_true, and_true, true_and, and_false, false_and, or_true, true_or, or_false, false_or, and_self, ite_self, zb, m_next, c_9, c_18, c_27, c_37, c_42, c_71, eq_true c_9, eq_true c_18, eq_true c_27, eq_true c_37, eq_true c_42, eq_true c_71]; done) | (simp only [Int32.lt_irrefl, if_true, if_false, not_true_eq_false, not_false_eq_true, and_true, true_and, and_false, false_and, or_true, true_or, or_false, false_or, and_self, ite_self, zb, m_next, c_9, c_18, c_27, c_37, c_42, c_71, eq_true c_9, eq_true c_18, eq_true c_27, eq_true c_37, eq_true c_42, eq_true c_71]; rfl))) ?_
                  exact ih4
                · skip
                  refine z_iload_n X 3 dX8_next_74 rfl rfl ?_
                  refine z_goto (tgt := 79) X dX8_next_75 (by decide) ?_
                  refine z_istore_n (ls' := [(1, .int (nI p)), (3, .int 1), (0, .ref 1), (2, .int (nI p))]) X dX8_next_79 rfl (by decide) rfl ?_
                  refine z_iinc (ls' := [(2, .int (nI (p + 1))), (1, .int (nI p)), (3, .int 1), (0, .ref 1)]) (v := nI (p + 1)) X 3 dX8_next_80 rfl (nI_1 _) (by decide) rfl ?_
                  refine z_goto (tgt := 4) X dX8_next_83 (by decide) ?_
                  refine z_sub (ls' := [(0, .ref 1), (1, .int (nI p)), (2, .int (nI (p + 1)))]) [3, 1, 0] rfl ?_
                  refine z_lse (ls' := [(0, .ref 1), (1, .int (m_next i (p + 1))), (2, .int (nI (p + 1)))]) (by (try simp only [zb_0, Classical.not_not] at c_9 c_18 c_27 c_37 c_42 c_71); (first | rfl | (simp only [Int32.lt_irrefl, if_true, if_false, not_true_eq_false, not_false_eq_true, and_true, true_and, and_false, false_and, or_true, true_or, or_false, false_or, and_self, ite_self, zb, m_next, c_9, c_18, c_27, c_37, c_42, c_71, eq_true c_9, eq_true c_18, eq_true c_27, eq_true c_37, eq_true c_42, eq_true c_71]; done) | (simp only [Int32.lt_irrefl, if_true, if_false, not_true_eq_false, not_false_eq_true, and_true, true_and, and_false, false_and, or_true, true_or, or_false, false_or, and_self, ite_self, zb, m_next, c_9, c_18, c_27, c_37, c_42, c_71, eq_true c_9, eq_true c_18, eq_true c_27, eq_true c_37, eq_true c_42, eq_true c_71]; rfl))) ?_
                  exact ih4
  refine z_sub (ls' := [(0, .ref 1), (1, .int (-1)), (2, .int 0)]) [2, 1, 0] rfl ?_
  refine z_lse (ls' := [(0, .ref 1), (1, .int (m_next i 0)), (2, .int (nI 0))]) (rfl) ?_
  exact hloop4 0 (Nat.zero_le _)

set_option maxRecDepth 100000 in
set_option maxHeartbeats 4000000 in
theorem c_X8_powers (l : Launch) (i : Nat → Nat → Int32) (lm : Nat → Nat → Int64) (nr : Nat) (hn : i 1 17 = nI nr) (h4 : nr ≤ 4) : zS l yX8_powers wsX8_powers 1 23 0 0 [.ref 1] (zmm i lm) (zpv (fun M1 => M1 = zmm (m_powers i nr) lm)) zno := by
  refine z_intro (cc := cX8_powers) (maxL := 2) (ret := none) (by decide +kernel) rfl (Nat.le_of_ble_eq_true rfl) ?_
  have hlk_139 : Cond.fieldLink RX8 139 "ColdStoreModel" "powerNow" "I" ∈ wsX8_powers := by decide +kernel
  have hlk_119 : Cond.fieldLink RX8 119 "ColdStoreModel" "rooms" "I" ∈ wsX8_powers := by decide +kernel
  have hlk_49 : Cond.fieldLink RX8 49 "ColdStoreModel" "isGiven" "[Z" ∈ wsX8_powers := by decide +kernel
  have hlk_46 : Cond.fieldLink RX8 46 "ColdStoreModel" "cooled" "[Z" ∈ wsX8_powers := by decide +kernel
  have hlk_20 : Cond.fieldLink RX8 20 "ColdStoreModel" "powers" "[I" ∈ wsX8_powers := by decide +kernel
  have hlk_74 : Cond.fieldLink RX8 74 "ColdStoreModel" "limit" "I" ∈ wsX8_powers := by decide +kernel
  intro g X
  show zE g 2 0 [(0, .ref 1)] [] (zmm i lm) 0 0
  refine z_aload_n X 0 dX8_powers_0 rfl rfl ?_
  refine z_iconst (v := 0) X dX8_powers_1 (by decide) ?_
  refine z_putI (ci := 11) (j := 24) X dX8_powers_2 zmm_c1 rfl (by decide) hlk_139 (Or.inl rfl) (Or.inl rfl) (fun _ => rfl) rfl rfl ?_
  obtain ⟨i_1, hi_1⟩ : ∃ q, q = zup i 1 24 0 := ⟨_, rfl⟩
  refine z_mem (M' := zmm i_1 lm) (by rw [hi_1]; rfl) ?_
  refine z_iconst (v := 0) X dX8_powers_5 (by decide) ?_
  refine z_istore_n (ls' := [(1, .int 0), (0, .ref 1)]) X dX8_powers_6 rfl (by decide) rfl ?_
  have hloop7 : ∀ p : Nat, p ≤ nr → zE g 2 7 [(0, .ref 1), (1, .int (nI p))] [] (zmm (m_pwc i p) lm) 0 0 := by
    refine z_loop (fun p => zE g 2 7 [(0, .ref 1), (1, .int (nI p))] [] (zmm (m_pwc i p) lm) 0 0) nr ?_ ?_
    · show zE g 2 7 [(0, .ref 1), (1, .int (nI nr))] [] (zmm (m_pwc i nr) lm) 0 0
      refine z_iload_n X 1 dX8_powers_7 rfl rfl ?_
      refine z_aload_n X 0 dX8_powers_8 rfl rfl ?_
      refine z_getI (ci := 11) (j := 17) (x := (m_pwc i nr) 1 17) X dX8_powers_9 zmm_c1 rfl (by decide) hlk_119 (Or.inl rfl) (fun _ => rfl) (rfl) ?_
      refine z_icmp_ge X 35 dX8_powers_12 (by decide) (fun c_12 => ?_) (fun c_12 => ?_)
      · skip
        refine z_aload_n X 0 dX8_powers_35 rfl rfl ?_
        refine z_callVi (As := []) (rest := []) (n1 := 0) (ci := 11) X dX8_powers_36 (c_X8_next l _ _ nr (by rw [m_pwc_k (by decide)]; exact hn) h4) gX8_powers_X8_next rfl rfl (by decide +kernel) ⟨by decide, by decide⟩ zmm_c1 rfl rfl (Nat.le_of_ble_eq_true rfl) ⟨by decide, by decide⟩ (fun _ h => h.elim) ?_
        rintro _ _ ⟨rfl, rfl⟩
        refine z_istore_n (ls' := [(1, .int (m_next (m_pwc i nr) nr)), (0, .ref 1)]) X dX8_powers_39 rfl (by decide) rfl ?_
        have hgive : ∀ (m : Nat) (j : Nat → Nat → Int32), j 1 17 = nI nr → m_ung j nr ≤ m → m_giveN nr m j = m_powers i nr → zE g 2 40 [(1, .int (m_next j nr)), (0, .ref 1)] [] (zmm j lm) 0 0 := by
          intro m
          induction m with
          | zero =>
            intro j hnj hu hF
            refine z_iload_n X 0 dX8_powers_40 rfl rfl ?_
            refine z_iconst (v := (-1)) X dX8_powers_41 (by decide) ?_
            refine z_icmp_eq X 117 dX8_powers_42 (by decide) (fun c_42 => ?_) (fun c_42 => ?_)
            · skip
              refine z_vret X rfl (Nat.le_refl _) (Nat.le_refl _) dX8_powers_117 ?_
              exact ⟨rfl, by rw [← hF]; rfl⟩
            · exact absurd (m_give1_ung h4 c_42) (by omega)
          | succ m ih =>
            intro j hnj hu hF
            refine z_iload_n X 0 dX8_powers_40 rfl rfl ?_
            refine z_iconst (v := (-1)) X dX8_powers_41 (by decide) ?_
            refine z_icmp_eq X 117 dX8_powers_42 (by decide) (fun c_42 => ?_) (fun c_42 => ?_)
            · skip
              refine z_vret X rfl (Nat.le_refl _) (Nat.le_refl _) dX8_powers_117 ?_
              exact ⟨rfl, by rw [← hF]; unfold m_giveN; rw [if_pos c_42]⟩
            · skip
              refine z_aload_n X 1 dX8_powers_45 rfl rfl ?_
              refine z_getR (ci := 11) (j := 13) (o' := 113) X dX8_powers_46 zmm_c1 rfl (by decide) hlk_49 (Or.inl rfl) (fun _ => rfl) (zmm_r113) ?_
              refine z_iload_n X 0 dX8_powers_49 rfl rfl ?_
              refine z_iconst (v := 1) X dX8_powers_50 (by decide) ?_
              refine z_zast (j := cl (m_next j nr)) X dX8_powers_51 zmm_c113 (by rw [zmm_n113]; exact m_next_in j (by omega) c_42) (rfl) (rfl) ?_
              obtain ⟨i_2, hi_2⟩ : ∃ q, q = zup j 113 (cl (m_next j nr)) 1 := ⟨_, rfl⟩
              refine z_mem (M' := zmm i_2 lm) (by rw [hi_2]; rfl) ?_
              refine z_aload_n X 1 dX8_powers_52 rfl rfl ?_
              refine z_getR (ci := 11) (j := 12) (o' := 112) X dX8_powers_53 zmm_c1 rfl (by decide) hlk_46 (Or.inl rfl) (fun _ => rfl) (zmm_r112) ?_
              refine z_iload_n X 0 dX8_powers_56 rfl rfl ?_
              refine z_aload_n X 1 dX8_powers_57 rfl rfl ?_
              refine z_getI (ci := 11) (j := 24) (x := j 1 24) X dX8_powers_58 zmm_c1 rfl (by decide) hlk_139 (Or.inl rfl) (fun _ => rfl) (by show i_2 1 24 = (j 1 24); rw [hi_2, zup_n (by omega)]) ?_
              refine z_aload_n X 1 dX8_powers_61 rfl rfl ?_
              refine z_getR (ci := 11) (j := 4) (o' := 104) X dX8_powers_62 zmm_c1 rfl (by decide) hlk_20 (Or.inl rfl) (fun _ => rfl) (zmm_r104) ?_
              refine z_iload_n X 0 dX8_powers_65 rfl rfl ?_
              refine z_iald (j := cl (m_next j nr)) (x := j 104 (cl (m_next j nr))) X dX8_powers_66 zmm_c104 (by rw [zmm_n104]; exact m_next_in j (by omega) c_42) (rfl) (by show i_2 104 (cl (m_next j nr)) = (j 104 (cl (m_next j nr))); rw [hi_2, zup_n (by omega)]) ?_
              refine z_iadd X dX8_powers_67 ?_
              refine z_aload_n X 1 dX8_powers_68 rfl rfl ?_
              refine z_getI (ci := 11) (j := 23) (x := j 1 23) X dX8_powers_69 zmm_c1 rfl (by decide) hlk_74 (Or.inl rfl) (fun _ => rfl) (by show i_2 1 23 = (j 1 23); rw [hi_2, zup_n (by omega)]) ?_
              refine z_icmp_gt X 79 dX8_powers_72 (by decide) (fun c_72 => ?_) (fun c_72 => ?_)
              · skip
                refine z_iconst (v := 0) X dX8_powers_79 (by decide) ?_
                refine z_zast (j := cl (m_next j nr)) X dX8_powers_80 zmm_c112 (by rw [zmm_n112]; exact m_next_in j (by omega) c_42) (rfl) (rfl) ?_
                obtain ⟨i_3, hi_3⟩ : ∃ q, q = zup i_2 112 (cl (m_next j nr)) 0 := ⟨_, rfl⟩
                refine z_mem (M' := zmm i_3 lm) (by rw [hi_3]; rfl) ?_
                refine z_aload_n X 1 dX8_powers_81 rfl rfl ?_
                refine z_dup X dX8_powers_82 rfl ?_
                refine z_getI (ci := 11) (j := 24) (x := j 1 24) X dX8_powers_83 zmm_c1 rfl (by decide) hlk_139 (Or.inl rfl) (fun _ => rfl) (by show i_3 1 24 = (j 1 24); rw [hi_3, zup_n (by omega)]; rw [hi_2, zup_n (by omega)]) ?_
                refine z_aload_n X 1 dX8_powers_86 rfl rfl ?_
                refine z_getR (ci := 11) (j := 12) (o' := 112) X dX8_powers_87 zmm_c1 rfl (by decide) hlk_46 (Or.inl rfl) (fun _ => rfl) (zmm_r112) ?_
                refine z_iload_n X 0 dX8_powers_90 rfl rfl ?_
                refine z_zald (j := cl (m_next j nr)) (x := 0) X dX8_powers_91 zmm_c112 (by rw [zmm_n112]; exact m_next_in j (by omega) c_42) (rfl) (by show i_3 112 (cl (m_next j nr)) = 0; rw [hi_3, zup_s]) ?_
                refine z_if_eq X 104 dX8_powers_92 (by decide) (fun c_92 => ?_) (fun c_92 => ?_)
                · skip
                  refine z_iconst (v := 0) X dX8_powers_104 (by decide) ?_
                  refine z_iadd X dX8_powers_105 ?_
                  refine z_putI (ci := 11) (j := 24) X dX8_powers_106 zmm_c1 rfl (by decide) hlk_139 (Or.inl rfl) (Or.inl rfl) (fun _ => rfl) rfl rfl ?_
                  obtain ⟨i_4, hi_4⟩ : ∃ q, q = zup i_3 1 24 ((j 1 24) + 0) := ⟨_, rfl⟩
                  refine z_mem (M' := zmm i_4 lm) (by rw [hi_4]; rfl) ?_
                  refine z_aload_n X 1 dX8_powers_109 rfl rfl ?_
                  refine z_callVi (As := []) (rest := []) (n1 := 0) (ci := 11) X dX8_powers_110 (c_X8_next l _ _ nr (by subst hi_4; subst hi_3; subst hi_2; rw [zup_n (by decide), zup_n (by omega), zup_n (by omega)]; exact hnj) h4) gX8_powers_X8_next rfl rfl (by decide +kernel) ⟨by decide, by decide⟩ zmm_c1 rfl rfl (Nat.le_of_ble_eq_true rfl) ⟨by decide, by decide⟩ (fun _ h => h.elim) ?_
                  rintro _ _ ⟨rfl, rfl⟩
                  refine z_istore_n (ls' := [(1, .int (m_next i_4 nr)), (0, .ref 1)]) X dX8_powers_113 rfl (by decide) rfl ?_
                  refine z_goto (tgt := 40) X dX8_powers_114 (by decide) ?_
                  rw [show m_giveN nr (m + 1) j = m_giveN nr m (m_give1 j (cl (m_next j nr))) from if_neg c_42] at hF
                  refine z_sub (ls' := [(1, .int (m_next i_4 nr)), (0, .ref 1)]) [0, 1] rfl ?_
                  have he : i_4 = m_give1 j (cl (m_next j nr)) := by subst hi_4; subst hi_3; subst hi_2; (first | rfl | (simp only [Int32.lt_irrefl, if_true, if_false, not_true_eq_false, not_false_eq_true, and_true, true_and, and_false, false_and, or_true, true_or, or_false, false_or, and_self, ite_self, zb, m_give1, c_42, c_72, c_92, eq_true c_42, eq_true c_72, eq_true c_92]; done) | (simp only [Int32.lt_irrefl, if_true, if_false, not_true_eq_false, not_false_eq_true, and_true, true_and, and_false, false_and, or_true, true_or, or_false, false_or, and_self, ite_self, zb, m_give1, c_42, c_72, c_92, eq_true c_42, eq_true c_72, eq_true c_92]; rfl))
                  rw [he]
                  exact ih _ (by rw [m_give1_k (by decide)]; exact hnj) (by have := m_give1_ung h4 c_42; omega) hF
                · exact absurd c_92 (by decide)
              · skip
                refine z_iconst (v := 1) X dX8_powers_75 (by decide) ?_
                refine z_goto (tgt := 80) X dX8_powers_76 (by decide) ?_
                refine z_zast (j := cl (m_next j nr)) X dX8_powers_80 zmm_c112 (by rw [zmm_n112]; exact m_next_in j (by omega) c_42) (rfl) (rfl) ?_
                obtain ⟨i_5, hi_5⟩ : ∃ q, q = zup i_2 112 (cl (m_next j nr)) 1 := ⟨_, rfl⟩
                refine z_mem (M' := zmm i_5 lm) (by rw [hi_5]; rfl) ?_
                refine z_aload_n X 1 dX8_powers_81 rfl rfl ?_
                refine z_dup X dX8_powers_82 rfl ?_
                refine z_getI (ci := 11) (j := 24) (x := j 1 24) X dX8_powers_83 zmm_c1 rfl (by decide) hlk_139 (Or.inl rfl) (fun _ => rfl) (by show i_5 1 24 = (j 1 24); rw [hi_5, zup_n (by omega)]; rw [hi_2, zup_n (by omega)]) ?_
                refine z_aload_n X 1 dX8_powers_86 rfl rfl ?_
                refine z_getR (ci := 11) (j := 12) (o' := 112) X dX8_powers_87 zmm_c1 rfl (by decide) hlk_46 (Or.inl rfl) (fun _ => rfl) (zmm_r112) ?_
                refine z_iload_n X 0 dX8_powers_90 rfl rfl ?_
                refine z_zald (j := cl (m_next j nr)) (x := 1) X dX8_powers_91 zmm_c112 (by rw [zmm_n112]; exact m_next_in j (by omega) c_42) (rfl) (by show i_5 112 (cl (m_next j nr)) = 1; rw [hi_5, zup_s]) ?_
                refine z_if_eq X 104 dX8_powers_92 (by decide) (fun c_92 => ?_) (fun c_92 => ?_)
                · exact absurd c_92 (by decide)
                · skip
                  refine z_aload_n X 1 dX8_powers_95 rfl rfl ?_
                  refine z_getR (ci := 11) (j := 4) (o' := 104) X dX8_powers_96 zmm_c1 rfl (by decide) hlk_20 (Or.inl rfl) (fun _ => rfl) (zmm_r104) ?_
                  refine z_iload_n X 0 dX8_powers_99 rfl rfl ?_
                  refine z_iald (j := cl (m_next j nr)) (x := j 104 (cl (m_next j nr))) X dX8_powers_100 zmm_c104 (by rw [zmm_n104]; exact m_next_in j (by omega) c_42) (rfl) (by show i_5 104 (cl (m_next j nr)) = (j 104 (cl (m_next j nr))); rw [hi_5, zup_n (by omega)]; rw [hi_2, zup_n (by omega)]) ?_
                  refine z_goto (tgt := 105) X dX8_powers_101 (by decide) ?_
                  refine z_iadd X dX8_powers_105 ?_
                  refine z_putI (ci := 11) (j := 24) X dX8_powers_106 zmm_c1 rfl (by decide) hlk_139 (Or.inl rfl) (Or.inl rfl) (fun _ => rfl) rfl rfl ?_
                  obtain ⟨i_6, hi_6⟩ : ∃ q, q = zup i_5 1 24 ((j 1 24) + (j 104 (cl (m_next j nr)))) := ⟨_, rfl⟩
                  refine z_mem (M' := zmm i_6 lm) (by rw [hi_6]; rfl) ?_
                  refine z_aload_n X 1 dX8_powers_109 rfl rfl ?_
                  refine z_callVi (As := []) (rest := []) (n1 := 0) (ci := 11) X dX8_powers_110 (c_X8_next l _ _ nr (by subst hi_6; subst hi_5; subst hi_2; rw [zup_n (by decide), zup_n (by omega), zup_n (by omega)]; exact hnj) h4) gX8_powers_X8_next rfl rfl (by decide +kernel) ⟨by decide, by decide⟩ zmm_c1 rfl rfl (Nat.le_of_ble_eq_true rfl) ⟨by decide, by decide⟩ (fun _ h => h.elim) ?_
                  rintro _ _ ⟨rfl, rfl⟩
                  refine z_istore_n (ls' := [(1, .int (m_next i_6 nr)), (0, .ref 1)]) X dX8_powers_113 rfl (by decide) rfl ?_
                  refine z_goto (tgt := 40) X dX8_powers_114 (by decide) ?_
                  rw [show m_giveN nr (m + 1) j = m_giveN nr m (m_give1 j (cl (m_next j nr))) from if_neg c_42] at hF
                  refine z_sub (ls' := [(1, .int (m_next i_6 nr)), (0, .ref 1)]) [0, 1] rfl ?_
                  have he : i_6 = m_give1 j (cl (m_next j nr)) := by subst hi_6; subst hi_5; subst hi_2; (first | rfl | (simp only [Int32.lt_irrefl, if_true, if_false, not_true_eq_false, not_false_eq_true, and_true, true_and, and_false, false_and, or_true, true_or, or_false, false_or, and_self, ite_self, zb, m_give1, c_42, c_72, c_92, eq_true c_42, eq_true c_72, eq_true c_92]; done) | (simp only [Int32.lt_irrefl, if_true, if_false, not_true_eq_false, not_false_eq_true, and_true, true_and, and_false, false_and, or_true, true_or, or_false, false_or, and_self, ite_self, zb, m_give1, c_42, c_72, c_92, eq_true c_42, eq_true c_72, eq_true c_92]; rfl))
                  rw [he]
                  exact ih _ (by rw [m_give1_k (by decide)]; exact hnj) (by have := m_give1_ung h4 c_42; omega) hF
        refine z_sub (ls' := [(1, .int (m_next (m_pwc i nr) nr)), (0, .ref 1)]) [0, 1] rfl ?_
        exact hgive nr (m_pwc i nr) (by rw [m_pwc_k (by decide)]; exact hn) (m_ung_le _ _) rfl
      · exact absurd (by rw [m_pwc_k (by decide), hn]; exact Int32.le_refl _) c_12
    · intro p hp_7 ih7
      have ih7 : zE g 2 7 [(0, .ref 1), (1, .int (nI (p + 1)))] [] (zmm (m_pwc i (p + 1)) lm) 0 0 := ih7
      show zE g 2 7 [(0, .ref 1), (1, .int (nI p))] [] (zmm (m_pwc i p) lm) 0 0
      refine z_iload_n X 1 dX8_powers_7 rfl rfl ?_
      refine z_aload_n X 0 dX8_powers_8 rfl rfl ?_
      refine z_getI (ci := 11) (j := 17) (x := (m_pwc i p) 1 17) X dX8_powers_9 zmm_c1 rfl (by decide) hlk_119 (Or.inl rfl) (fun _ => rfl) (rfl) ?_
      refine z_icmp_ge X 35 dX8_powers_12 (by decide) (fun c_12 => ?_) (fun c_12 => ?_)
      · exact absurd (by rw [m_pwc_k (by decide), hn] at c_12; exact c_12) (nI_ge hp_7 (by omega))
      · skip
        refine z_aload_n X 0 dX8_powers_15 rfl rfl ?_
        refine z_getR (ci := 11) (j := 13) (o' := 113) X dX8_powers_16 zmm_c1 rfl (by decide) hlk_49 (Or.inl rfl) (fun _ => rfl) (zmm_r113) ?_
        refine z_iload_n X 1 dX8_powers_19 rfl rfl ?_
        refine z_iconst (v := 0) X dX8_powers_20 (by decide) ?_
        refine z_zast (j := p) X dX8_powers_21 zmm_c113 (by rw [zmm_n113]; exact vp_in_nI (by omega) (by decide)) (nI_clamp (by omega)) (rfl) ?_
        obtain ⟨i_7, hi_7⟩ : ∃ q, q = zup (m_pwc i p) 113 p 0 := ⟨_, rfl⟩
        refine z_mem (M' := zmm i_7 lm) (by rw [hi_7]; rfl) ?_
        refine z_aload_n X 0 dX8_powers_22 rfl rfl ?_
        refine z_getR (ci := 11) (j := 12) (o' := 112) X dX8_powers_23 zmm_c1 rfl (by decide) hlk_46 (Or.inl rfl) (fun _ => rfl) (zmm_r112) ?_
        refine z_iload_n X 1 dX8_powers_26 rfl rfl ?_
        refine z_iconst (v := 0) X dX8_powers_27 (by decide) ?_
        refine z_zast (j := p) X dX8_powers_28 zmm_c112 (by rw [zmm_n112]; exact vp_in_nI (by omega) (by decide)) (nI_clamp (by omega)) (rfl) ?_
        obtain ⟨i_8, hi_8⟩ : ∃ q, q = zup i_7 112 p 0 := ⟨_, rfl⟩
        refine z_mem (M' := zmm i_8 lm) (by rw [hi_8]; rfl) ?_
        refine z_iinc (ls' := [(1, .int (nI (p + 1))), (0, .ref 1)]) (v := nI (p + 1)) X 1 dX8_powers_29 rfl (nI_1 _) (by decide) rfl ?_
        refine z_goto (tgt := 7) X dX8_powers_32 (by decide) ?_
        refine z_sub (ls' := [(0, .ref 1), (1, .int (nI (p + 1)))]) [1, 0] rfl ?_
        refine z_lse (ls' := [(0, .ref 1), (1, .int (nI (p + 1)))]) (rfl) ?_
        refine z_mem (M' := zmm (m_pwc i (p + 1)) lm) (by subst hi_8; subst hi_7; rfl) ?_
        exact ih7
  refine z_sub (ls' := [(0, .ref 1), (1, .int 0)]) [1, 0] rfl ?_
  refine z_lse (ls' := [(0, .ref 1), (1, .int (nI 0))]) (rfl) ?_
  refine z_mem (M' := zmm (m_pwc i 0) lm) (by subst hi_1; rfl) ?_
  exact hloop7 0 (Nat.zero_le _)
