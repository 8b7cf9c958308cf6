set_option maxRecDepth 100000 in
set_option maxHeartbeats 4000000 in
theorem c_X8_candidate (l : Launch) (i : Nat → Nat → Int32) (lm : Nat → Nat → Int64) (o : Nat) (ho : o < 12) (x : Int32) (np : Nat) (hp : i 1 35 = nI np) (h24 : np ≤ 24) : zS l yX8_candidate wsX8_candidate 1 22 0 0 [.ref 1, .int (nI o), .int x] (zmm i lm) (zpi (fun r M1 => r = m_cand i o np x ∧ M1 = zmm i lm)) zno := by
  refine z_intro (cc := cX8_candidate) (maxL := 6) (ret := (some .int)) (by decide +kernel) rfl (Nat.le_of_ble_eq_true rfl) ?_
  have hlk_126 : Cond.fieldLink RX8 126 "ColdStoreModel" "pallets" "I" ∈ wsX8_candidate := by decide +kernel
  have hlk_92 : Cond.fieldLink RX8 92 "ColdStoreModel" "lifeOf" "[I" ∈ wsX8_candidate := by decide +kernel
  intro g X
  show zE g 6 0 [(0, .ref 1), (1, .int (nI o)), (2, .int x)] [] (zmm i lm) 0 0
  refine z_iconst (v := 0) X dX8_candidate_0 (by decide) ?_
  refine z_istore_n (ls' := [(3, .int 0), (0, .ref 1), (1, .int (nI o)), (2, .int x)]) X dX8_candidate_1 rfl (by decide) rfl ?_
  have hloop2 : ∀ p : Nat, p ≤ np → (∀ q, q < p → m_here i o np x q = false) → zE g 6 2 [(0, .ref 1), (1, .int (nI o)), (2, .int x), (3, .int (nI p))] [] (zmm i lm) 0 0 := by
    refine z_loop (fun p => (∀ q, q < p → m_here i o np x q = false) → zE g 6 2 [(0, .ref 1), (1, .int (nI o)), (2, .int x), (3, .int (nI p))] [] (zmm i lm) 0 0) np ?_ ?_
    · intro hinv2
      show zE g 6 2 [(0, .ref 1), (1, .int (nI o)), (2, .int x), (3, .int (nI np))] [] (zmm i lm) 0 0
      refine z_iload_n X 3 dX8_candidate_2 rfl rfl ?_
      refine z_aload_n X 0 dX8_candidate_3 rfl rfl ?_
      refine z_getI (ci := 11) (j := 35) (x := i 1 35) X dX8_candidate_4 zmm_c1 rfl (by decide) hlk_126 (Or.inl rfl) (fun _ => rfl) (rfl) ?_
      refine z_icmp_ge X 121 dX8_candidate_7 (by decide) (fun c_7 => ?_) (fun c_7 => ?_)
      · skip
        refine z_iconst (v := (-1)) X dX8_candidate_121 (by decide) ?_
        refine z_iret X rfl rfl (Nat.le_refl _) (Nat.le_refl _) dX8_candidate_122 ?_
        exact ⟨_, rfl, by unfold m_cand; rw [zfst_none hinv2, if_neg (Nat.lt_irrefl _)], rfl⟩
      · exact absurd (by rw [hp]; exact Int32.le_refl _) c_7
    · intro p hp_2 ih2
      intro hinv2
      have ih2 : (∀ q, q < (p + 1) → m_here i o np x q = false) → zE g 6 2 [(0, .ref 1), (1, .int (nI o)), (2, .int x), (3, .int (nI (p + 1)))] [] (zmm i lm) 0 0 := ih2
      show zE g 6 2 [(0, .ref 1), (1, .int (nI o)), (2, .int x), (3, .int (nI p))] [] (zmm i lm) 0 0
      refine z_iload_n X 3 dX8_candidate_2 rfl rfl ?_
      refine z_aload_n X 0 dX8_candidate_3 rfl rfl ?_
      refine z_getI (ci := 11) (j := 35) (x := i 1 35) X dX8_candidate_4 zmm_c1 rfl (by decide) hlk_126 (Or.inl rfl) (fun _ => rfl) (rfl) ?_
      refine z_icmp_ge X 121 dX8_candidate_7 (by decide) (fun c_7 => ?_) (fun c_7 => ?_)
      · exact absurd (by rw [← hp]; exact c_7) (nI_ge hp_2 (by omega))
      · skip
        by_cases hC : m_isC i o p
        · skip
          refine z_iconst (v := 0) X dX8_candidate_10 (by decide) ?_
          refine z_istore (ls' := [(4, .int 0), (0, .ref 1), (1, .int (nI o)), (2, .int x), (3, .int (nI p))]) X dX8_candidate_11 (by decide) rfl ?_
          refine z_iconst (v := 0) X dX8_candidate_13 (by decide) ?_
          refine z_istore (ls' := [(5, .int 0), (4, .int 0), (0, .ref 1), (1, .int (nI o)), (2, .int x), (3, .int (nI p))]) X dX8_candidate_14 (by decide) rfl ?_
          have hloop16 : ∀ n : Nat, n ≤ np → zE g 6 16 [(0, .ref 1), (1, .int (nI o)), (2, .int x), (3, .int (nI p)), (4, .int (m_ahead i o p n)), (5, .int (nI n))] [] (zmm i lm) 0 0 := by
            refine z_loop (fun n => zE g 6 16 [(0, .ref 1), (1, .int (nI o)), (2, .int x), (3, .int (nI p)), (4, .int (m_ahead i o p n)), (5, .int (nI n))] [] (zmm i lm) 0 0) np ?_ ?_
            · show zE g 6 16 [(0, .ref 1), (1, .int (nI o)), (2, .int x), (3, .int (nI p)), (4, .int (m_ahead i o p np)), (5, .int (nI np))] [] (zmm i lm) 0 0
              refine z_iload X 5 dX8_candidate_16 rfl ?_
              refine z_aload_n X 0 dX8_candidate_18 rfl rfl ?_
              refine z_getI (ci := 11) (j := 35) (x := i 1 35) X dX8_candidate_19 zmm_c1 rfl (by decide) hlk_126 (Or.inl rfl) (fun _ => rfl) (rfl) ?_
              refine z_icmp_ge X 98 dX8_candidate_22 (by decide) (fun c_22 => ?_) (fun c_22 => ?_)
              · skip
                refine z_aload_n X 0 dX8_candidate_98 rfl rfl ?_
                refine z_iload_n X 1 dX8_candidate_99 rfl rfl ?_
                refine z_iload_n X 3 dX8_candidate_100 rfl rfl ?_
                refine z_callVi (As := [.int (nI o), .int (nI p)]) (rest := []) (n1 := 2) (ci := 11) X dX8_candidate_101 (c_X8_isCandidate l _ _ o p (by omega) (by omega)) gX8_candidate_X8_isCandidate rfl rfl (by decide +kernel) ⟨by decide, by decide⟩ zmm_c1 rfl rfl (Nat.le_of_ble_eq_true rfl) ⟨by decide, by decide⟩ (fun _ h => h.elim) ?_
                rintro _ _ ⟨rfl, rfl⟩
                refine z_if_eq X 115 dX8_candidate_104 (by decide) (fun c_104 => ?_) (fun c_104 => ?_)
                · exact absurd hC (zb_0.mp c_104)
                · skip
                  refine z_iload X 4 dX8_candidate_107 rfl ?_
                  refine z_iload_n X 2 dX8_candidate_109 rfl rfl ?_
                  refine z_icmp_ne X 115 dX8_candidate_110 (by decide) (fun c_110 => ?_) (fun c_110 => ?_)
                  · skip
                    refine z_iinc (ls' := [(3, .int (nI (p + 1))), (0, .ref 1), (1, .int (nI o)), (2, .int x), (4, .int (m_ahead i o p np)), (5, .int (nI np))]) (v := nI (p + 1)) X 3 dX8_candidate_115 rfl (nI_1 _) (by decide) rfl ?_
                    refine z_goto (tgt := 2) X dX8_candidate_118 (by decide) ?_
                    refine z_sub (ls' := [(0, .ref 1), (1, .int (nI o)), (2, .int x), (3, .int (nI (p + 1)))]) [1, 2, 3, 0] rfl ?_
                    refine z_lse (ls' := [(0, .ref 1), (1, .int (nI o)), (2, .int x), (3, .int (nI (p + 1)))]) (rfl) ?_
                    exact ih2 (lt_s hinv2 (decide_eq_false (fun h => c_110 h.2)))
                  · skip
                    refine z_iload_n X 3 dX8_candidate_113 rfl rfl ?_
                    refine z_iret X rfl rfl (Nat.le_refl _) (Nat.le_refl _) dX8_candidate_114 ?_
                    exact ⟨_, rfl, by unfold m_cand; rw [zfst_eq hp_2 (decide_eq_true ⟨hC, Classical.not_not.mp (fun h => absurd h (by simpa using c_110))⟩) hinv2, if_pos hp_2], rfl⟩
              · exact absurd (by rw [hp]; exact Int32.le_refl _) c_22
            · intro n hn_16 ih16
              have ih16 : zE g 6 16 [(0, .ref 1), (1, .int (nI o)), (2, .int x), (3, .int (nI p)), (4, .int (m_ahead i o p (n + 1))), (5, .int (nI (n + 1)))] [] (zmm i lm) 0 0 := ih16
              show zE g 6 16 [(0, .ref 1), (1, .int (nI o)), (2, .int x), (3, .int (nI p)), (4, .int (m_ahead i o p n)), (5, .int (nI n))] [] (zmm i lm) 0 0
              refine z_iload X 5 dX8_candidate_16 rfl ?_
              refine z_aload_n X 0 dX8_candidate_18 rfl rfl ?_
              refine z_getI (ci := 11) (j := 35) (x := i 1 35) X dX8_candidate_19 zmm_c1 rfl (by decide) hlk_126 (Or.inl rfl) (fun _ => rfl) (rfl) ?_
              refine z_icmp_ge X 98 dX8_candidate_22 (by decide) (fun c_22 => ?_) (fun c_22 => ?_)
              · exact absurd (by rw [← hp]; exact c_22) (nI_ge hn_16 (by omega))
              · skip
                refine z_aload_n X 0 dX8_candidate_25 rfl rfl ?_
                refine z_iload_n X 1 dX8_candidate_26 rfl rfl ?_
                refine z_iload_n X 3 dX8_candidate_27 rfl rfl ?_
                refine z_callVi (As := [.int (nI o), .int (nI p)]) (rest := []) (n1 := 2) (ci := 11) X dX8_candidate_28 (c_X8_isCandidate l _ _ o p (by omega) (by omega)) gX8_candidate_X8_isCandidate rfl rfl (by decide +kernel) ⟨by decide, by decide⟩ zmm_c1 rfl rfl (Nat.le_of_ble_eq_true rfl) ⟨by decide, by decide⟩ (fun _ h => h.elim) ?_
                rintro _ _ ⟨rfl, rfl⟩
                refine z_if_eq X 98 dX8_candidate_31 (by decide) (fun c_31 => ?_) (fun c_31 => ?_)
                · exact absurd hC (zb_0.mp c_31)
                · skip
                  refine z_iload X 4 dX8_candidate_34 rfl ?_
                  refine z_aload_n X 0 dX8_candidate_36 rfl rfl ?_
                  refine z_iload_n X 1 dX8_candidate_37 rfl rfl ?_
                  refine z_iload X 5 dX8_candidate_38 rfl ?_
                  refine z_callVi (As := [.int (nI o), .int (nI n)]) (rest := [.int (m_ahead i o p n)]) (n1 := 2) (ci := 11) X dX8_candidate_40 (c_X8_isCandidate l _ _ o n (by omega) (by omega)) gX8_candidate_X8_isCandidate rfl rfl (by decide +kernel) ⟨by decide, by decide⟩ zmm_c1 rfl rfl (Nat.le_of_ble_eq_true rfl) ⟨by decide, by decide⟩ (fun _ h => h.elim) ?_
                  rintro _ _ ⟨rfl, rfl⟩
                  refine z_if_eq X 88 dX8_candidate_43 (by decide) (fun c_43 => ?_) (fun c_43 => ?_)
                  · skip
                    refine z_iconst (v := 0) X dX8_candidate_88 (by decide) ?_
                    refine z_iadd X dX8_candidate_89 ?_
                    refine z_istore (ls' := [(4, .int ((m_ahead i o p n) + 0)), (0, .ref 1), (1, .int (nI o)), (2, .int x), (3, .int (nI p)), (5, .int (nI n))]) X dX8_candidate_90 (by decide) rfl ?_
                    refine z_iinc (ls' := [(5, .int (nI (n + 1))), (4, .int ((m_ahead i o p n) + 0)), (0, .ref 1), (1, .int (nI o)), (2, .int x), (3, .int (nI p))]) (v := nI (n + 1)) X 5 dX8_candidate_92 rfl (nI_1 _) (by decide) rfl ?_
                    refine z_goto (tgt := 16) X dX8_candidate_95 (by decide) ?_
                    refine z_sub (ls' := [(0, .ref 1), (1, .int (nI o)), (2, .int x), (3, .int (nI p)), (4, .int ((m_ahead i o p n) + 0)), (5, .int (nI (n + 1)))]) [2, 3, 4, 5, 1, 0] rfl ?_
                    refine z_lse (ls' := [(0, .ref 1), (1, .int (nI o)), (2, .int x), (3, .int (nI p)), (4, .int (m_ahead i o p (n + 1))), (5, .int (nI (n + 1)))]) (by (try simp only [zb_0, Classical.not_not] at c_7 hC c_22 c_31 c_43); (first | rfl | (simp only [Int32.lt_irrefl, if_true, if_false, not_true_eq_false, not_false_eq_true, and_true, true_and, and_false, false_and, or_true, true_or, or_false, false_or, and_self, ite_self, zb, m_ahead, c_7, hC, c_22, c_31, c_43, eq_true c_7, eq_true hC, eq_true c_22, eq_true c_31, eq_true c_43]; done) | (simp only [Int32.lt_irrefl, if_true, if_false, not_true_eq_false, not_false_eq_true, and_true, true_and, and_false, false_and, or_true, true_or, or_false, false_or, and_self, ite_self, zb, m_ahead, c_7, hC, c_22, c_31, c_43, eq_true c_7, eq_true hC, eq_true c_22, eq_true c_31, eq_true c_43]; rfl))) ?_
                    exact ih16
                  · skip
                    refine z_aload_n X 0 dX8_candidate_46 rfl rfl ?_
                    refine z_getR (ci := 11) (j := 33) (o' := 133) X dX8_candidate_47 zmm_c1 rfl (by decide) hlk_92 (Or.inl rfl) (fun _ => rfl) (zmm_r133) ?_
                    refine z_iload X 5 dX8_candidate_50 rfl ?_
                    refine z_iald (j := n) (x := i 133 n) X dX8_candidate_52 zmm_c133 (by rw [zmm_n133]; exact vp_in_nI (by omega) (by decide)) (nI_clamp (by omega)) (rfl) ?_
                    refine z_aload_n X 0 dX8_candidate_53 rfl rfl ?_
                    refine z_getR (ci := 11) (j := 33) (o' := 133) X dX8_candidate_54 zmm_c1 rfl (by decide) hlk_92 (Or.inl rfl) (fun _ => rfl) (zmm_r133) ?_
                    refine z_iload_n X 3 dX8_candidate_57 rfl rfl ?_
                    refine z_iald (j := p) (x := i 133 p) X dX8_candidate_58 zmm_c133 (by rw [zmm_n133]; exact vp_in_nI (by omega) (by decide)) (nI_clamp (by omega)) (rfl) ?_
                    refine z_icmp_lt X 84 dX8_candidate_59 (by decide) (fun c_59 => ?_) (fun c_59 => ?_)
                    · skip
                      refine z_iconst (v := 1) X dX8_candidate_84 (by decide) ?_
                      refine z_goto (tgt := 89) X dX8_candidate_85 (by decide) ?_
                      refine z_iadd X dX8_candidate_89 ?_
                      refine z_istore (ls' := [(4, .int ((m_ahead i o p n) + 1)), (0, .ref 1), (1, .int (nI o)), (2, .int x), (3, .int (nI p)), (5, .int (nI n))]) X dX8_candidate_90 (by decide) rfl ?_
                      refine z_iinc (ls' := [(5, .int (nI (n + 1))), (4, .int ((m_ahead i o p n) + 1)), (0, .ref 1), (1, .int (nI o)), (2, .int x), (3, .int (nI p))]) (v := nI (n + 1)) X 5 dX8_candidate_92 rfl (nI_1 _) (by decide) rfl ?_
                      refine z_goto (tgt := 16) X dX8_candidate_95 (by decide) ?_
                      refine z_sub (ls' := [(0, .ref 1), (1, .int (nI o)), (2, .int x), (3, .int (nI p)), (4, .int ((m_ahead i o p n) + 1)), (5, .int (nI (n + 1)))]) [2, 3, 4, 5, 1, 0] rfl ?_
                      refine z_lse (ls' := [(0, .ref 1), (1, .int (nI o)), (2, .int x), (3, .int (nI p)), (4, .int (m_ahead i o p (n + 1))), (5, .int (nI (n + 1)))]) (by (try simp only [zb_0, Classical.not_not] at c_7 hC c_22 c_31 c_43 c_59); (first | rfl | (simp only [Int32.lt_irrefl, if_true, if_false, not_true_eq_false, not_false_eq_true, and_true, true_and, and_false, false_and, or_true, true_or, or_false, false_or, and_self, ite_self, zb, m_ahead, c_7, hC, c_22, c_31, c_43, c_59, eq_true c_7, eq_true hC, eq_true c_22, eq_true c_31, eq_true c_43, eq_true c_59]; done) | (simp only [Int32.lt_irrefl, if_true, if_false, not_true_eq_false, not_false_eq_true, and_true, true_and, and_false, false_and, or_true, true_or, or_false, false_or, and_self, ite_self, zb, m_ahead, c_7, hC, c_22, c_31, c_43, c_59, eq_true c_7, eq_true hC, eq_true c_22, eq_true c_31, eq_true c_43, eq_true c_59]; rfl))) ?_
                      exact ih16
                    · skip
                      refine z_aload_n X 0 dX8_candidate_62 rfl rfl ?_
                      refine z_getR (ci := 11) (j := 33) (o' := 133) X dX8_candidate_63 zmm_c1 rfl (by decide) hlk_92 (Or.inl rfl) (fun _ => rfl) (zmm_r133) ?_
                      refine z_iload X 5 dX8_candidate_66 rfl ?_
                      refine z_iald (j := n) (x := i 133 n) X dX8_candidate_68 zmm_c133 (by rw [zmm_n133]; exact vp_in_nI (by omega) (by decide)) (nI_clamp (by omega)) (rfl) ?_
                      refine z_aload_n X 0 dX8_candidate_69 rfl rfl ?_
                      refine z_getR (ci := 11) (j := 33) (o' := 133) X dX8_candidate_70 zmm_c1 rfl (by decide) hlk_92 (Or.inl rfl) (fun _ => rfl) (zmm_r133) ?_
                      refine z_iload_n X 3 dX8_candidate_73 rfl rfl ?_
                      refine z_iald (j := p) (x := i 133 p) X dX8_candidate_74 zmm_c133 (by rw [zmm_n133]; exact vp_in_nI (by omega) (by decide)) (nI_clamp (by omega)) (rfl) ?_
                      refine z_icmp_ne X 88 dX8_candidate_75 (by decide) (fun c_75 => ?_) (fun c_75 => ?_)
                      · skip
                        refine z_iconst (v := 0) X dX8_candidate_88 (by decide) ?_
                        refine z_iadd X dX8_candidate_89 ?_
                        refine z_istore (ls' := [(4, .int ((m_ahead i o p n) + 0)), (0, .ref 1), (1, .int (nI o)), (2, .int x), (3, .int (nI p)), (5, .int (nI n))]) X dX8_candidate_90 (by decide) rfl ?_
                        refine z_iinc (ls' := [(5, .int (nI (n + 1))), (4, .int ((m_ahead i o p n) + 0)), (0, .ref 1), (1, .int (nI o)), (2, .int x), (3, .int (nI p))]) (v := nI (n + 1)) X 5 dX8_candidate_92 rfl (nI_1 _) (by decide) rfl ?_
                        refine z_goto (tgt := 16) X dX8_candidate_95 (by decide) ?_
                        refine z_sub (ls' := [(0, .ref 1), (1, .int (nI o)), (2, .int x), (3, .int (nI p)), (4, .int ((m_ahead i o p n) + 0)), (5, .int (nI (n + 1)))]) [2, 3, 4, 5, 1, 0] rfl ?_
                        refine z_lse (ls' := [(0, .ref 1), (1, .int (nI o)), (2, .int x), (3, .int (nI p)), (4, .int (m_ahead i o p (n + 1))), (5, .int (nI (n + 1)))]) (by (try simp only [zb_0, Classical.not_not] at c_7 hC c_22 c_31 c_43 c_59 c_75); (first | rfl | (simp only [Int32.lt_irrefl, if_true, if_false, not_true_eq_false, not_false_eq_true, and_true, true_and, and_false, false_and, or_true, true_or, or_false, false_or, and_self, ite_self, zb, m_ahead, c_7, hC, c_22, c_31, c_43, c_59, c_75, eq_true c_7, eq_true hC, eq_true c_22, eq_true c_31, eq_true c_43, eq_true c_59, eq_true c_75]; done) | (simp only [Int32.lt_irrefl, if_true, if_false, not_true_eq_false, not_false_eq_true, and_true, true_and, and_false, false_and, or_true, true_or, or_false, false_or, and_self, ite_self, zb, m_ahead, c_7, hC, c_22, c_31, c_43, c_59, c_75, eq_true c_7, eq_true hC, eq_true c_22, eq_true c_31, eq_true c_43, eq_true c_59, eq_true c_75]; rfl))) ?_
                        exact ih16
                      · skip
                        refine z_iload X 5 dX8_candidate_78 rfl ?_
                        refine z_iload_n X 3 dX8_candidate_80 rfl rfl ?_
                        refine z_icmp_ge X 88 dX8_candidate_81 (by decide) (fun c_81 => ?_) (fun c_81 => ?_)
                        · skip
                          refine z_iconst (v := 0) X dX8_candidate_88 (by decide) ?_
                          refine z_iadd X dX8_candidate_89 ?_
                          refine z_istore (ls' := [(4, .int ((m_ahead i o p n) + 0)), (0, .ref 1), (1, .int (nI o)), (2, .int x), (3, .int (nI p)), (5, .int (nI n))]) X dX8_candidate_90 (by decide) rfl ?_
                          refine z_iinc (ls' := [(5, .int (nI (n + 1))), (4, .int ((m_ahead i o p n) + 0)), (0, .ref 1), (1, .int (nI o)), (2, .int x), (3, .int (nI p))]) (v := nI (n + 1)) X 5 dX8_candidate_92 rfl (nI_1 _) (by decide) rfl ?_
                          refine z_goto (tgt := 16) X dX8_candidate_95 (by decide) ?_
                          refine z_sub (ls' := [(0, .ref 1), (1, .int (nI o)), (2, .int x), (3, .int (nI p)), (4, .int ((m_ahead i o p n) + 0)), (5, .int (nI (n + 1)))]) [2, 3, 4, 5, 1, 0] rfl ?_
                          refine z_lse (ls' := [(0, .ref 1), (1, .int (nI o)), (2, .int x), (3, .int (nI p)), (4, .int (m_ahead i o p (n + 1))), (5, .int (nI (n + 1)))]) (by (try simp only [zb_0, Classical.not_not] at c_7 hC c_22 c_31 c_43 c_59 c_75 c_81); (first | rfl | (simp only [Int32.lt_irrefl, if_true, if_false, not_true_eq_false, not_false_eq_true, and_true, true_and, and_false, false_and, or_true, true_or, or_false, false_or, and_self, ite_self, zb, m_ahead, c_7, hC, c_22, c_31, c_43, c_59, c_75, c_81, eq_true c_7, eq_true hC, eq_true c_22, eq_true c_31, eq_true c_43, eq_true c_59, eq_true c_75, eq_true c_81]; done) | (simp only [Int32.lt_irrefl, if_true, if_false, not_true_eq_false, not_false_eq_true, and_true, true_and, and_false, false_and, or_true, true_or, or_false, false_or, and_self, ite_self, zb, m_ahead, c_7, hC, c_22, c_31, c_43, c_59, c_75, c_81, eq_true c_7, eq_true hC, eq_true c_22, eq_true c_31, eq_true c_43, eq_true c_59, eq_true c_75, eq_true c_81]; rfl))) ?_
                          exact ih16
                        · skip
                          refine z_iconst (v := 1) X dX8_candidate_84 (by decide) ?_
                          refine z_goto (tgt := 89) X dX8_candidate_85 (by decide) ?_
                          refine z_iadd X dX8_candidate_89 ?_
                          refine z_istore (ls' := [(4, .int ((m_ahead i o p n) + 1)), (0, .ref 1), (1, .int (nI o)), (2, .int x), (3, .int (nI p)), (5, .int (nI n))]) X dX8_candidate_90 (by decide) rfl ?_
                          refine z_iinc (ls' := [(5, .int (nI (n + 1))), (4, .int ((m_ahead i o p n) + 1)), (0, .ref 1), (1, .int (nI o)), (2, .int x), (3, .int (nI p))]) (v := nI (n + 1)) X 5 dX8_candidate_92 rfl (nI_1 _) (by decide) rfl ?_
                          refine z_goto (tgt := 16) X dX8_candidate_95 (by decide) ?_
                          refine z_sub (ls' := [(0, .ref 1), (1, .int (nI o)), (2, .int x), (3, .int (nI p)), (4, .int ((m_ahead i o p n) + 1)), (5, .int (nI (n + 1)))]) [2, 3, 4, 5, 1, 0] rfl ?_
                          refine z_lse (ls' := [(0, .ref 1), (1, .int (nI o)), (2, .int x), (3, .int (nI p)), (4, .int (m_ahead i o p (n + 1))), (5, .int (nI (n + 1)))]) (by (try simp only [zb_0, Classical.not_not] at c_7 hC c_22 c_31 c_43 c_59 c_75 c_81); (first | rfl | (simp only [Int32.lt_irrefl, if_true, if_false, not_true_eq_false, not_false_eq_true, and_true, true_and, and_false, false_and, or_true, true_or, or_false, false_or, and_self, ite_self, zb, m_ahead, c_7, hC, c_22, c_31, c_43, c_59, c_75, c_81, eq_true c_7, eq_true hC, eq_true c_22, eq_true c_31, eq_true c_43, eq_true c_59, eq_true c_75, eq_true c_81]; done) | (simp only [Int32.lt_irrefl, if_true, if_false, not_true_eq_false, not_false_eq_true, and_true, true_and, and_false, false_and, or_true, true_or, or_false, false_or, and_self, ite_self, zb, m_ahead, c_7, hC, c_22, c_31, c_43, c_59, c_75, c_81, eq_true c_7, eq_true hC, eq_true c_22, eq_true c_31, eq_true c_43, eq_true c_59, eq_true c_75, eq_true c_81]; rfl))) ?_
                          exact ih16
          refine z_sub (ls' := [(0, .ref 1), (1, .int (nI o)), (2, .int x), (3, .int (nI p)), (4, .int 0), (5, .int 0)]) [2, 3, 4, 5, 1, 0] rfl ?_
          refine z_lse (ls' := [(0, .ref 1), (1, .int (nI o)), (2, .int x), (3, .int (nI p)), (4, .int (m_ahead i o p 0)), (5, .int (nI 0))]) (rfl) ?_
          exact hloop16 0 (Nat.zero_le _)
        · skip
          refine z_iconst (v := 0) X dX8_candidate_10 (by decide) ?_
          refine z_istore (ls' := [(4, .int 0), (0, .ref 1), (1, .int (nI o)), (2, .int x), (3, .int (nI p))]) X dX8_candidate_11 (by decide) rfl ?_
          refine z_iconst (v := 0) X dX8_candidate_13 (by decide) ?_
          refine z_istore (ls' := [(5, .int 0), (4, .int 0), (0, .ref 1), (1, .int (nI o)), (2, .int x), (3, .int (nI p))]) X dX8_candidate_14 (by decide) rfl ?_
          refine z_iload X 0 dX8_candidate_16 rfl ?_
          refine z_aload_n X 2 dX8_candidate_18 rfl rfl ?_
          refine z_getI (ci := 11) (j := 35) (x := i 1 35) X dX8_candidate_19 zmm_c1 rfl (by decide) hlk_126 (Or.inl rfl) (fun _ => rfl) (rfl) ?_
          refine z_icmp_ge X 98 dX8_candidate_22 (by decide) (fun c_22 => ?_) (fun c_22 => ?_)
          · exact absurd (by rw [hp] at c_22; exact c_22) (nI_nle (n := np) (by omega) (by omega))
          · skip
            refine z_aload_n X 2 dX8_candidate_25 rfl rfl ?_
            refine z_iload_n X 3 dX8_candidate_26 rfl rfl ?_
            refine z_iload_n X 5 dX8_candidate_27 rfl rfl ?_
            refine z_callVi (As := [.int (nI o), .int (nI p)]) (rest := []) (n1 := 2) (ci := 11) X dX8_candidate_28 (c_X8_isCandidate l _ _ o p (by omega) (by omega)) gX8_candidate_X8_isCandidate rfl rfl (by decide +kernel) ⟨by decide, by decide⟩ zmm_c1 rfl rfl (Nat.le_of_ble_eq_true rfl) ⟨by decide, by decide⟩ (fun _ h => h.elim) ?_
            rintro _ _ ⟨rfl, rfl⟩
            refine z_if_eq X 98 dX8_candidate_31 (by decide) (fun c_31 => ?_) (fun c_31 => ?_)
            · skip
              refine z_aload_n X 2 dX8_candidate_98 rfl rfl ?_
              refine z_iload_n X 3 dX8_candidate_99 rfl rfl ?_
              refine z_iload_n X 5 dX8_candidate_100 rfl rfl ?_
              refine z_callVi (As := [.int (nI o), .int (nI p)]) (rest := []) (n1 := 2) (ci := 11) X dX8_candidate_101 (c_X8_isCandidate l _ _ o p (by omega) (by omega)) gX8_candidate_X8_isCandidate rfl rfl (by decide +kernel) ⟨by decide, by decide⟩ zmm_c1 rfl rfl (Nat.le_of_ble_eq_true rfl) ⟨by decide, by decide⟩ (fun _ h => h.elim) ?_
              rintro _ _ ⟨rfl, rfl⟩
              refine z_if_eq X 115 dX8_candidate_104 (by decide) (fun c_104 => ?_) (fun c_104 => ?_)
              · skip
                refine z_iinc (ls' := [(3, .int (nI (p + 1))), (5, .int 0), (4, .int 0), (0, .ref 1), (1, .int (nI o)), (2, .int x)]) (v := nI (p + 1)) X 5 dX8_candidate_115 rfl (nI_1 _) (by decide) rfl ?_
                refine z_goto (tgt := 2) X dX8_candidate_118 (by decide) ?_
                refine z_sub (ls' := [(0, .ref 1), (1, .int (nI o)), (2, .int x), (3, .int (nI (p + 1)))]) [3, 4, 5, 0] rfl ?_
                refine z_lse (ls' := [(0, .ref 1), (1, .int (nI o)), (2, .int x), (3, .int (nI (p + 1)))]) (rfl) ?_
                exact ih2 (lt_s hinv2 (decide_eq_false (fun h => hC h.1)))
              · exact absurd (zb_n0.mp c_104) hC
            · exact absurd (zb_n0.mp c_31) hC
  refine z_sub (ls' := [(0, .ref 1), (1, .int (nI o)), (2, .int x), (3, .int 0)]) [1, 2, 3, 0] rfl ?_
  refine z_lse (ls' := [(0, .ref 1), (1, .int (nI o)), (2, .int x), (3, .int (nI 0))]) (rfl) ?_
  exact hloop2 0 (Nat.zero_le _) (fun q hq => absurd hq (Nat.not_lt_zero _))

set_option maxRecDepth 100000 in
set_option maxHeartbeats 4000000 in
theorem c_X8_ships (l : Launch) (i : Nat → Nat → Int32) (lm : Nat → Nat → Int64) (o : Nat) (ho : o < 12) (np : Nat) (hp : i 1 35 = nI np) (h24 : np ≤ 24) (c : Nat) (hc1 : 1 ≤ c) (hc8 : c ≤ m_cntN i o np) (hcq : i 137 o = nI c) : zS l yX8_ships wsX8_ships 2 47 0 0 [.ref 1, .int (nI o)] (zmm i lm) (zpi (fun r M1 => r = m_shipS i o np c ∧ M1 = zmm (m_ships i o np) lm)) zno := by
  refine z_intro (cc := cX8_ships) (maxL := 5) (ret := (some .int)) (by decide +kernel) rfl (Nat.le_of_ble_eq_true rfl) ?_
  have hlk_113 : Cond.fieldLink RX8 113 "ColdStoreModel" "leasts" "[I" ∈ wsX8_ships := by decide +kernel
  have hlk_92 : Cond.fieldLink RX8 92 "ColdStoreModel" "lifeOf" "[I" ∈ wsX8_ships := by decide +kernel
  have hlk_101 : Cond.fieldLink RX8 101 "ColdStoreModel" "counts" "[I" ∈ wsX8_ships := by decide +kernel
  have hlk_110 : Cond.fieldLink RX8 110 "ColdStoreModel" "orderStates" "[C" ∈ wsX8_ships := by decide +kernel
  have hlk_95 : Cond.fieldLink RX8 95 "ColdStoreModel" "states" "[C" ∈ wsX8_ships := by decide +kernel
  intro g X
  show zE g 5 0 [(0, .ref 1), (1, .int (nI o))] [] (zmm i lm) 0 0
  refine z_iconst (v := 0) X dX8_ships_0 (by decide) ?_
  refine z_istore_n (ls' := [(2, .int 0), (0, .ref 1), (1, .int (nI o))]) X dX8_ships_1 rfl (by decide) rfl ?_
  refine z_aload_n X 1 dX8_ships_2 rfl rfl ?_
  refine z_getR (ci := 11) (j := 41) (o' := 141) X dX8_ships_3 zmm_c1 rfl (by decide) hlk_113 (Or.inl rfl) (fun _ => rfl) (zmm_r141) ?_
  refine z_iload_n X 2 dX8_ships_6 rfl rfl ?_
  refine z_aload_n X 1 dX8_ships_7 rfl rfl ?_
  refine z_getR (ci := 11) (j := 33) (o' := 133) X dX8_ships_8 zmm_c1 rfl (by decide) hlk_92 (Or.inl rfl) (fun _ => rfl) (zmm_r133) ?_
  refine z_aload_n X 1 dX8_ships_11 rfl rfl ?_
  refine z_iload_n X 2 dX8_ships_12 rfl rfl ?_
  refine z_iconst (v := 0) X dX8_ships_13 (by decide) ?_
  refine z_callVi (As := [.int (nI o), .int 0]) (rest := [.ref 133, .int (nI o), .ref 141]) (n1 := 2) (ci := 11) X dX8_ships_14 (c_X8_candidate l _ _ o (by omega) 0 np hp h24) gX8_ships_X8_candidate rfl rfl (by decide +kernel) ⟨by decide, by decide⟩ zmm_c1 rfl rfl (Nat.le_of_ble_eq_true rfl) ⟨by decide, by decide⟩ (fun _ h => h.elim) ?_
  rintro _ _ ⟨rfl, rfl⟩
  refine z_iald (j := cl (m_cand i o np 0)) (x := i 133 (cl (m_cand i o np 0))) X dX8_ships_17 zmm_c133 (by rw [zmm_n133]; exact (m_cand_first h24 (by omega))) (rfl) (rfl) ?_
  refine z_iast (j := o) X dX8_ships_18 zmm_c141 (by rw [zmm_n141]; exact vp_in_nI (by omega) (by decide)) (nI_clamp (by omega)) ?_
  obtain ⟨i_1, hi_1⟩ : ∃ q, q = zup i 141 o (i 133 (cl (m_cand i o np 0))) := ⟨_, rfl⟩
  refine z_mem (M' := zmm i_1 lm) (by rw [hi_1]; rfl) ?_
  refine z_iconst (v := 0) X dX8_ships_19 (by decide) ?_
  refine z_istore_n (ls' := [(3, .int 0), (2, .int 0), (0, .ref 1), (1, .int (nI o))]) X dX8_ships_20 rfl (by decide) rfl ?_
  have hloop21 : ∀ k : Nat, k ≤ c → zE g 5 21 [(0, .ref 1), (1, .int (nI o)), (2, .int (m_shipS i o np k)), (3, .int (nI k))] [] (zmm (m_ship i o np k) lm) 0 0 := by
    refine z_loop (fun k => zE g 5 21 [(0, .ref 1), (1, .int (nI o)), (2, .int (m_shipS i o np k)), (3, .int (nI k))] [] (zmm (m_ship i o np k) lm) 0 0) c ?_ ?_
    · show zE g 5 21 [(0, .ref 1), (1, .int (nI o)), (2, .int (m_shipS i o np c)), (3, .int (nI c))] [] (zmm (m_ship i o np c) lm) 0 0
      refine z_iload_n X 3 dX8_ships_21 rfl rfl ?_
      refine z_aload_n X 0 dX8_ships_22 rfl rfl ?_
      refine z_getR (ci := 11) (j := 37) (o' := 137) X dX8_ships_23 zmm_c1 rfl (by decide) hlk_101 (Or.inl rfl) (fun _ => rfl) (zmm_r137) ?_
      refine z_iload_n X 1 dX8_ships_26 rfl rfl ?_
      refine z_iald (j := o) (x := (m_ship i o np c) 137 o) X dX8_ships_27 zmm_c137 (by rw [zmm_n137]; exact vp_in_nI (by omega) (by decide)) (nI_clamp (by omega)) (rfl) ?_
      refine z_icmp_ge X 64 dX8_ships_28 (by decide) (fun c_28 => ?_) (fun c_28 => ?_)
      · skip
        refine z_aload_n X 0 dX8_ships_64 rfl rfl ?_
        refine z_getR (ci := 11) (j := 40) (o' := 140) X dX8_ships_65 zmm_c1 rfl (by decide) hlk_110 (Or.inl rfl) (fun _ => rfl) (zmm_r140) ?_
        refine z_iload_n X 1 dX8_ships_68 rfl rfl ?_
        refine z_bipush (v := 115) X dX8_ships_69 (by decide) ?_
        refine z_cast (j := o) X dX8_ships_71 zmm_c140 (by rw [zmm_n140]; exact vp_in_nI (by omega) (by decide)) (nI_clamp (by omega)) (rfl) ?_
        obtain ⟨i_2, hi_2⟩ : ∃ q, q = zup (m_ship i o np c) 140 o 115 := ⟨_, rfl⟩
        refine z_mem (M' := zmm i_2 lm) (by rw [hi_2]; rfl) ?_
        refine z_iload_n X 2 dX8_ships_72 rfl rfl ?_
        refine z_iret X rfl rfl (Nat.le_refl _) (Nat.le_refl _) dX8_ships_73 ?_
        subst hi_2
        exact ⟨_, rfl, rfl, by unfold m_ships; rw [hcq, show cl (nI c) = c from nI_clamp (by have := m_cntN_le i o np; omega)]⟩
      · exact absurd (by rw [m_ship_o (by decide) (by decide), hcq]; exact Int32.le_refl _) c_28
    · intro k hk_21 ih21
      have ih21 : zE g 5 21 [(0, .ref 1), (1, .int (nI o)), (2, .int (m_shipS i o np (k + 1))), (3, .int (nI (k + 1)))] [] (zmm (m_ship i o np (k + 1)) lm) 0 0 := ih21
      show zE g 5 21 [(0, .ref 1), (1, .int (nI o)), (2, .int (m_shipS i o np k)), (3, .int (nI k))] [] (zmm (m_ship i o np k) lm) 0 0
      refine z_iload_n X 3 dX8_ships_21 rfl rfl ?_
      refine z_aload_n X 0 dX8_ships_22 rfl rfl ?_
      refine z_getR (ci := 11) (j := 37) (o' := 137) X dX8_ships_23 zmm_c1 rfl (by decide) hlk_101 (Or.inl rfl) (fun _ => rfl) (zmm_r137) ?_
      refine z_iload_n X 1 dX8_ships_26 rfl rfl ?_
      refine z_iald (j := o) (x := (m_ship i o np k) 137 o) X dX8_ships_27 zmm_c137 (by rw [zmm_n137]; exact vp_in_nI (by omega) (by decide)) (nI_clamp (by omega)) (rfl) ?_
      refine z_icmp_ge X 64 dX8_ships_28 (by decide) (fun c_28 => ?_) (fun c_28 => ?_)
      · exact absurd (by rw [m_ship_o (by decide) (by decide), hcq] at c_28; exact c_28) (nI_ge hk_21 (by have := m_cntN_le i o np; omega))
      · skip
        refine z_aload_n X 0 dX8_ships_31 rfl rfl ?_
        refine z_iload_n X 1 dX8_ships_32 rfl rfl ?_
        refine z_iconst (v := 0) X dX8_ships_33 (by decide) ?_
        refine z_callVi (As := [.int (nI o), .int 0]) (rest := []) (n1 := 2) (ci := 11) X dX8_ships_34 (c_X8_candidate l _ _ o (by omega) 0 np (by rw [m_ship_o (by decide) (by decide)]; exact hp) h24) gX8_ships_X8_candidate rfl rfl (by decide +kernel) ⟨by decide, by decide⟩ zmm_c1 rfl rfl (Nat.le_of_ble_eq_true rfl) ⟨by decide, by decide⟩ (fun _ h => h.elim) ?_
        rintro _ _ ⟨rfl, rfl⟩
        refine z_istore (ls' := [(4, .int (m_cand (m_ship i o np k) o np 0)), (0, .ref 1), (1, .int (nI o)), (2, .int (m_shipS i o np k)), (3, .int (nI k))]) X dX8_ships_37 (by decide) rfl ?_
        refine z_iload_n X 3 dX8_ships_39 rfl rfl ?_
        refine z_aload_n X 1 dX8_ships_40 rfl rfl ?_
        refine z_getR (ci := 11) (j := 33) (o' := 133) X dX8_ships_41 zmm_c1 rfl (by decide) hlk_92 (Or.inl rfl) (fun _ => rfl) (zmm_r133) ?_
        refine z_iload X 0 dX8_ships_44 rfl ?_
        refine z_iald (j := cl (m_cand (m_ship i o np k) o np 0)) (x := (m_ship i o np k) 133 (cl (m_cand (m_ship i o np k) o np 0))) X dX8_ships_46 zmm_c133 (by rw [zmm_n133]; exact m_ship_in h24 (by omega)) (rfl) (rfl) ?_
        refine z_iadd X dX8_ships_47 ?_
        refine z_istore_n (ls' := [(2, .int ((m_shipS i o np k) + ((m_ship i o np k) 133 (cl (m_cand (m_ship i o np k) o np 0))))), (4, .int (m_cand (m_ship i o np k) o np 0)), (0, .ref 1), (1, .int (nI o)), (3, .int (nI k))]) X dX8_ships_48 rfl (by decide) rfl ?_
        refine z_aload_n X 2 dX8_ships_49 rfl rfl ?_
        refine z_getR (ci := 11) (j := 34) (o' := 134) X dX8_ships_50 zmm_c1 rfl (by decide) hlk_95 (Or.inl rfl) (fun _ => rfl) (zmm_r134) ?_
        refine z_iload X 1 dX8_ships_53 rfl ?_
        refine z_bipush (v := 115) X dX8_ships_55 (by decide) ?_
        refine z_cast (j := cl (m_cand (m_ship i o np k) o np 0)) X dX8_ships_57 zmm_c134 (by rw [zmm_n134]; exact m_ship_in h24 (by omega)) (rfl) (rfl) ?_
        obtain ⟨i_3, hi_3⟩ : ∃ q, q = zup (m_ship i o np k) 134 (cl (m_cand (m_ship i o np k) o np 0)) 115 := ⟨_, rfl⟩
        refine z_mem (M' := zmm i_3 lm) (by rw [hi_3]; rfl) ?_
        refine z_iinc (ls' := [(3, .int (nI (k + 1))), (2, .int ((m_shipS i o np k) + ((m_ship i o np k) 133 (cl (m_cand (m_ship i o np k) o np 0))))), (4, .int (m_cand (m_ship i o np k) o np 0)), (0, .ref 1), (1, .int (nI o))]) (v := nI (k + 1)) X 4 dX8_ships_58 rfl (nI_1 _) (by decide) rfl ?_
        refine z_goto (tgt := 21) X dX8_ships_61 (by decide) ?_
        refine z_sub (ls' := [(0, .ref 1), (1, .int (nI o)), (2, .int ((m_shipS i o np k) + ((m_ship i o np k) 133 (cl (m_cand (m_ship i o np k) o np 0))))), (3, .int (nI (k + 1)))]) [3, 4, 1, 0] rfl ?_
        refine z_lse (ls' := [(0, .ref 1), (1, .int (nI o)), (2, .int (m_shipS i o np (k + 1))), (3, .int (nI (k + 1)))]) (rfl) ?_
        refine z_mem (M' := zmm (m_ship i o np (k + 1)) lm) (by subst hi_3; rfl) ?_
        exact ih21
  refine z_sub (ls' := [(0, .ref 1), (1, .int (nI o)), (2, .int 0), (3, .int 0)]) [2, 3, 1, 0] rfl ?_
  refine z_lse (ls' := [(0, .ref 1), (1, .int (nI o)), (2, .int (m_shipS i o np 0)), (3, .int (nI 0))]) (rfl) ?_
  refine z_mem (M' := zmm (m_ship i o np 0) lm) (by subst hi_1; rfl) ?_
  exact hloop21 0 (Nat.zero_le _)
