set_option maxRecDepth 100000 in
set_option maxHeartbeats 4000000 in
theorem c_X8_tick (l : Launch) (i : Nat → Nat → Int32) (lm : Nat → Nat → Int64) (nr np no : Nat) (hw : mWF i nr np no) : zS l yX8_tick wsX8_tick 3 71 0 0 [.ref 1] (zmm i lm) (zpi (fun r M1 => r = m_tickS i nr np no ∧ M1 = zmm (m_tickI i nr np no) (m_tickL i lm nr))) zno := by
  refine z_intro (cc := cX8_tick) (maxL := 4) (ret := (some .int)) (by decide +kernel) rfl (Nat.le_of_ble_eq_true rfl) ?_
  have hlk_119 : Cond.fieldLink RX8 119 "ColdStoreModel" "rooms" "I" ∈ wsX8_tick := by decide +kernel
  have hlk_161 : Cond.fieldLink RX8 161 "ColdStoreModel" "powerMost" "I" ∈ wsX8_tick := by decide +kernel
  have hlk_139 : Cond.fieldLink RX8 139 "ColdStoreModel" "powerNow" "I" ∈ wsX8_tick := by decide +kernel
  have hlk_164 : Cond.fieldLink RX8 164 "ColdStoreModel" "costs" "J" ∈ wsX8_tick := by decide +kernel
  have hlk_62 : Cond.fieldLink RX8 62 "ColdStoreModel" "normal" "I" ∈ wsX8_tick := by decide +kernel
  have hlk_126 : Cond.fieldLink RX8 126 "ColdStoreModel" "pallets" "I" ∈ wsX8_tick := by decide +kernel
  have hlk_132 : Cond.fieldLink RX8 132 "ColdStoreModel" "time" "I" ∈ wsX8_tick := by decide +kernel
  have hlk_129 : Cond.fieldLink RX8 129 "ColdStoreModel" "orders" "I" ∈ wsX8_tick := by decide +kernel
  have hlk_110 : Cond.fieldLink RX8 110 "ColdStoreModel" "orderStates" "[C" ∈ wsX8_tick := by decide +kernel
  have hlk_107 : Cond.fieldLink RX8 107 "ColdStoreModel" "dues" "[I" ∈ wsX8_tick := by decide +kernel
  have hlk_101 : Cond.fieldLink RX8 101 "ColdStoreModel" "counts" "[I" ∈ wsX8_tick := by decide +kernel
  have hlk_92 : Cond.fieldLink RX8 92 "ColdStoreModel" "lifeOf" "[I" ∈ wsX8_tick := by decide +kernel
  have hlk_95 : Cond.fieldLink RX8 95 "ColdStoreModel" "states" "[C" ∈ wsX8_tick := by decide +kernel
  have hlk_39 : Cond.fieldLink RX8 39 "ColdStoreModel" "temps" "[I" ∈ wsX8_tick := by decide +kernel
  have hlk_89 : Cond.fieldLink RX8 89 "ColdStoreModel" "roomOf" "[I" ∈ wsX8_tick := by decide +kernel
  have hlk_65 : Cond.fieldLink RX8 65 "ColdStoreModel" "peak" "I" ∈ wsX8_tick := by decide +kernel
  obtain ⟨⟨hn, h4⟩, ⟨hp, h24⟩, ⟨ho12, h12⟩, hpr, hct⟩ := id hw
  intro g X
  show zE g 4 0 [(0, .ref 1)] [] (zmm i lm) 0 0
  refine z_iconst (v := 0) X dX8_tick_0 (by decide) ?_
  refine z_istore_n (ls' := [(1, .int 0), (0, .ref 1)]) X dX8_tick_1 rfl (by decide) rfl ?_
  have hloop2 : ∀ r : Nat, r ≤ nr → zE g 4 2 [(0, .ref 1), (1, .int (nI r))] [] (zmm (m_wishes i r) lm) 0 0 := by
    refine z_loop (fun r => zE g 4 2 [(0, .ref 1), (1, .int (nI r))] [] (zmm (m_wishes i r) lm) 0 0) nr ?_ ?_
    · show zE g 4 2 [(0, .ref 1), (1, .int (nI nr))] [] (zmm (m_wishes i nr) lm) 0 0
      refine z_iload_n X 1 dX8_tick_2 rfl rfl ?_
      refine z_aload_n X 0 dX8_tick_3 rfl rfl ?_
      refine z_getI (ci := 11) (j := 17) (x := (m_wishes i nr) 1 17) X dX8_tick_4 zmm_c1 rfl (by decide) hlk_119 (Or.inl rfl) (fun _ => rfl) (rfl) ?_
      refine z_icmp_ge X 21 dX8_tick_7 (by decide) (fun c_7 => ?_) (fun c_7 => ?_)
      · skip
        refine z_aload_n X 0 dX8_tick_21 rfl rfl ?_
        refine z_callVv (As := []) (rest := []) (n1 := 0) (ci := 11) X dX8_tick_22 (c_X8_powers l _ _ nr (by rw [m_wishes_o (by decide)]; exact hn) h4) gX8_tick_X8_powers rfl rfl (by decide +kernel) ⟨by decide, by decide⟩ zmm_c1 rfl rfl (Nat.le_of_ble_eq_true rfl) ⟨by decide, by decide⟩ (fun _ h => h.elim) ?_
        rintro _ ⟨rfl, rfl⟩
        refine z_aload_n X 0 dX8_tick_25 rfl rfl ?_
        refine z_callVv (As := []) (rest := []) (n1 := 0) (ci := 11) X dX8_tick_26 (c_X8_warms l _ _ nr (by rw [m_powers_o (by decide) (by decide) (by decide), m_wishes_o (by decide)]; exact hn) h4) gX8_tick_X8_warms rfl rfl (by decide +kernel) ⟨by decide, by decide⟩ zmm_c1 rfl rfl (Nat.le_of_ble_eq_true rfl) ⟨by decide, by decide⟩ (fun _ h => h.elim) ?_
        rintro _ ⟨rfl, rfl⟩
        refine z_aload_n X 0 dX8_tick_29 rfl rfl ?_
        refine z_aload_n X 0 dX8_tick_30 rfl rfl ?_
        refine z_getI (ci := 11) (j := 25) (x := (m_tk1 i nr) 1 25) X dX8_tick_31 zmm_c1 rfl (by decide) hlk_161 (Or.inl rfl) (fun _ => rfl) (rfl) ?_
        refine z_aload_n X 0 dX8_tick_34 rfl rfl ?_
        refine z_getI (ci := 11) (j := 24) (x := (m_tk1 i nr) 1 24) X dX8_tick_35 zmm_c1 rfl (by decide) hlk_139 (Or.inl rfl) (fun _ => rfl) (rfl) ?_
        refine z_mmax X dX8_tick_38 (by decide +kernel) (by decide +kernel) (by decide +kernel) (by decide +kernel) (by decide) (Nat.le_of_ble_eq_true rfl) (by decide) (by decide) ?_
        refine z_putI (ci := 11) (j := 25) X dX8_tick_41 zmm_c1 rfl (by decide) hlk_161 (Or.inl rfl) (Or.inl rfl) (fun _ => rfl) rfl rfl ?_
        obtain ⟨i_1, hi_1⟩ : ∃ q, q = zup (m_tk1 i nr) 1 25 (if ((m_tk1 i nr) 1 25) < ((m_tk1 i nr) 1 24) then ((m_tk1 i nr) 1 24) else ((m_tk1 i nr) 1 25)) := ⟨_, rfl⟩
        refine z_mem (M' := zmm i_1 (m_tk1L i lm nr)) (by rw [hi_1]; rfl) ?_
        refine z_aload_n X 0 dX8_tick_44 rfl rfl ?_
        refine z_dup X dX8_tick_45 rfl ?_
        refine z_getL (ci := 11) (j := 26) (x := (m_tk1L i lm nr) 1 26) X dX8_tick_46 zmm_c1 rfl (by decide) hlk_164 (Or.inl rfl) (fun _ => rfl) (rfl) ?_
        refine z_aload_n X 0 dX8_tick_49 rfl rfl ?_
        refine z_getI (ci := 11) (j := 24) (x := (m_tk1 i nr) 1 24) X dX8_tick_50 zmm_c1 rfl (by decide) hlk_139 (Or.inl rfl) (fun _ => rfl) (by show i_1 1 24 = ((m_tk1 i nr) 1 24); rw [hi_1, zup_n (by decide)]) ?_
        refine z_i2l X dX8_tick_53 ?_
        refine z_aload_n X 0 dX8_tick_54 rfl rfl ?_
        refine z_callVi (As := []) (rest := [.long (((m_tk1 i nr) 1 24).toInt64), .long ((m_tk1L i lm nr) 1 26), .ref 1]) (n1 := 0) (ci := 11) X dX8_tick_55 (c_X8_isPeak l _ _) gX8_tick_X8_isPeak rfl rfl (by decide +kernel) ⟨by decide, by decide⟩ zmm_c1 rfl rfl (Nat.le_of_ble_eq_true rfl) ⟨by decide, by decide⟩ (fun _ h => h.elim) ?_
        rintro _ _ ⟨rfl, rfl⟩
        refine z_if_eq X 68 dX8_tick_58 (by decide) (fun c_58 => ?_) (fun c_58 => ?_)
        · skip
          refine z_aload_n X 0 dX8_tick_68 rfl rfl ?_
          refine z_getI (ci := 11) (j := 18) (x := (m_tk1 i nr) 1 18) X dX8_tick_69 zmm_c1 rfl (by decide) hlk_62 (Or.inl rfl) (fun _ => rfl) (by show i_1 1 18 = ((m_tk1 i nr) 1 18); rw [hi_1, zup_n (by decide)]) ?_
          refine z_i2l X dX8_tick_72 ?_
          refine z_lmul X dX8_tick_73 ?_
          refine z_ladd X dX8_tick_74 ?_
          refine z_putL (ci := 11) (j := 26) X dX8_tick_75 zmm_c1 rfl (by decide) hlk_164 (Or.inl rfl) (Or.inl rfl) (fun _ => rfl) rfl rfl ?_
          obtain ⟨l_2, hl_2⟩ : ∃ q, q = zup (m_tk1L i lm nr) 1 26 (((m_tk1L i lm nr) 1 26) + ((((m_tk1 i nr) 1 24).toInt64) * (((m_tk1 i nr) 1 18).toInt64))) := ⟨_, rfl⟩
          refine z_mem (M' := zmm i_1 l_2) (by rw [hl_2]; rfl) ?_
          refine z_mem (M' := zmm (m_tk2 (m_tk1 i nr)) (m_tickL i lm nr)) (by subst hi_1; subst hl_2; (try simp only [zb_0, Classical.not_not] at c_7 c_58); (first | rfl | (simp only [Int32.lt_irrefl, if_true, if_false, not_true_eq_false, not_false_eq_true, and_true, true_and, and_false, false_and, or_true, true_or, or_false, false_or, and_self, ite_self, zb, m_tickL, m_tk2L, m_tk2, c_7, c_58, eq_true c_7, eq_true c_58]; done) | (simp only [Int32.lt_irrefl, if_true, if_false, not_true_eq_false, not_false_eq_true, and_true, true_and, and_false, false_and, or_true, true_or, or_false, false_or, and_self, ite_self, zb, m_tickL, m_tk2L, m_tk2, c_7, c_58, eq_true c_7, eq_true c_58]; rfl))) ?_
          refine z_iconst (v := 0) X dX8_tick_78 (by decide) ?_
          refine z_istore_n (ls' := [(1, .int 0), (0, .ref 1)]) X dX8_tick_79 rfl (by decide) rfl ?_
          have hloop80 : ∀ p : Nat, p ≤ np → zE g 4 80 [(0, .ref 1), (1, .int (nI p))] [] (zmm (m_age (m_tk2 (m_tk1 i nr)) p) (m_tickL i lm nr)) 0 0 := by
            refine z_loop (fun p => zE g 4 80 [(0, .ref 1), (1, .int (nI p))] [] (zmm (m_age (m_tk2 (m_tk1 i nr)) p) (m_tickL i lm nr)) 0 0) np ?_ ?_
            · show zE g 4 80 [(0, .ref 1), (1, .int (nI np))] [] (zmm (m_age (m_tk2 (m_tk1 i nr)) np) (m_tickL i lm nr)) 0 0
              refine z_iload_n X 1 dX8_tick_80 rfl rfl ?_
              refine z_aload_n X 0 dX8_tick_81 rfl rfl ?_
              refine z_getI (ci := 11) (j := 35) (x := (m_age (m_tk2 (m_tk1 i nr)) np) 1 35) X dX8_tick_82 zmm_c1 rfl (by decide) hlk_126 (Or.inl rfl) (fun _ => rfl) (rfl) ?_
              refine z_icmp_ge X 147 dX8_tick_85 (by decide) (fun c_85 => ?_) (fun c_85 => ?_)
              · skip
                refine z_aload_n X 0 dX8_tick_147 rfl rfl ?_
                refine z_dup X dX8_tick_148 rfl ?_
                refine z_getI (ci := 11) (j := 0) (x := (m_age (m_tk2 (m_tk1 i nr)) np) 1 0) X dX8_tick_149 zmm_c1 rfl (by decide) hlk_132 (Or.inl rfl) (fun _ => rfl) (rfl) ?_
                refine z_iconst (v := 1) X dX8_tick_152 (by decide) ?_
                refine z_iadd X dX8_tick_153 ?_
                refine z_putI (ci := 11) (j := 0) X dX8_tick_154 zmm_c1 rfl (by decide) hlk_132 (Or.inl rfl) (Or.inl rfl) (fun _ => rfl) rfl rfl ?_
                obtain ⟨i_3, hi_3⟩ : ∃ q, q = zup (m_age (m_tk2 (m_tk1 i nr)) np) 1 0 (((m_age (m_tk2 (m_tk1 i nr)) np) 1 0) + 1) := ⟨_, rfl⟩
                refine z_mem (M' := zmm i_3 (m_tickL i lm nr)) (by rw [hi_3]; rfl) ?_
                refine z_mem (M' := zmm (m_tickB i nr np) (m_tickL i lm nr)) (by subst hi_3; rfl) ?_
                refine z_iconst (v := 0) X dX8_tick_157 (by decide) ?_
                refine z_istore_n (ls' := [(1, .int 0), (0, .ref 1)]) X dX8_tick_158 rfl (by decide) rfl ?_
                refine z_iconst (v := 0) X dX8_tick_159 (by decide) ?_
                refine z_istore_n (ls' := [(2, .int 0), (1, .int 0), (0, .ref 1)]) X dX8_tick_160 rfl (by decide) rfl ?_
                have hloop161 : ∀ o : Nat, o ≤ no → zE g 4 161 [(0, .ref 1), (1, .int (m_dueS (m_tickB i nr np) np o)), (2, .int (nI o))] [] (zmm (m_due (m_tickB i nr np) np o) (m_tickL i lm nr)) 0 0 := by
                  refine z_loop (fun o => zE g 4 161 [(0, .ref 1), (1, .int (m_dueS (m_tickB i nr np) np o)), (2, .int (nI o))] [] (zmm (m_due (m_tickB i nr np) np o) (m_tickL i lm nr)) 0 0) no ?_ ?_
                  · show zE g 4 161 [(0, .ref 1), (1, .int (m_dueS (m_tickB i nr np) np no)), (2, .int (nI no))] [] (zmm (m_due (m_tickB i nr np) np no) (m_tickL i lm nr)) 0 0
                    refine z_iload_n X 2 dX8_tick_161 rfl rfl ?_
                    refine z_aload_n X 0 dX8_tick_162 rfl rfl ?_
                    refine z_getI (ci := 11) (j := 42) (x := (m_due (m_tickB i nr np) np no) 1 42) X dX8_tick_163 zmm_c1 rfl (by decide) hlk_129 (Or.inl rfl) (fun _ => rfl) (rfl) ?_
                    refine z_icmp_ge X 233 dX8_tick_166 (by decide) (fun c_166 => ?_) (fun c_166 => ?_)
                    · skip
                      refine z_iload_n X 1 dX8_tick_233 rfl rfl ?_
                      refine z_iret X rfl rfl (Nat.le_refl _) (Nat.le_refl _) dX8_tick_234 ?_
                      exact ⟨_, rfl, rfl, rfl⟩
                    · exact absurd (by rw [m_due_o (by decide) (by decide) (by decide), m_tickB_o (by decide), ho12]; exact Int32.le_refl _) c_166
                  · intro o ho_161 ih161
                    have ih161 : zE g 4 161 [(0, .ref 1), (1, .int (m_dueS (m_tickB i nr np) np (o + 1))), (2, .int (nI (o + 1)))] [] (zmm (m_due (m_tickB i nr np) np (o + 1)) (m_tickL i lm nr)) 0 0 := ih161
                    show zE g 4 161 [(0, .ref 1), (1, .int (m_dueS (m_tickB i nr np) np o)), (2, .int (nI o))] [] (zmm (m_due (m_tickB i nr np) np o) (m_tickL i lm nr)) 0 0
                    refine z_iload_n X 2 dX8_tick_161 rfl rfl ?_
                    refine z_aload_n X 0 dX8_tick_162 rfl rfl ?_
                    refine z_getI (ci := 11) (j := 42) (x := (m_due (m_tickB i nr np) np o) 1 42) X dX8_tick_163 zmm_c1 rfl (by decide) hlk_129 (Or.inl rfl) (fun _ => rfl) (rfl) ?_
                    refine z_icmp_ge X 233 dX8_tick_166 (by decide) (fun c_166 => ?_) (fun c_166 => ?_)
                    · exact absurd (by rw [m_due_o (by decide) (by decide) (by decide), m_tickB_o (by decide), ho12] at c_166; exact c_166) (nI_ge ho_161 (by omega))
                    · skip
                      have hwJ : mWF (m_due (m_tickB i nr np) np o) nr np no := hw.of (fun a b h => (m_due_o (by omega) (by omega) (by omega) _).trans (m_tickB_o (by omega)))
                      refine z_aload_n X 0 dX8_tick_169 rfl rfl ?_
                      refine z_getR (ci := 11) (j := 40) (o' := 140) X dX8_tick_170 zmm_c1 rfl (by decide) hlk_110 (Or.inl rfl) (fun _ => rfl) (zmm_r140) ?_
                      refine z_iload_n X 2 dX8_tick_173 rfl rfl ?_
                      refine z_cald (j := o) (x := (m_due (m_tickB i nr np) np o) 140 o) X dX8_tick_174 zmm_c140 (by rw [zmm_n140]; exact vp_in_nI (by omega) (by decide)) (nI_clamp (by omega)) (rfl) ?_
                      refine z_bipush (v := 111) X dX8_tick_175 (by decide) ?_
                      refine z_icmp_ne X 227 dX8_tick_177 (by decide) (fun c_177 => ?_) (fun c_177 => ?_)
                      · skip
                        refine z_iinc (ls' := [(2, .int (nI (o + 1))), (0, .ref 1), (1, .int (m_dueS (m_tickB i nr np) np o))]) (v := nI (o + 1)) X 2 dX8_tick_227 rfl (nI_1 _) (by decide) rfl ?_
                        refine z_goto (tgt := 161) X dX8_tick_230 (by decide) ?_
                        refine z_sub (ls' := [(0, .ref 1), (1, .int (m_dueS (m_tickB i nr np) np o)), (2, .int (nI (o + 1)))]) [1, 2, 0] rfl ?_
                        refine z_lse (ls' := [(0, .ref 1), (1, .int (m_dueS (m_tickB i nr np) np (o + 1))), (2, .int (nI (o + 1)))]) (by (first | rfl | (simp only [Int32.lt_irrefl, if_true, if_false, not_true_eq_false, not_false_eq_true, and_true, true_and, and_false, false_and, or_true, true_or, or_false, false_or, and_self, ite_self, zb, m_dueS, m_due1S, Int32.add_zero, c_7, c_58, c_85, c_166, c_177, eq_true c_7, eq_true c_58, eq_true c_85, eq_true c_166, eq_true c_177]; done) | (simp only [Int32.lt_irrefl, if_true, if_false, not_true_eq_false, not_false_eq_true, and_true, true_and, and_false, false_and, or_true, true_or, or_false, false_or, and_self, ite_self, zb, m_dueS, m_due1S, Int32.add_zero, c_7, c_58, c_85, c_166, c_177, eq_true c_7, eq_true c_58, eq_true c_85, eq_true c_166, eq_true c_177]; rfl))) ?_
                        refine z_mem (M' := zmm (m_due (m_tickB i nr np) np (o + 1)) (m_tickL i lm nr)) (by show zmm _ _ = zmm (m_due1 (m_due (m_tickB i nr np) np o) np o) _; (first | rfl | (simp only [Int32.lt_irrefl, if_true, if_false, not_true_eq_false, not_false_eq_true, and_true, true_and, and_false, false_and, or_true, true_or, or_false, false_or, and_self, ite_self, zb, m_due1, c_7, c_58, c_85, c_166, c_177, eq_true c_7, eq_true c_58, eq_true c_85, eq_true c_166, eq_true c_177]; done) | (simp only [Int32.lt_irrefl, if_true, if_false, not_true_eq_false, not_false_eq_true, and_true, true_and, and_false, false_and, or_true, true_or, or_false, false_or, and_self, ite_self, zb, m_due1, c_7, c_58, c_85, c_166, c_177, eq_true c_7, eq_true c_58, eq_true c_85, eq_true c_166, eq_true c_177]; rfl))) ?_
                        exact ih161
                      · skip
                        refine z_aload_n X 0 dX8_tick_180 rfl rfl ?_
                        refine z_getR (ci := 11) (j := 39) (o' := 139) X dX8_tick_181 zmm_c1 rfl (by decide) hlk_107 (Or.inl rfl) (fun _ => rfl) (zmm_r139) ?_
                        refine z_iload_n X 2 dX8_tick_184 rfl rfl ?_
                        refine z_iald (j := o) (x := (m_due (m_tickB i nr np) np o) 139 o) X dX8_tick_185 zmm_c139 (by rw [zmm_n139]; exact vp_in_nI (by omega) (by decide)) (nI_clamp (by omega)) (rfl) ?_
                        refine z_aload_n X 0 dX8_tick_186 rfl rfl ?_
                        refine z_getI (ci := 11) (j := 0) (x := (m_due (m_tickB i nr np) np o) 1 0) X dX8_tick_187 zmm_c1 rfl (by decide) hlk_132 (Or.inl rfl) (fun _ => rfl) (rfl) ?_
                        refine z_icmp_ne X 227 dX8_tick_190 (by decide) (fun c_190 => ?_) (fun c_190 => ?_)
                        · skip
                          refine z_iinc (ls' := [(2, .int (nI (o + 1))), (0, .ref 1), (1, .int (m_dueS (m_tickB i nr np) np o))]) (v := nI (o + 1)) X 2 dX8_tick_227 rfl (nI_1 _) (by decide) rfl ?_
                          refine z_goto (tgt := 161) X dX8_tick_230 (by decide) ?_
                          refine z_sub (ls' := [(0, .ref 1), (1, .int (m_dueS (m_tickB i nr np) np o)), (2, .int (nI (o + 1)))]) [1, 2, 0] rfl ?_
                          refine z_lse (ls' := [(0, .ref 1), (1, .int (m_dueS (m_tickB i nr np) np (o + 1))), (2, .int (nI (o + 1)))]) (by (first | rfl | (simp only [Int32.lt_irrefl, if_true, if_false, not_true_eq_false, not_false_eq_true, and_true, true_and, and_false, false_and, or_true, true_or, or_false, false_or, and_self, ite_self, zb, m_dueS, m_due1S, Int32.add_zero, c_7, c_58, c_85, c_166, c_177, c_190, eq_true c_7, eq_true c_58, eq_true c_85, eq_true c_166, eq_true c_177, eq_true c_190]; done) | (simp only [Int32.lt_irrefl, if_true, if_false, not_true_eq_false, not_false_eq_true, and_true, true_and, and_false, false_and, or_true, true_or, or_false, false_or, and_self, ite_self, zb, m_dueS, m_due1S, Int32.add_zero, c_7, c_58, c_85, c_166, c_177, c_190, eq_true c_7, eq_true c_58, eq_true c_85, eq_true c_166, eq_true c_177, eq_true c_190]; rfl))) ?_
                          refine z_mem (M' := zmm (m_due (m_tickB i nr np) np (o + 1)) (m_tickL i lm nr)) (by show zmm _ _ = zmm (m_due1 (m_due (m_tickB i nr np) np o) np o) _; (first | rfl | (simp only [Int32.lt_irrefl, if_true, if_false, not_true_eq_false, not_false_eq_true, and_true, true_and, and_false, false_and, or_true, true_or, or_false, false_or, and_self, ite_self, zb, m_due1, c_7, c_58, c_85, c_166, c_177, c_190, eq_true c_7, eq_true c_58, eq_true c_85, eq_true c_166, eq_true c_177, eq_true c_190]; done) | (simp only [Int32.lt_irrefl, if_true, if_false, not_true_eq_false, not_false_eq_true, and_true, true_and, and_false, false_and, or_true, true_or, or_false, false_or, and_self, ite_self, zb, m_due1, c_7, c_58, c_85, c_166, c_177, c_190, eq_true c_7, eq_true c_58, eq_true c_85, eq_true c_166, eq_true c_177, eq_true c_190]; rfl))) ?_
                          exact ih161
                        · skip
                          refine z_aload_n X 0 dX8_tick_193 rfl rfl ?_
                          refine z_iload_n X 2 dX8_tick_194 rfl rfl ?_
                          refine z_callVi (As := [.int (nI o)]) (rest := []) (n1 := 1) (ci := 11) X dX8_tick_195 (c_X8_candidatesOf l _ _ o (by omega) np hwJ.2.1.1 h24) gX8_tick_X8_candidatesOf rfl rfl (by decide +kernel) ⟨by decide, by decide⟩ zmm_c1 rfl rfl (Nat.le_of_ble_eq_true rfl) ⟨by decide, by decide⟩ (fun _ h => h.elim) ?_
                          rintro _ _ ⟨rfl, rfl⟩
                          refine z_aload_n X 0 dX8_tick_198 rfl rfl ?_
                          refine z_getR (ci := 11) (j := 37) (o' := 137) X dX8_tick_199 zmm_c1 rfl (by decide) hlk_101 (Or.inl rfl) (fun _ => rfl) (zmm_r137) ?_
                          refine z_iload_n X 2 dX8_tick_202 rfl rfl ?_
                          refine z_iald (j := o) (x := (m_due (m_tickB i nr np) np o) 137 o) X dX8_tick_203 zmm_c137 (by rw [zmm_n137]; exact vp_in_nI (by omega) (by decide)) (nI_clamp (by omega)) (rfl) ?_
                          refine z_icmp_lt X 219 dX8_tick_204 (by decide) (fun c_204 => ?_) (fun c_204 => ?_)
                          · skip
                            refine z_aload_n X 0 dX8_tick_219 rfl rfl ?_
                            refine z_getR (ci := 11) (j := 40) (o' := 140) X dX8_tick_220 zmm_c1 rfl (by decide) hlk_110 (Or.inl rfl) (fun _ => rfl) (zmm_r140) ?_
                            refine z_iload_n X 2 dX8_tick_223 rfl rfl ?_
                            refine z_bipush (v := 109) X dX8_tick_224 (by decide) ?_
                            refine z_cast (j := o) X dX8_tick_226 zmm_c140 (by rw [zmm_n140]; exact vp_in_nI (by omega) (by decide)) (nI_clamp (by omega)) (rfl) ?_
                            obtain ⟨i_4, hi_4⟩ : ∃ q, q = zup (m_due (m_tickB i nr np) np o) 140 o 109 := ⟨_, rfl⟩
                            refine z_mem (M' := zmm i_4 (m_tickL i lm nr)) (by rw [hi_4]; rfl) ?_
                            refine z_iinc (ls' := [(2, .int (nI (o + 1))), (0, .ref 1), (1, .int (m_dueS (m_tickB i nr np) np o))]) (v := nI (o + 1)) X 2 dX8_tick_227 rfl (nI_1 _) (by decide) rfl ?_
                            refine z_goto (tgt := 161) X dX8_tick_230 (by decide) ?_
                            refine z_sub (ls' := [(0, .ref 1), (1, .int (m_dueS (m_tickB i nr np) np o)), (2, .int (nI (o + 1)))]) [1, 2, 0] rfl ?_
                            refine z_lse (ls' := [(0, .ref 1), (1, .int (m_dueS (m_tickB i nr np) np (o + 1))), (2, .int (nI (o + 1)))]) (by (first | rfl | (simp only [Int32.lt_irrefl, if_true, if_false, not_true_eq_false, not_false_eq_true, and_true, true_and, and_false, false_and, or_true, true_or, or_false, false_or, and_self, ite_self, zb, m_dueS, m_due1S, Int32.add_zero, c_7, c_58, c_85, c_166, c_177, c_190, c_204, eq_true c_7, eq_true c_58, eq_true c_85, eq_true c_166, eq_true c_177, eq_true c_190, eq_true c_204]; done) | (simp only [Int32.lt_irrefl, if_true, if_false, not_true_eq_false, not_false_eq_true, and_true, true_and, and_false, false_and, or_true, true_or, or_false, false_or, and_self, ite_self, zb, m_dueS, m_due1S, Int32.add_zero, c_7, c_58, c_85, c_166, c_177, c_190, c_204, eq_true c_7, eq_true c_58, eq_true c_85, eq_true c_166, eq_true c_177, eq_true c_190, eq_true c_204]; rfl))) ?_
                            refine z_mem (M' := zmm (m_due (m_tickB i nr np) np (o + 1)) (m_tickL i lm nr)) (by subst hi_4; show zmm _ _ = zmm (m_due1 (m_due (m_tickB i nr np) np o) np o) _; (first | rfl | (simp only [Int32.lt_irrefl, if_true, if_false, not_true_eq_false, not_false_eq_true, and_true, true_and, and_false, false_and, or_true, true_or, or_false, false_or, and_self, ite_self, zb, m_due1, c_7, c_58, c_85, c_166, c_177, c_190, c_204, eq_true c_7, eq_true c_58, eq_true c_85, eq_true c_166, eq_true c_177, eq_true c_190, eq_true c_204]; done) | (simp only [Int32.lt_irrefl, if_true, if_false, not_true_eq_false, not_false_eq_true, and_true, true_and, and_false, false_and, or_true, true_or, or_false, false_or, and_self, ite_self, zb, m_due1, c_7, c_58, c_85, c_166, c_177, c_190, c_204, eq_true c_7, eq_true c_58, eq_true c_85, eq_true c_166, eq_true c_177, eq_true c_190, eq_true c_204]; rfl))) ?_
                            exact ih161
                          · skip
                            refine z_aload_n X 0 dX8_tick_207 rfl rfl ?_
                            refine z_iload_n X 2 dX8_tick_208 rfl rfl ?_
                            obtain ⟨c9, hc91, hc98, hc9⟩ := hwJ.2.2.2.2 o (by omega)
                            refine z_callVi (As := [.int (nI o)]) (rest := []) (n1 := 1) (ci := 11) X dX8_tick_209 (c_X8_ships l _ _ o (by omega) np hwJ.2.1.1 h24 c9 hc91 (by have h8 := c_204; rw [m_cnt_N, hc9] at h8; rcases Nat.lt_or_ge (m_cntN (m_due (m_tickB i nr np) np o) o np) c9 with q | q; exact absurd (nI_lt q (by omega)) h8; exact q) hc9) gX8_tick_X8_ships rfl rfl (by decide +kernel) ⟨by decide, by decide⟩ zmm_c1 rfl rfl (Nat.le_of_ble_eq_true rfl) ⟨by decide, by decide⟩ (fun _ h => h.elim) ?_
                            rintro _ _ ⟨rfl, rfl⟩
                            refine z_istore_n (ls' := [(3, .int (m_shipS (m_due (m_tickB i nr np) np o) o np c9)), (0, .ref 1), (1, .int (m_dueS (m_tickB i nr np) np o)), (2, .int (nI o))]) X dX8_tick_212 rfl (by decide) rfl ?_
                            refine z_iinc (ls' := [(1, .int ((m_dueS (m_tickB i nr np) np o) + 1)), (3, .int (m_shipS (m_due (m_tickB i nr np) np o) o np c9)), (0, .ref 1), (2, .int (nI o))]) (v := (m_dueS (m_tickB i nr np) np o) + 1) X 2 dX8_tick_213 rfl (rfl) (by decide) rfl ?_
                            refine z_goto (tgt := 227) X dX8_tick_216 (by decide) ?_
                            refine z_iinc (ls' := [(2, .int (nI (o + 1))), (1, .int ((m_dueS (m_tickB i nr np) np o) + 1)), (3, .int (m_shipS (m_due (m_tickB i nr np) np o) o np c9)), (0, .ref 1)]) (v := nI (o + 1)) X 3 dX8_tick_227 rfl (nI_1 _) (by decide) rfl ?_
                            refine z_goto (tgt := 161) X dX8_tick_230 (by decide) ?_
                            refine z_sub (ls' := [(0, .ref 1), (1, .int ((m_dueS (m_tickB i nr np) np o) + 1)), (2, .int (nI (o + 1)))]) [3, 1, 0] rfl ?_
                            refine z_lse (ls' := [(0, .ref 1), (1, .int (m_dueS (m_tickB i nr np) np (o + 1))), (2, .int (nI (o + 1)))]) (by (first | rfl | (simp only [Int32.lt_irrefl, if_true, if_false, not_true_eq_false, not_false_eq_true, and_true, true_and, and_false, false_and, or_true, true_or, or_false, false_or, and_self, ite_self, zb, m_dueS, m_due1S, Int32.add_zero, c_7, c_58, c_85, c_166, c_177, c_190, c_204, eq_true c_7, eq_true c_58, eq_true c_85, eq_true c_166, eq_true c_177, eq_true c_190, eq_true c_204]; done) | (simp only [Int32.lt_irrefl, if_true, if_false, not_true_eq_false, not_false_eq_true, and_true, true_and, and_false, false_and, or_true, true_or, or_false, false_or, and_self, ite_self, zb, m_dueS, m_due1S, Int32.add_zero, c_7, c_58, c_85, c_166, c_177, c_190, c_204, eq_true c_7, eq_true c_58, eq_true c_85, eq_true c_166, eq_true c_177, eq_true c_190, eq_true c_204]; rfl))) ?_
                            refine z_mem (M' := zmm (m_due (m_tickB i nr np) np (o + 1)) (m_tickL i lm nr)) (by show zmm _ _ = zmm (m_due1 (m_due (m_tickB i nr np) np o) np o) _; (first | rfl | (simp only [Int32.lt_irrefl, if_true, if_false, not_true_eq_false, not_false_eq_true, and_true, true_and, and_false, false_and, or_true, true_or, or_false, false_or, and_self, ite_self, zb, m_due1, c_7, c_58, c_85, c_166, c_177, c_190, c_204, eq_true c_7, eq_true c_58, eq_true c_85, eq_true c_166, eq_true c_177, eq_true c_190, eq_true c_204]; done) | (simp only [Int32.lt_irrefl, if_true, if_false, not_true_eq_false, not_false_eq_true, and_true, true_and, and_false, false_and, or_true, true_or, or_false, false_or, and_self, ite_self, zb, m_due1, c_7, c_58, c_85, c_166, c_177, c_190, c_204, eq_true c_7, eq_true c_58, eq_true c_85, eq_true c_166, eq_true c_177, eq_true c_190, eq_true c_204]; rfl))) ?_
                            exact ih161
                refine z_sub (ls' := [(0, .ref 1), (1, .int 0), (2, .int 0)]) [2, 1, 0] rfl ?_
                refine z_lse (ls' := [(0, .ref 1), (1, .int (m_dueS (m_tickB i nr np) np 0)), (2, .int (nI 0))]) (rfl) ?_
                refine z_mem (M' := zmm (m_due (m_tickB i nr np) np 0) (m_tickL i lm nr)) (by rfl) ?_
                exact hloop161 0 (Nat.zero_le _)
              · exact absurd (by rw [m_age_o (by decide), show m_tk2 (m_tk1 i nr) 1 35 = i 1 35 from (zup_n (by omega)).trans (m_tk1_o (by omega) (by omega) (by omega) (by omega) (by omega) (by omega) (by omega)), hp]; exact Int32.le_refl _) c_85
            · intro p hp_80 ih80
              have ih80 : zE g 4 80 [(0, .ref 1), (1, .int (nI (p + 1)))] [] (zmm (m_age (m_tk2 (m_tk1 i nr)) (p + 1)) (m_tickL i lm nr)) 0 0 := ih80
              show zE g 4 80 [(0, .ref 1), (1, .int (nI p))] [] (zmm (m_age (m_tk2 (m_tk1 i nr)) p) (m_tickL i lm nr)) 0 0
              refine z_iload_n X 1 dX8_tick_80 rfl rfl ?_
              refine z_aload_n X 0 dX8_tick_81 rfl rfl ?_
              refine z_getI (ci := 11) (j := 35) (x := (m_age (m_tk2 (m_tk1 i nr)) p) 1 35) X dX8_tick_82 zmm_c1 rfl (by decide) hlk_126 (Or.inl rfl) (fun _ => rfl) (rfl) ?_
              refine z_icmp_ge X 147 dX8_tick_85 (by decide) (fun c_85 => ?_) (fun c_85 => ?_)
              · exact absurd (by rw [m_age_o (by decide), show m_tk2 (m_tk1 i nr) 1 35 = i 1 35 from (zup_n (by omega)).trans (m_tk1_o (by omega) (by omega) (by omega) (by omega) (by omega) (by omega) (by omega)), hp] at c_85; exact c_85) (nI_ge hp_80 (by omega))
              · skip
                refine z_aload_n X 0 dX8_tick_88 rfl rfl ?_
                refine z_getR (ci := 11) (j := 33) (o' := 133) X dX8_tick_89 zmm_c1 rfl (by decide) hlk_92 (Or.inl rfl) (fun _ => rfl) (zmm_r133) ?_
                refine z_iload_n X 1 dX8_tick_92 rfl rfl ?_
                refine z_aload_n X 0 dX8_tick_93 rfl rfl ?_
                refine z_getR (ci := 11) (j := 34) (o' := 134) X dX8_tick_94 zmm_c1 rfl (by decide) hlk_95 (Or.inl rfl) (fun _ => rfl) (zmm_r134) ?_
                refine z_iload_n X 1 dX8_tick_97 rfl rfl ?_
                refine z_cald (j := p) (x := (m_age (m_tk2 (m_tk1 i nr)) p) 134 p) X dX8_tick_98 zmm_c134 (by rw [zmm_n134]; exact vp_in_nI (by omega) (by decide)) (nI_clamp (by omega)) (rfl) ?_
                refine z_bipush (v := 114) X dX8_tick_99 (by decide) ?_
                refine z_icmp_ne X 134 dX8_tick_101 (by decide) (fun c_101 => ?_) (fun c_101 => ?_)
                · skip
                  refine z_aload_n X 0 dX8_tick_134 rfl rfl ?_
                  refine z_getR (ci := 11) (j := 33) (o' := 133) X dX8_tick_135 zmm_c1 rfl (by decide) hlk_92 (Or.inl rfl) (fun _ => rfl) (zmm_r133) ?_
                  refine z_iload_n X 1 dX8_tick_138 rfl rfl ?_
                  refine z_iald (j := p) (x := (m_age (m_tk2 (m_tk1 i nr)) p) 133 p) X dX8_tick_139 zmm_c133 (by rw [zmm_n133]; exact vp_in_nI (by omega) (by decide)) (nI_clamp (by omega)) (rfl) ?_
                  refine z_iast (j := p) X dX8_tick_140 zmm_c133 (by rw [zmm_n133]; exact vp_in_nI (by omega) (by decide)) (nI_clamp (by omega)) ?_
                  obtain ⟨i_5, hi_5⟩ : ∃ q, q = zup (m_age (m_tk2 (m_tk1 i nr)) p) 133 p ((m_age (m_tk2 (m_tk1 i nr)) p) 133 p) := ⟨_, rfl⟩
                  refine z_mem (M' := zmm i_5 (m_tickL i lm nr)) (by rw [hi_5]; rfl) ?_
                  refine z_iinc (ls' := [(1, .int (nI (p + 1))), (0, .ref 1)]) (v := nI (p + 1)) X 1 dX8_tick_141 rfl (nI_1 _) (by decide) rfl ?_
                  refine z_goto (tgt := 80) X dX8_tick_144 (by decide) ?_
                  refine z_sub (ls' := [(0, .ref 1), (1, .int (nI (p + 1)))]) [1, 0] rfl ?_
                  refine z_lse (ls' := [(0, .ref 1), (1, .int (nI (p + 1)))]) (rfl) ?_
                  refine z_mem (M' := zmm (m_age (m_tk2 (m_tk1 i nr)) (p + 1)) (m_tickL i lm nr)) (by subst hi_5; show zmm _ _ = zmm (zup (m_age (m_tk2 (m_tk1 i nr)) p) 133 p (m_age1 (m_age (m_tk2 (m_tk1 i nr)) p) p)) _; (first | rfl | (simp only [Int32.lt_irrefl, if_true, if_false, not_true_eq_false, not_false_eq_true, and_true, true_and, and_false, false_and, or_true, true_or, or_false, false_or, and_self, ite_self, zb, m_age1, c_7, c_58, c_85, c_101, eq_true c_7, eq_true c_58, eq_true c_85, eq_true c_101]; done) | (simp only [Int32.lt_irrefl, if_true, if_false, not_true_eq_false, not_false_eq_true, and_true, true_and, and_false, false_and, or_true, true_or, or_false, false_or, and_self, ite_self, zb, m_age1, c_7, c_58, c_85, c_101, eq_true c_7, eq_true c_58, eq_true c_85, eq_true c_101]; rfl))) ?_
                  exact ih80
                · skip
                  refine z_iconst (v := 0) X dX8_tick_104 (by decide) ?_
                  refine z_aload_n X 0 dX8_tick_105 rfl rfl ?_
                  refine z_getR (ci := 11) (j := 33) (o' := 133) X dX8_tick_106 zmm_c1 rfl (by decide) hlk_92 (Or.inl rfl) (fun _ => rfl) (zmm_r133) ?_
                  refine z_iload_n X 1 dX8_tick_109 rfl rfl ?_
                  refine z_iald (j := p) (x := (m_age (m_tk2 (m_tk1 i nr)) p) 133 p) X dX8_tick_110 zmm_c133 (by rw [zmm_n133]; exact vp_in_nI (by omega) (by decide)) (nI_clamp (by omega)) (rfl) ?_
                  refine z_aload_n X 0 dX8_tick_111 rfl rfl ?_
                  refine z_iload_n X 1 dX8_tick_112 rfl rfl ?_
                  refine z_aload_n X 0 dX8_tick_113 rfl rfl ?_
                  refine z_getR (ci := 11) (j := 10) (o' := 110) X dX8_tick_114 zmm_c1 rfl (by decide) hlk_39 (Or.inl rfl) (fun _ => rfl) (zmm_r110) ?_
                  refine z_aload_n X 0 dX8_tick_117 rfl rfl ?_
                  refine z_getR (ci := 11) (j := 32) (o' := 132) X dX8_tick_118 zmm_c1 rfl (by decide) hlk_89 (Or.inl rfl) (fun _ => rfl) (zmm_r132) ?_
                  refine z_iload_n X 1 dX8_tick_121 rfl rfl ?_
                  refine z_iald (j := p) (x := (m_age (m_tk2 (m_tk1 i nr)) p) 132 p) X dX8_tick_122 zmm_c132 (by rw [zmm_n132]; exact vp_in_nI (by omega) (by decide)) (nI_clamp (by omega)) (rfl) ?_
                  refine z_iald (j := cl ((m_age (m_tk2 (m_tk1 i nr)) p) 132 p)) (x := (m_age (m_tk2 (m_tk1 i nr)) p) 110 (cl ((m_age (m_tk2 (m_tk1 i nr)) p) 132 p))) X dX8_tick_123 zmm_c110 (by rw [zmm_n110]; exact (by rw [m_age_o (by decide)]; rw [show m_tk2 (m_tk1 i nr) 132 p = i 132 p from (zup_n (by omega)).trans (m_tk1_o (by omega) (by omega) (by omega) (by omega) (by omega) (by omega) (by omega))]; exact (hpr p (by omega)).2)) (rfl) (rfl) ?_
                  refine z_callVi (As := [.int (nI p), .int ((m_age (m_tk2 (m_tk1 i nr)) p) 110 (cl ((m_age (m_tk2 (m_tk1 i nr)) p) 132 p)))]) (rest := [.int ((m_age (m_tk2 (m_tk1 i nr)) p) 133 p), .int 0, .int (nI p), .ref 133]) (n1 := 2) (ci := 11) X dX8_tick_124 (c_X8_loss l _ _ p ((m_age (m_tk2 (m_tk1 i nr)) p) 110 (cl ((m_age (m_tk2 (m_tk1 i nr)) p) 132 p))) (by omega) (by rw [m_age_o (by decide)]; rw [show m_tk2 (m_tk1 i nr) 131 p = i 131 p from (zup_n (by omega)).trans (m_tk1_o (by omega) (by omega) (by omega) (by omega) (by omega) (by omega) (by omega))]; exact (hpr p (by omega)).1)) gX8_tick_X8_loss rfl rfl (by decide +kernel) ⟨by decide, by decide⟩ zmm_c1 rfl rfl (Nat.le_of_ble_eq_true rfl) ⟨by decide, by decide⟩ (fun _ h => h.elim) ?_
                  rintro _ _ ⟨rfl, rfl⟩
                  refine z_isub X dX8_tick_127 ?_
                  refine z_mmax X dX8_tick_128 (by decide +kernel) (by decide +kernel) (by decide +kernel) (by decide +kernel) (by decide) (Nat.le_of_ble_eq_true rfl) (by decide) (by decide) ?_
                  refine z_goto (tgt := 140) X dX8_tick_131 (by decide) ?_
                  refine z_iast (j := p) X dX8_tick_140 zmm_c133 (by rw [zmm_n133]; exact vp_in_nI (by omega) (by decide)) (nI_clamp (by omega)) ?_
                  obtain ⟨i_6, hi_6⟩ : ∃ q, q = zup (m_age (m_tk2 (m_tk1 i nr)) p) 133 p (if 0 < (((m_age (m_tk2 (m_tk1 i nr)) p) 133 p) - (m_loss (m_age (m_tk2 (m_tk1 i nr)) p) p ((m_age (m_tk2 (m_tk1 i nr)) p) 110 (cl ((m_age (m_tk2 (m_tk1 i nr)) p) 132 p))))) then (((m_age (m_tk2 (m_tk1 i nr)) p) 133 p) - (m_loss (m_age (m_tk2 (m_tk1 i nr)) p) p ((m_age (m_tk2 (m_tk1 i nr)) p) 110 (cl ((m_age (m_tk2 (m_tk1 i nr)) p) 132 p))))) else 0) := ⟨_, rfl⟩
                  refine z_mem (M' := zmm i_6 (m_tickL i lm nr)) (by rw [hi_6]; rfl) ?_
                  refine z_iinc (ls' := [(1, .int (nI (p + 1))), (0, .ref 1)]) (v := nI (p + 1)) X 1 dX8_tick_141 rfl (nI_1 _) (by decide) rfl ?_
                  refine z_goto (tgt := 80) X dX8_tick_144 (by decide) ?_
                  refine z_sub (ls' := [(0, .ref 1), (1, .int (nI (p + 1)))]) [1, 0] rfl ?_
                  refine z_lse (ls' := [(0, .ref 1), (1, .int (nI (p + 1)))]) (rfl) ?_
                  refine z_mem (M' := zmm (m_age (m_tk2 (m_tk1 i nr)) (p + 1)) (m_tickL i lm nr)) (by subst hi_6; show zmm _ _ = zmm (zup (m_age (m_tk2 (m_tk1 i nr)) p) 133 p (m_age1 (m_age (m_tk2 (m_tk1 i nr)) p) p)) _; (first | rfl | (simp only [Int32.lt_irrefl, if_true, if_false, not_true_eq_false, not_false_eq_true, and_true, true_and, and_false, false_and, or_true, true_or, or_false, false_or, and_self, ite_self, zb, m_age1, c_7, c_58, c_85, c_101, eq_true c_7, eq_true c_58, eq_true c_85, eq_true c_101]; done) | (simp only [Int32.lt_irrefl, if_true, if_false, not_true_eq_false, not_false_eq_true, and_true, true_and, and_false, false_and, or_true, true_or, or_false, false_or, and_self, ite_self, zb, m_age1, c_7, c_58, c_85, c_101, eq_true c_7, eq_true c_58, eq_true c_85, eq_true c_101]; rfl))) ?_
                  exact ih80
          refine z_sub (ls' := [(0, .ref 1), (1, .int 0)]) [1, 0] rfl ?_
          refine z_lse (ls' := [(0, .ref 1), (1, .int (nI 0))]) (rfl) ?_
          refine z_mem (M' := zmm (m_age (m_tk2 (m_tk1 i nr)) 0) (m_tickL i lm nr)) (by rfl) ?_
          exact hloop80 0 (Nat.zero_le _)
        · skip
          refine z_aload_n X 0 dX8_tick_61 rfl rfl ?_
          refine z_getI (ci := 11) (j := 19) (x := (m_tk1 i nr) 1 19) X dX8_tick_62 zmm_c1 rfl (by decide) hlk_65 (Or.inl rfl) (fun _ => rfl) (by show i_1 1 19 = ((m_tk1 i nr) 1 19); rw [hi_1, zup_n (by decide)]) ?_
          refine z_goto (tgt := 72) X dX8_tick_65 (by decide) ?_
          refine z_i2l X dX8_tick_72 ?_
          refine z_lmul X dX8_tick_73 ?_
          refine z_ladd X dX8_tick_74 ?_
          refine z_putL (ci := 11) (j := 26) X dX8_tick_75 zmm_c1 rfl (by decide) hlk_164 (Or.inl rfl) (Or.inl rfl) (fun _ => rfl) rfl rfl ?_
          obtain ⟨l_7, hl_7⟩ : ∃ q, q = zup (m_tk1L i lm nr) 1 26 (((m_tk1L i lm nr) 1 26) + ((((m_tk1 i nr) 1 24).toInt64) * (((m_tk1 i nr) 1 19).toInt64))) := ⟨_, rfl⟩
          refine z_mem (M' := zmm i_1 l_7) (by rw [hl_7]; rfl) ?_
          refine z_mem (M' := zmm (m_tk2 (m_tk1 i nr)) (m_tickL i lm nr)) (by subst hi_1; subst hl_7; (try simp only [zb_0, Classical.not_not] at c_7 c_58); (first | rfl | (simp only [Int32.lt_irrefl, if_true, if_false, not_true_eq_false, not_false_eq_true, and_true, true_and, and_false, false_and, or_true, true_or, or_false, false_or, and_self, ite_self, zb, m_tickL, m_tk2L, m_tk2, c_7, c_58, eq_true c_7, eq_true c_58]; done) | (simp only [Int32.lt_irrefl, if_true, if_false, not_true_eq_false, not_false_eq_true, and_true, true_and, and_false, false_and, or_true, true_or, or_false, false_or, and_self, ite_self, zb, m_tickL, m_tk2L, m_tk2, c_7, c_58, eq_true c_7, eq_true c_58]; rfl))) ?_
          refine z_iconst (v := 0) X dX8_tick_78 (by decide) ?_
          refine z_istore_n (ls' := [(1, .int 0), (0, .ref 1)]) X dX8_tick_79 rfl (by decide) rfl ?_
          have hloop80 : ∀ p : Nat, p ≤ np → zE g 4 80 [(0, .ref 1), (1, .int (nI p))] [] (zmm (m_age (m_tk2 (m_tk1 i nr)) p) (m_tickL i lm nr)) 0 0 := by
            refine z_loop (fun p => zE g 4 80 [(0, .ref 1), (1, .int (nI p))] [] (zmm (m_age (m_tk2 (m_tk1 i nr)) p) (m_tickL i lm nr)) 0 0) np ?_ ?_
            · show zE g 4 80 [(0, .ref 1), (1, .int (nI np))] [] (zmm (m_age (m_tk2 (m_tk1 i nr)) np) (m_tickL i lm nr)) 0 0
              refine z_iload_n X 1 dX8_tick_80 rfl rfl ?_
              refine z_aload_n X 0 dX8_tick_81 rfl rfl ?_
              refine z_getI (ci := 11) (j := 35) (x := (m_age (m_tk2 (m_tk1 i nr)) np) 1 35) X dX8_tick_82 zmm_c1 rfl (by decide) hlk_126 (Or.inl rfl) (fun _ => rfl) (rfl) ?_
              refine z_icmp_ge X 147 dX8_tick_85 (by decide) (fun c_85 => ?_) (fun c_85 => ?_)
              · skip
                refine z_aload_n X 0 dX8_tick_147 rfl rfl ?_
                refine z_dup X dX8_tick_148 rfl ?_
                refine z_getI (ci := 11) (j := 0) (x := (m_age (m_tk2 (m_tk1 i nr)) np) 1 0) X dX8_tick_149 zmm_c1 rfl (by decide) hlk_132 (Or.inl rfl) (fun _ => rfl) (rfl) ?_
                refine z_iconst (v := 1) X dX8_tick_152 (by decide) ?_
                refine z_iadd X dX8_tick_153 ?_
                refine z_putI (ci := 11) (j := 0) X dX8_tick_154 zmm_c1 rfl (by decide) hlk_132 (Or.inl rfl) (Or.inl rfl) (fun _ => rfl) rfl rfl ?_
                obtain ⟨i_8, hi_8⟩ : ∃ q, q = zup (m_age (m_tk2 (m_tk1 i nr)) np) 1 0 (((m_age (m_tk2 (m_tk1 i nr)) np) 1 0) + 1) := ⟨_, rfl⟩
                refine z_mem (M' := zmm i_8 (m_tickL i lm nr)) (by rw [hi_8]; rfl) ?_
                refine z_mem (M' := zmm (m_tickB i nr np) (m_tickL i lm nr)) (by subst hi_8; rfl) ?_
                refine z_iconst (v := 0) X dX8_tick_157 (by decide) ?_
                refine z_istore_n (ls' := [(1, .int 0), (0, .ref 1)]) X dX8_tick_158 rfl (by decide) rfl ?_
                refine z_iconst (v := 0) X dX8_tick_159 (by decide) ?_
                refine z_istore_n (ls' := [(2, .int 0), (1, .int 0), (0, .ref 1)]) X dX8_tick_160 rfl (by decide) rfl ?_
                have hloop161 : ∀ o : Nat, o ≤ no → zE g 4 161 [(0, .ref 1), (1, .int (m_dueS (m_tickB i nr np) np o)), (2, .int (nI o))] [] (zmm (m_due (m_tickB i nr np) np o) (m_tickL i lm nr)) 0 0 := by
                  refine z_loop (fun o => zE g 4 161 [(0, .ref 1), (1, .int (m_dueS (m_tickB i nr np) np o)), (2, .int (nI o))] [] (zmm (m_due (m_tickB i nr np) np o) (m_tickL i lm nr)) 0 0) no ?_ ?_
                  · show zE g 4 161 [(0, .ref 1), (1, .int (m_dueS (m_tickB i nr np) np no)), (2, .int (nI no))] [] (zmm (m_due (m_tickB i nr np) np no) (m_tickL i lm nr)) 0 0
                    refine z_iload_n X 2 dX8_tick_161 rfl rfl ?_
                    refine z_aload_n X 0 dX8_tick_162 rfl rfl ?_
                    refine z_getI (ci := 11) (j := 42) (x := (m_due (m_tickB i nr np) np no) 1 42) X dX8_tick_163 zmm_c1 rfl (by decide) hlk_129 (Or.inl rfl) (fun _ => rfl) (rfl) ?_
                    refine z_icmp_ge X 233 dX8_tick_166 (by decide) (fun c_166 => ?_) (fun c_166 => ?_)
                    · skip
                      refine z_iload_n X 1 dX8_tick_233 rfl rfl ?_
                      refine z_iret X rfl rfl (Nat.le_refl _) (Nat.le_refl _) dX8_tick_234 ?_
                      exact ⟨_, rfl, rfl, rfl⟩
                    · exact absurd (by rw [m_due_o (by decide) (by decide) (by decide), m_tickB_o (by decide), ho12]; exact Int32.le_refl _) c_166
                  · intro o ho_161 ih161
                    have ih161 : zE g 4 161 [(0, .ref 1), (1, .int (m_dueS (m_tickB i nr np) np (o + 1))), (2, .int (nI (o + 1)))] [] (zmm (m_due (m_tickB i nr np) np (o + 1)) (m_tickL i lm nr)) 0 0 := ih161
                    show zE g 4 161 [(0, .ref 1), (1, .int (m_dueS (m_tickB i nr np) np o)), (2, .int (nI o))] [] (zmm (m_due (m_tickB i nr np) np o) (m_tickL i lm nr)) 0 0
                    refine z_iload_n X 2 dX8_tick_161 rfl rfl ?_
                    refine z_aload_n X 0 dX8_tick_162 rfl rfl ?_
                    refine z_getI (ci := 11) (j := 42) (x := (m_due (m_tickB i nr np) np o) 1 42) X dX8_tick_163 zmm_c1 rfl (by decide) hlk_129 (Or.inl rfl) (fun _ => rfl) (rfl) ?_
                    refine z_icmp_ge X 233 dX8_tick_166 (by decide) (fun c_166 => ?_) (fun c_166 => ?_)
                    · exact absurd (by rw [m_due_o (by decide) (by decide) (by decide), m_tickB_o (by decide), ho12] at c_166; exact c_166) (nI_ge ho_161 (by omega))
                    · skip
                      have hwJ : mWF (m_due (m_tickB i nr np) np o) nr np no := hw.of (fun a b h => (m_due_o (by omega) (by omega) (by omega) _).trans (m_tickB_o (by omega)))
                      refine z_aload_n X 0 dX8_tick_169 rfl rfl ?_
                      refine z_getR (ci := 11) (j := 40) (o' := 140) X dX8_tick_170 zmm_c1 rfl (by decide) hlk_110 (Or.inl rfl) (fun _ => rfl) (zmm_r140) ?_
                      refine z_iload_n X 2 dX8_tick_173 rfl rfl ?_
                      refine z_cald (j := o) (x := (m_due (m_tickB i nr np) np o) 140 o) X dX8_tick_174 zmm_c140 (by rw [zmm_n140]; exact vp_in_nI (by omega) (by decide)) (nI_clamp (by omega)) (rfl) ?_
                      refine z_bipush (v := 111) X dX8_tick_175 (by decide) ?_
                      refine z_icmp_ne X 227 dX8_tick_177 (by decide) (fun c_177 => ?_) (fun c_177 => ?_)
                      · skip
                        refine z_iinc (ls' := [(2, .int (nI (o + 1))), (0, .ref 1), (1, .int (m_dueS (m_tickB i nr np) np o))]) (v := nI (o + 1)) X 2 dX8_tick_227 rfl (nI_1 _) (by decide) rfl ?_
                        refine z_goto (tgt := 161) X dX8_tick_230 (by decide) ?_
                        refine z_sub (ls' := [(0, .ref 1), (1, .int (m_dueS (m_tickB i nr np) np o)), (2, .int (nI (o + 1)))]) [1, 2, 0] rfl ?_
                        refine z_lse (ls' := [(0, .ref 1), (1, .int (m_dueS (m_tickB i nr np) np (o + 1))), (2, .int (nI (o + 1)))]) (by (first | rfl | (simp only [Int32.lt_irrefl, if_true, if_false, not_true_eq_false, not_false_eq_true, and_true, true_and, and_false, false_and, or_true, true_or, or_false, false_or, and_self, ite_self, zb, m_dueS, m_due1S, Int32.add_zero, c_7, c_58, c_85, c_166, c_177, eq_true c_7, eq_true c_58, eq_true c_85, eq_true c_166, eq_true c_177]; done) | (simp only [Int32.lt_irrefl, if_true, if_false, not_true_eq_false, not_false_eq_true, and_true, true_and, and_false, false_and, or_true, true_or, or_false, false_or, and_self, ite_self, zb, m_dueS, m_due1S, Int32.add_zero, c_7, c_58, c_85, c_166, c_177, eq_true c_7, eq_true c_58, eq_true c_85, eq_true c_166, eq_true c_177]; rfl))) ?_
                        refine z_mem (M' := zmm (m_due (m_tickB i nr np) np (o + 1)) (m_tickL i lm nr)) (by show zmm _ _ = zmm (m_due1 (m_due (m_tickB i nr np) np o) np o) _; (first | rfl | (simp only [Int32.lt_irrefl, if_true, if_false, not_true_eq_false, not_false_eq_true, and_true, true_and, and_false, false_and, or_true, true_or, or_false, false_or, and_self, ite_self, zb, m_due1, c_7, c_58, c_85, c_166, c_177, eq_true c_7, eq_true c_58, eq_true c_85, eq_true c_166, eq_true c_177]; done) | (simp only [Int32.lt_irrefl, if_true, if_false, not_true_eq_false, not_false_eq_true, and_true, true_and, and_false, false_and, or_true, true_or, or_false, false_or, and_self, ite_self, zb, m_due1, c_7, c_58, c_85, c_166, c_177, eq_true c_7, eq_true c_58, eq_true c_85, eq_true c_166, eq_true c_177]; rfl))) ?_
                        exact ih161
                      · skip
                        refine z_aload_n X 0 dX8_tick_180 rfl rfl ?_
                        refine z_getR (ci := 11) (j := 39) (o' := 139) X dX8_tick_181 zmm_c1 rfl (by decide) hlk_107 (Or.inl rfl) (fun _ => rfl) (zmm_r139) ?_
                        refine z_iload_n X 2 dX8_tick_184 rfl rfl ?_
                        refine z_iald (j := o) (x := (m_due (m_tickB i nr np) np o) 139 o) X dX8_tick_185 zmm_c139 (by rw [zmm_n139]; exact vp_in_nI (by omega) (by decide)) (nI_clamp (by omega)) (rfl) ?_
                        refine z_aload_n X 0 dX8_tick_186 rfl rfl ?_
                        refine z_getI (ci := 11) (j := 0) (x := (m_due (m_tickB i nr np) np o) 1 0) X dX8_tick_187 zmm_c1 rfl (by decide) hlk_132 (Or.inl rfl) (fun _ => rfl) (rfl) ?_
                        refine z_icmp_ne X 227 dX8_tick_190 (by decide) (fun c_190 => ?_) (fun c_190 => ?_)
                        · skip
                          refine z_iinc (ls' := [(2, .int (nI (o + 1))), (0, .ref 1), (1, .int (m_dueS (m_tickB i nr np) np o))]) (v := nI (o + 1)) X 2 dX8_tick_227 rfl (nI_1 _) (by decide) rfl ?_
                          refine z_goto (tgt := 161) X dX8_tick_230 (by decide) ?_
                          refine z_sub (ls' := [(0, .ref 1), (1, .int (m_dueS (m_tickB i nr np) np o)), (2, .int (nI (o + 1)))]) [1, 2, 0] rfl ?_
                          refine z_lse (ls' := [(0, .ref 1), (1, .int (m_dueS (m_tickB i nr np) np (o + 1))), (2, .int (nI (o + 1)))]) (by (first | rfl | (simp only [Int32.lt_irrefl, if_true, if_false, not_true_eq_false, not_false_eq_true, and_true, true_and, and_false, false_and, or_true, true_or, or_false, false_or, and_self, ite_self, zb, m_dueS, m_due1S, Int32.add_zero, c_7, c_58, c_85, c_166, c_177, c_190, eq_true c_7, eq_true c_58, eq_true c_85, eq_true c_166, eq_true c_177, eq_true c_190]; done) | (simp only [Int32.lt_irrefl, if_true, if_false, not_true_eq_false, not_false_eq_true, and_true, true_and, and_false, false_and, or_true, true_or, or_false, false_or, and_self, ite_self, zb, m_dueS, m_due1S, Int32.add_zero, c_7, c_58, c_85, c_166, c_177, c_190, eq_true c_7, eq_true c_58, eq_true c_85, eq_true c_166, eq_true c_177, eq_true c_190]; rfl))) ?_
                          refine z_mem (M' := zmm (m_due (m_tickB i nr np) np (o + 1)) (m_tickL i lm nr)) (by show zmm _ _ = zmm (m_due1 (m_due (m_tickB i nr np) np o) np o) _; (first | rfl | (simp only [Int32.lt_irrefl, if_true, if_false, not_true_eq_false, not_false_eq_true, and_true, true_and, and_false, false_and, or_true, true_or, or_false, false_or, and_self, ite_self, zb, m_due1, c_7, c_58, c_85, c_166, c_177, c_190, eq_true c_7, eq_true c_58, eq_true c_85, eq_true c_166, eq_true c_177, eq_true c_190]; done) | (simp only [Int32.lt_irrefl, if_true, if_false, not_true_eq_false, not_false_eq_true, and_true, true_and, and_false, false_and, or_true, true_or, or_false, false_or, and_self, ite_self, zb, m_due1, c_7, c_58, c_85, c_166, c_177, c_190, eq_true c_7, eq_true c_58, eq_true c_85, eq_true c_166, eq_true c_177, eq_true c_190]; rfl))) ?_
                          exact ih161
                        · skip
                          refine z_aload_n X 0 dX8_tick_193 rfl rfl ?_
                          refine z_iload_n X 2 dX8_tick_194 rfl rfl ?_
                          refine z_callVi (As := [.int (nI o)]) (rest := []) (n1 := 1) (ci := 11) X dX8_tick_195 (c_X8_candidatesOf l _ _ o (by omega) np hwJ.2.1.1 h24) gX8_tick_X8_candidatesOf rfl rfl (by decide +kernel) ⟨by decide, by decide⟩ zmm_c1 rfl rfl (Nat.le_of_ble_eq_true rfl) ⟨by decide, by decide⟩ (fun _ h => h.elim) ?_
                          rintro _ _ ⟨rfl, rfl⟩
                          refine z_aload_n X 0 dX8_tick_198 rfl rfl ?_
                          refine z_getR (ci := 11) (j := 37) (o' := 137) X dX8_tick_199 zmm_c1 rfl (by decide) hlk_101 (Or.inl rfl) (fun _ => rfl) (zmm_r137) ?_
                          refine z_iload_n X 2 dX8_tick_202 rfl rfl ?_
                          refine z_iald (j := o) (x := (m_due (m_tickB i nr np) np o) 137 o) X dX8_tick_203 zmm_c137 (by rw [zmm_n137]; exact vp_in_nI (by omega) (by decide)) (nI_clamp (by omega)) (rfl) ?_
                          refine z_icmp_lt X 219 dX8_tick_204 (by decide) (fun c_204 => ?_) (fun c_204 => ?_)
                          · skip
                            refine z_aload_n X 0 dX8_tick_219 rfl rfl ?_
                            refine z_getR (ci := 11) (j := 40) (o' := 140) X dX8_tick_220 zmm_c1 rfl (by decide) hlk_110 (Or.inl rfl) (fun _ => rfl) (zmm_r140) ?_
                            refine z_iload_n X 2 dX8_tick_223 rfl rfl ?_
                            refine z_bipush (v := 109) X dX8_tick_224 (by decide) ?_
                            refine z_cast (j := o) X dX8_tick_226 zmm_c140 (by rw [zmm_n140]; exact vp_in_nI (by omega) (by decide)) (nI_clamp (by omega)) (rfl) ?_
                            obtain ⟨i_9, hi_9⟩ : ∃ q, q = zup (m_due (m_tickB i nr np) np o) 140 o 109 := ⟨_, rfl⟩
                            refine z_mem (M' := zmm i_9 (m_tickL i lm nr)) (by rw [hi_9]; rfl) ?_
                            refine z_iinc (ls' := [(2, .int (nI (o + 1))), (0, .ref 1), (1, .int (m_dueS (m_tickB i nr np) np o))]) (v := nI (o + 1)) X 2 dX8_tick_227 rfl (nI_1 _) (by decide) rfl ?_
                            refine z_goto (tgt := 161) X dX8_tick_230 (by decide) ?_
                            refine z_sub (ls' := [(0, .ref 1), (1, .int (m_dueS (m_tickB i nr np) np o)), (2, .int (nI (o + 1)))]) [1, 2, 0] rfl ?_
                            refine z_lse (ls' := [(0, .ref 1), (1, .int (m_dueS (m_tickB i nr np) np (o + 1))), (2, .int (nI (o + 1)))]) (by (first | rfl | (simp only [Int32.lt_irrefl, if_true, if_false, not_true_eq_false, not_false_eq_true, and_true, true_and, and_false, false_and, or_true, true_or, or_false, false_or, and_self, ite_self, zb, m_dueS, m_due1S, Int32.add_zero, c_7, c_58, c_85, c_166, c_177, c_190, c_204, eq_true c_7, eq_true c_58, eq_true c_85, eq_true c_166, eq_true c_177, eq_true c_190, eq_true c_204]; done) | (simp only [Int32.lt_irrefl, if_true, if_false, not_true_eq_false, not_false_eq_true, and_true, true_and, and_false, false_and, or_true, true_or, or_false, false_or, and_self, ite_self, zb, m_dueS, m_due1S, Int32.add_zero, c_7, c_58, c_85, c_166, c_177, c_190, c_204, eq_true c_7, eq_true c_58, eq_true c_85, eq_true c_166, eq_true c_177, eq_true c_190, eq_true c_204]; rfl))) ?_
                            refine z_mem (M' := zmm (m_due (m_tickB i nr np) np (o + 1)) (m_tickL i lm nr)) (by subst hi_9; show zmm _ _ = zmm (m_due1 (m_due (m_tickB i nr np) np o) np o) _; (first | rfl | (simp only [Int32.lt_irrefl, if_true, if_false, not_true_eq_false, not_false_eq_true, and_true, true_and, and_false, false_and, or_true, true_or, or_false, false_or, and_self, ite_self, zb, m_due1, c_7, c_58, c_85, c_166, c_177, c_190, c_204, eq_true c_7, eq_true c_58, eq_true c_85, eq_true c_166, eq_true c_177, eq_true c_190, eq_true c_204]; done) | (simp only [Int32.lt_irrefl, if_true, if_false, not_true_eq_false, not_false_eq_true, and_true, true_and, and_false, false_and, or_true, true_or, or_false, false_or, and_self, ite_self, zb, m_due1, c_7, c_58, c_85, c_166, c_177, c_190, c_204, eq_true c_7, eq_true c_58, eq_true c_85, eq_true c_166, eq_true c_177, eq_true c_190, eq_true c_204]; rfl))) ?_
                            exact ih161
                          · skip
                            refine z_aload_n X 0 dX8_tick_207 rfl rfl ?_
                            refine z_iload_n X 2 dX8_tick_208 rfl rfl ?_
                            obtain ⟨c9, hc91, hc98, hc9⟩ := hwJ.2.2.2.2 o (by omega)
                            refine z_callVi (As := [.int (nI o)]) (rest := []) (n1 := 1) (ci := 11) X dX8_tick_209 (c_X8_ships l _ _ o (by omega) np hwJ.2.1.1 h24 c9 hc91 (by have h8 := c_204; rw [m_cnt_N, hc9] at h8; rcases Nat.lt_or_ge (m_cntN (m_due (m_tickB i nr np) np o) o np) c9 with q | q; exact absurd (nI_lt q (by omega)) h8; exact q) hc9) gX8_tick_X8_ships rfl rfl (by decide +kernel) ⟨by decide, by decide⟩ zmm_c1 rfl rfl (Nat.le_of_ble_eq_true rfl) ⟨by decide, by decide⟩ (fun _ h => h.elim) ?_
                            rintro _ _ ⟨rfl, rfl⟩
                            refine z_istore_n (ls' := [(3, .int (m_shipS (m_due (m_tickB i nr np) np o) o np c9)), (0, .ref 1), (1, .int (m_dueS (m_tickB i nr np) np o)), (2, .int (nI o))]) X dX8_tick_212 rfl (by decide) rfl ?_
                            refine z_iinc (ls' := [(1, .int ((m_dueS (m_tickB i nr np) np o) + 1)), (3, .int (m_shipS (m_due (m_tickB i nr np) np o) o np c9)), (0, .ref 1), (2, .int (nI o))]) (v := (m_dueS (m_tickB i nr np) np o) + 1) X 2 dX8_tick_213 rfl (rfl) (by decide) rfl ?_
                            refine z_goto (tgt := 227) X dX8_tick_216 (by decide) ?_
                            refine z_iinc (ls' := [(2, .int (nI (o + 1))), (1, .int ((m_dueS (m_tickB i nr np) np o) + 1)), (3, .int (m_shipS (m_due (m_tickB i nr np) np o) o np c9)), (0, .ref 1)]) (v := nI (o + 1)) X 3 dX8_tick_227 rfl (nI_1 _) (by decide) rfl ?_
                            refine z_goto (tgt := 161) X dX8_tick_230 (by decide) ?_
                            refine z_sub (ls' := [(0, .ref 1), (1, .int ((m_dueS (m_tickB i nr np) np o) + 1)), (2, .int (nI (o + 1)))]) [3, 1, 0] rfl ?_
                            refine z_lse (ls' := [(0, .ref 1), (1, .int (m_dueS (m_tickB i nr np) np (o + 1))), (2, .int (nI (o + 1)))]) (by (first | rfl | (simp only [Int32.lt_irrefl, if_true, if_false, not_true_eq_false, not_false_eq_true, and_true, true_and, and_false, false_and, or_true, true_or, or_false, false_or, and_self, ite_self, zb, m_dueS, m_due1S, Int32.add_zero, c_7, c_58, c_85, c_166, c_177, c_190, c_204, eq_true c_7, eq_true c_58, eq_true c_85, eq_true c_166, eq_true c_177, eq_true c_190, eq_true c_204]; done) | (simp only [Int32.lt_irrefl, if_true, if_false, not_true_eq_false, not_false_eq_true, and_true, true_and, and_false, false_and, or_true, true_or, or_false, false_or, and_self, ite_self, zb, m_dueS, m_due1S, Int32.add_zero, c_7, c_58, c_85, c_166, c_177, c_190, c_204, eq_true c_7, eq_true c_58, eq_true c_85, eq_true c_166, eq_true c_177, eq_true c_190, eq_true c_204]; rfl))) ?_
                            refine z_mem (M' := zmm (m_due (m_tickB i nr np) np (o + 1)) (m_tickL i lm nr)) (by show zmm _ _ = zmm (m_due1 (m_due (m_tickB i nr np) np o) np o) _; (first | rfl | (simp only [Int32.lt_irrefl, if_true, if_false, not_true_eq_false, not_false_eq_true, and_true, true_and, and_false, false_and, or_true, true_or, or_false, false_or, and_self, ite_self, zb, m_due1, c_7, c_58, c_85, c_166, c_177, c_190, c_204, eq_true c_7, eq_true c_58, eq_true c_85, eq_true c_166, eq_true c_177, eq_true c_190, eq_true c_204]; done) | (simp only [Int32.lt_irrefl, if_true, if_false, not_true_eq_false, not_false_eq_true, and_true, true_and, and_false, false_and, or_true, true_or, or_false, false_or, and_self, ite_self, zb, m_due1, c_7, c_58, c_85, c_166, c_177, c_190, c_204, eq_true c_7, eq_true c_58, eq_true c_85, eq_true c_166, eq_true c_177, eq_true c_190, eq_true c_204]; rfl))) ?_
                            exact ih161
                refine z_sub (ls' := [(0, .ref 1), (1, .int 0), (2, .int 0)]) [2, 1, 0] rfl ?_
                refine z_lse (ls' := [(0, .ref 1), (1, .int (m_dueS (m_tickB i nr np) np 0)), (2, .int (nI 0))]) (rfl) ?_
                refine z_mem (M' := zmm (m_due (m_tickB i nr np) np 0) (m_tickL i lm nr)) (by rfl) ?_
                exact hloop161 0 (Nat.zero_le _)
              · exact absurd (by rw [m_age_o (by decide), show m_tk2 (m_tk1 i nr) 1 35 = i 1 35 from (zup_n (by omega)).trans (m_tk1_o (by omega) (by omega) (by omega) (by omega) (by omega) (by omega) (by omega)), hp]; exact Int32.le_refl _) c_85
            · intro p hp_80 ih80
              have ih80 : zE g 4 80 [(0, .ref 1), (1, .int (nI (p + 1)))] [] (zmm (m_age (m_tk2 (m_tk1 i nr)) (p + 1)) (m_tickL i lm nr)) 0 0 := ih80
              show zE g 4 80 [(0, .ref 1), (1, .int (nI p))] [] (zmm (m_age (m_tk2 (m_tk1 i nr)) p) (m_tickL i lm nr)) 0 0
              refine z_iload_n X 1 dX8_tick_80 rfl rfl ?_
              refine z_aload_n X 0 dX8_tick_81 rfl rfl ?_
              refine z_getI (ci := 11) (j := 35) (x := (m_age (m_tk2 (m_tk1 i nr)) p) 1 35) X dX8_tick_82 zmm_c1 rfl (by decide) hlk_126 (Or.inl rfl) (fun _ => rfl) (rfl) ?_
              refine z_icmp_ge X 147 dX8_tick_85 (by decide) (fun c_85 => ?_) (fun c_85 => ?_)
              · exact absurd (by rw [m_age_o (by decide), show m_tk2 (m_tk1 i nr) 1 35 = i 1 35 from (zup_n (by omega)).trans (m_tk1_o (by omega) (by omega) (by omega) (by omega) (by omega) (by omega) (by omega)), hp] at c_85; exact c_85) (nI_ge hp_80 (by omega))
              · skip
                refine z_aload_n X 0 dX8_tick_88 rfl rfl ?_
                refine z_getR (ci := 11) (j := 33) (o' := 133) X dX8_tick_89 zmm_c1 rfl (by decide) hlk_92 (Or.inl rfl) (fun _ => rfl) (zmm_r133) ?_
                refine z_iload_n X 1 dX8_tick_92 rfl rfl ?_
                refine z_aload_n X 0 dX8_tick_93 rfl rfl ?_
                refine z_getR (ci := 11) (j := 34) (o' := 134) X dX8_tick_94 zmm_c1 rfl (by decide) hlk_95 (Or.inl rfl) (fun _ => rfl) (zmm_r134) ?_
                refine z_iload_n X 1 dX8_tick_97 rfl rfl ?_
                refine z_cald (j := p) (x := (m_age (m_tk2 (m_tk1 i nr)) p) 134 p) X dX8_tick_98 zmm_c134 (by rw [zmm_n134]; exact vp_in_nI (by omega) (by decide)) (nI_clamp (by omega)) (rfl) ?_
                refine z_bipush (v := 114) X dX8_tick_99 (by decide) ?_
                refine z_icmp_ne X 134 dX8_tick_101 (by decide) (fun c_101 => ?_) (fun c_101 => ?_)
                · skip
                  refine z_aload_n X 0 dX8_tick_134 rfl rfl ?_
                  refine z_getR (ci := 11) (j := 33) (o' := 133) X dX8_tick_135 zmm_c1 rfl (by decide) hlk_92 (Or.inl rfl) (fun _ => rfl) (zmm_r133) ?_
                  refine z_iload_n X 1 dX8_tick_138 rfl rfl ?_
                  refine z_iald (j := p) (x := (m_age (m_tk2 (m_tk1 i nr)) p) 133 p) X dX8_tick_139 zmm_c133 (by rw [zmm_n133]; exact vp_in_nI (by omega) (by decide)) (nI_clamp (by omega)) (rfl) ?_
                  refine z_iast (j := p) X dX8_tick_140 zmm_c133 (by rw [zmm_n133]; exact vp_in_nI (by omega) (by decide)) (nI_clamp (by omega)) ?_
                  obtain ⟨i_10, hi_10⟩ : ∃ q, q = zup (m_age (m_tk2 (m_tk1 i nr)) p) 133 p ((m_age (m_tk2 (m_tk1 i nr)) p) 133 p) := ⟨_, rfl⟩
                  refine z_mem (M' := zmm i_10 (m_tickL i lm nr)) (by rw [hi_10]; rfl) ?_
                  refine z_iinc (ls' := [(1, .int (nI (p + 1))), (0, .ref 1)]) (v := nI (p + 1)) X 1 dX8_tick_141 rfl (nI_1 _) (by decide) rfl ?_
                  refine z_goto (tgt := 80) X dX8_tick_144 (by decide) ?_
                  refine z_sub (ls' := [(0, .ref 1), (1, .int (nI (p + 1)))]) [1, 0] rfl ?_
                  refine z_lse (ls' := [(0, .ref 1), (1, .int (nI (p + 1)))]) (rfl) ?_
                  refine z_mem (M' := zmm (m_age (m_tk2 (m_tk1 i nr)) (p + 1)) (m_tickL i lm nr)) (by subst hi_10; show zmm _ _ = zmm (zup (m_age (m_tk2 (m_tk1 i nr)) p) 133 p (m_age1 (m_age (m_tk2 (m_tk1 i nr)) p) p)) _; (first | rfl | (simp only [Int32.lt_irrefl, if_true, if_false, not_true_eq_false, not_false_eq_true, and_true, true_and, and_false, false_and, or_true, true_or, or_false, false_or, and_self, ite_self, zb, m_age1, c_7, c_58, c_85, c_101, eq_true c_7, eq_true c_58, eq_true c_85, eq_true c_101]; done) | (simp only [Int32.lt_irrefl, if_true, if_false, not_true_eq_false, not_false_eq_true, and_true, true_and, and_false, false_and, or_true, true_or, or_false, false_or, and_self, ite_self, zb, m_age1, c_7, c_58, c_85, c_101, eq_true c_7, eq_true c_58, eq_true c_85, eq_true c_101]; rfl))) ?_
                  exact ih80
                · skip
                  refine z_iconst (v := 0) X dX8_tick_104 (by decide) ?_
                  refine z_aload_n X 0 dX8_tick_105 rfl rfl ?_
                  refine z_getR (ci := 11) (j := 33) (o' := 133) X dX8_tick_106 zmm_c1 rfl (by decide) hlk_92 (Or.inl rfl) (fun _ => rfl) (zmm_r133) ?_
                  refine z_iload_n X 1 dX8_tick_109 rfl rfl ?_
                  refine z_iald (j := p) (x := (m_age (m_tk2 (m_tk1 i nr)) p) 133 p) X dX8_tick_110 zmm_c133 (by rw [zmm_n133]; exact vp_in_nI (by omega) (by decide)) (nI_clamp (by omega)) (rfl) ?_
                  refine z_aload_n X 0 dX8_tick_111 rfl rfl ?_
                  refine z_iload_n X 1 dX8_tick_112 rfl rfl ?_
                  refine z_aload_n X 0 dX8_tick_113 rfl rfl ?_
                  refine z_getR (ci := 11) (j := 10) (o' := 110) X dX8_tick_114 zmm_c1 rfl (by decide) hlk_39 (Or.inl rfl) (fun _ => rfl) (zmm_r110) ?_
                  refine z_aload_n X 0 dX8_tick_117 rfl rfl ?_
                  refine z_getR (ci := 11) (j := 32) (o' := 132) X dX8_tick_118 zmm_c1 rfl (by decide) hlk_89 (Or.inl rfl) (fun _ => rfl) (zmm_r132) ?_
                  refine z_iload_n X 1 dX8_tick_121 rfl rfl ?_
                  refine z_iald (j := p) (x := (m_age (m_tk2 (m_tk1 i nr)) p) 132 p) X dX8_tick_122 zmm_c132 (by rw [zmm_n132]; exact vp_in_nI (by omega) (by decide)) (nI_clamp (by omega)) (rfl) ?_
                  refine z_iald (j := cl ((m_age (m_tk2 (m_tk1 i nr)) p) 132 p)) (x := (m_age (m_tk2 (m_tk1 i nr)) p) 110 (cl ((m_age (m_tk2 (m_tk1 i nr)) p) 132 p))) X dX8_tick_123 zmm_c110 (by rw [zmm_n110]; exact (by rw [m_age_o (by decide)]; rw [show m_tk2 (m_tk1 i nr) 132 p = i 132 p from (zup_n (by omega)).trans (m_tk1_o (by omega) (by omega) (by omega) (by omega) (by omega) (by omega) (by omega))]; exact (hpr p (by omega)).2)) (rfl) (rfl) ?_
                  refine z_callVi (As := [.int (nI p), .int ((m_age (m_tk2 (m_tk1 i nr)) p) 110 (cl ((m_age (m_tk2 (m_tk1 i nr)) p) 132 p)))]) (rest := [.int ((m_age (m_tk2 (m_tk1 i nr)) p) 133 p), .int 0, .int (nI p), .ref 133]) (n1 := 2) (ci := 11) X dX8_tick_124 (c_X8_loss l _ _ p ((m_age (m_tk2 (m_tk1 i nr)) p) 110 (cl ((m_age (m_tk2 (m_tk1 i nr)) p) 132 p))) (by omega) (by rw [m_age_o (by decide)]; rw [show m_tk2 (m_tk1 i nr) 131 p = i 131 p from (zup_n (by omega)).trans (m_tk1_o (by omega) (by omega) (by omega) (by omega) (by omega) (by omega) (by omega))]; exact (hpr p (by omega)).1)) gX8_tick_X8_loss rfl rfl (by decide +kernel) ⟨by decide, by decide⟩ zmm_c1 rfl rfl (Nat.le_of_ble_eq_true rfl) ⟨by decide, by decide⟩ (fun _ h => h.elim) ?_
                  rintro _ _ ⟨rfl, rfl⟩
                  refine z_isub X dX8_tick_127 ?_
                  refine z_mmax X dX8_tick_128 (by decide +kernel) (by decide +kernel) (by decide +kernel) (by decide +kernel) (by decide) (Nat.le_of_ble_eq_true rfl) (by decide) (by decide) ?_
                  refine z_goto (tgt := 140) X dX8_tick_131 (by decide) ?_
                  refine z_iast (j := p) X dX8_tick_140 zmm_c133 (by rw [zmm_n133]; exact vp_in_nI (by omega) (by decide)) (nI_clamp (by omega)) ?_
                  obtain ⟨i_11, hi_11⟩ : ∃ q, q = zup (m_age (m_tk2 (m_tk1 i nr)) p) 133 p (if 0 < (((m_age (m_tk2 (m_tk1 i nr)) p) 133 p) - (m_loss (m_age (m_tk2 (m_tk1 i nr)) p) p ((m_age (m_tk2 (m_tk1 i nr)) p) 110 (cl ((m_age (m_tk2 (m_tk1 i nr)) p) 132 p))))) then (((m_age (m_tk2 (m_tk1 i nr)) p) 133 p) - (m_loss (m_age (m_tk2 (m_tk1 i nr)) p) p ((m_age (m_tk2 (m_tk1 i nr)) p) 110 (cl ((m_age (m_tk2 (m_tk1 i nr)) p) 132 p))))) else 0) := ⟨_, rfl⟩
                  refine z_mem (M' := zmm i_11 (m_tickL i lm nr)) (by rw [hi_11]; rfl) ?_
                  refine z_iinc (ls' := [(1, .int (nI (p + 1))), (0, .ref 1)]) (v := nI (p + 1)) X 1 dX8_tick_141 rfl (nI_1 _) (by decide) rfl ?_
                  refine z_goto (tgt := 80) X dX8_tick_144 (by decide) ?_
                  refine z_sub (ls' := [(0, .ref 1), (1, .int (nI (p + 1)))]) [1, 0] rfl ?_
                  refine z_lse (ls' := [(0, .ref 1), (1, .int (nI (p + 1)))]) (rfl) ?_
                  refine z_mem (M' := zmm (m_age (m_tk2 (m_tk1 i nr)) (p + 1)) (m_tickL i lm nr)) (by subst hi_11; show zmm _ _ = zmm (zup (m_age (m_tk2 (m_tk1 i nr)) p) 133 p (m_age1 (m_age (m_tk2 (m_tk1 i nr)) p) p)) _; (first | rfl | (simp only [Int32.lt_irrefl, if_true, if_false, not_true_eq_false, not_false_eq_true, and_true, true_and, and_false, false_and, or_true, true_or, or_false, false_or, and_self, ite_self, zb, m_age1, c_7, c_58, c_85, c_101, eq_true c_7, eq_true c_58, eq_true c_85, eq_true c_101]; done) | (simp only [Int32.lt_irrefl, if_true, if_false, not_true_eq_false, not_false_eq_true, and_true, true_and, and_false, false_and, or_true, true_or, or_false, false_or, and_self, ite_self, zb, m_age1, c_7, c_58, c_85, c_101, eq_true c_7, eq_true c_58, eq_true c_85, eq_true c_101]; rfl))) ?_
                  exact ih80
          refine z_sub (ls' := [(0, .ref 1), (1, .int 0)]) [1, 0] rfl ?_
          refine z_lse (ls' := [(0, .ref 1), (1, .int (nI 0))]) (rfl) ?_
          refine z_mem (M' := zmm (m_age (m_tk2 (m_tk1 i nr)) 0) (m_tickL i lm nr)) (by rfl) ?_
          exact hloop80 0 (Nat.zero_le _)
      · exact absurd (by rw [m_wishes_o (by decide), hn]; exact Int32.le_refl _) c_7
    · intro r hr_2 ih2
      have ih2 : zE g 4 2 [(0, .ref 1), (1, .int (nI (r + 1)))] [] (zmm (m_wishes i (r + 1)) lm) 0 0 := ih2
      show zE g 4 2 [(0, .ref 1), (1, .int (nI r))] [] (zmm (m_wishes i r) lm) 0 0
      refine z_iload_n X 1 dX8_tick_2 rfl rfl ?_
      refine z_aload_n X 0 dX8_tick_3 rfl rfl ?_
      refine z_getI (ci := 11) (j := 17) (x := (m_wishes i r) 1 17) X dX8_tick_4 zmm_c1 rfl (by decide) hlk_119 (Or.inl rfl) (fun _ => rfl) (rfl) ?_
      refine z_icmp_ge X 21 dX8_tick_7 (by decide) (fun c_7 => ?_) (fun c_7 => ?_)
      · exact absurd (by rw [m_wishes_o (by decide), hn] at c_7; exact c_7) (nI_ge hr_2 (by omega))
      · skip
        refine z_aload_n X 0 dX8_tick_10 rfl rfl ?_
        refine z_iload_n X 1 dX8_tick_11 rfl rfl ?_
        refine z_callVv (As := [.int (nI r)]) (rest := []) (n1 := 1) (ci := 11) X dX8_tick_12 (c_X8_wishes l _ _ r (by omega)) gX8_tick_X8_wishes rfl rfl (by decide +kernel) ⟨by decide, by decide⟩ zmm_c1 rfl rfl (Nat.le_of_ble_eq_true rfl) ⟨by decide, by decide⟩ (fun _ h => h.elim) ?_
        rintro _ ⟨rfl, rfl⟩
        refine z_iinc (ls' := [(1, .int (nI (r + 1))), (0, .ref 1)]) (v := nI (r + 1)) X 1 dX8_tick_15 rfl (nI_1 _) (by decide) rfl ?_
        refine z_goto (tgt := 2) X dX8_tick_18 (by decide) ?_
        refine z_sub (ls' := [(0, .ref 1), (1, .int (nI (r + 1)))]) [1, 0] rfl ?_
        refine z_lse (ls' := [(0, .ref 1), (1, .int (nI (r + 1)))]) (rfl) ?_
        refine z_mem (M' := zmm (m_wishes i (r + 1)) lm) (by rfl) ?_
        exact ih2
  refine z_sub (ls' := [(0, .ref 1), (1, .int 0)]) [1, 0] rfl ?_
  refine z_lse (ls' := [(0, .ref 1), (1, .int (nI 0))]) (rfl) ?_
  refine z_mem (M' := zmm (m_wishes i 0) lm) (by rfl) ?_
  exact hloop2 0 (Nat.zero_le _)
