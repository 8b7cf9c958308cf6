/-! PART 61: isConsistent of the class -/
theorem lg_cmp_s (a : Int64) : lg_cmp a a = 0 := by simp [lg_cmp]
set_option maxRecDepth 100000 in
set_option maxHeartbeats 4000000 in
theorem c_X7_isMeterConsistent (l : Launch) (hl0 : l.stackTraces = false) (n : Nat → Nat) (i x : Nat → Nat → Int32) (lm : Nat → Nat → Int64) (y : Nat → Nat → Nat) (ol : Int64) (od : UInt64) (hW : cW n i y) (tk : Nat) (htk : tk ≤ 960) (hti : i 1 0 = nI tk) (h1 : lm 1 26 = c_rc x tk) (h2 : i 1 25 = c_rg x tk) (h3 : i 1 24 ≤ i 1 25) : zS l yX7_isMeterConsistent wsX7_isMeterConsistent 3 64 0 0 [.ref 1] (cmm n i x lm y ol od) (zpi (fun q M1 => q = 1 ∧ M1 = cmm n i x lm y ol od)) zno := by
  refine z_intro (cc := cX7_isMeterConsistent) (maxL := 1) (ret := (some .boolean)) (by decide +kernel) rfl (Nat.le_of_ble_eq_true rfl) ?_
  have hlk_39 : Cond.fieldLink RX7 39 "ColdStore" "time" "I" ∈ wsX7_isMeterConsistent := by decide +kernel
  have hlk_35 : Cond.fieldLink RX7 35 "ColdStore" "meter" "LColdStore$Meter;" ∈ wsX7_isMeterConsistent := by decide +kernel
  have hlk_149 : Cond.fieldLink RX7 149 "ColdStore$Meter" "greatest" "I" ∈ wsX7_isMeterConsistent := by decide +kernel
  have hlk_146 : Cond.fieldLink RX7 146 "ColdStore$Meter" "latest" "I" ∈ wsX7_isMeterConsistent := by decide +kernel
  intro g X
  show zE g 1 0 [(0, .ref 1)] [] (cmm n i x lm y ol od) 0 0
  refine z_aload_n X 0 dX7_isMeterConsistent_0 rfl rfl ?_
  refine z_getI (ci := 10) (j := 6) (x := nI tk) X dX7_isMeterConsistent_1 ck_1 rfl (by decide) hlk_39 (Or.inl rfl) (fun _ => rfl) (by rw [ci_1_6]; exact hti) ?_
  refine z_if_lt X 71 dX7_isMeterConsistent_4 (by decide) (fun c_4 => ?_) (fun c_4 => ?_)
  · exact absurd c_4 (nI_nn _ (by omega))
  · skip
    refine z_aload_n X 0 dX7_isMeterConsistent_7 rfl rfl ?_
    refine z_getI (ci := 10) (j := 6) (x := nI tk) X dX7_isMeterConsistent_8 ck_1 rfl (by decide) hlk_39 (Or.inl rfl) (fun _ => rfl) (by rw [ci_1_6]; exact hti) ?_
    refine z_sipush (v := 960) X dX7_isMeterConsistent_11 (by decide) ?_
    refine z_icmp_gt X 71 dX7_isMeterConsistent_14 (by decide) (fun c_14 => ?_) (fun c_14 => ?_)
    · exact absurd c_14 (nI_ge_ (b := 960) htk (by decide))
    · skip
      refine z_aload_n X 0 dX7_isMeterConsistent_17 rfl rfl ?_
      refine z_callVl (As := []) (rest := []) (n1 := 0) (ci := 10) X dX7_isMeterConsistent_18 (c_X7_bill l hl0 n i x lm y ol od (hW)) gX7_isMeterConsistent_X7_bill rfl rfl (by decide +kernel) ⟨by decide, by decide⟩ ck_1 rfl rfl (Nat.le_of_ble_eq_true rfl) ⟨by decide, by decide⟩ (fun _ h => h.elim) ?_
      rintro _ _ ⟨rfl, rfl⟩
      refine z_aload_n X 0 dX7_isMeterConsistent_21 rfl rfl ?_
      refine z_callVl (As := []) (rest := [.long (lm 1 26 + (i 1 25).toInt64 * (i 1 22).toInt64)]) (n1 := 0) (ci := 10) X dX7_isMeterConsistent_22 (c_X7_billByRecords l hl0 n i x lm y ol od (hW) tk htk hti) gX7_isMeterConsistent_X7_billByRecords rfl rfl (by decide +kernel) ⟨by decide, by decide⟩ ck_1 rfl rfl (Nat.le_of_ble_eq_true rfl) ⟨by decide, by decide⟩ (fun _ h => h.elim) ?_
      rintro _ _ ⟨rfl, rfl⟩
      refine z_lcmp X dX7_isMeterConsistent_25 ?_
      refine z_if_ne X 71 dX7_isMeterConsistent_26 (by decide) (fun c_26 => ?_) (fun c_26 => ?_)
      · exact absurd (by rw [h1, h2]; exact lg_cmp_s _) c_26
      · skip
        refine z_aload_n X 0 dX7_isMeterConsistent_29 rfl rfl ?_
        refine z_getR (ci := 10) (j := 5) (o' := 5) X dX7_isMeterConsistent_30 ck_1 rfl (by decide) hlk_35 (Or.inl rfl) (fun _ => rfl) (cr_1_5) ?_
        refine z_getI (ci := 5) (j := 3) (x := i 1 25) X dX7_isMeterConsistent_33 ck_5 rfl (by decide) hlk_149 (Or.inl rfl) (fun _ => rfl) (ci_5_3) ?_
        refine z_aload_n X 0 dX7_isMeterConsistent_36 rfl rfl ?_
        refine z_getR (ci := 10) (j := 5) (o' := 5) X dX7_isMeterConsistent_37 ck_1 rfl (by decide) hlk_35 (Or.inl rfl) (fun _ => rfl) (cr_1_5) ?_
        refine z_aload_n X 0 dX7_isMeterConsistent_40 rfl rfl ?_
        refine z_getI (ci := 10) (j := 6) (x := nI tk) X dX7_isMeterConsistent_41 ck_1 rfl (by decide) hlk_39 (Or.inl rfl) (fun _ => rfl) (by rw [ci_1_6]; exact hti) ?_
        refine z_callVi (As := [.int (nI tk)]) (rest := [.int (i 1 25)]) (n1 := 1) (ci := 5) X dX7_isMeterConsistent_44 (c_X2_recordedGreatest l n i x lm y ol od tk htk) gX7_isMeterConsistent_X2_recordedGreatest rfl rfl (by decide +kernel) ⟨by decide, by decide⟩ ck_5 rfl rfl (Nat.le_of_ble_eq_true rfl) ⟨by decide, by decide⟩ (fun _ h => h.elim) ?_
        rintro _ _ ⟨rfl, rfl⟩
        refine z_icmp_ne X 71 dX7_isMeterConsistent_47 (by decide) (fun c_47 => ?_) (fun c_47 => ?_)
        · exact absurd h2 c_47
        · skip
          refine z_aload_n X 0 dX7_isMeterConsistent_50 rfl rfl ?_
          refine z_getR (ci := 10) (j := 5) (o' := 5) X dX7_isMeterConsistent_51 ck_1 rfl (by decide) hlk_35 (Or.inl rfl) (fun _ => rfl) (cr_1_5) ?_
          refine z_getI (ci := 5) (j := 2) (x := i 1 24) X dX7_isMeterConsistent_54 ck_5 rfl (by decide) hlk_146 (Or.inl rfl) (fun _ => rfl) (ci_5_2) ?_
          refine z_aload_n X 0 dX7_isMeterConsistent_57 rfl rfl ?_
          refine z_getR (ci := 10) (j := 5) (o' := 5) X dX7_isMeterConsistent_58 ck_1 rfl (by decide) hlk_35 (Or.inl rfl) (fun _ => rfl) (cr_1_5) ?_
          refine z_getI (ci := 5) (j := 3) (x := i 1 25) X dX7_isMeterConsistent_61 ck_5 rfl (by decide) hlk_149 (Or.inl rfl) (fun _ => rfl) (ci_5_3) ?_
          refine z_icmp_gt X 71 dX7_isMeterConsistent_64 (by decide) (fun c_64 => ?_) (fun c_64 => ?_)
          · exact absurd c_64 (Int32.not_lt.mpr h3)
          · skip
            refine z_iconst (v := 1) X dX7_isMeterConsistent_67 (by decide) ?_
            refine z_goto (tgt := 72) X dX7_isMeterConsistent_68 (by decide) ?_
            refine z_iret X rfl (rfl) (Nat.le_of_ble_eq_true rfl) (Nat.le_of_ble_eq_true rfl) dX7_isMeterConsistent_72 ?_
            exact ⟨_, rfl, rfl, rfl⟩

set_option maxRecDepth 100000 in
set_option maxHeartbeats 4000000 in
theorem c_X7_areRoomsConsistent (l : Launch) (n : Nat → Nat) (i x : Nat → Nat → Int32) (lm : Nat → Nat → Int64) (y : Nat → Nat → Nat) (ol : Int64) (od : UInt64) (hW : cW n i y) (tk : Nat) (htk : tk ≤ 960) (hti : i 1 0 = nI tk) (hr : ∀ j, j < n 5 → i 105 j ≤ i 106 j ∧ -400 ≤ i 110 j ∧ i 116 j ≤ nI tk ∧ ¬ 8 - m_filled i (nI j) (n 7) < 0) : zS l yX7_areRoomsConsistent wsX7_areRoomsConsistent 10 178 0 0 [.ref 1] (cmm n i x lm y ol od) (zpi (fun q M1 => q = 1 ∧ M1 = cmm n i x lm y ol od)) zno := by
  refine z_intro (cc := cX7_areRoomsConsistent) (maxL := 4) (ret := (some .boolean)) (by decide +kernel) rfl (Nat.le_of_ble_eq_true rfl) ?_
  have hlk_10 : Cond.fieldLink RX7 10 "ColdStore" "rooms" "Ljava/util/ArrayList;" ∈ wsX7_areRoomsConsistent := by decide +kernel
  have hlk_205 : Cond.fieldLink RX7 205 "ColdStore$Room" "number" "I" ∈ wsX7_areRoomsConsistent := by decide +kernel
  have hlk_79 : Cond.fieldLink RX7 79 "ColdStore$Room" "lower" "I" ∈ wsX7_areRoomsConsistent := by decide +kernel
  have hlk_82 : Cond.fieldLink RX7 82 "ColdStore$Room" "upper" "I" ∈ wsX7_areRoomsConsistent := by decide +kernel
  have hlk_100 : Cond.fieldLink RX7 100 "ColdStore$Room" "degrees" "I" ∈ wsX7_areRoomsConsistent := by decide +kernel
  have hlk_107 : Cond.fieldLink RX7 107 "ColdStore$Room" "ticks" "I" ∈ wsX7_areRoomsConsistent := by decide +kernel
  have hlk_39 : Cond.fieldLink RX7 39 "ColdStore" "time" "I" ∈ wsX7_areRoomsConsistent := by decide +kernel
  intro g X
  show zE g 4 0 [(0, .ref 1)] [] (cmm n i x lm y ol od) 0 0
  obtain ⟨⟨hn0, hn1, hn2, hn3⟩, ⟨hb5, hb6, hb7, hb8⟩, hp9, hs9, ho9⟩ := hW
  refine z_iconst (v := 0) X dX7_areRoomsConsistent_0 (by decide) ?_
  refine z_istore_n (ls' := [(1, .int 0), (0, .ref 1)]) X dX7_areRoomsConsistent_1 rfl (by decide) rfl ?_
  have hloop2 : ∀ k : Nat, k ≤ n 5 → zE g 4 2 [(0, .ref 1), (1, .int (nI k))] [] (cmm n i x lm y ol od) 0 0 := by
    refine z_loop (fun k => zE g 4 2 [(0, .ref 1), (1, .int (nI k))] [] (cmm n i x lm y ol od) 0 0) (n 5) ?_ ?_
    · show zE g 4 2 [(0, .ref 1), (1, .int (nI (n 5)))] [] (cmm n i x lm y ol od) 0 0
      refine z_iload_n X 1 dX7_areRoomsConsistent_2 rfl rfl ?_
      refine z_aload_n X 0 dX7_areRoomsConsistent_3 rfl rfl ?_
      refine z_getR (ci := 10) (j := 0) (o' := 2) X dX7_areRoomsConsistent_4 ck_1 rfl (by decide) hlk_10 (Or.inl rfl) (fun _ => rfl) (cr_1_0) ?_
      refine z_callVi (As := []) (rest := [.int (nI (n 5))]) (n1 := 0) (ci := 2) X dX7_areRoomsConsistent_7 (c_size0 l _ _ _ _ _ _ _) gX7_areRoomsConsistent_Jx4a65c_size_8abf5 rfl rfl (by decide +kernel) ⟨by decide, by decide⟩ (ck_2 (j := 0) (by decide)) rfl rfl (Nat.le_of_ble_eq_true rfl) ⟨by decide, by decide⟩ (fun _ h => h.elim) ?_
      rintro _ _ ⟨rfl, rfl⟩
      refine z_icmp_ge X 91 dX7_areRoomsConsistent_10 (by decide) (fun c_10 => ?_) (fun c_10 => ?_)
      · skip
        refine z_aload_n X 0 dX7_areRoomsConsistent_91 rfl rfl ?_
        refine z_getR (ci := 10) (j := 0) (o' := 2) X dX7_areRoomsConsistent_92 ck_1 rfl (by decide) hlk_10 (Or.inl rfl) (fun _ => rfl) (cr_1_0) ?_
        refine z_callVi (As := []) (rest := []) (n1 := 0) (ci := 2) X dX7_areRoomsConsistent_95 (c_size0 l _ _ _ _ _ _ _) gX7_areRoomsConsistent_Jx4a65c_size_8abf5 rfl rfl (by decide +kernel) ⟨by decide, by decide⟩ (ck_2 (j := 0) (by decide)) rfl rfl (Nat.le_of_ble_eq_true rfl) ⟨by decide, by decide⟩ (fun _ h => h.elim) ?_
        rintro _ _ ⟨rfl, rfl⟩
        refine z_iconst (v := 4) X dX7_areRoomsConsistent_98 (by decide) ?_
        refine z_icmp_gt X 106 dX7_areRoomsConsistent_99 (by decide) (fun c_99 => ?_) (fun c_99 => ?_)
        · exact absurd c_99 (nI_ge_ (b := 4) hb5 (by decide))
        · skip
          refine z_iconst (v := 1) X dX7_areRoomsConsistent_102 (by decide) ?_
          refine z_goto (tgt := 107) X dX7_areRoomsConsistent_103 (by decide) ?_
          refine z_iret X rfl (rfl) (Nat.le_of_ble_eq_true rfl) (Nat.le_of_ble_eq_true rfl) dX7_areRoomsConsistent_107 ?_
          exact ⟨_, rfl, rfl, rfl⟩
      · exact absurd (Int32.le_refl _) c_10
    · intro k hk_2 ih2
      have ih2 : zE g 4 2 [(0, .ref 1), (1, .int (nI (k + 1)))] [] (cmm n i x lm y ol od) 0 0 := ih2
      show zE g 4 2 [(0, .ref 1), (1, .int (nI k))] [] (cmm n i x lm y ol od) 0 0
      refine z_iload_n X 1 dX7_areRoomsConsistent_2 rfl rfl ?_
      refine z_aload_n X 0 dX7_areRoomsConsistent_3 rfl rfl ?_
      refine z_getR (ci := 10) (j := 0) (o' := 2) X dX7_areRoomsConsistent_4 ck_1 rfl (by decide) hlk_10 (Or.inl rfl) (fun _ => rfl) (cr_1_0) ?_
      refine z_callVi (As := []) (rest := [.int (nI k)]) (n1 := 0) (ci := 2) X dX7_areRoomsConsistent_7 (c_size0 l _ _ _ _ _ _ _) gX7_areRoomsConsistent_Jx4a65c_size_8abf5 rfl rfl (by decide +kernel) ⟨by decide, by decide⟩ (ck_2 (j := 0) (by decide)) rfl rfl (Nat.le_of_ble_eq_true rfl) ⟨by decide, by decide⟩ (fun _ h => h.elim) ?_
      rintro _ _ ⟨rfl, rfl⟩
      refine z_icmp_ge X 91 dX7_areRoomsConsistent_10 (by decide) (fun c_10 => ?_) (fun c_10 => ?_)
      · exact absurd c_10 (nI_ge hk_2 (by omega))
      · skip
        refine z_aload_n X 0 dX7_areRoomsConsistent_13 rfl rfl ?_
        refine z_getR (ci := 10) (j := 0) (o' := 2) X dX7_areRoomsConsistent_14 ck_1 rfl (by decide) hlk_10 (Or.inl rfl) (fun _ => rfl) (cr_1_0) ?_
        refine z_iload_n X 1 dX7_areRoomsConsistent_17 rfl rfl ?_
        refine z_callVr (As := [.int (nI k)]) (rest := []) (n1 := 1) (ci := 2) X dX7_areRoomsConsistent_18 (c_get0 l _ _ _ _ _ _ _ k (by omega) (by omega)) gX7_areRoomsConsistent_Jx4a65c_get_915e3 rfl rfl (by decide +kernel) ⟨by decide, by decide⟩ (ck_2 (j := 0) (by decide)) rfl rfl (Nat.le_of_ble_eq_true rfl) ⟨by decide, by decide⟩ (fun _ h => h.elim) ?_
        rintro _ _ ⟨rfl, rfl⟩
        refine z_ckc (ci := 8) X dX7_areRoomsConsistent_21 (by decide +kernel) (ck_8 (by omega)) rfl ?_
        refine z_astore_n (ls' := [(2, .ref (32 * k + 8)), (0, .ref 1), (1, .int (nI k))]) X dX7_areRoomsConsistent_24 rfl (by decide) rfl ?_
        refine z_aload_n X 0 dX7_areRoomsConsistent_25 rfl rfl ?_
        refine z_getI (ci := 8) (j := 0) (x := nI k) X dX7_areRoomsConsistent_26 (ck_8 (by omega)) rfl (by decide) hlk_205 (Or.inl rfl) (fun _ => rfl) (ci_8_0) ?_
        refine z_iload_n X 2 dX7_areRoomsConsistent_29 rfl rfl ?_
        refine z_icmp_ne X 77 dX7_areRoomsConsistent_30 (by decide) (fun c_30 => ?_) (fun c_30 => ?_)
        · exact absurd rfl c_30
        · skip
          refine z_aload_n X 0 dX7_areRoomsConsistent_33 rfl rfl ?_
          refine z_getI (ci := 8) (j := 5) (x := i 105 k) X dX7_areRoomsConsistent_34 (ck_8 (by omega)) rfl (by decide) hlk_79 (Or.inl rfl) (fun _ => rfl) (ci_8_5) ?_
          refine z_aload_n X 0 dX7_areRoomsConsistent_37 rfl rfl ?_
          refine z_getI (ci := 8) (j := 6) (x := i 106 k) X dX7_areRoomsConsistent_38 (ck_8 (by omega)) rfl (by decide) hlk_82 (Or.inl rfl) (fun _ => rfl) (ci_8_6) ?_
          refine z_icmp_gt X 77 dX7_areRoomsConsistent_41 (by decide) (fun c_41 => ?_) (fun c_41 => ?_)
          · exact absurd c_41 (Int32.not_lt.mpr (hr k (by omega)).1)
          · skip
            refine z_aload_n X 0 dX7_areRoomsConsistent_44 rfl rfl ?_
            refine z_getI (ci := 8) (j := 10) (x := i 110 k) X dX7_areRoomsConsistent_45 (ck_8 (by omega)) rfl (by decide) hlk_100 (Or.inl rfl) (fun _ => rfl) (ci_8_10) ?_
            refine z_sipush (v := (-400)) X dX7_areRoomsConsistent_48 (by decide) ?_
            refine z_icmp_lt X 77 dX7_areRoomsConsistent_51 (by decide) (fun c_51 => ?_) (fun c_51 => ?_)
            · exact absurd c_51 (Int32.not_lt.mpr (hr k (by omega)).2.1)
            · skip
              refine z_aload_n X 0 dX7_areRoomsConsistent_54 rfl rfl ?_
              refine z_getI (ci := 8) (j := 14) (x := i 116 k) X dX7_areRoomsConsistent_55 (ck_8 (by omega)) rfl (by decide) hlk_107 (Or.inl rfl) (fun _ => rfl) (ci_8_14) ?_
              refine z_aload_n X 1 dX7_areRoomsConsistent_58 rfl rfl ?_
              refine z_getI (ci := 10) (j := 6) (x := nI tk) X dX7_areRoomsConsistent_59 ck_1 rfl (by decide) hlk_39 (Or.inl rfl) (fun _ => rfl) (by rw [ci_1_6]; exact hti) ?_
              refine z_icmp_gt X 77 dX7_areRoomsConsistent_62 (by decide) (fun c_62 => ?_) (fun c_62 => ?_)
              · exact absurd c_62 (Int32.not_lt.mpr (hr k (by omega)).2.2.1)
              · skip
                refine z_aload_n X 1 dX7_areRoomsConsistent_65 rfl rfl ?_
                refine z_aload_n X 0 dX7_areRoomsConsistent_66 rfl rfl ?_
                refine z_callVi (As := [.ref (32 * k + 8)]) (rest := []) (n1 := 1) (ci := 10) X dX7_areRoomsConsistent_67 (c_X7_spaceIn l n i x lm y ol od (⟨⟨hn0, hn1, hn2, hn3⟩, ⟨hb5, hb6, hb7, hb8⟩, hp9, hs9, ho9⟩) k (by omega)) gX7_areRoomsConsistent_X7_spaceIn rfl rfl (by decide +kernel) ⟨by decide, by decide⟩ ck_1 rfl rfl (Nat.le_of_ble_eq_true rfl) ⟨by decide, by decide⟩ (fun _ h => h.elim) ?_
                rintro _ _ ⟨rfl, rfl⟩
                refine z_if_lt X 77 dX7_areRoomsConsistent_70 (by decide) (fun c_70 => ?_) (fun c_70 => ?_)
                · exact absurd c_70 (hr k (by omega)).2.2.2
                · skip
                  refine z_iconst (v := 1) X dX7_areRoomsConsistent_73 (by decide) ?_
                  refine z_goto (tgt := 78) X dX7_areRoomsConsistent_74 (by decide) ?_
                  refine z_istore_n (ls' := [(3, .int 1), (2, .ref (32 * k + 8)), (0, .ref 1), (1, .int (nI k))]) X dX7_areRoomsConsistent_78 rfl (by decide) rfl ?_
                  refine z_iload_n X 0 dX7_areRoomsConsistent_79 rfl rfl ?_
                  refine z_if_ne X 85 dX7_areRoomsConsistent_80 (by decide) (fun c_80 => ?_) (fun c_80 => ?_)
                  · skip
                    refine z_iinc (ls' := [(1, .int (nI (k + 1))), (3, .int 1), (2, .ref (32 * k + 8)), (0, .ref 1)]) (v := nI (k + 1)) X 3 dX7_areRoomsConsistent_85 rfl (nI_1 _) (by decide) rfl ?_
                    refine z_goto (tgt := 2) X dX7_areRoomsConsistent_88 (by decide) ?_
                    refine z_sub (ls' := [(0, .ref 1), (1, .int (nI (k + 1)))]) [3, 0] rfl ?_
                    refine z_lse (ls' := [(0, .ref 1), (1, .int (nI (k + 1)))]) (rfl) ?_
                    exact ih2
                  · exact absurd c_80 (by decide)
  refine z_sub (ls' := [(0, .ref 1), (1, .int 0)]) [1, 0] rfl ?_
  refine z_lse (ls' := [(0, .ref 1), (1, .int (nI 0))]) (rfl) ?_
  exact hloop2 0 (Nat.zero_le _)

set_option maxRecDepth 100000 in
set_option maxHeartbeats 4000000 in
theorem c_X7_areOrdersConsistent (l : Launch) (n : Nat → Nat) (i x : Nat → Nat → Int32) (lm : Nat → Nat → Int64) (y : Nat → Nat → Nat) (ol : Int64) (od : UInt64) (hW : cW n i y) (tk : Nat) (htk : tk ≤ 960) (hti : i 1 0 = nI tk) (hd : ∀ o, o < n 8 → i 140 o = 111 → nI tk < i 139 o) : zS l yX7_areOrdersConsistent wsX7_areOrdersConsistent 9 154 0 0 [.ref 1] (cmm n i x lm y ol od) (zpi (fun q M1 => q = 1 ∧ M1 = cmm n i x lm y ol od)) zno := by
  refine z_intro (cc := cX7_areOrdersConsistent) (maxL := 3) (ret := (some .boolean)) (by decide +kernel) rfl (Nat.le_of_ble_eq_true rfl) ?_
  have hlk_22 : Cond.fieldLink RX7 22 "ColdStore" "orders" "Ljava/util/ArrayList;" ∈ wsX7_areOrdersConsistent := by decide +kernel
  have hlk_269 : Cond.fieldLink RX7 269 "ColdStore$Order" "status" "C" ∈ wsX7_areOrdersConsistent := by decide +kernel
  have hlk_370 : Cond.fieldLink RX7 370 "ColdStore$Order" "due" "I" ∈ wsX7_areOrdersConsistent := by decide +kernel
  have hlk_39 : Cond.fieldLink RX7 39 "ColdStore" "time" "I" ∈ wsX7_areOrdersConsistent := by decide +kernel
  intro g X
  show zE g 3 0 [(0, .ref 1)] [] (cmm n i x lm y ol od) 0 0
  obtain ⟨⟨hn0, hn1, hn2, hn3⟩, ⟨hb5, hb6, hb7, hb8⟩, hp9, hs9, ho9⟩ := hW
  refine z_iconst (v := 0) X dX7_areOrdersConsistent_0 (by decide) ?_
  refine z_istore_n (ls' := [(1, .int 0), (0, .ref 1)]) X dX7_areOrdersConsistent_1 rfl (by decide) rfl ?_
  have hloop2 : ∀ k : Nat, k ≤ n 8 → zE g 3 2 [(0, .ref 1), (1, .int (nI k))] [] (cmm n i x lm y ol od) 0 0 := by
    refine z_loop (fun k => zE g 3 2 [(0, .ref 1), (1, .int (nI k))] [] (cmm n i x lm y ol od) 0 0) (n 8) ?_ ?_
    · show zE g 3 2 [(0, .ref 1), (1, .int (nI (n 8)))] [] (cmm n i x lm y ol od) 0 0
      refine z_iload_n X 1 dX7_areOrdersConsistent_2 rfl rfl ?_
      refine z_aload_n X 0 dX7_areOrdersConsistent_3 rfl rfl ?_
      refine z_getR (ci := 10) (j := 3) (o' := 98) X dX7_areOrdersConsistent_4 ck_1 rfl (by decide) hlk_22 (Or.inl rfl) (fun _ => rfl) (cr_1_3) ?_
      refine z_callVi (As := []) (rest := [.int (nI (n 8))]) (n1 := 0) (ci := 2) X dX7_areOrdersConsistent_7 (c_size3 l _ _ _ _ _ _ _) gX7_areOrdersConsistent_Jx4a65c_size_8abf5 rfl rfl (by decide +kernel) ⟨by decide, by decide⟩ (ck_2 (j := 3) (by decide)) rfl rfl (Nat.le_of_ble_eq_true rfl) ⟨by decide, by decide⟩ (fun _ h => h.elim) ?_
      rintro _ _ ⟨rfl, rfl⟩
      refine z_icmp_ge X 53 dX7_areOrdersConsistent_10 (by decide) (fun c_10 => ?_) (fun c_10 => ?_)
      · skip
        refine z_aload_n X 0 dX7_areOrdersConsistent_53 rfl rfl ?_
        refine z_getR (ci := 10) (j := 3) (o' := 98) X dX7_areOrdersConsistent_54 ck_1 rfl (by decide) hlk_22 (Or.inl rfl) (fun _ => rfl) (cr_1_3) ?_
        refine z_callVi (As := []) (rest := []) (n1 := 0) (ci := 2) X dX7_areOrdersConsistent_57 (c_size3 l _ _ _ _ _ _ _) gX7_areOrdersConsistent_Jx4a65c_size_8abf5 rfl rfl (by decide +kernel) ⟨by decide, by decide⟩ (ck_2 (j := 3) (by decide)) rfl rfl (Nat.le_of_ble_eq_true rfl) ⟨by decide, by decide⟩ (fun _ h => h.elim) ?_
        rintro _ _ ⟨rfl, rfl⟩
        refine z_bipush (v := 12) X dX7_areOrdersConsistent_60 (by decide) ?_
        refine z_icmp_gt X 69 dX7_areOrdersConsistent_62 (by decide) (fun c_62 => ?_) (fun c_62 => ?_)
        · exact absurd c_62 (nI_ge_ (b := 12) hb8 (by decide))
        · skip
          refine z_iconst (v := 1) X dX7_areOrdersConsistent_65 (by decide) ?_
          refine z_goto (tgt := 70) X dX7_areOrdersConsistent_66 (by decide) ?_
          refine z_iret X rfl (rfl) (Nat.le_of_ble_eq_true rfl) (Nat.le_of_ble_eq_true rfl) dX7_areOrdersConsistent_70 ?_
          exact ⟨_, rfl, rfl, rfl⟩
      · exact absurd (Int32.le_refl _) c_10
    · intro k hk_2 ih2
      have ih2 : zE g 3 2 [(0, .ref 1), (1, .int (nI (k + 1)))] [] (cmm n i x lm y ol od) 0 0 := ih2
      show zE g 3 2 [(0, .ref 1), (1, .int (nI k))] [] (cmm n i x lm y ol od) 0 0
      refine z_iload_n X 1 dX7_areOrdersConsistent_2 rfl rfl ?_
      refine z_aload_n X 0 dX7_areOrdersConsistent_3 rfl rfl ?_
      refine z_getR (ci := 10) (j := 3) (o' := 98) X dX7_areOrdersConsistent_4 ck_1 rfl (by decide) hlk_22 (Or.inl rfl) (fun _ => rfl) (cr_1_3) ?_
      refine z_callVi (As := []) (rest := [.int (nI k)]) (n1 := 0) (ci := 2) X dX7_areOrdersConsistent_7 (c_size3 l _ _ _ _ _ _ _) gX7_areOrdersConsistent_Jx4a65c_size_8abf5 rfl rfl (by decide +kernel) ⟨by decide, by decide⟩ (ck_2 (j := 3) (by decide)) rfl rfl (Nat.le_of_ble_eq_true rfl) ⟨by decide, by decide⟩ (fun _ h => h.elim) ?_
      rintro _ _ ⟨rfl, rfl⟩
      refine z_icmp_ge X 53 dX7_areOrdersConsistent_10 (by decide) (fun c_10 => ?_) (fun c_10 => ?_)
      · exact absurd c_10 (nI_ge hk_2 (by omega))
      · skip
        refine z_aload_n X 0 dX7_areOrdersConsistent_13 rfl rfl ?_
        refine z_getR (ci := 10) (j := 3) (o' := 98) X dX7_areOrdersConsistent_14 ck_1 rfl (by decide) hlk_22 (Or.inl rfl) (fun _ => rfl) (cr_1_3) ?_
        refine z_iload_n X 1 dX7_areOrdersConsistent_17 rfl rfl ?_
        refine z_callVr (As := [.int (nI k)]) (rest := []) (n1 := 1) (ci := 2) X dX7_areOrdersConsistent_18 (c_get3 l _ _ _ _ _ _ _ k (by omega) (by omega)) gX7_areOrdersConsistent_Jx4a65c_get_915e3 rfl rfl (by decide +kernel) ⟨by decide, by decide⟩ (ck_2 (j := 3) (by decide)) rfl rfl (Nat.le_of_ble_eq_true rfl) ⟨by decide, by decide⟩ (fun _ h => h.elim) ?_
        rintro _ _ ⟨rfl, rfl⟩
        refine z_ckc (ci := 6) X dX7_areOrdersConsistent_21 (by decide +kernel) (ck_13 (by omega)) rfl ?_
        refine z_astore_n (ls' := [(2, .ref (32 * k + 13)), (0, .ref 1), (1, .int (nI k))]) X dX7_areOrdersConsistent_24 rfl (by decide) rfl ?_
        refine z_aload_n X 0 dX7_areOrdersConsistent_25 rfl rfl ?_
        refine z_getI (ci := 6) (j := 4) (x := i 140 k) X dX7_areOrdersConsistent_26 (ck_13 (by omega)) rfl (by decide) hlk_269 (Or.inl rfl) (fun _ => rfl) (ci_13_4) ?_
        refine z_bipush (v := 111) X dX7_areOrdersConsistent_29 (by decide) ?_
        refine z_icmp_ne X 47 dX7_areOrdersConsistent_31 (by decide) (fun c_31 => ?_) (fun c_31 => ?_)
        · skip
          refine z_iinc (ls' := [(1, .int (nI (k + 1))), (2, .ref (32 * k + 13)), (0, .ref 1)]) (v := nI (k + 1)) X 2 dX7_areOrdersConsistent_47 rfl (nI_1 _) (by decide) rfl ?_
          refine z_goto (tgt := 2) X dX7_areOrdersConsistent_50 (by decide) ?_
          refine z_sub (ls' := [(0, .ref 1), (1, .int (nI (k + 1)))]) [2, 0] rfl ?_
          refine z_lse (ls' := [(0, .ref 1), (1, .int (nI (k + 1)))]) (rfl) ?_
          exact ih2
        · skip
          refine z_aload_n X 0 dX7_areOrdersConsistent_34 rfl rfl ?_
          refine z_getI (ci := 6) (j := 3) (x := i 139 k) X dX7_areOrdersConsistent_35 (ck_13 (by omega)) rfl (by decide) hlk_370 (Or.inl rfl) (fun _ => rfl) (ci_13_3) ?_
          refine z_aload_n X 1 dX7_areOrdersConsistent_38 rfl rfl ?_
          refine z_getI (ci := 10) (j := 6) (x := nI tk) X dX7_areOrdersConsistent_39 ck_1 rfl (by decide) hlk_39 (Or.inl rfl) (fun _ => rfl) (by rw [ci_1_6]; exact hti) ?_
          refine z_icmp_gt X 47 dX7_areOrdersConsistent_42 (by decide) (fun c_42 => ?_) (fun c_42 => ?_)
          · skip
            refine z_iinc (ls' := [(1, .int (nI (k + 1))), (2, .ref (32 * k + 13)), (0, .ref 1)]) (v := nI (k + 1)) X 2 dX7_areOrdersConsistent_47 rfl (nI_1 _) (by decide) rfl ?_
            refine z_goto (tgt := 2) X dX7_areOrdersConsistent_50 (by decide) ?_
            refine z_sub (ls' := [(0, .ref 1), (1, .int (nI (k + 1)))]) [2, 0] rfl ?_
            refine z_lse (ls' := [(0, .ref 1), (1, .int (nI (k + 1)))]) (rfl) ?_
            exact ih2
          · exact absurd (hd k (by omega) c_31) c_42
  refine z_sub (ls' := [(0, .ref 1), (1, .int 0)]) [1, 0] rfl ?_
  refine z_lse (ls' := [(0, .ref 1), (1, .int (nI 0))]) (rfl) ?_
  exact hloop2 0 (Nat.zero_le _)
