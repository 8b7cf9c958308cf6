/-! PART 45: the class's counts -/
theorem zsp1 (a : Int32) : 8 - (a + 1) = 8 - a + (-1) := by
  rw [Int32.sub_eq_add_neg, Int32.sub_eq_add_neg 8 a, Int32.neg_add, Int32.sub_eq_add_neg, Int32.add_assoc]
theorem nI_inj2 {a b : Nat} (ha : a < 2 ^ 30) (hb : b < 2 ^ 30) (h : nI a = nI b) : a = b := by
  rcases Nat.lt_trichotomy a b with q | q | q
  · exact absurd (nI_lt q (by omega)) (by rw [h]; exact Int32.lt_irrefl)
  · exact q
  · exact absurd (nI_lt q (by omega)) (by rw [h]; exact Int32.lt_irrefl)
set_option maxRecDepth 100000 in
set_option maxHeartbeats 4000000 in
theorem c_X7_requireInRoom (l : Launch) (hl0 : l.stackTraces = false) (n : Nat → Nat) (i x : Nat → Nat → Int32) (lm : Nat → Nat → Int64) (y : Nat → Nat → Nat) (ol : Int64) (od : UInt64) (hW : cW n i y) (p : Nat) (hp : p < n 7) : zS l yX7_requireInRoom wsX7_requireInRoom 6 90 1 6 [.ref (32 * p + 11)] (cmm n i x lm y ol od) (zpv (fun M1 => M1 = cmm n i x lm y ol od ∧ i 134 p = 114)) (fun E => E = "java/util/NoSuchElementException" ∧ ¬ i 134 p = 114) := by
  refine z_intro (cc := cX7_requireInRoom) (maxL := 1) (ret := none) (by decide +kernel) rfl (Nat.le_of_ble_eq_true rfl) ?_
  intro g X
  show zE g 1 0 [(0, .ref (32 * p + 11))] [] (cmm n i x lm y ol od) 0 0
  obtain ⟨⟨hn0, hn1, hn2, hn3⟩, ⟨hb5, hb6, hb7, hb8⟩, hp9, hs9, ho9⟩ := hW
  refine z_aload_n X 0 dX7_requireInRoom_0 rfl rfl ?_
  refine z_callVi (As := []) (rest := []) (n1 := 0) (ci := 7) X dX7_requireInRoom_1 (c_X4_isInRoom l n i x lm y ol od (⟨⟨hn0, hn1, hn2, hn3⟩, ⟨hb5, hb6, hb7, hb8⟩, hp9, hs9, ho9⟩) p (by omega)) gX7_requireInRoom_X4_isInRoom rfl rfl (by decide +kernel) ⟨by decide, by decide⟩ (ck_11 (by omega)) rfl rfl (Nat.le_of_ble_eq_true rfl) ⟨by decide, by decide⟩ (fun _ h => h.elim) ?_
  rintro _ _ ⟨rfl, rfl⟩
  refine z_if_ne X 18 dX7_requireInRoom_4 (by decide) (fun c_4 => ?_) (fun c_4 => ?_)
  · skip
    refine z_vret X rfl (Nat.le_of_ble_eq_true rfl) (Nat.le_of_ble_eq_true rfl) dX7_requireInRoom_18 ?_
    exact ⟨rfl, rfl, zb_n0.mp c_4⟩
  · skip
    exact z_throwSW X hl0 (cls := "java/util/NoSuchElementException") (text := "the pallet is not in a room") (ik := 110) (is := 327) (ic := 114) (by decide +kernel) (by decide +kernel) (by decide +kernel) rfl dX7_requireInRoom_7 dX7_requireInRoom_10 dX7_requireInRoom_11 dX7_requireInRoom_14 dX7_requireInRoom_17 (by decide) (by decide) ⟨by decide, by decide⟩ rfl (⟨rfl, zb_0.mp (by first | exact c_4 | exact Classical.not_not.mp c_4)⟩)

set_option maxRecDepth 100000 in
set_option maxHeartbeats 4000000 in
theorem c_X7_requireOpen (l : Launch) (hl0 : l.stackTraces = false) (n : Nat → Nat) (i x : Nat → Nat → Int32) (lm : Nat → Nat → Int64) (y : Nat → Nat → Nat) (ol : Int64) (od : UInt64) (hW : cW n i y) (o : Nat) (ho : o < n 8) : zS l yX7_requireOpen wsX7_requireOpen 6 90 1 6 [.ref (32 * o + 13)] (cmm n i x lm y ol od) (zpv (fun M1 => M1 = cmm n i x lm y ol od ∧ i 140 o = 111)) (fun E => E = "java/lang/IllegalStateException" ∧ ¬ i 140 o = 111) := by
  refine z_intro (cc := cX7_requireOpen) (maxL := 1) (ret := none) (by decide +kernel) rfl (Nat.le_of_ble_eq_true rfl) ?_
  have hlk_269 : Cond.fieldLink RX7 269 "ColdStore$Order" "status" "C" ∈ wsX7_requireOpen := by decide +kernel
  intro g X
  show zE g 1 0 [(0, .ref (32 * o + 13))] [] (cmm n i x lm y ol od) 0 0
  obtain ⟨⟨hn0, hn1, hn2, hn3⟩, ⟨hb5, hb6, hb7, hb8⟩, hp9, hs9, ho9⟩ := hW
  refine z_aload_n X 0 dX7_requireOpen_0 rfl rfl ?_
  refine z_getI (ci := 6) (j := 4) (x := i 140 o) X dX7_requireOpen_1 (ck_13 (by omega)) rfl (by decide) hlk_269 (Or.inl rfl) (fun _ => rfl) (ci_13_4) ?_
  refine z_bipush (v := 111) X dX7_requireOpen_4 (by decide) ?_
  refine z_icmp_eq X 20 dX7_requireOpen_6 (by decide) (fun c_6 => ?_) (fun c_6 => ?_)
  · skip
    refine z_vret X rfl (Nat.le_of_ble_eq_true rfl) (Nat.le_of_ble_eq_true rfl) dX7_requireOpen_20 ?_
    exact ⟨rfl, rfl, c_6⟩
  · skip
    exact z_throwSW X hl0 (cls := "java/lang/IllegalStateException") (text := "the order is not open") (ik := 50) (is := 329) (ic := 54) (by decide +kernel) (by decide +kernel) (by decide +kernel) rfl dX7_requireOpen_9 dX7_requireOpen_12 dX7_requireOpen_13 dX7_requireOpen_16 dX7_requireOpen_19 (by decide) (by decide) ⟨by decide, by decide⟩ rfl (⟨rfl, c_6⟩)

set_option maxRecDepth 100000 in
set_option maxHeartbeats 4000000 in
theorem c_X7_spaceIn (l : Launch) (n : Nat → Nat) (i x : Nat → Nat → Int32) (lm : Nat → Nat → Int64) (y : Nat → Nat → Nat) (ol : Int64) (od : UInt64) (hW : cW n i y) (r : Nat) (hr : r < n 5) : zS l yX7_spaceIn wsX7_spaceIn 9 154 0 0 [.ref 1, .ref (32 * r + 8)] (cmm n i x lm y ol od) (zpi (fun q M1 => q = 8 - m_filled i (nI r) (n 7) ∧ M1 = cmm n i x lm y ol od)) zno := by
  refine z_intro (cc := cX7_spaceIn) (maxL := 5) (ret := (some .int)) (by decide +kernel) rfl (Nat.le_of_ble_eq_true rfl) ?_
  have hlk_19 : Cond.fieldLink RX7 19 "ColdStore" "pallets" "Ljava/util/ArrayList;" ∈ wsX7_spaceIn := by decide +kernel
  have hlk_191 : Cond.fieldLink RX7 191 "ColdStore$Pallet" "stay" "LColdStore$Stay;" ∈ wsX7_spaceIn := by decide +kernel
  have hlk_195 : Cond.fieldLink RX7 195 "ColdStore$Stay" "room" "LColdStore$Room;" ∈ wsX7_spaceIn := by decide +kernel
  intro g X
  show zE g 5 0 [(0, .ref 1), (1, .ref (32 * r + 8))] [] (cmm n i x lm y ol od) 0 0
  obtain ⟨⟨hn0, hn1, hn2, hn3⟩, ⟨hb5, hb6, hb7, hb8⟩, hp9, hs9, ho9⟩ := hW
  refine z_bipush (v := 8) X dX7_spaceIn_0 (by decide) ?_
  refine z_istore_n (ls' := [(2, .int 8), (0, .ref 1), (1, .ref (32 * r + 8))]) X dX7_spaceIn_2 rfl (by decide) rfl ?_
  refine z_iconst (v := 0) X dX7_spaceIn_3 (by decide) ?_
  refine z_istore_n (ls' := [(3, .int 0), (2, .int 8), (0, .ref 1), (1, .ref (32 * r + 8))]) X dX7_spaceIn_4 rfl (by decide) rfl ?_
  have hloop5 : ∀ k : Nat, k ≤ n 7 → zE g 5 5 [(0, .ref 1), (1, .ref (32 * r + 8)), (2, .int (8 - m_filled i (nI r) k)), (3, .int (nI k))] [] (cmm n i x lm y ol od) 0 0 := by
    refine z_loop (fun k => zE g 5 5 [(0, .ref 1), (1, .ref (32 * r + 8)), (2, .int (8 - m_filled i (nI r) k)), (3, .int (nI k))] [] (cmm n i x lm y ol od) 0 0) (n 7) ?_ ?_
    · show zE g 5 5 [(0, .ref 1), (1, .ref (32 * r + 8)), (2, .int (8 - m_filled i (nI r) (n 7))), (3, .int (nI (n 7)))] [] (cmm n i x lm y ol od) 0 0
      refine z_iload_n X 3 dX7_spaceIn_5 rfl rfl ?_
      refine z_aload_n X 0 dX7_spaceIn_6 rfl rfl ?_
      refine z_getR (ci := 10) (j := 2) (o' := 66) X dX7_spaceIn_7 ck_1 rfl (by decide) hlk_19 (Or.inl rfl) (fun _ => rfl) (cr_1_2) ?_
      refine z_callVi (As := []) (rest := [.int (nI (n 7))]) (n1 := 0) (ci := 2) X dX7_spaceIn_10 (c_size2 l _ _ _ _ _ _ _) gX7_spaceIn_Jx4a65c_size_8abf5 rfl rfl (by decide +kernel) ⟨by decide, by decide⟩ (ck_2 (j := 2) (by decide)) rfl rfl (Nat.le_of_ble_eq_true rfl) ⟨by decide, by decide⟩ (fun _ h => h.elim) ?_
      rintro _ _ ⟨rfl, rfl⟩
      refine z_icmp_ge X 58 dX7_spaceIn_13 (by decide) (fun c_13 => ?_) (fun c_13 => ?_)
      · skip
        refine z_iload_n X 2 dX7_spaceIn_58 rfl rfl ?_
        refine z_iret X rfl rfl (Nat.le_of_ble_eq_true rfl) (Nat.le_of_ble_eq_true rfl) dX7_spaceIn_59 ?_
        exact ⟨_, rfl, rfl, rfl⟩
      · exact absurd (Int32.le_refl _) c_13
    · intro k hk_5 ih5
      have ih5 : zE g 5 5 [(0, .ref 1), (1, .ref (32 * r + 8)), (2, .int (8 - m_filled i (nI r) (k + 1))), (3, .int (nI (k + 1)))] [] (cmm n i x lm y ol od) 0 0 := ih5
      show zE g 5 5 [(0, .ref 1), (1, .ref (32 * r + 8)), (2, .int (8 - m_filled i (nI r) k)), (3, .int (nI k))] [] (cmm n i x lm y ol od) 0 0
      refine z_iload_n X 3 dX7_spaceIn_5 rfl rfl ?_
      refine z_aload_n X 0 dX7_spaceIn_6 rfl rfl ?_
      refine z_getR (ci := 10) (j := 2) (o' := 66) X dX7_spaceIn_7 ck_1 rfl (by decide) hlk_19 (Or.inl rfl) (fun _ => rfl) (cr_1_2) ?_
      refine z_callVi (As := []) (rest := [.int (nI k)]) (n1 := 0) (ci := 2) X dX7_spaceIn_10 (c_size2 l _ _ _ _ _ _ _) gX7_spaceIn_Jx4a65c_size_8abf5 rfl rfl (by decide +kernel) ⟨by decide, by decide⟩ (ck_2 (j := 2) (by decide)) rfl rfl (Nat.le_of_ble_eq_true rfl) ⟨by decide, by decide⟩ (fun _ h => h.elim) ?_
      rintro _ _ ⟨rfl, rfl⟩
      refine z_icmp_ge X 58 dX7_spaceIn_13 (by decide) (fun c_13 => ?_) (fun c_13 => ?_)
      · exact absurd c_13 (nI_ge hk_5 (by omega))
      · skip
        refine z_aload_n X 0 dX7_spaceIn_16 rfl rfl ?_
        refine z_getR (ci := 10) (j := 2) (o' := 66) X dX7_spaceIn_17 ck_1 rfl (by decide) hlk_19 (Or.inl rfl) (fun _ => rfl) (cr_1_2) ?_
        refine z_iload_n X 3 dX7_spaceIn_20 rfl rfl ?_
        refine z_callVr (As := [.int (nI k)]) (rest := []) (n1 := 1) (ci := 2) X dX7_spaceIn_21 (c_get2 l _ _ _ _ _ _ _ k (by omega) (by omega)) gX7_spaceIn_Jx4a65c_get_915e3 rfl rfl (by decide +kernel) ⟨by decide, by decide⟩ (ck_2 (j := 2) (by decide)) rfl rfl (Nat.le_of_ble_eq_true rfl) ⟨by decide, by decide⟩ (fun _ h => h.elim) ?_
        rintro _ _ ⟨rfl, rfl⟩
        refine z_ckc (ci := 7) X dX7_spaceIn_24 (by decide +kernel) (ck_11 (by omega)) rfl ?_
        refine z_astore (ls' := [(4, .ref (32 * k + 11)), (0, .ref 1), (1, .ref (32 * r + 8)), (2, .int (8 - m_filled i (nI r) k)), (3, .int (nI k))]) X dX7_spaceIn_27 (by decide) rfl ?_
        refine z_aload X 0 dX7_spaceIn_29 rfl ?_
        refine z_callVi (As := []) (rest := []) (n1 := 0) (ci := 7) X dX7_spaceIn_31 (c_X4_isInRoom l n i x lm y ol od (⟨⟨hn0, hn1, hn2, hn3⟩, ⟨hb5, hb6, hb7, hb8⟩, hp9, hs9, ho9⟩) k (by omega)) gX7_spaceIn_X4_isInRoom rfl rfl (by decide +kernel) ⟨by decide, by decide⟩ (ck_11 (by omega)) rfl rfl (Nat.le_of_ble_eq_true rfl) ⟨by decide, by decide⟩ (fun _ h => h.elim) ?_
        rintro _ _ ⟨rfl, rfl⟩
        refine z_if_eq X 52 dX7_spaceIn_34 (by decide) (fun c_34 => ?_) (fun c_34 => ?_)
        · skip
          refine z_iinc (ls' := [(3, .int (nI (k + 1))), (4, .ref (32 * k + 11)), (0, .ref 1), (1, .ref (32 * r + 8)), (2, .int (8 - m_filled i (nI r) k))]) (v := nI (k + 1)) X 4 dX7_spaceIn_52 rfl (nI_1 _) (by decide) rfl ?_
          refine z_goto (tgt := 5) X dX7_spaceIn_55 (by decide) ?_
          refine z_sub (ls' := [(0, .ref 1), (1, .ref (32 * r + 8)), (2, .int (8 - m_filled i (nI r) k)), (3, .int (nI (k + 1)))]) [2, 3, 4, 0] rfl ?_
          refine z_lse (ls' := [(0, .ref 1), (1, .ref (32 * r + 8)), (2, .int (8 - m_filled i (nI r) (k + 1))), (3, .int (nI (k + 1)))]) (by rw [show m_filled i (nI r) (k + 1) = m_filled i (nI r) k from (congrArg (fun q => m_filled i (nI r) k + q) (zb_f (fun e => zb_0.mp c_34 e.1))).trans (Int32.add_zero _)]) ?_
          exact ih5
        · skip
          refine z_aload X 0 dX7_spaceIn_37 rfl ?_
          refine z_getR (ci := 7) (j := 2) (o' := 32 * (y 0 k) + 12) X dX7_spaceIn_39 (ck_11 (by omega)) rfl (by decide) hlk_191 (Or.inl rfl) (fun _ => rfl) (cr_11_2) ?_
          refine z_getR (ci := 9) (j := 0) (o' := 32 * (y 1 (y 0 k)) + 8) X dX7_spaceIn_42 (ck_12 (by have := (hp9 k (by omega)).2.1; omega)) rfl (by decide) hlk_195 (Or.inl rfl) (fun _ => rfl) (cr_12_0) ?_
          refine z_aload_n X 2 dX7_spaceIn_45 rfl rfl ?_
          have hiff : (32 * (y 1 (y 0 k)) + 8 = 32 * r + 8) ↔ i 132 k = nI r := ⟨fun e => by rw [(hp9 k (by omega)).2.2, show y 1 (y 0 k) = r by omega], fun e => by rw [(hp9 k (by omega)).2.2] at e; rw [nI_inj2 (by have := (hs9 _ (hp9 k (by omega)).2.1).1; omega) (by omega) e]⟩
          refine z_acmp_ne X 52 (by rw [(ck_8 (by have := (hp9 k (by omega)).2.1; have := (hs9 (y 0 k) (by omega)).1; omega))]; decide) (by rw [(ck_8 (by omega))]; decide) dX7_spaceIn_46 (by decide) (fun c_46 => ?_) (fun c_46 => ?_)
          · skip
            refine z_iinc (ls' := [(3, .int (nI (k + 1))), (4, .ref (32 * k + 11)), (0, .ref 1), (1, .ref (32 * r + 8)), (2, .int (8 - m_filled i (nI r) k))]) (v := nI (k + 1)) X 4 dX7_spaceIn_52 rfl (nI_1 _) (by decide) rfl ?_
            refine z_goto (tgt := 5) X dX7_spaceIn_55 (by decide) ?_
            refine z_sub (ls' := [(0, .ref 1), (1, .ref (32 * r + 8)), (2, .int (8 - m_filled i (nI r) k)), (3, .int (nI (k + 1)))]) [2, 3, 4, 0] rfl ?_
            refine z_lse (ls' := [(0, .ref 1), (1, .ref (32 * r + 8)), (2, .int (8 - m_filled i (nI r) (k + 1))), (3, .int (nI (k + 1)))]) (by rw [show m_filled i (nI r) (k + 1) = m_filled i (nI r) k from (congrArg (fun q => m_filled i (nI r) k + q) (zb_f (fun e => c_46 (hiff.mpr e.2)))).trans (Int32.add_zero _)]) ?_
            exact ih5
          · skip
            refine z_iinc (ls' := [(2, .int ((8 - m_filled i (nI r) k) + (-1))), (4, .ref (32 * k + 11)), (0, .ref 1), (1, .ref (32 * r + 8)), (3, .int (nI k))]) (v := (8 - m_filled i (nI r) k) + (-1)) X 3 dX7_spaceIn_49 rfl (rfl) (by decide) rfl ?_
            refine z_iinc (ls' := [(3, .int (nI (k + 1))), (2, .int ((8 - m_filled i (nI r) k) + (-1))), (4, .ref (32 * k + 11)), (0, .ref 1), (1, .ref (32 * r + 8))]) (v := nI (k + 1)) X 4 dX7_spaceIn_52 rfl (nI_1 _) (by decide) rfl ?_
            refine z_goto (tgt := 5) X dX7_spaceIn_55 (by decide) ?_
            refine z_sub (ls' := [(0, .ref 1), (1, .ref (32 * r + 8)), (2, .int ((8 - m_filled i (nI r) k) + (-1))), (3, .int (nI (k + 1)))]) [3, 4, 1, 0] rfl ?_
            refine z_lse (ls' := [(0, .ref 1), (1, .ref (32 * r + 8)), (2, .int (8 - m_filled i (nI r) (k + 1))), (3, .int (nI (k + 1)))]) (by rw [show m_filled i (nI r) (k + 1) = m_filled i (nI r) k + 1 from congrArg (fun q => m_filled i (nI r) k + q) (zb_t ⟨zb_n0.mp c_34, hiff.mp c_46⟩), zsp1]) ?_
            exact ih5
  refine z_sub (ls' := [(0, .ref 1), (1, .ref (32 * r + 8)), (2, .int 8), (3, .int 0)]) [2, 3, 1, 0] rfl ?_
  refine z_lse (ls' := [(0, .ref 1), (1, .ref (32 * r + 8)), (2, .int (8 - m_filled i (nI r) 0)), (3, .int (nI 0))]) (by rw [show (8 - m_filled i (nI r) 0 : Int32) = 8 from (by decide : (8 : Int32) - 0 = 8)]; rfl) ?_
  exact hloop5 0 (Nat.zero_le _)

set_option maxRecDepth 100000 in
set_option maxHeartbeats 4000000 in
theorem c_X7_requireSpace (l : Launch) (hl0 : l.stackTraces = false) (n : Nat → Nat) (i x : Nat → Nat → Int32) (lm : Nat → Nat → Int64) (y : Nat → Nat → Nat) (ol : Int64) (od : UInt64) (hW : cW n i y) (r : Nat) (hr : r < n 5) : zS l yX7_requireSpace wsX7_requireSpace 10 178 1 6 [.ref 1, .ref (32 * r + 8)] (cmm n i x lm y ol od) (zpv (fun M1 => M1 = cmm n i x lm y ol od ∧ 0 < 8 - m_filled i (nI r) (n 7))) (fun E => E = "java/lang/IllegalStateException" ∧ ¬ 0 < 8 - m_filled i (nI r) (n 7)) := by
  refine z_intro (cc := cX7_requireSpace) (maxL := 2) (ret := none) (by decide +kernel) rfl (Nat.le_of_ble_eq_true rfl) ?_
  intro g X
  show zE g 2 0 [(0, .ref 1), (1, .ref (32 * r + 8))] [] (cmm n i x lm y ol od) 0 0
  obtain ⟨⟨hn0, hn1, hn2, hn3⟩, ⟨hb5, hb6, hb7, hb8⟩, hp9, hs9, ho9⟩ := hW
  refine z_aload_n X 0 dX7_requireSpace_0 rfl rfl ?_
  refine z_aload_n X 1 dX7_requireSpace_1 rfl rfl ?_
  refine z_callVi (As := [.ref (32 * r + 8)]) (rest := []) (n1 := 1) (ci := 10) X dX7_requireSpace_2 (c_X7_spaceIn l n i x lm y ol od (⟨⟨hn0, hn1, hn2, hn3⟩, ⟨hb5, hb6, hb7, hb8⟩, hp9, hs9, ho9⟩) r (by omega)) gX7_requireSpace_X7_spaceIn rfl rfl (by decide +kernel) ⟨by decide, by decide⟩ ck_1 rfl rfl (Nat.le_of_ble_eq_true rfl) ⟨by decide, by decide⟩ (fun _ h => h.elim) ?_
  rintro _ _ ⟨rfl, rfl⟩
  refine z_if_gt X 19 dX7_requireSpace_5 (by decide) (fun c_5 => ?_) (fun c_5 => ?_)
  · skip
    refine z_vret X rfl (Nat.le_of_ble_eq_true rfl) (Nat.le_of_ble_eq_true rfl) dX7_requireSpace_19 ?_
    exact ⟨rfl, rfl, c_5⟩
  · skip
    exact z_throwSW X hl0 (cls := "java/lang/IllegalStateException") (text := "the room is full") (ik := 50) (is := 325) (ic := 54) (by decide +kernel) (by decide +kernel) (by decide +kernel) rfl dX7_requireSpace_8 dX7_requireSpace_11 dX7_requireSpace_12 dX7_requireSpace_15 dX7_requireSpace_18 (by decide) (by decide) ⟨by decide, by decide⟩ rfl (⟨rfl, c_5⟩)

set_option maxRecDepth 100000 in
set_option maxHeartbeats 4000000 in
theorem c_X7_countOpenOrders (l : Launch) (n : Nat → Nat) (i x : Nat → Nat → Int32) (lm : Nat → Nat → Int64) (y : Nat → Nat → Nat) (ol : Int64) (od : UInt64) (hW : cW n i y) : zS l yX7_countOpenOrders wsX7_countOpenOrders 9 154 0 0 [.ref 1] (cmm n i x lm y ol od) (zpi (fun q M1 => q = m_openN i (n 8) ∧ M1 = cmm n i x lm y ol od)) zno := by
  refine z_intro (cc := cX7_countOpenOrders) (maxL := 3) (ret := (some .int)) (by decide +kernel) rfl (Nat.le_of_ble_eq_true rfl) ?_
  have hlk_22 : Cond.fieldLink RX7 22 "ColdStore" "orders" "Ljava/util/ArrayList;" ∈ wsX7_countOpenOrders := by decide +kernel
  have hlk_269 : Cond.fieldLink RX7 269 "ColdStore$Order" "status" "C" ∈ wsX7_countOpenOrders := by decide +kernel
  intro g X
  show zE g 3 0 [(0, .ref 1)] [] (cmm n i x lm y ol od) 0 0
  obtain ⟨⟨hn0, hn1, hn2, hn3⟩, ⟨hb5, hb6, hb7, hb8⟩, hp9, hs9, ho9⟩ := hW
  refine z_iconst (v := 0) X dX7_countOpenOrders_0 (by decide) ?_
  refine z_istore_n (ls' := [(1, .int 0), (0, .ref 1)]) X dX7_countOpenOrders_1 rfl (by decide) rfl ?_
  refine z_iconst (v := 0) X dX7_countOpenOrders_2 (by decide) ?_
  refine z_istore_n (ls' := [(2, .int 0), (1, .int 0), (0, .ref 1)]) X dX7_countOpenOrders_3 rfl (by decide) rfl ?_
  have hloop4 : ∀ k : Nat, k ≤ n 8 → zE g 3 4 [(0, .ref 1), (1, .int (m_openN i k)), (2, .int (nI k))] [] (cmm n i x lm y ol od) 0 0 := by
    refine z_loop (fun k => zE g 3 4 [(0, .ref 1), (1, .int (m_openN i k)), (2, .int (nI k))] [] (cmm n i x lm y ol od) 0 0) (n 8) ?_ ?_
    · show zE g 3 4 [(0, .ref 1), (1, .int (m_openN i (n 8))), (2, .int (nI (n 8)))] [] (cmm n i x lm y ol od) 0 0
      refine z_iload_n X 2 dX7_countOpenOrders_4 rfl rfl ?_
      refine z_aload_n X 0 dX7_countOpenOrders_5 rfl rfl ?_
      refine z_getR (ci := 10) (j := 3) (o' := 98) X dX7_countOpenOrders_6 ck_1 rfl (by decide) hlk_22 (Or.inl rfl) (fun _ => rfl) (cr_1_3) ?_
      refine z_callVi (As := []) (rest := [.int (nI (n 8))]) (n1 := 0) (ci := 2) X dX7_countOpenOrders_9 (c_size3 l _ _ _ _ _ _ _) gX7_countOpenOrders_Jx4a65c_size_8abf5 rfl rfl (by decide +kernel) ⟨by decide, by decide⟩ (ck_2 (j := 3) (by decide)) rfl rfl (Nat.le_of_ble_eq_true rfl) ⟨by decide, by decide⟩ (fun _ h => h.elim) ?_
      rintro _ _ ⟨rfl, rfl⟩
      refine z_icmp_ge X 43 dX7_countOpenOrders_12 (by decide) (fun c_12 => ?_) (fun c_12 => ?_)
      · skip
        refine z_iload_n X 1 dX7_countOpenOrders_43 rfl rfl ?_
        refine z_iret X rfl rfl (Nat.le_of_ble_eq_true rfl) (Nat.le_of_ble_eq_true rfl) dX7_countOpenOrders_44 ?_
        exact ⟨_, rfl, rfl, rfl⟩
      · exact absurd (Int32.le_refl _) c_12
    · intro k hk_4 ih4
      have ih4 : zE g 3 4 [(0, .ref 1), (1, .int (m_openN i (k + 1))), (2, .int (nI (k + 1)))] [] (cmm n i x lm y ol od) 0 0 := ih4
      show zE g 3 4 [(0, .ref 1), (1, .int (m_openN i k)), (2, .int (nI k))] [] (cmm n i x lm y ol od) 0 0
      refine z_iload_n X 2 dX7_countOpenOrders_4 rfl rfl ?_
      refine z_aload_n X 0 dX7_countOpenOrders_5 rfl rfl ?_
      refine z_getR (ci := 10) (j := 3) (o' := 98) X dX7_countOpenOrders_6 ck_1 rfl (by decide) hlk_22 (Or.inl rfl) (fun _ => rfl) (cr_1_3) ?_
      refine z_callVi (As := []) (rest := [.int (nI k)]) (n1 := 0) (ci := 2) X dX7_countOpenOrders_9 (c_size3 l _ _ _ _ _ _ _) gX7_countOpenOrders_Jx4a65c_size_8abf5 rfl rfl (by decide +kernel) ⟨by decide, by decide⟩ (ck_2 (j := 3) (by decide)) rfl rfl (Nat.le_of_ble_eq_true rfl) ⟨by decide, by decide⟩ (fun _ h => h.elim) ?_
      rintro _ _ ⟨rfl, rfl⟩
      refine z_icmp_ge X 43 dX7_countOpenOrders_12 (by decide) (fun c_12 => ?_) (fun c_12 => ?_)
      · exact absurd c_12 (nI_ge hk_4 (by omega))
      · skip
        refine z_aload_n X 0 dX7_countOpenOrders_15 rfl rfl ?_
        refine z_getR (ci := 10) (j := 3) (o' := 98) X dX7_countOpenOrders_16 ck_1 rfl (by decide) hlk_22 (Or.inl rfl) (fun _ => rfl) (cr_1_3) ?_
        refine z_iload_n X 2 dX7_countOpenOrders_19 rfl rfl ?_
        refine z_callVr (As := [.int (nI k)]) (rest := []) (n1 := 1) (ci := 2) X dX7_countOpenOrders_20 (c_get3 l _ _ _ _ _ _ _ k (by omega) (by omega)) gX7_countOpenOrders_Jx4a65c_get_915e3 rfl rfl (by decide +kernel) ⟨by decide, by decide⟩ (ck_2 (j := 3) (by decide)) rfl rfl (Nat.le_of_ble_eq_true rfl) ⟨by decide, by decide⟩ (fun _ h => h.elim) ?_
        rintro _ _ ⟨rfl, rfl⟩
        refine z_ckc (ci := 6) X dX7_countOpenOrders_23 (by decide +kernel) (ck_13 (by omega)) rfl ?_
        refine z_getI (ci := 6) (j := 4) (x := i 140 k) X dX7_countOpenOrders_26 (ck_13 (by omega)) rfl (by decide) hlk_269 (Or.inl rfl) (fun _ => rfl) (ci_13_4) ?_
        refine z_bipush (v := 111) X dX7_countOpenOrders_29 (by decide) ?_
        refine z_icmp_ne X 37 dX7_countOpenOrders_31 (by decide) (fun c_31 => ?_) (fun c_31 => ?_)
        · skip
          refine z_iinc (ls' := [(2, .int (nI (k + 1))), (0, .ref 1), (1, .int (m_openN i k))]) (v := nI (k + 1)) X 2 dX7_countOpenOrders_37 rfl (nI_1 _) (by decide) rfl ?_
          refine z_goto (tgt := 4) X dX7_countOpenOrders_40 (by decide) ?_
          refine z_sub (ls' := [(0, .ref 1), (1, .int (m_openN i k)), (2, .int (nI (k + 1)))]) [1, 2, 0] rfl ?_
          refine z_lse (ls' := [(0, .ref 1), (1, .int (m_openN i (k + 1))), (2, .int (nI (k + 1)))]) (by (try simp only [zb_0, Classical.not_not] at c_12 c_31); (first | rfl | (simp only [Int32.lt_irrefl, if_true, if_false, not_true_eq_false, not_false_eq_true, and_true, true_and, and_false, false_and, or_true, true_or, or_false, false_or, and_self, ite_self, zb, m_openN, Int32.add_zero, c_12, c_31, eq_true c_12, eq_true c_31]; done) | (simp only [Int32.lt_irrefl, if_true, if_false, not_true_eq_false, not_false_eq_true, and_true, true_and, and_false, false_and, or_true, true_or, or_false, false_or, and_self, ite_self, zb, m_openN, Int32.add_zero, c_12, c_31, eq_true c_12, eq_true c_31]; rfl))) ?_
          exact ih4
        · skip
          refine z_iinc (ls' := [(1, .int ((m_openN i k) + 1)), (0, .ref 1), (2, .int (nI k))]) (v := (m_openN i k) + 1) X 1 dX7_countOpenOrders_34 rfl (rfl) (by decide) rfl ?_
          refine z_iinc (ls' := [(2, .int (nI (k + 1))), (1, .int ((m_openN i k) + 1)), (0, .ref 1)]) (v := nI (k + 1)) X 2 dX7_countOpenOrders_37 rfl (nI_1 _) (by decide) rfl ?_
          refine z_goto (tgt := 4) X dX7_countOpenOrders_40 (by decide) ?_
          refine z_sub (ls' := [(0, .ref 1), (1, .int ((m_openN i k) + 1)), (2, .int (nI (k + 1)))]) [2, 1, 0] rfl ?_
          refine z_lse (ls' := [(0, .ref 1), (1, .int (m_openN i (k + 1))), (2, .int (nI (k + 1)))]) (by (try simp only [zb_0, Classical.not_not] at c_12 c_31); (first | rfl | (simp only [Int32.lt_irrefl, if_true, if_false, not_true_eq_false, not_false_eq_true, and_true, true_and, and_false, false_and, or_true, true_or, or_false, false_or, and_self, ite_self, zb, m_openN, Int32.add_zero, c_12, c_31, eq_true c_12, eq_true c_31]; done) | (simp only [Int32.lt_irrefl, if_true, if_false, not_true_eq_false, not_false_eq_true, and_true, true_and, and_false, false_and, or_true, true_or, or_false, false_or, and_self, ite_self, zb, m_openN, Int32.add_zero, c_12, c_31, eq_true c_12, eq_true c_31]; rfl))) ?_
          exact ih4
  refine z_sub (ls' := [(0, .ref 1), (1, .int 0), (2, .int 0)]) [2, 1, 0] rfl ?_
  refine z_lse (ls' := [(0, .ref 1), (1, .int (m_openN i 0)), (2, .int (nI 0))]) (rfl) ?_
  exact hloop4 0 (Nat.zero_le _)

set_option maxRecDepth 100000 in
set_option maxHeartbeats 4000000 in
theorem c_X7_countCandidates (l : Launch) (n : Nat → Nat) (i x : Nat → Nat → Int32) (lm : Nat → Nat → Int64) (y : Nat → Nat → Nat) (ol : Int64) (od : UInt64) (hW : cW n i y) (o : Nat) (ho : o < n 8) : zS l yX7_countCandidates wsX7_countCandidates 9 154 0 0 [.ref 1, .ref (32 * o + 13)] (cmm n i x lm y ol od) (zpi (fun q M1 => q = m_cnt i o (n 7) ∧ M1 = cmm n i x lm y ol od)) zno := by
  refine z_intro (cc := cX7_countCandidates) (maxL := 4) (ret := (some .int)) (by decide +kernel) rfl (Nat.le_of_ble_eq_true rfl) ?_
  have hlk_19 : Cond.fieldLink RX7 19 "ColdStore" "pallets" "Ljava/util/ArrayList;" ∈ wsX7_countCandidates := by decide +kernel
  intro g X
  show zE g 4 0 [(0, .ref 1), (1, .ref (32 * o + 13))] [] (cmm n i x lm y ol od) 0 0
  obtain ⟨⟨hn0, hn1, hn2, hn3⟩, ⟨hb5, hb6, hb7, hb8⟩, hp9, hs9, ho9⟩ := hW
  refine z_iconst (v := 0) X dX7_countCandidates_0 (by decide) ?_
  refine z_istore_n (ls' := [(2, .int 0), (0, .ref 1), (1, .ref (32 * o + 13))]) X dX7_countCandidates_1 rfl (by decide) rfl ?_
  refine z_iconst (v := 0) X dX7_countCandidates_2 (by decide) ?_
  refine z_istore_n (ls' := [(3, .int 0), (2, .int 0), (0, .ref 1), (1, .ref (32 * o + 13))]) X dX7_countCandidates_3 rfl (by decide) rfl ?_
  have hloop4 : ∀ k : Nat, k ≤ n 7 → zE g 4 4 [(0, .ref 1), (1, .ref (32 * o + 13)), (2, .int (m_cnt i o k)), (3, .int (nI k))] [] (cmm n i x lm y ol od) 0 0 := by
    refine z_loop (fun k => zE g 4 4 [(0, .ref 1), (1, .ref (32 * o + 13)), (2, .int (m_cnt i o k)), (3, .int (nI k))] [] (cmm n i x lm y ol od) 0 0) (n 7) ?_ ?_
    · show zE g 4 4 [(0, .ref 1), (1, .ref (32 * o + 13)), (2, .int (m_cnt i o (n 7))), (3, .int (nI (n 7)))] [] (cmm n i x lm y ol od) 0 0
      refine z_iload_n X 3 dX7_countCandidates_4 rfl rfl ?_
      refine z_aload_n X 0 dX7_countCandidates_5 rfl rfl ?_
      refine z_getR (ci := 10) (j := 2) (o' := 66) X dX7_countCandidates_6 ck_1 rfl (by decide) hlk_19 (Or.inl rfl) (fun _ => rfl) (cr_1_2) ?_
      refine z_callVi (As := []) (rest := [.int (nI (n 7))]) (n1 := 0) (ci := 2) X dX7_countCandidates_9 (c_size2 l _ _ _ _ _ _ _) gX7_countCandidates_Jx4a65c_size_8abf5 rfl rfl (by decide +kernel) ⟨by decide, by decide⟩ (ck_2 (j := 2) (by decide)) rfl rfl (Nat.le_of_ble_eq_true rfl) ⟨by decide, by decide⟩ (fun _ h => h.elim) ?_
      rintro _ _ ⟨rfl, rfl⟩
      refine z_icmp_ge X 42 dX7_countCandidates_12 (by decide) (fun c_12 => ?_) (fun c_12 => ?_)
      · skip
        refine z_iload_n X 2 dX7_countCandidates_42 rfl rfl ?_
        refine z_iret X rfl rfl (Nat.le_of_ble_eq_true rfl) (Nat.le_of_ble_eq_true rfl) dX7_countCandidates_43 ?_
        exact ⟨_, rfl, rfl, rfl⟩
      · exact absurd (Int32.le_refl _) c_12
    · intro k hk_4 ih4
      have ih4 : zE g 4 4 [(0, .ref 1), (1, .ref (32 * o + 13)), (2, .int (m_cnt i o (k + 1))), (3, .int (nI (k + 1)))] [] (cmm n i x lm y ol od) 0 0 := ih4
      show zE g 4 4 [(0, .ref 1), (1, .ref (32 * o + 13)), (2, .int (m_cnt i o k)), (3, .int (nI k))] [] (cmm n i x lm y ol od) 0 0
      refine z_iload_n X 3 dX7_countCandidates_4 rfl rfl ?_
      refine z_aload_n X 0 dX7_countCandidates_5 rfl rfl ?_
      refine z_getR (ci := 10) (j := 2) (o' := 66) X dX7_countCandidates_6 ck_1 rfl (by decide) hlk_19 (Or.inl rfl) (fun _ => rfl) (cr_1_2) ?_
      refine z_callVi (As := []) (rest := [.int (nI k)]) (n1 := 0) (ci := 2) X dX7_countCandidates_9 (c_size2 l _ _ _ _ _ _ _) gX7_countCandidates_Jx4a65c_size_8abf5 rfl rfl (by decide +kernel) ⟨by decide, by decide⟩ (ck_2 (j := 2) (by decide)) rfl rfl (Nat.le_of_ble_eq_true rfl) ⟨by decide, by decide⟩ (fun _ h => h.elim) ?_
      rintro _ _ ⟨rfl, rfl⟩
      refine z_icmp_ge X 42 dX7_countCandidates_12 (by decide) (fun c_12 => ?_) (fun c_12 => ?_)
      · exact absurd c_12 (nI_ge hk_4 (by omega))
      · skip
        refine z_aload_n X 1 dX7_countCandidates_15 rfl rfl ?_
        refine z_aload_n X 0 dX7_countCandidates_16 rfl rfl ?_
        refine z_getR (ci := 10) (j := 2) (o' := 66) X dX7_countCandidates_17 ck_1 rfl (by decide) hlk_19 (Or.inl rfl) (fun _ => rfl) (cr_1_2) ?_
        refine z_iload_n X 3 dX7_countCandidates_20 rfl rfl ?_
        refine z_callVr (As := [.int (nI k)]) (rest := [.ref (32 * o + 13)]) (n1 := 1) (ci := 2) X dX7_countCandidates_21 (c_get2 l _ _ _ _ _ _ _ k (by omega) (by omega)) gX7_countCandidates_Jx4a65c_get_915e3 rfl rfl (by decide +kernel) ⟨by decide, by decide⟩ (ck_2 (j := 2) (by decide)) rfl rfl (Nat.le_of_ble_eq_true rfl) ⟨by decide, by decide⟩ (fun _ h => h.elim) ?_
        rintro _ _ ⟨rfl, rfl⟩
        refine z_ckc (ci := 7) X dX7_countCandidates_24 (by decide +kernel) (ck_11 (by omega)) rfl ?_
        refine z_callVi (As := [.ref (32 * k + 11)]) (rest := []) (n1 := 1) (ci := 6) X dX7_countCandidates_27 (c_X3_accepts l n i x lm y ol od (⟨⟨hn0, hn1, hn2, hn3⟩, ⟨hb5, hb6, hb7, hb8⟩, hp9, hs9, ho9⟩) o k (by omega) (by omega)) gX7_countCandidates_X3_accepts rfl rfl (by decide +kernel) ⟨by decide, by decide⟩ (ck_13 (by omega)) rfl rfl (Nat.le_of_ble_eq_true rfl) ⟨by decide, by decide⟩ (fun _ h => h.elim) ?_
        rintro _ _ ⟨rfl, rfl⟩
        refine z_if_eq X 36 dX7_countCandidates_30 (by decide) (fun c_30 => ?_) (fun c_30 => ?_)
        · skip
          refine z_iinc (ls' := [(3, .int (nI (k + 1))), (0, .ref 1), (1, .ref (32 * o + 13)), (2, .int (m_cnt i o k))]) (v := nI (k + 1)) X 3 dX7_countCandidates_36 rfl (nI_1 _) (by decide) rfl ?_
          refine z_goto (tgt := 4) X dX7_countCandidates_39 (by decide) ?_
          refine z_sub (ls' := [(0, .ref 1), (1, .ref (32 * o + 13)), (2, .int (m_cnt i o k)), (3, .int (nI (k + 1)))]) [1, 2, 3, 0] rfl ?_
          refine z_lse (ls' := [(0, .ref 1), (1, .ref (32 * o + 13)), (2, .int (m_cnt i o (k + 1))), (3, .int (nI (k + 1)))]) (by (try simp only [zb_0, Classical.not_not] at c_12 c_30); (first | rfl | (simp only [Int32.lt_irrefl, if_true, if_false, not_true_eq_false, not_false_eq_true, and_true, true_and, and_false, false_and, or_true, true_or, or_false, false_or, and_self, ite_self, zb, m_cnt, Int32.add_zero, c_12, c_30, eq_true c_12, eq_true c_30]; done) | (simp only [Int32.lt_irrefl, if_true, if_false, not_true_eq_false, not_false_eq_true, and_true, true_and, and_false, false_and, or_true, true_or, or_false, false_or, and_self, ite_self, zb, m_cnt, Int32.add_zero, c_12, c_30, eq_true c_12, eq_true c_30]; rfl))) ?_
          exact ih4
        · skip
          refine z_iinc (ls' := [(2, .int ((m_cnt i o k) + 1)), (0, .ref 1), (1, .ref (32 * o + 13)), (3, .int (nI k))]) (v := (m_cnt i o k) + 1) X 2 dX7_countCandidates_33 rfl (rfl) (by decide) rfl ?_
          refine z_iinc (ls' := [(3, .int (nI (k + 1))), (2, .int ((m_cnt i o k) + 1)), (0, .ref 1), (1, .ref (32 * o + 13))]) (v := nI (k + 1)) X 3 dX7_countCandidates_36 rfl (nI_1 _) (by decide) rfl ?_
          refine z_goto (tgt := 4) X dX7_countCandidates_39 (by decide) ?_
          refine z_sub (ls' := [(0, .ref 1), (1, .ref (32 * o + 13)), (2, .int ((m_cnt i o k) + 1)), (3, .int (nI (k + 1)))]) [2, 3, 1, 0] rfl ?_
          refine z_lse (ls' := [(0, .ref 1), (1, .ref (32 * o + 13)), (2, .int (m_cnt i o (k + 1))), (3, .int (nI (k + 1)))]) (by (try simp only [zb_0, Classical.not_not] at c_12 c_30); (first | rfl | (simp only [Int32.lt_irrefl, if_true, if_false, not_true_eq_false, not_false_eq_true, and_true, true_and, and_false, false_and, or_true, true_or, or_false, false_or, and_self, ite_self, zb, m_cnt, Int32.add_zero, c_12, c_30, eq_true c_12, eq_true c_30]; done) | (simp only [Int32.lt_irrefl, if_true, if_false, not_true_eq_false, not_false_eq_true, and_true, true_and, and_false, false_and, or_true, true_or, or_false, false_or, and_self, ite_self, zb, m_cnt, Int32.add_zero, c_12, c_30, eq_true c_12, eq_true c_30]; rfl))) ?_
          exact ih4
  refine z_sub (ls' := [(0, .ref 1), (1, .ref (32 * o + 13)), (2, .int 0), (3, .int 0)]) [2, 3, 1, 0] rfl ?_
  refine z_lse (ls' := [(0, .ref 1), (1, .ref (32 * o + 13)), (2, .int (m_cnt i o 0)), (3, .int (nI 0))]) (rfl) ?_
  exact hloop4 0 (Nat.zero_le _)

set_option maxRecDepth 100000 in
set_option maxHeartbeats 4000000 in
theorem c_X7_canBeShipped (l : Launch) (n : Nat → Nat) (i x : Nat → Nat → Int32) (lm : Nat → Nat → Int64) (y : Nat → Nat → Nat) (ol : Int64) (od : UInt64) (hW : cW n i y) (o : Nat) (ho : o < n 8) : zS l yX7_canBeShipped wsX7_canBeShipped 10 177 0 0 [.ref 1, .ref (32 * o + 13)] (cmm n i x lm y ol od) (zpi (fun q M1 => q = zb (i 137 o ≤ m_cnt i o (n 7)) ∧ M1 = cmm n i x lm y ol od)) zno := by
  refine z_intro (cc := cX7_canBeShipped) (maxL := 2) (ret := (some .boolean)) (by decide +kernel) rfl (Nat.le_of_ble_eq_true rfl) ?_
  have hlk_376 : Cond.fieldLink RX7 376 "ColdStore$Order" "count" "I" ∈ wsX7_canBeShipped := by decide +kernel
  intro g X
  show zE g 2 0 [(0, .ref 1), (1, .ref (32 * o + 13))] [] (cmm n i x lm y ol od) 0 0
  obtain ⟨⟨hn0, hn1, hn2, hn3⟩, ⟨hb5, hb6, hb7, hb8⟩, hp9, hs9, ho9⟩ := hW
  refine z_aload_n X 0 dX7_canBeShipped_0 rfl rfl ?_
  refine z_aload_n X 1 dX7_canBeShipped_1 rfl rfl ?_
  refine z_callVi (As := [.ref (32 * o + 13)]) (rest := []) (n1 := 1) (ci := 10) X dX7_canBeShipped_2 (c_X7_countCandidates l n i x lm y ol od (⟨⟨hn0, hn1, hn2, hn3⟩, ⟨hb5, hb6, hb7, hb8⟩, hp9, hs9, ho9⟩) o (by omega)) gX7_canBeShipped_X7_countCandidates rfl rfl (by decide +kernel) ⟨by decide, by decide⟩ ck_1 rfl rfl (Nat.le_of_ble_eq_true rfl) ⟨by decide, by decide⟩ (fun _ h => h.elim) ?_
  rintro _ _ ⟨rfl, rfl⟩
  refine z_aload_n X 1 dX7_canBeShipped_5 rfl rfl ?_
  refine z_getI (ci := 6) (j := 1) (x := i 137 o) X dX7_canBeShipped_6 (ck_13 (by omega)) rfl (by decide) hlk_376 (Or.inl rfl) (fun _ => rfl) (ci_13_1) ?_
  refine z_icmp_lt X 16 dX7_canBeShipped_9 (by decide) (fun c_9 => ?_) (fun c_9 => ?_)
  · skip
    refine z_iconst (v := 0) X dX7_canBeShipped_16 (by decide) ?_
    refine z_iret X rfl (rfl) (Nat.le_of_ble_eq_true rfl) (Nat.le_of_ble_eq_true rfl) dX7_canBeShipped_17 ?_
    exact ⟨_, rfl, by (try simp only [← Int32.not_le, Classical.not_not] at c_9); (first | rfl | (simp only [Int32.lt_irrefl, if_true, if_false, not_true_eq_false, not_false_eq_true, and_true, true_and, and_false, false_and, or_true, true_or, or_false, false_or, and_self, ite_self, zb, c_9, eq_true c_9]; done) | (simp only [Int32.lt_irrefl, if_true, if_false, not_true_eq_false, not_false_eq_true, and_true, true_and, and_false, false_and, or_true, true_or, or_false, false_or, and_self, ite_self, zb, c_9, eq_true c_9]; rfl)), rfl⟩
  · skip
    refine z_iconst (v := 1) X dX7_canBeShipped_12 (by decide) ?_
    refine z_goto (tgt := 17) X dX7_canBeShipped_13 (by decide) ?_
    refine z_iret X rfl (rfl) (Nat.le_of_ble_eq_true rfl) (Nat.le_of_ble_eq_true rfl) dX7_canBeShipped_17 ?_
    exact ⟨_, rfl, by (try simp only [← Int32.not_le, Classical.not_not] at c_9); (first | rfl | (simp only [Int32.lt_irrefl, if_true, if_false, not_true_eq_false, not_false_eq_true, and_true, true_and, and_false, false_and, or_true, true_or, or_false, false_or, and_self, ite_self, zb, c_9, eq_true c_9]; done) | (simp only [Int32.lt_irrefl, if_true, if_false, not_true_eq_false, not_false_eq_true, and_true, true_and, and_false, false_and, or_true, true_or, or_false, false_or, and_self, ite_self, zb, c_9, eq_true c_9]; rfl)), rfl⟩
