/-! PART 44: the class's small methods -/
/-- what the class's memory is at least -/
def cW (n : Nat → Nat) (i : Nat → Nat → Int32) (y : Nat → Nat → Nat) : Prop :=
  (n 0 = n 5 ∧ n 1 = n 6 ∧ n 2 = n 7 ∧ n 3 = n 8) ∧ (n 5 ≤ 4 ∧ n 6 ≤ 5 ∧ n 7 ≤ 24 ∧ n 8 ≤ 12) ∧ (∀ p, p < n 7 → (cl (i 131 p) < n 6 ∧ i 131 p = nI (cl (i 131 p))) ∧ y 0 p < n 4 ∧ i 132 p = nI (y 1 (y 0 p))) ∧
  (∀ s, s < n 4 → y 1 s < n 5 ∧ y 2 s ≤ s) ∧ (∀ o, o < n 8 → cl (i 136 o) < n 6 ∧ i 136 o = nI (cl (i 136 o)))
theorem cW.of {n : Nat → Nat} {i j : Nat → Nat → Int32} {y : Nat → Nat → Nat} (h : cW n i y) (e : ∀ b, j 131 b = i 131 b ∧ j 132 b = i 132 b ∧ j 136 b = i 136 b) : cW n j y := by
  obtain ⟨h1, h2, h3, h4, h5⟩ := h
  exact ⟨h1, h2, fun p hp => by rw [(e p).1, (e p).2.1]; exact h3 p hp, h4, fun o ho => by rw [(e o).2.2]; exact h5 o ho⟩
abbrev c_peak (i x : Nat → Nat → Int32) (q : Int32) : Prop := zin q (x 7 0) (i 1 21)
theorem nI_ge_ {a b : Nat} (h : a ≤ b) (hb : b < 2 ^ 31) : ¬ nI b < nI a := Int32.not_lt.mpr (nI_le h hb)
set_option maxRecDepth 100000 in
set_option maxHeartbeats 4000000 in
theorem c_X7_requireRange (l : Launch) (hl0 : l.stackTraces = false) (M : zMem) (v lo hi : Int32) : zS l yX7_requireRange wsX7_requireRange 6 90 1 6 [.int v, .int lo, .int hi] M (zpv (fun M1 => M1 = M ∧ zin v lo hi)) (fun E => E = "java/lang/IllegalArgumentException" ∧ ¬ zin v lo hi) := by
  refine z_intro (cc := cX7_requireRange) (maxL := 3) (ret := none) (by decide +kernel) rfl (Nat.le_of_ble_eq_true rfl) ?_
  intro g X
  show zE g 3 0 [(0, .int v), (1, .int lo), (2, .int hi)] [] M 0 0
  refine z_iload_n X 0 dX7_requireRange_0 rfl rfl ?_
  refine z_iload_n X 1 dX7_requireRange_1 rfl rfl ?_
  refine z_icmp_lt X 10 dX7_requireRange_2 (by decide) (fun c_2 => ?_) (fun c_2 => ?_)
  · skip
    exact z_throwSW X hl0 (cls := "java/lang/IllegalArgumentException") (text := "a number is out of range") (ik := 85) (is := 312) (ic := 89) (by decide +kernel) (by decide +kernel) (by decide +kernel) rfl dX7_requireRange_10 dX7_requireRange_13 dX7_requireRange_14 dX7_requireRange_17 dX7_requireRange_20 (by decide) (by decide) ⟨by decide, by decide⟩ rfl (⟨rfl, fun h9 => by first | exact h9.1 (by assumption) | exact h9.2 (Int32.not_le.mp (by assumption))⟩)
  · skip
    refine z_iload_n X 0 dX7_requireRange_5 rfl rfl ?_
    refine z_iload_n X 2 dX7_requireRange_6 rfl rfl ?_
    refine z_icmp_le X 21 dX7_requireRange_7 (by decide) (fun c_7 => ?_) (fun c_7 => ?_)
    · skip
      refine z_vret X rfl (Nat.le_of_ble_eq_true rfl) (Nat.le_of_ble_eq_true rfl) dX7_requireRange_21 ?_
      exact ⟨rfl, rfl, by assumption, Int32.not_lt.mpr (by assumption)⟩
    · skip
      exact z_throwSW X hl0 (cls := "java/lang/IllegalArgumentException") (text := "a number is out of range") (ik := 85) (is := 312) (ic := 89) (by decide +kernel) (by decide +kernel) (by decide +kernel) rfl dX7_requireRange_10 dX7_requireRange_13 dX7_requireRange_14 dX7_requireRange_17 dX7_requireRange_20 (by decide) (by decide) ⟨by decide, by decide⟩ rfl (⟨rfl, fun h9 => by first | exact h9.1 (by assumption) | exact h9.2 (Int32.not_le.mp (by assumption))⟩)

set_option maxRecDepth 100000 in
set_option maxHeartbeats 4000000 in
theorem c_X4_isInRoom (l : Launch) (n : Nat → Nat) (i x : Nat → Nat → Int32) (lm : Nat → Nat → Int64) (y : Nat → Nat → Nat) (ol : Int64) (od : UInt64) (hW : cW n i y) (p : Nat) (hp : p < n 7) : zS l yX4_isInRoom wsX4_isInRoom 0 0 0 0 [.ref (32 * p + 11)] (cmm n i x lm y ol od) (zpi (fun r M1 => r = zb (i 134 p = 114) ∧ M1 = cmm n i x lm y ol od)) zno := by
  refine z_intro (cc := cX4_isInRoom) (maxL := 1) (ret := (some .boolean)) (by decide +kernel) rfl (Nat.le_of_ble_eq_true rfl) ?_
  have hlk_9 : Cond.fieldLink RX4 9 "ColdStore$Pallet" "status" "C" ∈ wsX4_isInRoom := by decide +kernel
  intro g X
  show zE g 1 0 [(0, .ref (32 * p + 11))] [] (cmm n i x lm y ol od) 0 0
  obtain ⟨⟨hn0, hn1, hn2, hn3⟩, ⟨hb5, hb6, hb7, hb8⟩, hp9, hs9, ho9⟩ := hW
  refine z_aload_n X 0 dX4_isInRoom_0 rfl rfl ?_
  refine z_getI (ci := 7) (j := 3) (x := i 134 p) X dX4_isInRoom_1 (ck_11 (by omega)) rfl (by decide) hlk_9 (Or.inl rfl) (fun _ => rfl) (ci_11_3) ?_
  refine z_bipush (v := 114) X dX4_isInRoom_4 (by decide) ?_
  refine z_icmp_ne X 13 dX4_isInRoom_6 (by decide) (fun c_6 => ?_) (fun c_6 => ?_)
  · skip
    refine z_iconst (v := 0) X dX4_isInRoom_13 (by decide) ?_
    refine z_iret X rfl (rfl) (Nat.le_of_ble_eq_true rfl) (Nat.le_of_ble_eq_true rfl) dX4_isInRoom_14 ?_
    exact ⟨_, rfl, by (first | rfl | (simp only [Int32.lt_irrefl, if_true, if_false, not_true_eq_false, not_false_eq_true, and_true, true_and, and_false, false_and, or_true, true_or, or_false, false_or, and_self, ite_self, zb, c_6, eq_true c_6]; done) | (simp only [Int32.lt_irrefl, if_true, if_false, not_true_eq_false, not_false_eq_true, and_true, true_and, and_false, false_and, or_true, true_or, or_false, false_or, and_self, ite_self, zb, c_6, eq_true c_6]; rfl)), rfl⟩
  · skip
    refine z_iconst (v := 1) X dX4_isInRoom_9 (by decide) ?_
    refine z_goto (tgt := 14) X dX4_isInRoom_10 (by decide) ?_
    refine z_iret X rfl (rfl) (Nat.le_of_ble_eq_true rfl) (Nat.le_of_ble_eq_true rfl) dX4_isInRoom_14 ?_
    exact ⟨_, rfl, by (first | rfl | (simp only [Int32.lt_irrefl, if_true, if_false, not_true_eq_false, not_false_eq_true, and_true, true_and, and_false, false_and, or_true, true_or, or_false, false_or, and_self, ite_self, zb, c_6, eq_true c_6]; done) | (simp only [Int32.lt_irrefl, if_true, if_false, not_true_eq_false, not_false_eq_true, and_true, true_and, and_false, false_and, or_true, true_or, or_false, false_or, and_self, ite_self, zb, c_6, eq_true c_6]; rfl)), rfl⟩

set_option maxRecDepth 100000 in
set_option maxHeartbeats 4000000 in
theorem c_X4_isAheadOf (l : Launch) (n : Nat → Nat) (i x : Nat → Nat → Int32) (lm : Nat → Nat → Int64) (y : Nat → Nat → Nat) (ol : Int64) (od : UInt64) (hW : cW n i y) (p q : Nat) (hp : p < n 7) (hq : q < n 7) : zS l yX4_isAheadOf wsX4_isAheadOf 0 0 0 0 [.ref (32 * p + 11), .ref (32 * q + 11)] (cmm n i x lm y ol od) (zpi (fun r M1 => r = zb (i 133 p < i 133 q ∨ i 133 p = i 133 q ∧ nI p < nI q) ∧ M1 = cmm n i x lm y ol od)) zno := by
  refine z_intro (cc := cX4_isAheadOf) (maxL := 2) (ret := (some .boolean)) (by decide +kernel) rfl (Nat.le_of_ble_eq_true rfl) ?_
  have hlk_40 : Cond.fieldLink RX4 40 "ColdStore$Pallet" "lifeLeft" "I" ∈ wsX4_isAheadOf := by decide +kernel
  have hlk_19 : Cond.fieldLink RX4 19 "ColdStore$Pallet" "number" "I" ∈ wsX4_isAheadOf := by decide +kernel
  intro g X
  show zE g 2 0 [(0, .ref (32 * p + 11)), (1, .ref (32 * q + 11))] [] (cmm n i x lm y ol od) 0 0
  obtain ⟨⟨hn0, hn1, hn2, hn3⟩, ⟨hb5, hb6, hb7, hb8⟩, hp9, hs9, ho9⟩ := hW
  refine z_aload_n X 0 dX4_isAheadOf_0 rfl rfl ?_
  refine z_getI (ci := 7) (j := 5) (x := i 133 p) X dX4_isAheadOf_1 (ck_11 (by omega)) rfl (by decide) hlk_40 (Or.inl rfl) (fun _ => rfl) (ci_11_5) ?_
  refine z_aload_n X 1 dX4_isAheadOf_4 rfl rfl ?_
  refine z_getI (ci := 7) (j := 5) (x := i 133 q) X dX4_isAheadOf_5 (ck_11 (by omega)) rfl (by decide) hlk_40 (Or.inl rfl) (fun _ => rfl) (ci_11_5) ?_
  refine z_icmp_lt X 33 dX4_isAheadOf_8 (by decide) (fun c_8 => ?_) (fun c_8 => ?_)
  · skip
    refine z_iconst (v := 1) X dX4_isAheadOf_33 (by decide) ?_
    refine z_goto (tgt := 38) X dX4_isAheadOf_34 (by decide) ?_
    refine z_iret X rfl (rfl) (Nat.le_of_ble_eq_true rfl) (Nat.le_of_ble_eq_true rfl) dX4_isAheadOf_38 ?_
    exact ⟨_, rfl, by (try simp only [← Int32.not_lt, Classical.not_not] at c_8); (first | rfl | (simp only [Int32.lt_irrefl, if_true, if_false, not_true_eq_false, not_false_eq_true, and_true, true_and, and_false, false_and, or_true, true_or, or_false, false_or, and_self, ite_self, zb, c_8, eq_true c_8]; done) | (simp only [Int32.lt_irrefl, if_true, if_false, not_true_eq_false, not_false_eq_true, and_true, true_and, and_false, false_and, or_true, true_or, or_false, false_or, and_self, ite_self, zb, c_8, eq_true c_8]; rfl)), rfl⟩
  · skip
    refine z_aload_n X 0 dX4_isAheadOf_11 rfl rfl ?_
    refine z_getI (ci := 7) (j := 5) (x := i 133 p) X dX4_isAheadOf_12 (ck_11 (by omega)) rfl (by decide) hlk_40 (Or.inl rfl) (fun _ => rfl) (ci_11_5) ?_
    refine z_aload_n X 1 dX4_isAheadOf_15 rfl rfl ?_
    refine z_getI (ci := 7) (j := 5) (x := i 133 q) X dX4_isAheadOf_16 (ck_11 (by omega)) rfl (by decide) hlk_40 (Or.inl rfl) (fun _ => rfl) (ci_11_5) ?_
    refine z_icmp_ne X 37 dX4_isAheadOf_19 (by decide) (fun c_19 => ?_) (fun c_19 => ?_)
    · skip
      refine z_iconst (v := 0) X dX4_isAheadOf_37 (by decide) ?_
      refine z_iret X rfl (rfl) (Nat.le_of_ble_eq_true rfl) (Nat.le_of_ble_eq_true rfl) dX4_isAheadOf_38 ?_
      exact ⟨_, rfl, by (try simp only [← Int32.not_lt, Classical.not_not] at c_8 c_19); (first | rfl | (simp only [Int32.lt_irrefl, if_true, if_false, not_true_eq_false, not_false_eq_true, and_true, true_and, and_false, false_and, or_true, true_or, or_false, false_or, and_self, ite_self, zb, c_8, c_19, eq_true c_8, eq_true c_19]; done) | (simp only [Int32.lt_irrefl, if_true, if_false, not_true_eq_false, not_false_eq_true, and_true, true_and, and_false, false_and, or_true, true_or, or_false, false_or, and_self, ite_self, zb, c_8, c_19, eq_true c_8, eq_true c_19]; rfl)), rfl⟩
    · skip
      refine z_aload_n X 0 dX4_isAheadOf_22 rfl rfl ?_
      refine z_getI (ci := 7) (j := 0) (x := nI p) X dX4_isAheadOf_23 (ck_11 (by omega)) rfl (by decide) hlk_19 (Or.inl rfl) (fun _ => rfl) (ci_11_0) ?_
      refine z_aload_n X 1 dX4_isAheadOf_26 rfl rfl ?_
      refine z_getI (ci := 7) (j := 0) (x := nI q) X dX4_isAheadOf_27 (ck_11 (by omega)) rfl (by decide) hlk_19 (Or.inl rfl) (fun _ => rfl) (ci_11_0) ?_
      refine z_icmp_ge X 37 dX4_isAheadOf_30 (by decide) (fun c_30 => ?_) (fun c_30 => ?_)
      · skip
        refine z_iconst (v := 0) X dX4_isAheadOf_37 (by decide) ?_
        refine z_iret X rfl (rfl) (Nat.le_of_ble_eq_true rfl) (Nat.le_of_ble_eq_true rfl) dX4_isAheadOf_38 ?_
        exact ⟨_, rfl, by (try simp only [← Int32.not_lt, Classical.not_not] at c_8 c_19 c_30); (first | rfl | (simp only [Int32.lt_irrefl, if_true, if_false, not_true_eq_false, not_false_eq_true, and_true, true_and, and_false, false_and, or_true, true_or, or_false, false_or, and_self, ite_self, zb, c_8, c_19, c_30, eq_true c_8, eq_true c_19, eq_true c_30]; done) | (simp only [Int32.lt_irrefl, if_true, if_false, not_true_eq_false, not_false_eq_true, and_true, true_and, and_false, false_and, or_true, true_or, or_false, false_or, and_self, ite_self, zb, c_8, c_19, c_30, eq_true c_8, eq_true c_19, eq_true c_30]; rfl)), rfl⟩
      · skip
        refine z_iconst (v := 1) X dX4_isAheadOf_33 (by decide) ?_
        refine z_goto (tgt := 38) X dX4_isAheadOf_34 (by decide) ?_
        refine z_iret X rfl (rfl) (Nat.le_of_ble_eq_true rfl) (Nat.le_of_ble_eq_true rfl) dX4_isAheadOf_38 ?_
        exact ⟨_, rfl, by (try simp only [← Int32.not_lt, Classical.not_not] at c_8 c_19 c_30); (first | rfl | (simp only [Int32.lt_irrefl, if_true, if_false, not_true_eq_false, not_false_eq_true, and_true, true_and, and_false, false_and, or_true, true_or, or_false, false_or, and_self, ite_self, zb, c_8, c_19, c_30, eq_true c_8, eq_true c_19, eq_true c_30]; done) | (simp only [Int32.lt_irrefl, if_true, if_false, not_true_eq_false, not_false_eq_true, and_true, true_and, and_false, false_and, or_true, true_or, or_false, false_or, and_self, ite_self, zb, c_8, c_19, c_30, eq_true c_8, eq_true c_19, eq_true c_30]; rfl)), rfl⟩

set_option maxRecDepth 100000 in
set_option maxHeartbeats 4000000 in
theorem c_X3_accepts (l : Launch) (n : Nat → Nat) (i x : Nat → Nat → Int32) (lm : Nat → Nat → Int64) (y : Nat → Nat → Nat) (ol : Int64) (od : UInt64) (hW : cW n i y) (o p : Nat) (ho : o < n 8) (hp : p < n 7) : zS l yX3_accepts wsX3_accepts 1 20 0 0 [.ref (32 * o + 13), .ref (32 * p + 11)] (cmm n i x lm y ol od) (zpi (fun r M1 => r = zb (m_isC i o p) ∧ M1 = cmm n i x lm y ol od)) zno := by
  refine z_intro (cc := cX3_accepts) (maxL := 2) (ret := (some .boolean)) (by decide +kernel) rfl (Nat.le_of_ble_eq_true rfl) ?_
  have hlk_38 : Cond.fieldLink RX3 38 "ColdStore$Pallet" "kind" "LColdStore$Kind;" ∈ wsX3_accepts := by decide +kernel
  have hlk_19 : Cond.fieldLink RX3 19 "ColdStore$Order" "kind" "LColdStore$Kind;" ∈ wsX3_accepts := by decide +kernel
  have hlk_39 : Cond.fieldLink RX3 39 "ColdStore$Pallet" "lifeLeft" "I" ∈ wsX3_accepts := by decide +kernel
  have hlk_26 : Cond.fieldLink RX3 26 "ColdStore$Order" "promise" "I" ∈ wsX3_accepts := by decide +kernel
  intro g X
  show zE g 2 0 [(0, .ref (32 * o + 13)), (1, .ref (32 * p + 11))] [] (cmm n i x lm y ol od) 0 0
  obtain ⟨⟨hn0, hn1, hn2, hn3⟩, ⟨hb5, hb6, hb7, hb8⟩, hp9, hs9, ho9⟩ := hW
  have hiff : (32 * cl (i 131 p) + 10 = 32 * cl (i 136 o) + 10) ↔ i 131 p = i 136 o := ⟨fun e => by rw [(hp9 p hp).1.2, (ho9 o ho).2, show cl (i 131 p) = cl (i 136 o) by omega], fun e => by rw [e]⟩
  refine z_aload_n X 1 dX3_accepts_0 rfl rfl ?_
  refine z_callVi (As := []) (rest := []) (n1 := 0) (ci := 7) X dX3_accepts_1 (c_X4_isInRoom l n i x lm y ol od (⟨⟨hn0, hn1, hn2, hn3⟩, ⟨hb5, hb6, hb7, hb8⟩, hp9, hs9, ho9⟩) p (by omega)) gX3_accepts_X4_isInRoom rfl rfl (by decide +kernel) ⟨by decide, by decide⟩ (ck_11 (by omega)) rfl rfl (Nat.le_of_ble_eq_true rfl) ⟨by decide, by decide⟩ (fun _ h => h.elim) ?_
  rintro _ _ ⟨rfl, rfl⟩
  refine z_if_eq X 33 dX3_accepts_4 (by decide) (fun c_4 => ?_) (fun c_4 => ?_)
  · skip
    refine z_iconst (v := 0) X dX3_accepts_33 (by decide) ?_
    refine z_iret X rfl (rfl) (Nat.le_of_ble_eq_true rfl) (Nat.le_of_ble_eq_true rfl) dX3_accepts_34 ?_
    exact ⟨_, rfl, by (try simp only [zb_0, Classical.not_not] at *); (try rw [hiff] at c_15); (first | rfl | (simp only [Int32.lt_irrefl, if_true, if_false, not_true_eq_false, not_false_eq_true, and_true, true_and, and_false, false_and, or_true, true_or, or_false, false_or, and_self, ite_self, zb, m_isC, c_4, eq_true c_4]; done) | (simp only [Int32.lt_irrefl, if_true, if_false, not_true_eq_false, not_false_eq_true, and_true, true_and, and_false, false_and, or_true, true_or, or_false, false_or, and_self, ite_self, zb, m_isC, c_4, eq_true c_4]; rfl)), rfl⟩
  · skip
    refine z_aload_n X 1 dX3_accepts_7 rfl rfl ?_
    refine z_getR (ci := 7) (j := 1) (o' := 32 * (cl (i 131 p)) + 10) X dX3_accepts_8 (ck_11 (by omega)) rfl (by decide) hlk_38 (Or.inl rfl) (fun _ => rfl) (cr_11_1) ?_
    refine z_aload_n X 0 dX3_accepts_11 rfl rfl ?_
    refine z_getR (ci := 6) (j := 0) (o' := 32 * (cl (i 136 o)) + 10) X dX3_accepts_12 (ck_13 (by omega)) rfl (by decide) hlk_19 (Or.inl rfl) (fun _ => rfl) (cr_13_0) ?_
    refine z_acmp_ne X 33 (by rw [(ck_10 (by have := (hp9 p (by omega)).1.1; omega))]; decide) (by rw [(ck_10 (by have := (ho9 o (by omega)).1; omega))]; decide) dX3_accepts_15 (by decide) (fun c_15 => ?_) (fun c_15 => ?_)
    · skip
      refine z_iconst (v := 0) X dX3_accepts_33 (by decide) ?_
      refine z_iret X rfl (rfl) (Nat.le_of_ble_eq_true rfl) (Nat.le_of_ble_eq_true rfl) dX3_accepts_34 ?_
      exact ⟨_, rfl, by (try simp only [zb_0, Classical.not_not] at *); (try rw [hiff] at c_15); (first | rfl | (simp only [Int32.lt_irrefl, if_true, if_false, not_true_eq_false, not_false_eq_true, and_true, true_and, and_false, false_and, or_true, true_or, or_false, false_or, and_self, ite_self, zb, m_isC, c_4, c_15, eq_true c_4, eq_true c_15]; done) | (simp only [Int32.lt_irrefl, if_true, if_false, not_true_eq_false, not_false_eq_true, and_true, true_and, and_false, false_and, or_true, true_or, or_false, false_or, and_self, ite_self, zb, m_isC, c_4, c_15, eq_true c_4, eq_true c_15]; rfl)), rfl⟩
    · skip
      refine z_aload_n X 1 dX3_accepts_18 rfl rfl ?_
      refine z_getI (ci := 7) (j := 5) (x := i 133 p) X dX3_accepts_19 (ck_11 (by omega)) rfl (by decide) hlk_39 (Or.inl rfl) (fun _ => rfl) (ci_11_5) ?_
      refine z_aload_n X 0 dX3_accepts_22 rfl rfl ?_
      refine z_getI (ci := 6) (j := 2) (x := i 138 o) X dX3_accepts_23 (ck_13 (by omega)) rfl (by decide) hlk_26 (Or.inl rfl) (fun _ => rfl) (ci_13_2) ?_
      refine z_icmp_lt X 33 dX3_accepts_26 (by decide) (fun c_26 => ?_) (fun c_26 => ?_)
      · skip
        refine z_iconst (v := 0) X dX3_accepts_33 (by decide) ?_
        refine z_iret X rfl (rfl) (Nat.le_of_ble_eq_true rfl) (Nat.le_of_ble_eq_true rfl) dX3_accepts_34 ?_
        exact ⟨_, rfl, by (try simp only [zb_0, Classical.not_not] at *); (try rw [hiff] at c_15); (first | rfl | (simp only [Int32.lt_irrefl, if_true, if_false, not_true_eq_false, not_false_eq_true, and_true, true_and, and_false, false_and, or_true, true_or, or_false, false_or, and_self, ite_self, zb, m_isC, c_4, c_15, c_26, eq_true c_4, eq_true c_15, eq_true c_26]; done) | (simp only [Int32.lt_irrefl, if_true, if_false, not_true_eq_false, not_false_eq_true, and_true, true_and, and_false, false_and, or_true, true_or, or_false, false_or, and_self, ite_self, zb, m_isC, c_4, c_15, c_26, eq_true c_4, eq_true c_15, eq_true c_26]; rfl)), rfl⟩
      · skip
        refine z_iconst (v := 1) X dX3_accepts_29 (by decide) ?_
        refine z_goto (tgt := 34) X dX3_accepts_30 (by decide) ?_
        refine z_iret X rfl (rfl) (Nat.le_of_ble_eq_true rfl) (Nat.le_of_ble_eq_true rfl) dX3_accepts_34 ?_
        exact ⟨_, rfl, by (try simp only [zb_0, Classical.not_not] at *); (try rw [hiff] at c_15); (first | rfl | (simp only [Int32.lt_irrefl, if_true, if_false, not_true_eq_false, not_false_eq_true, and_true, true_and, and_false, false_and, or_true, true_or, or_false, false_or, and_self, ite_self, zb, m_isC, c_4, c_15, c_26, eq_true c_4, eq_true c_15, eq_true c_26]; done) | (simp only [Int32.lt_irrefl, if_true, if_false, not_true_eq_false, not_false_eq_true, and_true, true_and, and_false, false_and, or_true, true_or, or_false, false_or, and_self, ite_self, zb, m_isC, c_4, c_15, c_26, eq_true c_4, eq_true c_15, eq_true c_26]; rfl)), rfl⟩

set_option maxRecDepth 100000 in
set_option maxHeartbeats 4000000 in
theorem c_X1_lossAt (l : Launch) (n : Nat → Nat) (i x : Nat → Nat → Int32) (lm : Nat → Nat → Int64) (y : Nat → Nat → Nat) (ol : Int64) (od : UInt64) (k : Nat) (hk : k < n 1) (d : Int32) : zS l yX1_lossAt wsX1_lossAt 0 0 0 0 [.ref (32 * k + 10), .int d] (cmm n i x lm y ol od) (zpi (fun r M1 => r = (if d < i 129 k then 10 else if i 128 k < d then 1 + (d - i 128 k) / 20 else 1) ∧ M1 = cmm n i x lm y ol od)) zno := by
  refine z_intro (cc := cX1_lossAt) (maxL := 2) (ret := (some .int)) (by decide +kernel) rfl (Nat.le_of_ble_eq_true rfl) ?_
  have hlk_16 : Cond.fieldLink RX1 16 "ColdStore$Kind" "lowest" "I" ∈ wsX1_lossAt := by decide +kernel
  have hlk_13 : Cond.fieldLink RX1 13 "ColdStore$Kind" "best" "I" ∈ wsX1_lossAt := by decide +kernel
  intro g X
  show zE g 2 0 [(0, .ref (32 * k + 10)), (1, .int d)] [] (cmm n i x lm y ol od) 0 0
  refine z_iload_n X 1 dX1_lossAt_0 rfl rfl ?_
  refine z_aload_n X 0 dX1_lossAt_1 rfl rfl ?_
  refine z_getI (ci := 4) (j := 2) (x := i 129 k) X dX1_lossAt_2 (ck_10 (by omega)) rfl (by decide) hlk_16 (Or.inl rfl) (fun _ => rfl) (ci_10_2) ?_
  refine z_icmp_ge X 11 dX1_lossAt_5 (by decide) (fun c_5 => ?_) (fun c_5 => ?_)
  · skip
    refine z_iload_n X 1 dX1_lossAt_11 rfl rfl ?_
    refine z_aload_n X 0 dX1_lossAt_12 rfl rfl ?_
    refine z_getI (ci := 4) (j := 1) (x := i 128 k) X dX1_lossAt_13 (ck_10 (by omega)) rfl (by decide) hlk_13 (Or.inl rfl) (fun _ => rfl) (ci_10_1) ?_
    refine z_icmp_le X 33 dX1_lossAt_16 (by decide) (fun c_16 => ?_) (fun c_16 => ?_)
    · skip
      refine z_iconst (v := 1) X dX1_lossAt_33 (by decide) ?_
      refine z_iret X rfl rfl (Nat.le_of_ble_eq_true rfl) (Nat.le_of_ble_eq_true rfl) dX1_lossAt_34 ?_
      exact ⟨_, rfl, by (try simp only [← Int32.not_lt, Classical.not_not] at c_5 c_16); (first | rfl | (simp only [Int32.lt_irrefl, if_true, if_false, not_true_eq_false, not_false_eq_true, and_true, true_and, and_false, false_and, or_true, true_or, or_false, false_or, and_self, ite_self, zb, c_5, c_16, eq_true c_5, eq_true c_16]; done) | (simp only [Int32.lt_irrefl, if_true, if_false, not_true_eq_false, not_false_eq_true, and_true, true_and, and_false, false_and, or_true, true_or, or_false, false_or, and_self, ite_self, zb, c_5, c_16, eq_true c_5, eq_true c_16]; rfl)), rfl⟩
    · skip
      refine z_iconst (v := 1) X dX1_lossAt_19 (by decide) ?_
      refine z_iload_n X 1 dX1_lossAt_20 rfl rfl ?_
      refine z_aload_n X 0 dX1_lossAt_21 rfl rfl ?_
      refine z_getI (ci := 4) (j := 1) (x := i 128 k) X dX1_lossAt_22 (ck_10 (by omega)) rfl (by decide) hlk_13 (Or.inl rfl) (fun _ => rfl) (ci_10_1) ?_
      refine z_isub X dX1_lossAt_25 ?_
      refine z_bipush (v := 20) X dX1_lossAt_26 (by decide) ?_
      refine z_idiv X dX1_lossAt_28 (by decide) ?_
      refine z_iadd X dX1_lossAt_29 ?_
      refine z_goto (tgt := 34) X dX1_lossAt_30 (by decide) ?_
      refine z_iret X rfl rfl (Nat.le_of_ble_eq_true rfl) (Nat.le_of_ble_eq_true rfl) dX1_lossAt_34 ?_
      exact ⟨_, rfl, by (try simp only [← Int32.not_lt, Classical.not_not] at c_5 c_16); (first | rfl | (simp only [Int32.lt_irrefl, if_true, if_false, not_true_eq_false, not_false_eq_true, and_true, true_and, and_false, false_and, or_true, true_or, or_false, false_or, and_self, ite_self, zb, c_5, c_16, eq_true c_5, eq_true c_16]; done) | (simp only [Int32.lt_irrefl, if_true, if_false, not_true_eq_false, not_false_eq_true, and_true, true_and, and_false, false_and, or_true, true_or, or_false, false_or, and_self, ite_self, zb, c_5, c_16, eq_true c_5, eq_true c_16]; rfl)), rfl⟩
  · skip
    refine z_bipush (v := 10) X dX1_lossAt_8 (by decide) ?_
    refine z_iret X rfl rfl (Nat.le_of_ble_eq_true rfl) (Nat.le_of_ble_eq_true rfl) dX1_lossAt_10 ?_
    exact ⟨_, rfl, by (try simp only [← Int32.not_lt, Classical.not_not] at c_5); (first | rfl | (simp only [Int32.lt_irrefl, if_true, if_false, not_true_eq_false, not_false_eq_true, and_true, true_and, and_false, false_and, or_true, true_or, or_false, false_or, and_self, ite_self, zb, c_5, eq_true c_5]; done) | (simp only [Int32.lt_irrefl, if_true, if_false, not_true_eq_false, not_false_eq_true, and_true, true_and, and_false, false_and, or_true, true_or, or_false, false_or, and_self, ite_self, zb, c_5, eq_true c_5]; rfl)), rfl⟩

set_option maxRecDepth 100000 in
set_option maxHeartbeats 4000000 in
theorem c_X5_excess (l : Launch) (n : Nat → Nat) (i x : Nat → Nat → Int32) (lm : Nat → Nat → Int64) (y : Nat → Nat → Nat) (ol : Int64) (od : UInt64) (j : Nat) (hj : j < n 0) : zS l yX5_excess wsX5_excess 0 0 0 0 [.ref (32 * j + 8)] (cmm n i x lm y ol od) (zpi (fun r M1 => r = i 110 j - i 106 j ∧ M1 = cmm n i x lm y ol od)) zno := by
  refine z_intro (cc := cX5_excess) (maxL := 1) (ret := (some .int)) (by decide +kernel) rfl (Nat.le_of_ble_eq_true rfl) ?_
  have hlk_63 : Cond.fieldLink RX5 63 "ColdStore$Room" "degrees" "I" ∈ wsX5_excess := by decide +kernel
  have hlk_19 : Cond.fieldLink RX5 19 "ColdStore$Room" "upper" "I" ∈ wsX5_excess := by decide +kernel
  intro g X
  show zE g 1 0 [(0, .ref (32 * j + 8))] [] (cmm n i x lm y ol od) 0 0
  refine z_aload_n X 0 dX5_excess_0 rfl rfl ?_
  refine z_getI (ci := 8) (j := 10) (x := i 110 j) X dX5_excess_1 (ck_8 (by omega)) rfl (by decide) hlk_63 (Or.inl rfl) (fun _ => rfl) (ci_8_10) ?_
  refine z_aload_n X 0 dX5_excess_4 rfl rfl ?_
  refine z_getI (ci := 8) (j := 6) (x := i 106 j) X dX5_excess_5 (ck_8 (by omega)) rfl (by decide) hlk_19 (Or.inl rfl) (fun _ => rfl) (ci_8_6) ?_
  refine z_isub X dX5_excess_8 ?_
  refine z_iret X rfl rfl (Nat.le_of_ble_eq_true rfl) (Nat.le_of_ble_eq_true rfl) dX5_excess_9 ?_
  exact ⟨_, rfl, by (first | rfl | (simp only [Int32.lt_irrefl, if_true, if_false, not_true_eq_false, not_false_eq_true, and_true, true_and, and_false, false_and, or_true, true_or, or_false, false_or, and_self, ite_self, zb]; done) | (simp only [Int32.lt_irrefl, if_true, if_false, not_true_eq_false, not_false_eq_true, and_true, true_and, and_false, false_and, or_true, true_or, or_false, false_or, and_self, ite_self, zb]; rfl)), rfl⟩

set_option maxRecDepth 100000 in
set_option maxHeartbeats 4000000 in
theorem c_X0_isPeak (l : Launch) (n : Nat → Nat) (i x : Nat → Nat → Int32) (lm : Nat → Nat → Int64) (y : Nat → Nat → Nat) (ol : Int64) (od : UInt64) (q : Int32) : zS l yX0_isPeak wsX0_isPeak 0 0 0 0 [.ref 4, .int q] (cmm n i x lm y ol od) (zpi (fun r M1 => r = zb (c_peak i x q) ∧ M1 = cmm n i x lm y ol od)) zno := by
  refine z_intro (cc := cX0_isPeak) (maxL := 2) (ret := (some .boolean)) (by decide +kernel) rfl (Nat.le_of_ble_eq_true rfl) ?_
  have hlk_18 : Cond.fieldLink RX0 18 "ColdStore$Contract" "firstPeak" "I" ∈ wsX0_isPeak := by decide +kernel
  have hlk_21 : Cond.fieldLink RX0 21 "ColdStore$Contract" "lastPeak" "I" ∈ wsX0_isPeak := by decide +kernel
  intro g X
  show zE g 2 0 [(0, .ref 4), (1, .int q)] [] (cmm n i x lm y ol od) 0 0
  refine z_iload_n X 1 dX0_isPeak_0 rfl rfl ?_
  refine z_aload_n X 0 dX0_isPeak_1 rfl rfl ?_
  refine z_getI (ci := 3) (j := 2) (x := x 7 0) X dX0_isPeak_2 ck_4 rfl (by decide) hlk_18 (Or.inl rfl) (fun _ => rfl) (ci_4_2) ?_
  refine z_icmp_lt X 20 dX0_isPeak_5 (by decide) (fun c_5 => ?_) (fun c_5 => ?_)
  · skip
    refine z_iconst (v := 0) X dX0_isPeak_20 (by decide) ?_
    refine z_iret X rfl (rfl) (Nat.le_of_ble_eq_true rfl) (Nat.le_of_ble_eq_true rfl) dX0_isPeak_21 ?_
    exact ⟨_, rfl, by (try simp only [← Int32.not_lt, Classical.not_not] at c_5); (first | rfl | (simp only [Int32.lt_irrefl, if_true, if_false, not_true_eq_false, not_false_eq_true, and_true, true_and, and_false, false_and, or_true, true_or, or_false, false_or, and_self, ite_self, zb, zin, c_peak, c_5, eq_true c_5]; done) | (simp only [Int32.lt_irrefl, if_true, if_false, not_true_eq_false, not_false_eq_true, and_true, true_and, and_false, false_and, or_true, true_or, or_false, false_or, and_self, ite_self, zb, zin, c_peak, c_5, eq_true c_5]; rfl)), rfl⟩
  · skip
    refine z_iload_n X 1 dX0_isPeak_8 rfl rfl ?_
    refine z_aload_n X 0 dX0_isPeak_9 rfl rfl ?_
    refine z_getI (ci := 3) (j := 3) (x := i 1 21) X dX0_isPeak_10 ck_4 rfl (by decide) hlk_21 (Or.inl rfl) (fun _ => rfl) (ci_4_3) ?_
    refine z_icmp_gt X 20 dX0_isPeak_13 (by decide) (fun c_13 => ?_) (fun c_13 => ?_)
    · skip
      refine z_iconst (v := 0) X dX0_isPeak_20 (by decide) ?_
      refine z_iret X rfl (rfl) (Nat.le_of_ble_eq_true rfl) (Nat.le_of_ble_eq_true rfl) dX0_isPeak_21 ?_
      exact ⟨_, rfl, by (try simp only [← Int32.not_lt, Classical.not_not] at c_5 c_13); (first | rfl | (simp only [Int32.lt_irrefl, if_true, if_false, not_true_eq_false, not_false_eq_true, and_true, true_and, and_false, false_and, or_true, true_or, or_false, false_or, and_self, ite_self, zb, zin, c_peak, c_5, c_13, eq_true c_5, eq_true c_13]; done) | (simp only [Int32.lt_irrefl, if_true, if_false, not_true_eq_false, not_false_eq_true, and_true, true_and, and_false, false_and, or_true, true_or, or_false, false_or, and_self, ite_self, zb, zin, c_peak, c_5, c_13, eq_true c_5, eq_true c_13]; rfl)), rfl⟩
    · skip
      refine z_iconst (v := 1) X dX0_isPeak_16 (by decide) ?_
      refine z_goto (tgt := 21) X dX0_isPeak_17 (by decide) ?_
      refine z_iret X rfl (rfl) (Nat.le_of_ble_eq_true rfl) (Nat.le_of_ble_eq_true rfl) dX0_isPeak_21 ?_
      exact ⟨_, rfl, by (try simp only [← Int32.not_lt, Classical.not_not] at c_5 c_13); (first | rfl | (simp only [Int32.lt_irrefl, if_true, if_false, not_true_eq_false, not_false_eq_true, and_true, true_and, and_false, false_and, or_true, true_or, or_false, false_or, and_self, ite_self, zb, zin, c_peak, c_5, c_13, eq_true c_5, eq_true c_13]; done) | (simp only [Int32.lt_irrefl, if_true, if_false, not_true_eq_false, not_false_eq_true, and_true, true_and, and_false, false_and, or_true, true_or, or_false, false_or, and_self, ite_self, zb, zin, c_peak, c_5, c_13, eq_true c_5, eq_true c_13]; rfl)), rfl⟩

set_option maxRecDepth 100000 in
set_option maxHeartbeats 4000000 in
theorem c_X0_isAheadOfPeak (l : Launch) (n : Nat → Nat) (i x : Nat → Nat → Int32) (lm : Nat → Nat → Int64) (y : Nat → Nat → Nat) (ol : Int64) (od : UInt64) (q m : Int32) : zS l yX0_isAheadOfPeak wsX0_isAheadOfPeak 0 0 0 0 [.ref 4, .int q, .int m] (cmm n i x lm y ol od) (zpi (fun r M1 => r = zb (q < x 7 0 ∧ ¬ m < x 7 0 - q) ∧ M1 = cmm n i x lm y ol od)) zno := by
  refine z_intro (cc := cX0_isAheadOfPeak) (maxL := 3) (ret := (some .boolean)) (by decide +kernel) rfl (Nat.le_of_ble_eq_true rfl) ?_
  have hlk_18 : Cond.fieldLink RX0 18 "ColdStore$Contract" "firstPeak" "I" ∈ wsX0_isAheadOfPeak := by decide +kernel
  intro g X
  show zE g 3 0 [(0, .ref 4), (1, .int q), (2, .int m)] [] (cmm n i x lm y ol od) 0 0
  refine z_iload_n X 1 dX0_isAheadOfPeak_0 rfl rfl ?_
  refine z_aload_n X 0 dX0_isAheadOfPeak_1 rfl rfl ?_
  refine z_getI (ci := 3) (j := 2) (x := x 7 0) X dX0_isAheadOfPeak_2 ck_4 rfl (by decide) hlk_18 (Or.inl rfl) (fun _ => rfl) (ci_4_2) ?_
  refine z_icmp_ge X 22 dX0_isAheadOfPeak_5 (by decide) (fun c_5 => ?_) (fun c_5 => ?_)
  · skip
    refine z_iconst (v := 0) X dX0_isAheadOfPeak_22 (by decide) ?_
    refine z_iret X rfl (rfl) (Nat.le_of_ble_eq_true rfl) (Nat.le_of_ble_eq_true rfl) dX0_isAheadOfPeak_23 ?_
    exact ⟨_, rfl, by (try simp only [← Int32.not_lt, Classical.not_not] at c_5); (first | rfl | (simp only [Int32.lt_irrefl, if_true, if_false, not_true_eq_false, not_false_eq_true, and_true, true_and, and_false, false_and, or_true, true_or, or_false, false_or, and_self, ite_self, zb, zin, c_peak, c_5, eq_true c_5]; done) | (simp only [Int32.lt_irrefl, if_true, if_false, not_true_eq_false, not_false_eq_true, and_true, true_and, and_false, false_and, or_true, true_or, or_false, false_or, and_self, ite_self, zb, zin, c_peak, c_5, eq_true c_5]; rfl)), rfl⟩
  · skip
    refine z_aload_n X 0 dX0_isAheadOfPeak_8 rfl rfl ?_
    refine z_getI (ci := 3) (j := 2) (x := x 7 0) X dX0_isAheadOfPeak_9 ck_4 rfl (by decide) hlk_18 (Or.inl rfl) (fun _ => rfl) (ci_4_2) ?_
    refine z_iload_n X 1 dX0_isAheadOfPeak_12 rfl rfl ?_
    refine z_isub X dX0_isAheadOfPeak_13 ?_
    refine z_iload_n X 2 dX0_isAheadOfPeak_14 rfl rfl ?_
    refine z_icmp_gt X 22 dX0_isAheadOfPeak_15 (by decide) (fun c_15 => ?_) (fun c_15 => ?_)
    · skip
      refine z_iconst (v := 0) X dX0_isAheadOfPeak_22 (by decide) ?_
      refine z_iret X rfl (rfl) (Nat.le_of_ble_eq_true rfl) (Nat.le_of_ble_eq_true rfl) dX0_isAheadOfPeak_23 ?_
      exact ⟨_, rfl, by (try simp only [← Int32.not_lt, Classical.not_not] at c_5 c_15); (first | rfl | (simp only [Int32.lt_irrefl, if_true, if_false, not_true_eq_false, not_false_eq_true, and_true, true_and, and_false, false_and, or_true, true_or, or_false, false_or, and_self, ite_self, zb, zin, c_peak, c_5, c_15, eq_true c_5, eq_true c_15]; done) | (simp only [Int32.lt_irrefl, if_true, if_false, not_true_eq_false, not_false_eq_true, and_true, true_and, and_false, false_and, or_true, true_or, or_false, false_or, and_self, ite_self, zb, zin, c_peak, c_5, c_15, eq_true c_5, eq_true c_15]; rfl)), rfl⟩
    · skip
      refine z_iconst (v := 1) X dX0_isAheadOfPeak_18 (by decide) ?_
      refine z_goto (tgt := 23) X dX0_isAheadOfPeak_19 (by decide) ?_
      refine z_iret X rfl (rfl) (Nat.le_of_ble_eq_true rfl) (Nat.le_of_ble_eq_true rfl) dX0_isAheadOfPeak_23 ?_
      exact ⟨_, rfl, by (try simp only [← Int32.not_lt, Classical.not_not] at c_5 c_15); (first | rfl | (simp only [Int32.lt_irrefl, if_true, if_false, not_true_eq_false, not_false_eq_true, and_true, true_and, and_false, false_and, or_true, true_or, or_false, false_or, and_self, ite_self, zb, zin, c_peak, c_5, c_15, eq_true c_5, eq_true c_15]; done) | (simp only [Int32.lt_irrefl, if_true, if_false, not_true_eq_false, not_false_eq_true, and_true, true_and, and_false, false_and, or_true, true_or, or_false, false_or, and_self, ite_self, zb, zin, c_peak, c_5, c_15, eq_true c_5, eq_true c_15]; rfl)), rfl⟩

set_option maxRecDepth 100000 in
set_option maxHeartbeats 4000000 in
theorem c_X0_priceIn (l : Launch) (n : Nat → Nat) (i x : Nat → Nat → Int32) (lm : Nat → Nat → Int64) (y : Nat → Nat → Nat) (ol : Int64) (od : UInt64) (q : Int32) : zS l yX0_priceIn wsX0_priceIn 1 21 0 0 [.ref 4, .int q] (cmm n i x lm y ol od) (zpi (fun r M1 => r = (if c_peak i x q then i 1 19 else i 1 18) ∧ M1 = cmm n i x lm y ol od)) zno := by
  refine z_intro (cc := cX0_priceIn) (maxL := 2) (ret := (some .int)) (by decide +kernel) rfl (Nat.le_of_ble_eq_true rfl) ?_
  have hlk_9 : Cond.fieldLink RX0 9 "ColdStore$Contract" "normalPrice" "I" ∈ wsX0_priceIn := by decide +kernel
  have hlk_15 : Cond.fieldLink RX0 15 "ColdStore$Contract" "peakPrice" "I" ∈ wsX0_priceIn := by decide +kernel
  intro g X
  show zE g 2 0 [(0, .ref 4), (1, .int q)] [] (cmm n i x lm y ol od) 0 0
  refine z_aload_n X 0 dX0_priceIn_0 rfl rfl ?_
  refine z_iload_n X 1 dX0_priceIn_1 rfl rfl ?_
  refine z_callVi (As := [.int q]) (rest := []) (n1 := 1) (ci := 3) X dX0_priceIn_2 (c_X0_isPeak l n i x lm y ol od q) gX0_priceIn_X0_isPeak rfl rfl (by decide +kernel) ⟨by decide, by decide⟩ ck_4 rfl rfl (Nat.le_of_ble_eq_true rfl) ⟨by decide, by decide⟩ (fun _ h => h.elim) ?_
  rintro _ _ ⟨rfl, rfl⟩
  refine z_if_eq X 15 dX0_priceIn_5 (by decide) (fun c_5 => ?_) (fun c_5 => ?_)
  · skip
    refine z_aload_n X 0 dX0_priceIn_15 rfl rfl ?_
    refine z_getI (ci := 3) (j := 0) (x := i 1 18) X dX0_priceIn_16 ck_4 rfl (by decide) hlk_9 (Or.inl rfl) (fun _ => rfl) (ci_4_0) ?_
    refine z_iret X rfl rfl (Nat.le_of_ble_eq_true rfl) (Nat.le_of_ble_eq_true rfl) dX0_priceIn_19 ?_
    exact ⟨_, rfl, by (try simp only [zb_0, Classical.not_not] at c_5); (first | rfl | (simp only [Int32.lt_irrefl, if_true, if_false, not_true_eq_false, not_false_eq_true, and_true, true_and, and_false, false_and, or_true, true_or, or_false, false_or, and_self, ite_self, zb, c_5, eq_true c_5]; done) | (simp only [Int32.lt_irrefl, if_true, if_false, not_true_eq_false, not_false_eq_true, and_true, true_and, and_false, false_and, or_true, true_or, or_false, false_or, and_self, ite_self, zb, c_5, eq_true c_5]; rfl)), rfl⟩
  · skip
    refine z_aload_n X 0 dX0_priceIn_8 rfl rfl ?_
    refine z_getI (ci := 3) (j := 1) (x := i 1 19) X dX0_priceIn_9 ck_4 rfl (by decide) hlk_15 (Or.inl rfl) (fun _ => rfl) (ci_4_1) ?_
    refine z_goto (tgt := 19) X dX0_priceIn_12 (by decide) ?_
    refine z_iret X rfl rfl (Nat.le_of_ble_eq_true rfl) (Nat.le_of_ble_eq_true rfl) dX0_priceIn_19 ?_
    exact ⟨_, rfl, by (try simp only [zb_0, Classical.not_not] at c_5); (first | rfl | (simp only [Int32.lt_irrefl, if_true, if_false, not_true_eq_false, not_false_eq_true, and_true, true_and, and_false, false_and, or_true, true_or, or_false, false_or, and_self, ite_self, zb, c_5, eq_true c_5]; done) | (simp only [Int32.lt_irrefl, if_true, if_false, not_true_eq_false, not_false_eq_true, and_true, true_and, and_false, false_and, or_true, true_or, or_false, false_or, and_self, ite_self, zb, c_5, eq_true c_5]; rfl)), rfl⟩

set_option maxRecDepth 100000 in
set_option maxHeartbeats 4000000 in
theorem c_X5_shiftIn (l : Launch) (n : Nat → Nat) (i x : Nat → Nat → Int32) (lm : Nat → Nat → Int64) (y : Nat → Nat → Nat) (ol : Int64) (od : UInt64) (j : Nat) (hj : j < n 0) (q : Int32) : zS l yX5_shiftIn wsX5_shiftIn 1 22 0 0 [.ref (32 * j + 8), .ref 4, .int q] (cmm n i x lm y ol od) (zpi (fun r M1 => r = (if c_peak i x q then i 108 j else if q < x 7 0 ∧ ¬ i 107 j < x 7 0 - q then -(i 108 j) else 0) ∧ M1 = cmm n i x lm y ol od)) zno := by
  refine z_intro (cc := cX5_shiftIn) (maxL := 3) (ret := (some .int)) (by decide +kernel) rfl (Nat.le_of_ble_eq_true rfl) ?_
  have hlk_26 : Cond.fieldLink RX5 26 "ColdStore$Room" "leadTicks" "I" ∈ wsX5_shiftIn := by decide +kernel
  have hlk_29 : Cond.fieldLink RX5 29 "ColdStore$Room" "leadDepth" "I" ∈ wsX5_shiftIn := by decide +kernel
  intro g X
  show zE g 3 0 [(0, .ref (32 * j + 8)), (1, .ref 4), (2, .int q)] [] (cmm n i x lm y ol od) 0 0
  refine z_aload_n X 1 dX5_shiftIn_0 rfl rfl ?_
  refine z_iload_n X 2 dX5_shiftIn_1 rfl rfl ?_
  refine z_callVi (As := [.int q]) (rest := []) (n1 := 1) (ci := 3) X dX5_shiftIn_2 (c_X0_isPeak l n i x lm y ol od q) gX5_shiftIn_X0_isPeak rfl rfl (by decide +kernel) ⟨by decide, by decide⟩ ck_4 rfl rfl (Nat.le_of_ble_eq_true rfl) ⟨by decide, by decide⟩ (fun _ h => h.elim) ?_
  rintro _ _ ⟨rfl, rfl⟩
  refine z_if_eq X 13 dX5_shiftIn_5 (by decide) (fun c_5 => ?_) (fun c_5 => ?_)
  · skip
    refine z_aload_n X 1 dX5_shiftIn_13 rfl rfl ?_
    refine z_iload_n X 2 dX5_shiftIn_14 rfl rfl ?_
    refine z_aload_n X 0 dX5_shiftIn_15 rfl rfl ?_
    refine z_getI (ci := 8) (j := 8) (x := i 107 j) X dX5_shiftIn_16 (ck_8 (by omega)) rfl (by decide) hlk_26 (Or.inl rfl) (fun _ => rfl) (ci_8_8) ?_
    refine z_callVi (As := [.int q, .int (i 107 j)]) (rest := []) (n1 := 2) (ci := 3) X dX5_shiftIn_19 (c_X0_isAheadOfPeak l n i x lm y ol od q (i 107 j)) gX5_shiftIn_X0_isAheadOfPeak rfl rfl (by decide +kernel) ⟨by decide, by decide⟩ ck_4 rfl rfl (Nat.le_of_ble_eq_true rfl) ⟨by decide, by decide⟩ (fun _ h => h.elim) ?_
    rintro _ _ ⟨rfl, rfl⟩
    refine z_if_eq X 33 dX5_shiftIn_22 (by decide) (fun c_22 => ?_) (fun c_22 => ?_)
    · skip
      refine z_iconst (v := 0) X dX5_shiftIn_33 (by decide) ?_
      refine z_iret X rfl rfl (Nat.le_of_ble_eq_true rfl) (Nat.le_of_ble_eq_true rfl) dX5_shiftIn_34 ?_
      exact ⟨_, rfl, by (try simp only [zb_0, Classical.not_not] at c_5 c_22); (first | rfl | (simp only [Int32.lt_irrefl, if_true, if_false, not_true_eq_false, not_false_eq_true, and_true, true_and, and_false, false_and, or_true, true_or, or_false, false_or, and_self, ite_self, zb, c_5, c_22, eq_true c_5, eq_true c_22]; done) | (simp only [Int32.lt_irrefl, if_true, if_false, not_true_eq_false, not_false_eq_true, and_true, true_and, and_false, false_and, or_true, true_or, or_false, false_or, and_self, ite_self, zb, c_5, c_22, eq_true c_5, eq_true c_22]; rfl)), rfl⟩
    · skip
      refine z_aload_n X 0 dX5_shiftIn_25 rfl rfl ?_
      refine z_getI (ci := 8) (j := 9) (x := i 108 j) X dX5_shiftIn_26 (ck_8 (by omega)) rfl (by decide) hlk_29 (Or.inl rfl) (fun _ => rfl) (ci_8_9) ?_
      refine z_ineg X dX5_shiftIn_29 ?_
      refine z_goto (tgt := 34) X dX5_shiftIn_30 (by decide) ?_
      refine z_iret X rfl rfl (Nat.le_of_ble_eq_true rfl) (Nat.le_of_ble_eq_true rfl) dX5_shiftIn_34 ?_
      exact ⟨_, rfl, by (try simp only [zb_0, Classical.not_not] at c_5 c_22); (first | rfl | (simp only [Int32.lt_irrefl, if_true, if_false, not_true_eq_false, not_false_eq_true, and_true, true_and, and_false, false_and, or_true, true_or, or_false, false_or, and_self, ite_self, zb, c_5, c_22, eq_true c_5, eq_true c_22]; done) | (simp only [Int32.lt_irrefl, if_true, if_false, not_true_eq_false, not_false_eq_true, and_true, true_and, and_false, false_and, or_true, true_or, or_false, false_or, and_self, ite_self, zb, c_5, c_22, eq_true c_5, eq_true c_22]; rfl)), rfl⟩
  · skip
    refine z_aload_n X 0 dX5_shiftIn_8 rfl rfl ?_
    refine z_getI (ci := 8) (j := 9) (x := i 108 j) X dX5_shiftIn_9 (ck_8 (by omega)) rfl (by decide) hlk_29 (Or.inl rfl) (fun _ => rfl) (ci_8_9) ?_
    refine z_iret X rfl rfl (Nat.le_of_ble_eq_true rfl) (Nat.le_of_ble_eq_true rfl) dX5_shiftIn_12 ?_
    exact ⟨_, rfl, by (try simp only [zb_0, Classical.not_not] at c_5); (first | rfl | (simp only [Int32.lt_irrefl, if_true, if_false, not_true_eq_false, not_false_eq_true, and_true, true_and, and_false, false_and, or_true, true_or, or_false, false_or, and_self, ite_self, zb, c_5, eq_true c_5]; done) | (simp only [Int32.lt_irrefl, if_true, if_false, not_true_eq_false, not_false_eq_true, and_true, true_and, and_false, false_and, or_true, true_or, or_false, false_or, and_self, ite_self, zb, c_5, eq_true c_5]; rfl)), rfl⟩

set_option maxRecDepth 100000 in
set_option maxHeartbeats 4000000 in
theorem c_X7_findRoom (l : Launch) (hl0 : l.stackTraces = false) (n : Nat → Nat) (i x : Nat → Nat → Int32) (lm : Nat → Nat → Int64) (y : Nat → Nat → Nat) (ol : Int64) (od : UInt64) (hmx : n 0 = n 5 ∧ n 5 ≤ 4) (v : Int32) : zS l yX7_findRoom wsX7_findRoom 9 154 1 6 [.ref 1, .int v] (cmm n i x lm y ol od) (zpr (fun r M1 => r = 32 * cl v + 8 ∧ M1 = cmm n i x lm y ol od ∧ cl v < n 5 ∧ v = nI (cl v))) (fun E => E = "java/lang/IndexOutOfBoundsException" ∧ (v < 0 ∨ ¬ v < nI (n 5))) := by
  refine z_intro (cc := cX7_findRoom) (maxL := 2) (ret := (some (.object "ColdStore$Room"))) (by decide +kernel) rfl (Nat.le_of_ble_eq_true rfl) ?_
  have hlk_10 : Cond.fieldLink RX7 10 "ColdStore" "rooms" "Ljava/util/ArrayList;" ∈ wsX7_findRoom := by decide +kernel
  intro g X
  show zE g 2 0 [(0, .ref 1), (1, .int v)] [] (cmm n i x lm y ol od) 0 0
  refine z_iload_n X 1 dX7_findRoom_0 rfl rfl ?_
  refine z_if_lt X 15 dX7_findRoom_1 (by decide) (fun c_1 => ?_) (fun c_1 => ?_)
  · skip
    exact z_throwSW X hl0 (cls := "java/lang/IndexOutOfBoundsException") (text := "there is no such room") (ik := 314) (is := 316) (ic := 318) (by decide +kernel) (by decide +kernel) (by decide +kernel) rfl dX7_findRoom_15 dX7_findRoom_18 dX7_findRoom_19 dX7_findRoom_22 dX7_findRoom_25 (by decide) (by decide) ⟨by decide, by decide⟩ rfl (⟨rfl, by first | exact Or.inl (by assumption) | exact Or.inr (by assumption)⟩)
  · skip
    refine z_iload_n X 1 dX7_findRoom_4 rfl rfl ?_
    refine z_aload_n X 0 dX7_findRoom_5 rfl rfl ?_
    refine z_getR (ci := 10) (j := 0) (o' := 2) X dX7_findRoom_6 ck_1 rfl (by decide) hlk_10 (Or.inl rfl) (fun _ => rfl) (cr_1_0) ?_
    refine z_callVi (As := []) (rest := [.int v]) (n1 := 0) (ci := 2) X dX7_findRoom_9 (c_size0 l _ _ _ _ _ _ _) gX7_findRoom_Jx4a65c_size_8abf5 rfl rfl (by decide +kernel) ⟨by decide, by decide⟩ (ck_2 (j := 0) (by decide)) rfl rfl (Nat.le_of_ble_eq_true rfl) ⟨by decide, by decide⟩ (fun _ h => h.elim) ?_
    rintro _ _ ⟨rfl, rfl⟩
    refine z_icmp_lt X 26 dX7_findRoom_12 (by decide) (fun c_12 => ?_) (fun c_12 => ?_)
    · skip
      obtain ⟨a9, ha9, rfl⟩ := nI_of c_1
      have hcl : cl (nI a9) = a9 := nI_clamp ha9
      have hlt : a9 < n 5 := Nat.lt_of_not_le fun q => absurd c_12 (nI_ge_ q (by omega))
      refine z_aload_n X 0 dX7_findRoom_26 rfl rfl ?_
      refine z_getR (ci := 10) (j := 0) (o' := 2) X dX7_findRoom_27 ck_1 rfl (by decide) hlk_10 (Or.inl rfl) (fun _ => rfl) (cr_1_0) ?_
      refine z_iload_n X 1 dX7_findRoom_30 rfl rfl ?_
      refine z_callVr (As := [.int (nI a9)]) (rest := []) (n1 := 1) (ci := 2) X dX7_findRoom_31 (c_get0 l n i x lm y ol od a9 hlt (by omega)) gX7_findRoom_Jx4a65c_get_915e3 rfl rfl (by decide +kernel) ⟨by decide, by decide⟩ (ck_2 (j := 0) (by decide)) rfl rfl (Nat.le_of_ble_eq_true rfl) ⟨by decide, by decide⟩ (fun _ h => h.elim) ?_
      rintro _ _ ⟨rfl, rfl⟩
      refine z_ckc (ci := 8) X dX7_findRoom_34 (by decide +kernel) (ck_8 (by omega)) rfl ?_
      refine z_aret X rfl (Or.inl ⟨_, rfl⟩) (Or.inr ⟨_, rfl⟩) (Nat.le_of_ble_eq_true rfl) (Nat.le_of_ble_eq_true rfl) dX7_findRoom_37 ?_
      exact ⟨_, rfl, by rw [hcl], rfl, by rw [hcl]; exact hlt, by rw [hcl]⟩
    · skip
      exact z_throwSW X hl0 (cls := "java/lang/IndexOutOfBoundsException") (text := "there is no such room") (ik := 314) (is := 316) (ic := 318) (by decide +kernel) (by decide +kernel) (by decide +kernel) rfl dX7_findRoom_15 dX7_findRoom_18 dX7_findRoom_19 dX7_findRoom_22 dX7_findRoom_25 (by decide) (by decide) ⟨by decide, by decide⟩ rfl (⟨rfl, by first | exact Or.inl (by assumption) | exact Or.inr (by assumption)⟩)

set_option maxRecDepth 100000 in
set_option maxHeartbeats 4000000 in
theorem c_X7_findKind (l : Launch) (hl0 : l.stackTraces = false) (n : Nat → Nat) (i x : Nat → Nat → Int32) (lm : Nat → Nat → Int64) (y : Nat → Nat → Nat) (ol : Int64) (od : UInt64) (hmx : n 1 = n 6 ∧ n 6 ≤ 5) (v : Int32) : zS l yX7_findKind wsX7_findKind 9 154 1 6 [.ref 1, .int v] (cmm n i x lm y ol od) (zpr (fun r M1 => r = 32 * cl v + 10 ∧ M1 = cmm n i x lm y ol od ∧ cl v < n 6 ∧ v = nI (cl v))) (fun E => E = "java/lang/IndexOutOfBoundsException" ∧ (v < 0 ∨ ¬ v < nI (n 6))) := by
  refine z_intro (cc := cX7_findKind) (maxL := 2) (ret := (some (.object "ColdStore$Kind"))) (by decide +kernel) rfl (Nat.le_of_ble_eq_true rfl) ?_
  have hlk_16 : Cond.fieldLink RX7 16 "ColdStore" "kinds" "Ljava/util/ArrayList;" ∈ wsX7_findKind := by decide +kernel
  intro g X
  show zE g 2 0 [(0, .ref 1), (1, .int v)] [] (cmm n i x lm y ol od) 0 0
  refine z_iload_n X 1 dX7_findKind_0 rfl rfl ?_
  refine z_if_lt X 15 dX7_findKind_1 (by decide) (fun c_1 => ?_) (fun c_1 => ?_)
  · skip
    exact z_throwSW X hl0 (cls := "java/lang/IndexOutOfBoundsException") (text := "there is no such kind") (ik := 314) (is := 319) (ic := 318) (by decide +kernel) (by decide +kernel) (by decide +kernel) rfl dX7_findKind_15 dX7_findKind_18 dX7_findKind_19 dX7_findKind_22 dX7_findKind_25 (by decide) (by decide) ⟨by decide, by decide⟩ rfl (⟨rfl, by first | exact Or.inl (by assumption) | exact Or.inr (by assumption)⟩)
  · skip
    refine z_iload_n X 1 dX7_findKind_4 rfl rfl ?_
    refine z_aload_n X 0 dX7_findKind_5 rfl rfl ?_
    refine z_getR (ci := 10) (j := 1) (o' := 34) X dX7_findKind_6 ck_1 rfl (by decide) hlk_16 (Or.inl rfl) (fun _ => rfl) (cr_1_1) ?_
    refine z_callVi (As := []) (rest := [.int v]) (n1 := 0) (ci := 2) X dX7_findKind_9 (c_size1 l _ _ _ _ _ _ _) gX7_findKind_Jx4a65c_size_8abf5 rfl rfl (by decide +kernel) ⟨by decide, by decide⟩ (ck_2 (j := 1) (by decide)) rfl rfl (Nat.le_of_ble_eq_true rfl) ⟨by decide, by decide⟩ (fun _ h => h.elim) ?_
    rintro _ _ ⟨rfl, rfl⟩
    refine z_icmp_lt X 26 dX7_findKind_12 (by decide) (fun c_12 => ?_) (fun c_12 => ?_)
    · skip
      obtain ⟨a9, ha9, rfl⟩ := nI_of c_1
      have hcl : cl (nI a9) = a9 := nI_clamp ha9
      have hlt : a9 < n 6 := Nat.lt_of_not_le fun q => absurd c_12 (nI_ge_ q (by omega))
      refine z_aload_n X 0 dX7_findKind_26 rfl rfl ?_
      refine z_getR (ci := 10) (j := 1) (o' := 34) X dX7_findKind_27 ck_1 rfl (by decide) hlk_16 (Or.inl rfl) (fun _ => rfl) (cr_1_1) ?_
      refine z_iload_n X 1 dX7_findKind_30 rfl rfl ?_
      refine z_callVr (As := [.int (nI a9)]) (rest := []) (n1 := 1) (ci := 2) X dX7_findKind_31 (c_get1 l n i x lm y ol od a9 hlt (by omega)) gX7_findKind_Jx4a65c_get_915e3 rfl rfl (by decide +kernel) ⟨by decide, by decide⟩ (ck_2 (j := 1) (by decide)) rfl rfl (Nat.le_of_ble_eq_true rfl) ⟨by decide, by decide⟩ (fun _ h => h.elim) ?_
      rintro _ _ ⟨rfl, rfl⟩
      refine z_ckc (ci := 4) X dX7_findKind_34 (by decide +kernel) (ck_10 (by omega)) rfl ?_
      refine z_aret X rfl (Or.inl ⟨_, rfl⟩) (Or.inr ⟨_, rfl⟩) (Nat.le_of_ble_eq_true rfl) (Nat.le_of_ble_eq_true rfl) dX7_findKind_37 ?_
      exact ⟨_, rfl, by rw [hcl], rfl, by rw [hcl]; exact hlt, by rw [hcl]⟩
    · skip
      exact z_throwSW X hl0 (cls := "java/lang/IndexOutOfBoundsException") (text := "there is no such kind") (ik := 314) (is := 319) (ic := 318) (by decide +kernel) (by decide +kernel) (by decide +kernel) rfl dX7_findKind_15 dX7_findKind_18 dX7_findKind_19 dX7_findKind_22 dX7_findKind_25 (by decide) (by decide) ⟨by decide, by decide⟩ rfl (⟨rfl, by first | exact Or.inl (by assumption) | exact Or.inr (by assumption)⟩)

set_option maxRecDepth 100000 in
set_option maxHeartbeats 4000000 in
theorem c_X7_findPallet (l : Launch) (hl0 : l.stackTraces = false) (n : Nat → Nat) (i x : Nat → Nat → Int32) (lm : Nat → Nat → Int64) (y : Nat → Nat → Nat) (ol : Int64) (od : UInt64) (hmx : n 2 = n 7 ∧ n 7 ≤ 24) (v : Int32) : zS l yX7_findPallet wsX7_findPallet 9 154 1 6 [.ref 1, .int v] (cmm n i x lm y ol od) (zpr (fun r M1 => r = 32 * cl v + 11 ∧ M1 = cmm n i x lm y ol od ∧ cl v < n 7 ∧ v = nI (cl v))) (fun E => E = "java/lang/IndexOutOfBoundsException" ∧ (v < 0 ∨ ¬ v < nI (n 7))) := by
  refine z_intro (cc := cX7_findPallet) (maxL := 2) (ret := (some (.object "ColdStore$Pallet"))) (by decide +kernel) rfl (Nat.le_of_ble_eq_true rfl) ?_
  have hlk_19 : Cond.fieldLink RX7 19 "ColdStore" "pallets" "Ljava/util/ArrayList;" ∈ wsX7_findPallet := by decide +kernel
  intro g X
  show zE g 2 0 [(0, .ref 1), (1, .int v)] [] (cmm n i x lm y ol od) 0 0
  refine z_iload_n X 1 dX7_findPallet_0 rfl rfl ?_
  refine z_if_lt X 15 dX7_findPallet_1 (by decide) (fun c_1 => ?_) (fun c_1 => ?_)
  · skip
    exact z_throwSW X hl0 (cls := "java/lang/IndexOutOfBoundsException") (text := "there is no such pallet") (ik := 314) (is := 321) (ic := 318) (by decide +kernel) (by decide +kernel) (by decide +kernel) rfl dX7_findPallet_15 dX7_findPallet_18 dX7_findPallet_19 dX7_findPallet_22 dX7_findPallet_25 (by decide) (by decide) ⟨by decide, by decide⟩ rfl (⟨rfl, by first | exact Or.inl (by assumption) | exact Or.inr (by assumption)⟩)
  · skip
    refine z_iload_n X 1 dX7_findPallet_4 rfl rfl ?_
    refine z_aload_n X 0 dX7_findPallet_5 rfl rfl ?_
    refine z_getR (ci := 10) (j := 2) (o' := 66) X dX7_findPallet_6 ck_1 rfl (by decide) hlk_19 (Or.inl rfl) (fun _ => rfl) (cr_1_2) ?_
    refine z_callVi (As := []) (rest := [.int v]) (n1 := 0) (ci := 2) X dX7_findPallet_9 (c_size2 l _ _ _ _ _ _ _) gX7_findPallet_Jx4a65c_size_8abf5 rfl rfl (by decide +kernel) ⟨by decide, by decide⟩ (ck_2 (j := 2) (by decide)) rfl rfl (Nat.le_of_ble_eq_true rfl) ⟨by decide, by decide⟩ (fun _ h => h.elim) ?_
    rintro _ _ ⟨rfl, rfl⟩
    refine z_icmp_lt X 26 dX7_findPallet_12 (by decide) (fun c_12 => ?_) (fun c_12 => ?_)
    · skip
      obtain ⟨a9, ha9, rfl⟩ := nI_of c_1
      have hcl : cl (nI a9) = a9 := nI_clamp ha9
      have hlt : a9 < n 7 := Nat.lt_of_not_le fun q => absurd c_12 (nI_ge_ q (by omega))
      refine z_aload_n X 0 dX7_findPallet_26 rfl rfl ?_
      refine z_getR (ci := 10) (j := 2) (o' := 66) X dX7_findPallet_27 ck_1 rfl (by decide) hlk_19 (Or.inl rfl) (fun _ => rfl) (cr_1_2) ?_
      refine z_iload_n X 1 dX7_findPallet_30 rfl rfl ?_
      refine z_callVr (As := [.int (nI a9)]) (rest := []) (n1 := 1) (ci := 2) X dX7_findPallet_31 (c_get2 l n i x lm y ol od a9 hlt (by omega)) gX7_findPallet_Jx4a65c_get_915e3 rfl rfl (by decide +kernel) ⟨by decide, by decide⟩ (ck_2 (j := 2) (by decide)) rfl rfl (Nat.le_of_ble_eq_true rfl) ⟨by decide, by decide⟩ (fun _ h => h.elim) ?_
      rintro _ _ ⟨rfl, rfl⟩
      refine z_ckc (ci := 7) X dX7_findPallet_34 (by decide +kernel) (ck_11 (by omega)) rfl ?_
      refine z_aret X rfl (Or.inl ⟨_, rfl⟩) (Or.inr ⟨_, rfl⟩) (Nat.le_of_ble_eq_true rfl) (Nat.le_of_ble_eq_true rfl) dX7_findPallet_37 ?_
      exact ⟨_, rfl, by rw [hcl], rfl, by rw [hcl]; exact hlt, by rw [hcl]⟩
    · skip
      exact z_throwSW X hl0 (cls := "java/lang/IndexOutOfBoundsException") (text := "there is no such pallet") (ik := 314) (is := 321) (ic := 318) (by decide +kernel) (by decide +kernel) (by decide +kernel) rfl dX7_findPallet_15 dX7_findPallet_18 dX7_findPallet_19 dX7_findPallet_22 dX7_findPallet_25 (by decide) (by decide) ⟨by decide, by decide⟩ rfl (⟨rfl, by first | exact Or.inl (by assumption) | exact Or.inr (by assumption)⟩)

set_option maxRecDepth 100000 in
set_option maxHeartbeats 4000000 in
theorem c_X7_findOrder (l : Launch) (hl0 : l.stackTraces = false) (n : Nat → Nat) (i x : Nat → Nat → Int32) (lm : Nat → Nat → Int64) (y : Nat → Nat → Nat) (ol : Int64) (od : UInt64) (hmx : n 3 = n 8 ∧ n 8 ≤ 12) (v : Int32) : zS l yX7_findOrder wsX7_findOrder 9 154 1 6 [.ref 1, .int v] (cmm n i x lm y ol od) (zpr (fun r M1 => r = 32 * cl v + 13 ∧ M1 = cmm n i x lm y ol od ∧ cl v < n 8 ∧ v = nI (cl v))) (fun E => E = "java/lang/IndexOutOfBoundsException" ∧ (v < 0 ∨ ¬ v < nI (n 8))) := by
  refine z_intro (cc := cX7_findOrder) (maxL := 2) (ret := (some (.object "ColdStore$Order"))) (by decide +kernel) rfl (Nat.le_of_ble_eq_true rfl) ?_
  have hlk_22 : Cond.fieldLink RX7 22 "ColdStore" "orders" "Ljava/util/ArrayList;" ∈ wsX7_findOrder := by decide +kernel
  intro g X
  show zE g 2 0 [(0, .ref 1), (1, .int v)] [] (cmm n i x lm y ol od) 0 0
  refine z_iload_n X 1 dX7_findOrder_0 rfl rfl ?_
  refine z_if_lt X 15 dX7_findOrder_1 (by decide) (fun c_1 => ?_) (fun c_1 => ?_)
  · skip
    exact z_throwSW X hl0 (cls := "java/lang/IndexOutOfBoundsException") (text := "there is no such order") (ik := 314) (is := 323) (ic := 318) (by decide +kernel) (by decide +kernel) (by decide +kernel) rfl dX7_findOrder_15 dX7_findOrder_18 dX7_findOrder_19 dX7_findOrder_22 dX7_findOrder_25 (by decide) (by decide) ⟨by decide, by decide⟩ rfl (⟨rfl, by first | exact Or.inl (by assumption) | exact Or.inr (by assumption)⟩)
  · skip
    refine z_iload_n X 1 dX7_findOrder_4 rfl rfl ?_
    refine z_aload_n X 0 dX7_findOrder_5 rfl rfl ?_
    refine z_getR (ci := 10) (j := 3) (o' := 98) X dX7_findOrder_6 ck_1 rfl (by decide) hlk_22 (Or.inl rfl) (fun _ => rfl) (cr_1_3) ?_
    refine z_callVi (As := []) (rest := [.int v]) (n1 := 0) (ci := 2) X dX7_findOrder_9 (c_size3 l _ _ _ _ _ _ _) gX7_findOrder_Jx4a65c_size_8abf5 rfl rfl (by decide +kernel) ⟨by decide, by decide⟩ (ck_2 (j := 3) (by decide)) rfl rfl (Nat.le_of_ble_eq_true rfl) ⟨by decide, by decide⟩ (fun _ h => h.elim) ?_
    rintro _ _ ⟨rfl, rfl⟩
    refine z_icmp_lt X 26 dX7_findOrder_12 (by decide) (fun c_12 => ?_) (fun c_12 => ?_)
    · skip
      obtain ⟨a9, ha9, rfl⟩ := nI_of c_1
      have hcl : cl (nI a9) = a9 := nI_clamp ha9
      have hlt : a9 < n 8 := Nat.lt_of_not_le fun q => absurd c_12 (nI_ge_ q (by omega))
      refine z_aload_n X 0 dX7_findOrder_26 rfl rfl ?_
      refine z_getR (ci := 10) (j := 3) (o' := 98) X dX7_findOrder_27 ck_1 rfl (by decide) hlk_22 (Or.inl rfl) (fun _ => rfl) (cr_1_3) ?_
      refine z_iload_n X 1 dX7_findOrder_30 rfl rfl ?_
      refine z_callVr (As := [.int (nI a9)]) (rest := []) (n1 := 1) (ci := 2) X dX7_findOrder_31 (c_get3 l n i x lm y ol od a9 hlt (by omega)) gX7_findOrder_Jx4a65c_get_915e3 rfl rfl (by decide +kernel) ⟨by decide, by decide⟩ (ck_2 (j := 3) (by decide)) rfl rfl (Nat.le_of_ble_eq_true rfl) ⟨by decide, by decide⟩ (fun _ h => h.elim) ?_
      rintro _ _ ⟨rfl, rfl⟩
      refine z_ckc (ci := 6) X dX7_findOrder_34 (by decide +kernel) (ck_13 (by omega)) rfl ?_
      refine z_aret X rfl (Or.inl ⟨_, rfl⟩) (Or.inr ⟨_, rfl⟩) (Nat.le_of_ble_eq_true rfl) (Nat.le_of_ble_eq_true rfl) dX7_findOrder_37 ?_
      exact ⟨_, rfl, by rw [hcl], rfl, by rw [hcl]; exact hlt, by rw [hcl]⟩
    · skip
      exact z_throwSW X hl0 (cls := "java/lang/IndexOutOfBoundsException") (text := "there is no such order") (ik := 314) (is := 323) (ic := 318) (by decide +kernel) (by decide +kernel) (by decide +kernel) rfl dX7_findOrder_15 dX7_findOrder_18 dX7_findOrder_19 dX7_findOrder_22 dX7_findOrder_25 (by decide) (by decide) ⟨by decide, by decide⟩ rfl (⟨rfl, by first | exact Or.inl (by assumption) | exact Or.inr (by assumption)⟩)
