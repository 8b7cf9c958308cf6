/-! PART 41: lists of the class -/
section CLS
variable {n : Nat → Nat} {i x : Nat → Nat → Int32} {lm : Nat → Nat → Int64} {y : Nat → Nat → Nat} {ol : Int64} {od : UInt64}
theorem ccap_ge {c : Nat} (h : c ≤ 33) : c ≤ ccap c := by
  unfold ccap
  repeat' split
  all_goals omega
theorem ccap_in {c : Nat} (h : c ≠ 0) : ccap c = 10 ∨ ccap c = 15 ∨ ccap c = 22 ∨ ccap c = 33 := by
  unfold ccap
  rw [if_neg h]
  repeat' split
  all_goals omega
theorem cRow_eq {j : Nat} (h : n (5 + j) ≠ 0) : cRow n j = 32 * (4 * ccap (n (5 + j)) + j) + 3 := if_neg h
theorem crow_d (c : Nat) {j : Nat} (hj : j < 4) : (4 * c + j) / 4 = c ∧ (4 * c + j) % 4 = j := by omega
theorem ck_row {j : Nat} (hj : j < 4) (h : n (5 + j) ≠ 0) : zc (cmm n i x lm y ol od) (cRow n j) = 25 := by
  rw [cRow_eq h, c_c (by decide)]
  show (if cLive n _ then 25 else 0) = 25
  refine if_pos ?_
  unfold cLive
  rw [(crow_d _ hj).1, (crow_d _ hj).2]
  exact ⟨ccap_in h, Nat.le_refl _⟩
theorem cn_row {j : Nat} (hj : j < 4) (h : n (5 + j) ≠ 0) : zn (cmm n i x lm y ol od) (cRow n j) = ccap (n (5 + j)) := by
  rw [cRow_eq h, c_n (by decide)]
  exact (crow_d _ hj).1
theorem cr_row {j k : Nat} (hj : j < 4) (hk : k < n (5 + j)) (h33 : n (5 + j) ≤ 33) : zr (cmm n i x lm y ol od) (cRow n j) k = some (32 * k + cEl j) := by
  have h : n (5 + j) ≠ 0 := by omega
  have hc := ccap_ge h33
  rw [cRow_eq h, c_r (by decide)]
  show (if k < n (5 + (4 * ccap (n (5 + j)) + j) % 4) ∧ k < (4 * ccap (n (5 + j)) + j) / 4 then some (32 * k + cEl ((4 * ccap (n (5 + j)) + j) % 4)) else none) = _
  rw [(crow_d _ hj).1, (crow_d _ hj).2]
  exact if_pos ⟨hk, by omega⟩
end CLS
theorem ccap_33 (c : Nat) : ccap c ≤ 33 := by
  unfold ccap
  repeat' split
  all_goals omega
theorem nI_z {c : Nat} (h : c < 2 ^ 30) (e : nI c = 0) : c = 0 := by
  rcases Nat.eq_zero_or_pos c with q | q
  · exact q
  · exact absurd (nI_lt q (by omega)) (by rw [e]; exact Int32.lt_irrefl)
theorem nI_nn (c : Nat) (h : c < 2 ^ 30) : ¬ nI c < 0 := by
  have e := nI_le (Nat.zero_le c) (show c < 2 ^ 31 by omega)
  rw [nI_0] at e
  exact Int32.not_lt.mpr e
set_option maxRecDepth 100000 in
set_option maxHeartbeats 4000000 in
theorem c_J3_checkIndex_8e157 (l : Launch) (M : zMem) (a b : Int32) (h1 : ¬ a < 0) (h2 : a < b) : zS l yJ3_checkIndex_8e157 wsJ3_checkIndex_8e157 6 90 0 0 [.int a, .int b, .null] M (zpi (fun r M1 => r = a ∧ M1 = M)) zno := by
  refine z_intro (cc := cJ3_checkIndex_8e157) (maxL := 3) (ret := (some .int)) (by decide +kernel) rfl (Nat.le_of_ble_eq_true rfl) ?_
  intro g X
  show zE g 3 0 [(0, .int a), (1, .int b), (2, .null)] [] M 0 0
  refine z_iload_n X 0 dJ3_checkIndex_8e157_0 rfl rfl ?_
  refine z_if_lt X 9 dJ3_checkIndex_8e157_1 (by decide) (fun c_1 => ?_) (fun c_1 => ?_)
  · exact absurd c_1 h1
  · skip
    refine z_iload_n X 0 dJ3_checkIndex_8e157_4 rfl rfl ?_
    refine z_iload_n X 1 dJ3_checkIndex_8e157_5 rfl rfl ?_
    refine z_icmp_lt X 16 dJ3_checkIndex_8e157_6 (by decide) (fun c_6 => ?_) (fun c_6 => ?_)
    · skip
      refine z_iload_n X 0 dJ3_checkIndex_8e157_16 rfl rfl ?_
      refine z_iret X rfl rfl (Nat.le_refl _) (Nat.le_refl _) dJ3_checkIndex_8e157_17 ?_
      exact ⟨_, rfl, rfl, rfl⟩
    · exact absurd h2 c_6

set_option maxRecDepth 100000 in
set_option maxHeartbeats 4000000 in
theorem c_J15_checkIndex_7cf53 (l : Launch) (M : zMem) (a b : Int32) (h1 : ¬ a < 0) (h2 : a < b) : zS l yJ15_checkIndex_7cf53 wsJ15_checkIndex_7cf53 7 112 0 0 [.int a, .int b] M (zpi (fun r M1 => r = a ∧ M1 = M)) zno := by
  refine z_intro (cc := cJ15_checkIndex_7cf53) (maxL := 2) (ret := (some .int)) (by decide +kernel) rfl (Nat.le_of_ble_eq_true rfl) ?_
  intro g X
  show zE g 2 0 [(0, .int a), (1, .int b)] [] M 0 0
  refine z_iload_n X 0 dJ15_checkIndex_7cf53_0 rfl rfl ?_
  refine z_iload_n X 1 dJ15_checkIndex_7cf53_1 rfl rfl ?_
  refine z_null X dJ15_checkIndex_7cf53_2 ?_
  refine z_callSi (As := [.int a, .int b, .null]) (rest := []) (n1 := 3) X dJ15_checkIndex_7cf53_3 (c_J3_checkIndex_8e157 l _ _ _ h1 h2) gJ15_checkIndex_7cf53_J3_checkIndex_8e157 rfl rfl (by decide +kernel) ⟨by decide, by decide⟩ rfl (Nat.le_of_ble_eq_true rfl) ⟨by decide, by decide⟩ (fun _ h => h.elim) ?_
  rintro _ _ ⟨rfl, rfl⟩
  refine z_iret X rfl rfl (Nat.le_refl _) (Nat.le_refl _) dJ15_checkIndex_7cf53_6 ?_
  exact ⟨_, rfl, rfl, rfl⟩

set_option maxRecDepth 100000 in
set_option maxHeartbeats 4000000 in
theorem c_size0 (l : Launch) (n : Nat → Nat) (i x : Nat → Nat → Int32) (lm : Nat → Nat → Int64) (y : Nat → Nat → Nat) (ol : Int64) (od : UInt64) : zS l yJx4a65c_size_8abf5 wsJx4a65c_size_8abf5 0 0 0 0 [.ref 2] (cmm n i x lm y ol od) (zpi (fun r M1 => r = nI (n 5) ∧ M1 = cmm n i x lm y ol od)) zno := by
  refine z_intro (cc := cJx4a65c_size_8abf5) (maxL := 1) (ret := (some .int)) (by decide +kernel) rfl (Nat.le_of_ble_eq_true rfl) ?_
  have hlk_48 : Cond.fieldLink RJx4a65c 48 "java/util/ArrayList" "size" "I" ∈ wsJx4a65c_size_8abf5 := by decide +kernel
  intro g X
  show zE g 1 0 [(0, .ref 2)] [] (cmm n i x lm y ol od) 0 0
  refine z_aload_n X 0 dJx4a65c_size_8abf5_0 rfl rfl ?_
  refine z_getI (ci := 2) (j := 2) (x := nI (n 5)) X dJx4a65c_size_8abf5_1 (ck_2 (j := 0) (by decide)) rfl (by decide) hlk_48 (Or.inl rfl) (fun _ => rfl) (ci_2_2 (j := 0)) ?_
  refine z_iret X rfl rfl (Nat.le_refl _) (Nat.le_refl _) dJx4a65c_size_8abf5_4 ?_
  exact ⟨_, rfl, rfl, rfl⟩

set_option maxRecDepth 100000 in
set_option maxHeartbeats 4000000 in
theorem c_isEmpty0 (l : Launch) (n : Nat → Nat) (i x : Nat → Nat → Int32) (lm : Nat → Nat → Int64) (y : Nat → Nat → Nat) (ol : Int64) (od : UInt64) (h33 : n 5 ≤ 33) : zS l yJx4a65c_isEmpty_aae02 wsJx4a65c_isEmpty_aae02 0 0 0 0 [.ref 2] (cmm n i x lm y ol od) (zpi (fun r M1 => r = zb (n 5 = 0) ∧ M1 = cmm n i x lm y ol od)) zno := by
  refine z_intro (cc := cJx4a65c_isEmpty_aae02) (maxL := 1) (ret := (some .boolean)) (by decide +kernel) rfl (Nat.le_of_ble_eq_true rfl) ?_
  have hlk_48 : Cond.fieldLink RJx4a65c 48 "java/util/ArrayList" "size" "I" ∈ wsJx4a65c_isEmpty_aae02 := by decide +kernel
  intro g X
  show zE g 1 0 [(0, .ref 2)] [] (cmm n i x lm y ol od) 0 0
  refine z_aload_n X 0 dJx4a65c_isEmpty_aae02_0 rfl rfl ?_
  refine z_getI (ci := 2) (j := 2) (x := nI (n 5)) X dJx4a65c_isEmpty_aae02_1 (ck_2 (j := 0) (by decide)) rfl (by decide) hlk_48 (Or.inl rfl) (fun _ => rfl) (ci_2_2 (j := 0)) ?_
  refine z_if_ne X 11 dJx4a65c_isEmpty_aae02_4 (by decide) (fun c_4 => ?_) (fun c_4 => ?_)
  · skip
    refine z_iconst (v := 0) X dJx4a65c_isEmpty_aae02_11 (by decide) ?_
    refine z_iret X rfl (rfl) (Nat.le_refl _) (Nat.le_refl _) dJx4a65c_isEmpty_aae02_12 ?_
    exact ⟨_, rfl, by first | exact (zb_t (nI_z (by omega) (by assumption))).symm | exact (zb_f (fun e => absurd (show nI (n _) = 0 by rw [e]; rfl) (by assumption))).symm, rfl⟩
  · skip
    refine z_iconst (v := 1) X dJx4a65c_isEmpty_aae02_7 (by decide) ?_
    refine z_goto (tgt := 12) X dJx4a65c_isEmpty_aae02_8 (by decide) ?_
    refine z_iret X rfl (rfl) (Nat.le_refl _) (Nat.le_refl _) dJx4a65c_isEmpty_aae02_12 ?_
    exact ⟨_, rfl, by first | exact (zb_t (nI_z (by omega) (by assumption))).symm | exact (zb_f (fun e => absurd (show nI (n _) = 0 by rw [e]; rfl) (by assumption))).symm, rfl⟩

set_option maxRecDepth 100000 in
set_option maxHeartbeats 4000000 in
theorem c_elementData0 (l : Launch) (n : Nat → Nat) (i x : Nat → Nat → Int32) (lm : Nat → Nat → Int64) (y : Nat → Nat → Nat) (ol : Int64) (od : UInt64) (k : Nat) (hk : k < n 5) (h33 : n 5 ≤ 33) : zS l yJx4a65c_elementData_915e3 wsJx4a65c_elementData_915e3 0 0 0 0 [.ref 2, .int (nI k)] (cmm n i x lm y ol od) (zpr (fun r M1 => r = 32 * k + 8 ∧ M1 = cmm n i x lm y ol od)) zno := by
  refine z_intro (cc := cJx4a65c_elementData_915e3) (maxL := 2) (ret := (some (.object "java/lang/Object"))) (by decide +kernel) rfl (Nat.le_of_ble_eq_true rfl) ?_
  have hlk_9 : Cond.fieldLink RJx4a65c 9 "java/util/ArrayList" "elementData" "[Ljava/lang/Object;" ∈ wsJx4a65c_elementData_915e3 := by decide +kernel
  intro g X
  show zE g 2 0 [(0, .ref 2), (1, .int (nI k))] [] (cmm n i x lm y ol od) 0 0
  refine z_aload_n X 0 dJx4a65c_elementData_915e3_0 rfl rfl ?_
  refine z_getR (ci := 2) (j := 1) (o' := cRow n 0) X dJx4a65c_elementData_915e3_1 (ck_2 (j := 0) (by decide)) rfl (by decide) hlk_9 (Or.inl rfl) (fun _ => rfl) (cr_2_1 (j := 0)) ?_
  refine z_iload_n X 1 dJx4a65c_elementData_915e3_4 rfl rfl ?_
  refine z_aald (j := k) (o' := 32 * k + 8) X dJx4a65c_elementData_915e3_5 (ck_row (j := 0) (by decide) (show n 5 ≠ 0 by omega)) (by rw [cn_row (j := 0) (by decide) (show n 5 ≠ 0 by omega)]; exact vp_in_nI (Nat.lt_of_lt_of_le hk (ccap_ge h33)) (by have := ccap_33 (n (5 + 0)); omega)) (nI_clamp (by omega)) (cr_row (j := 0) (by decide) hk h33) ?_
  refine z_aret X rfl (Or.inl ⟨_, rfl⟩) (Or.inr ⟨_, rfl⟩) (Nat.le_refl _) (Nat.le_refl _) dJx4a65c_elementData_915e3_6 ?_
  exact ⟨_, rfl, rfl, rfl⟩

set_option maxRecDepth 100000 in
set_option maxHeartbeats 4000000 in
theorem c_get0 (l : Launch) (n : Nat → Nat) (i x : Nat → Nat → Int32) (lm : Nat → Nat → Int64) (y : Nat → Nat → Nat) (ol : Int64) (od : UInt64) (k : Nat) (hk : k < n 5) (h33 : n 5 ≤ 33) : zS l yJx4a65c_get_915e3 wsJx4a65c_get_915e3 8 133 0 0 [.ref 2, .int (nI k)] (cmm n i x lm y ol od) (zpr (fun r M1 => r = 32 * k + 8 ∧ M1 = cmm n i x lm y ol od)) zno := by
  refine z_intro (cc := cJx4a65c_get_915e3) (maxL := 2) (ret := (some (.object "java/lang/Object"))) (by decide +kernel) rfl (Nat.le_of_ble_eq_true rfl) ?_
  have hlk_48 : Cond.fieldLink RJx4a65c 48 "java/util/ArrayList" "size" "I" ∈ wsJx4a65c_get_915e3 := by decide +kernel
  intro g X
  show zE g 2 0 [(0, .ref 2), (1, .int (nI k))] [] (cmm n i x lm y ol od) 0 0
  refine z_iload_n X 1 dJx4a65c_get_915e3_0 rfl rfl ?_
  refine z_aload_n X 0 dJx4a65c_get_915e3_1 rfl rfl ?_
  refine z_getI (ci := 2) (j := 2) (x := nI (n 5)) X dJx4a65c_get_915e3_2 (ck_2 (j := 0) (by decide)) rfl (by decide) hlk_48 (Or.inl rfl) (fun _ => rfl) (ci_2_2 (j := 0)) ?_
  refine z_callSi (As := [.int (nI k), .int (nI (n 5))]) (rest := []) (n1 := 2) X dJx4a65c_get_915e3_5 (c_J15_checkIndex_7cf53 l _ _ _ (nI_nn _ (by omega)) (nI_lt hk (by omega))) gJx4a65c_get_915e3_J15_checkIndex_7cf53 rfl rfl (by decide +kernel) ⟨by decide, by decide⟩ rfl (Nat.le_of_ble_eq_true rfl) ⟨by decide, by decide⟩ (fun _ h => h.elim) ?_
  rintro _ _ ⟨rfl, rfl⟩
  refine z_pop X dJx4a65c_get_915e3_8 rfl ?_
  refine z_aload_n X 0 dJx4a65c_get_915e3_9 rfl rfl ?_
  refine z_iload_n X 1 dJx4a65c_get_915e3_10 rfl rfl ?_
  refine z_callVr (As := [.int (nI k)]) (rest := []) (n1 := 1) (ci := 2) X dJx4a65c_get_915e3_11 (c_elementData0 l _ _ _ _ _ _ _ k hk h33) gJx4a65c_get_915e3_Jx4a65c_elementData_915e3 rfl rfl (by decide +kernel) ⟨by decide, by decide⟩ (ck_2 (j := 0) (by decide)) rfl rfl (Nat.le_of_ble_eq_true rfl) ⟨by decide, by decide⟩ (fun _ h => h.elim) ?_
  rintro _ _ ⟨rfl, rfl⟩
  refine z_aret X rfl (Or.inl ⟨_, rfl⟩) (Or.inr ⟨_, rfl⟩) (Nat.le_refl _) (Nat.le_refl _) dJx4a65c_get_915e3_14 ?_
  exact ⟨_, rfl, rfl, rfl⟩

set_option maxRecDepth 100000 in
set_option maxHeartbeats 4000000 in
theorem c_size1 (l : Launch) (n : Nat → Nat) (i x : Nat → Nat → Int32) (lm : Nat → Nat → Int64) (y : Nat → Nat → Nat) (ol : Int64) (od : UInt64) : zS l yJx4a65c_size_8abf5 wsJx4a65c_size_8abf5 0 0 0 0 [.ref 34] (cmm n i x lm y ol od) (zpi (fun r M1 => r = nI (n 6) ∧ M1 = cmm n i x lm y ol od)) zno := by
  refine z_intro (cc := cJx4a65c_size_8abf5) (maxL := 1) (ret := (some .int)) (by decide +kernel) rfl (Nat.le_of_ble_eq_true rfl) ?_
  have hlk_48 : Cond.fieldLink RJx4a65c 48 "java/util/ArrayList" "size" "I" ∈ wsJx4a65c_size_8abf5 := by decide +kernel
  intro g X
  show zE g 1 0 [(0, .ref 34)] [] (cmm n i x lm y ol od) 0 0
  refine z_aload_n X 0 dJx4a65c_size_8abf5_0 rfl rfl ?_
  refine z_getI (ci := 2) (j := 2) (x := nI (n 6)) X dJx4a65c_size_8abf5_1 (ck_2 (j := 1) (by decide)) rfl (by decide) hlk_48 (Or.inl rfl) (fun _ => rfl) (ci_2_2 (j := 1)) ?_
  refine z_iret X rfl rfl (Nat.le_refl _) (Nat.le_refl _) dJx4a65c_size_8abf5_4 ?_
  exact ⟨_, rfl, rfl, rfl⟩

set_option maxRecDepth 100000 in
set_option maxHeartbeats 4000000 in
theorem c_isEmpty1 (l : Launch) (n : Nat → Nat) (i x : Nat → Nat → Int32) (lm : Nat → Nat → Int64) (y : Nat → Nat → Nat) (ol : Int64) (od : UInt64) (h33 : n 6 ≤ 33) : zS l yJx4a65c_isEmpty_aae02 wsJx4a65c_isEmpty_aae02 0 0 0 0 [.ref 34] (cmm n i x lm y ol od) (zpi (fun r M1 => r = zb (n 6 = 0) ∧ M1 = cmm n i x lm y ol od)) zno := by
  refine z_intro (cc := cJx4a65c_isEmpty_aae02) (maxL := 1) (ret := (some .boolean)) (by decide +kernel) rfl (Nat.le_of_ble_eq_true rfl) ?_
  have hlk_48 : Cond.fieldLink RJx4a65c 48 "java/util/ArrayList" "size" "I" ∈ wsJx4a65c_isEmpty_aae02 := by decide +kernel
  intro g X
  show zE g 1 0 [(0, .ref 34)] [] (cmm n i x lm y ol od) 0 0
  refine z_aload_n X 0 dJx4a65c_isEmpty_aae02_0 rfl rfl ?_
  refine z_getI (ci := 2) (j := 2) (x := nI (n 6)) X dJx4a65c_isEmpty_aae02_1 (ck_2 (j := 1) (by decide)) rfl (by decide) hlk_48 (Or.inl rfl) (fun _ => rfl) (ci_2_2 (j := 1)) ?_
  refine z_if_ne X 11 dJx4a65c_isEmpty_aae02_4 (by decide) (fun c_4 => ?_) (fun c_4 => ?_)
  · skip
    refine z_iconst (v := 0) X dJx4a65c_isEmpty_aae02_11 (by decide) ?_
    refine z_iret X rfl (rfl) (Nat.le_refl _) (Nat.le_refl _) dJx4a65c_isEmpty_aae02_12 ?_
    exact ⟨_, rfl, by first | exact (zb_t (nI_z (by omega) (by assumption))).symm | exact (zb_f (fun e => absurd (show nI (n _) = 0 by rw [e]; rfl) (by assumption))).symm, rfl⟩
  · skip
    refine z_iconst (v := 1) X dJx4a65c_isEmpty_aae02_7 (by decide) ?_
    refine z_goto (tgt := 12) X dJx4a65c_isEmpty_aae02_8 (by decide) ?_
    refine z_iret X rfl (rfl) (Nat.le_refl _) (Nat.le_refl _) dJx4a65c_isEmpty_aae02_12 ?_
    exact ⟨_, rfl, by first | exact (zb_t (nI_z (by omega) (by assumption))).symm | exact (zb_f (fun e => absurd (show nI (n _) = 0 by rw [e]; rfl) (by assumption))).symm, rfl⟩

set_option maxRecDepth 100000 in
set_option maxHeartbeats 4000000 in
theorem c_elementData1 (l : Launch) (n : Nat → Nat) (i x : Nat → Nat → Int32) (lm : Nat → Nat → Int64) (y : Nat → Nat → Nat) (ol : Int64) (od : UInt64) (k : Nat) (hk : k < n 6) (h33 : n 6 ≤ 33) : zS l yJx4a65c_elementData_915e3 wsJx4a65c_elementData_915e3 0 0 0 0 [.ref 34, .int (nI k)] (cmm n i x lm y ol od) (zpr (fun r M1 => r = 32 * k + 10 ∧ M1 = cmm n i x lm y ol od)) zno := by
  refine z_intro (cc := cJx4a65c_elementData_915e3) (maxL := 2) (ret := (some (.object "java/lang/Object"))) (by decide +kernel) rfl (Nat.le_of_ble_eq_true rfl) ?_
  have hlk_9 : Cond.fieldLink RJx4a65c 9 "java/util/ArrayList" "elementData" "[Ljava/lang/Object;" ∈ wsJx4a65c_elementData_915e3 := by decide +kernel
  intro g X
  show zE g 2 0 [(0, .ref 34), (1, .int (nI k))] [] (cmm n i x lm y ol od) 0 0
  refine z_aload_n X 0 dJx4a65c_elementData_915e3_0 rfl rfl ?_
  refine z_getR (ci := 2) (j := 1) (o' := cRow n 1) X dJx4a65c_elementData_915e3_1 (ck_2 (j := 1) (by decide)) rfl (by decide) hlk_9 (Or.inl rfl) (fun _ => rfl) (cr_2_1 (j := 1)) ?_
  refine z_iload_n X 1 dJx4a65c_elementData_915e3_4 rfl rfl ?_
  refine z_aald (j := k) (o' := 32 * k + 10) X dJx4a65c_elementData_915e3_5 (ck_row (j := 1) (by decide) (show n 6 ≠ 0 by omega)) (by rw [cn_row (j := 1) (by decide) (show n 6 ≠ 0 by omega)]; exact vp_in_nI (Nat.lt_of_lt_of_le hk (ccap_ge h33)) (by have := ccap_33 (n (5 + 1)); omega)) (nI_clamp (by omega)) (cr_row (j := 1) (by decide) hk h33) ?_
  refine z_aret X rfl (Or.inl ⟨_, rfl⟩) (Or.inr ⟨_, rfl⟩) (Nat.le_refl _) (Nat.le_refl _) dJx4a65c_elementData_915e3_6 ?_
  exact ⟨_, rfl, rfl, rfl⟩

set_option maxRecDepth 100000 in
set_option maxHeartbeats 4000000 in
theorem c_get1 (l : Launch) (n : Nat → Nat) (i x : Nat → Nat → Int32) (lm : Nat → Nat → Int64) (y : Nat → Nat → Nat) (ol : Int64) (od : UInt64) (k : Nat) (hk : k < n 6) (h33 : n 6 ≤ 33) : zS l yJx4a65c_get_915e3 wsJx4a65c_get_915e3 8 133 0 0 [.ref 34, .int (nI k)] (cmm n i x lm y ol od) (zpr (fun r M1 => r = 32 * k + 10 ∧ M1 = cmm n i x lm y ol od)) zno := by
  refine z_intro (cc := cJx4a65c_get_915e3) (maxL := 2) (ret := (some (.object "java/lang/Object"))) (by decide +kernel) rfl (Nat.le_of_ble_eq_true rfl) ?_
  have hlk_48 : Cond.fieldLink RJx4a65c 48 "java/util/ArrayList" "size" "I" ∈ wsJx4a65c_get_915e3 := by decide +kernel
  intro g X
  show zE g 2 0 [(0, .ref 34), (1, .int (nI k))] [] (cmm n i x lm y ol od) 0 0
  refine z_iload_n X 1 dJx4a65c_get_915e3_0 rfl rfl ?_
  refine z_aload_n X 0 dJx4a65c_get_915e3_1 rfl rfl ?_
  refine z_getI (ci := 2) (j := 2) (x := nI (n 6)) X dJx4a65c_get_915e3_2 (ck_2 (j := 1) (by decide)) rfl (by decide) hlk_48 (Or.inl rfl) (fun _ => rfl) (ci_2_2 (j := 1)) ?_
  refine z_callSi (As := [.int (nI k), .int (nI (n 6))]) (rest := []) (n1 := 2) X dJx4a65c_get_915e3_5 (c_J15_checkIndex_7cf53 l _ _ _ (nI_nn _ (by omega)) (nI_lt hk (by omega))) gJx4a65c_get_915e3_J15_checkIndex_7cf53 rfl rfl (by decide +kernel) ⟨by decide, by decide⟩ rfl (Nat.le_of_ble_eq_true rfl) ⟨by decide, by decide⟩ (fun _ h => h.elim) ?_
  rintro _ _ ⟨rfl, rfl⟩
  refine z_pop X dJx4a65c_get_915e3_8 rfl ?_
  refine z_aload_n X 0 dJx4a65c_get_915e3_9 rfl rfl ?_
  refine z_iload_n X 1 dJx4a65c_get_915e3_10 rfl rfl ?_
  refine z_callVr (As := [.int (nI k)]) (rest := []) (n1 := 1) (ci := 2) X dJx4a65c_get_915e3_11 (c_elementData1 l _ _ _ _ _ _ _ k hk h33) gJx4a65c_get_915e3_Jx4a65c_elementData_915e3 rfl rfl (by decide +kernel) ⟨by decide, by decide⟩ (ck_2 (j := 1) (by decide)) rfl rfl (Nat.le_of_ble_eq_true rfl) ⟨by decide, by decide⟩ (fun _ h => h.elim) ?_
  rintro _ _ ⟨rfl, rfl⟩
  refine z_aret X rfl (Or.inl ⟨_, rfl⟩) (Or.inr ⟨_, rfl⟩) (Nat.le_refl _) (Nat.le_refl _) dJx4a65c_get_915e3_14 ?_
  exact ⟨_, rfl, rfl, rfl⟩

set_option maxRecDepth 100000 in
set_option maxHeartbeats 4000000 in
theorem c_size2 (l : Launch) (n : Nat → Nat) (i x : Nat → Nat → Int32) (lm : Nat → Nat → Int64) (y : Nat → Nat → Nat) (ol : Int64) (od : UInt64) : zS l yJx4a65c_size_8abf5 wsJx4a65c_size_8abf5 0 0 0 0 [.ref 66] (cmm n i x lm y ol od) (zpi (fun r M1 => r = nI (n 7) ∧ M1 = cmm n i x lm y ol od)) zno := by
  refine z_intro (cc := cJx4a65c_size_8abf5) (maxL := 1) (ret := (some .int)) (by decide +kernel) rfl (Nat.le_of_ble_eq_true rfl) ?_
  have hlk_48 : Cond.fieldLink RJx4a65c 48 "java/util/ArrayList" "size" "I" ∈ wsJx4a65c_size_8abf5 := by decide +kernel
  intro g X
  show zE g 1 0 [(0, .ref 66)] [] (cmm n i x lm y ol od) 0 0
  refine z_aload_n X 0 dJx4a65c_size_8abf5_0 rfl rfl ?_
  refine z_getI (ci := 2) (j := 2) (x := nI (n 7)) X dJx4a65c_size_8abf5_1 (ck_2 (j := 2) (by decide)) rfl (by decide) hlk_48 (Or.inl rfl) (fun _ => rfl) (ci_2_2 (j := 2)) ?_
  refine z_iret X rfl rfl (Nat.le_refl _) (Nat.le_refl _) dJx4a65c_size_8abf5_4 ?_
  exact ⟨_, rfl, rfl, rfl⟩

set_option maxRecDepth 100000 in
set_option maxHeartbeats 4000000 in
theorem c_isEmpty2 (l : Launch) (n : Nat → Nat) (i x : Nat → Nat → Int32) (lm : Nat → Nat → Int64) (y : Nat → Nat → Nat) (ol : Int64) (od : UInt64) (h33 : n 7 ≤ 33) : zS l yJx4a65c_isEmpty_aae02 wsJx4a65c_isEmpty_aae02 0 0 0 0 [.ref 66] (cmm n i x lm y ol od) (zpi (fun r M1 => r = zb (n 7 = 0) ∧ M1 = cmm n i x lm y ol od)) zno := by
  refine z_intro (cc := cJx4a65c_isEmpty_aae02) (maxL := 1) (ret := (some .boolean)) (by decide +kernel) rfl (Nat.le_of_ble_eq_true rfl) ?_
  have hlk_48 : Cond.fieldLink RJx4a65c 48 "java/util/ArrayList" "size" "I" ∈ wsJx4a65c_isEmpty_aae02 := by decide +kernel
  intro g X
  show zE g 1 0 [(0, .ref 66)] [] (cmm n i x lm y ol od) 0 0
  refine z_aload_n X 0 dJx4a65c_isEmpty_aae02_0 rfl rfl ?_
  refine z_getI (ci := 2) (j := 2) (x := nI (n 7)) X dJx4a65c_isEmpty_aae02_1 (ck_2 (j := 2) (by decide)) rfl (by decide) hlk_48 (Or.inl rfl) (fun _ => rfl) (ci_2_2 (j := 2)) ?_
  refine z_if_ne X 11 dJx4a65c_isEmpty_aae02_4 (by decide) (fun c_4 => ?_) (fun c_4 => ?_)
  · skip
    refine z_iconst (v := 0) X dJx4a65c_isEmpty_aae02_11 (by decide) ?_
    refine z_iret X rfl (rfl) (Nat.le_refl _) (Nat.le_refl _) dJx4a65c_isEmpty_aae02_12 ?_
    exact ⟨_, rfl, by first | exact (zb_t (nI_z (by omega) (by assumption))).symm | exact (zb_f (fun e => absurd (show nI (n _) = 0 by rw [e]; rfl) (by assumption))).symm, rfl⟩
  · skip
    refine z_iconst (v := 1) X dJx4a65c_isEmpty_aae02_7 (by decide) ?_
    refine z_goto (tgt := 12) X dJx4a65c_isEmpty_aae02_8 (by decide) ?_
    refine z_iret X rfl (rfl) (Nat.le_refl _) (Nat.le_refl _) dJx4a65c_isEmpty_aae02_12 ?_
    exact ⟨_, rfl, by first | exact (zb_t (nI_z (by omega) (by assumption))).symm | exact (zb_f (fun e => absurd (show nI (n _) = 0 by rw [e]; rfl) (by assumption))).symm, rfl⟩

set_option maxRecDepth 100000 in
set_option maxHeartbeats 4000000 in
theorem c_elementData2 (l : Launch) (n : Nat → Nat) (i x : Nat → Nat → Int32) (lm : Nat → Nat → Int64) (y : Nat → Nat → Nat) (ol : Int64) (od : UInt64) (k : Nat) (hk : k < n 7) (h33 : n 7 ≤ 33) : zS l yJx4a65c_elementData_915e3 wsJx4a65c_elementData_915e3 0 0 0 0 [.ref 66, .int (nI k)] (cmm n i x lm y ol od) (zpr (fun r M1 => r = 32 * k + 11 ∧ M1 = cmm n i x lm y ol od)) zno := by
  refine z_intro (cc := cJx4a65c_elementData_915e3) (maxL := 2) (ret := (some (.object "java/lang/Object"))) (by decide +kernel) rfl (Nat.le_of_ble_eq_true rfl) ?_
  have hlk_9 : Cond.fieldLink RJx4a65c 9 "java/util/ArrayList" "elementData" "[Ljava/lang/Object;" ∈ wsJx4a65c_elementData_915e3 := by decide +kernel
  intro g X
  show zE g 2 0 [(0, .ref 66), (1, .int (nI k))] [] (cmm n i x lm y ol od) 0 0
  refine z_aload_n X 0 dJx4a65c_elementData_915e3_0 rfl rfl ?_
  refine z_getR (ci := 2) (j := 1) (o' := cRow n 2) X dJx4a65c_elementData_915e3_1 (ck_2 (j := 2) (by decide)) rfl (by decide) hlk_9 (Or.inl rfl) (fun _ => rfl) (cr_2_1 (j := 2)) ?_
  refine z_iload_n X 1 dJx4a65c_elementData_915e3_4 rfl rfl ?_
  refine z_aald (j := k) (o' := 32 * k + 11) X dJx4a65c_elementData_915e3_5 (ck_row (j := 2) (by decide) (show n 7 ≠ 0 by omega)) (by rw [cn_row (j := 2) (by decide) (show n 7 ≠ 0 by omega)]; exact vp_in_nI (Nat.lt_of_lt_of_le hk (ccap_ge h33)) (by have := ccap_33 (n (5 + 2)); omega)) (nI_clamp (by omega)) (cr_row (j := 2) (by decide) hk h33) ?_
  refine z_aret X rfl (Or.inl ⟨_, rfl⟩) (Or.inr ⟨_, rfl⟩) (Nat.le_refl _) (Nat.le_refl _) dJx4a65c_elementData_915e3_6 ?_
  exact ⟨_, rfl, rfl, rfl⟩

set_option maxRecDepth 100000 in
set_option maxHeartbeats 4000000 in
theorem c_get2 (l : Launch) (n : Nat → Nat) (i x : Nat → Nat → Int32) (lm : Nat → Nat → Int64) (y : Nat → Nat → Nat) (ol : Int64) (od : UInt64) (k : Nat) (hk : k < n 7) (h33 : n 7 ≤ 33) : zS l yJx4a65c_get_915e3 wsJx4a65c_get_915e3 8 133 0 0 [.ref 66, .int (nI k)] (cmm n i x lm y ol od) (zpr (fun r M1 => r = 32 * k + 11 ∧ M1 = cmm n i x lm y ol od)) zno := by
  refine z_intro (cc := cJx4a65c_get_915e3) (maxL := 2) (ret := (some (.object "java/lang/Object"))) (by decide +kernel) rfl (Nat.le_of_ble_eq_true rfl) ?_
  have hlk_48 : Cond.fieldLink RJx4a65c 48 "java/util/ArrayList" "size" "I" ∈ wsJx4a65c_get_915e3 := by decide +kernel
  intro g X
  show zE g 2 0 [(0, .ref 66), (1, .int (nI k))] [] (cmm n i x lm y ol od) 0 0
  refine z_iload_n X 1 dJx4a65c_get_915e3_0 rfl rfl ?_
  refine z_aload_n X 0 dJx4a65c_get_915e3_1 rfl rfl ?_
  refine z_getI (ci := 2) (j := 2) (x := nI (n 7)) X dJx4a65c_get_915e3_2 (ck_2 (j := 2) (by decide)) rfl (by decide) hlk_48 (Or.inl rfl) (fun _ => rfl) (ci_2_2 (j := 2)) ?_
  refine z_callSi (As := [.int (nI k), .int (nI (n 7))]) (rest := []) (n1 := 2) X dJx4a65c_get_915e3_5 (c_J15_checkIndex_7cf53 l _ _ _ (nI_nn _ (by omega)) (nI_lt hk (by omega))) gJx4a65c_get_915e3_J15_checkIndex_7cf53 rfl rfl (by decide +kernel) ⟨by decide, by decide⟩ rfl (Nat.le_of_ble_eq_true rfl) ⟨by decide, by decide⟩ (fun _ h => h.elim) ?_
  rintro _ _ ⟨rfl, rfl⟩
  refine z_pop X dJx4a65c_get_915e3_8 rfl ?_
  refine z_aload_n X 0 dJx4a65c_get_915e3_9 rfl rfl ?_
  refine z_iload_n X 1 dJx4a65c_get_915e3_10 rfl rfl ?_
  refine z_callVr (As := [.int (nI k)]) (rest := []) (n1 := 1) (ci := 2) X dJx4a65c_get_915e3_11 (c_elementData2 l _ _ _ _ _ _ _ k hk h33) gJx4a65c_get_915e3_Jx4a65c_elementData_915e3 rfl rfl (by decide +kernel) ⟨by decide, by decide⟩ (ck_2 (j := 2) (by decide)) rfl rfl (Nat.le_of_ble_eq_true rfl) ⟨by decide, by decide⟩ (fun _ h => h.elim) ?_
  rintro _ _ ⟨rfl, rfl⟩
  refine z_aret X rfl (Or.inl ⟨_, rfl⟩) (Or.inr ⟨_, rfl⟩) (Nat.le_refl _) (Nat.le_refl _) dJx4a65c_get_915e3_14 ?_
  exact ⟨_, rfl, rfl, rfl⟩

set_option maxRecDepth 100000 in
set_option maxHeartbeats 4000000 in
theorem c_size3 (l : Launch) (n : Nat → Nat) (i x : Nat → Nat → Int32) (lm : Nat → Nat → Int64) (y : Nat → Nat → Nat) (ol : Int64) (od : UInt64) : zS l yJx4a65c_size_8abf5 wsJx4a65c_size_8abf5 0 0 0 0 [.ref 98] (cmm n i x lm y ol od) (zpi (fun r M1 => r = nI (n 8) ∧ M1 = cmm n i x lm y ol od)) zno := by
  refine z_intro (cc := cJx4a65c_size_8abf5) (maxL := 1) (ret := (some .int)) (by decide +kernel) rfl (Nat.le_of_ble_eq_true rfl) ?_
  have hlk_48 : Cond.fieldLink RJx4a65c 48 "java/util/ArrayList" "size" "I" ∈ wsJx4a65c_size_8abf5 := by decide +kernel
  intro g X
  show zE g 1 0 [(0, .ref 98)] [] (cmm n i x lm y ol od) 0 0
  refine z_aload_n X 0 dJx4a65c_size_8abf5_0 rfl rfl ?_
  refine z_getI (ci := 2) (j := 2) (x := nI (n 8)) X dJx4a65c_size_8abf5_1 (ck_2 (j := 3) (by decide)) rfl (by decide) hlk_48 (Or.inl rfl) (fun _ => rfl) (ci_2_2 (j := 3)) ?_
  refine z_iret X rfl rfl (Nat.le_refl _) (Nat.le_refl _) dJx4a65c_size_8abf5_4 ?_
  exact ⟨_, rfl, rfl, rfl⟩

set_option maxRecDepth 100000 in
set_option maxHeartbeats 4000000 in
theorem c_isEmpty3 (l : Launch) (n : Nat → Nat) (i x : Nat → Nat → Int32) (lm : Nat → Nat → Int64) (y : Nat → Nat → Nat) (ol : Int64) (od : UInt64) (h33 : n 8 ≤ 33) : zS l yJx4a65c_isEmpty_aae02 wsJx4a65c_isEmpty_aae02 0 0 0 0 [.ref 98] (cmm n i x lm y ol od) (zpi (fun r M1 => r = zb (n 8 = 0) ∧ M1 = cmm n i x lm y ol od)) zno := by
  refine z_intro (cc := cJx4a65c_isEmpty_aae02) (maxL := 1) (ret := (some .boolean)) (by decide +kernel) rfl (Nat.le_of_ble_eq_true rfl) ?_
  have hlk_48 : Cond.fieldLink RJx4a65c 48 "java/util/ArrayList" "size" "I" ∈ wsJx4a65c_isEmpty_aae02 := by decide +kernel
  intro g X
  show zE g 1 0 [(0, .ref 98)] [] (cmm n i x lm y ol od) 0 0
  refine z_aload_n X 0 dJx4a65c_isEmpty_aae02_0 rfl rfl ?_
  refine z_getI (ci := 2) (j := 2) (x := nI (n 8)) X dJx4a65c_isEmpty_aae02_1 (ck_2 (j := 3) (by decide)) rfl (by decide) hlk_48 (Or.inl rfl) (fun _ => rfl) (ci_2_2 (j := 3)) ?_
  refine z_if_ne X 11 dJx4a65c_isEmpty_aae02_4 (by decide) (fun c_4 => ?_) (fun c_4 => ?_)
  · skip
    refine z_iconst (v := 0) X dJx4a65c_isEmpty_aae02_11 (by decide) ?_
    refine z_iret X rfl (rfl) (Nat.le_refl _) (Nat.le_refl _) dJx4a65c_isEmpty_aae02_12 ?_
    exact ⟨_, rfl, by first | exact (zb_t (nI_z (by omega) (by assumption))).symm | exact (zb_f (fun e => absurd (show nI (n _) = 0 by rw [e]; rfl) (by assumption))).symm, rfl⟩
  · skip
    refine z_iconst (v := 1) X dJx4a65c_isEmpty_aae02_7 (by decide) ?_
    refine z_goto (tgt := 12) X dJx4a65c_isEmpty_aae02_8 (by decide) ?_
    refine z_iret X rfl (rfl) (Nat.le_refl _) (Nat.le_refl _) dJx4a65c_isEmpty_aae02_12 ?_
    exact ⟨_, rfl, by first | exact (zb_t (nI_z (by omega) (by assumption))).symm | exact (zb_f (fun e => absurd (show nI (n _) = 0 by rw [e]; rfl) (by assumption))).symm, rfl⟩

set_option maxRecDepth 100000 in
set_option maxHeartbeats 4000000 in
theorem c_elementData3 (l : Launch) (n : Nat → Nat) (i x : Nat → Nat → Int32) (lm : Nat → Nat → Int64) (y : Nat → Nat → Nat) (ol : Int64) (od : UInt64) (k : Nat) (hk : k < n 8) (h33 : n 8 ≤ 33) : zS l yJx4a65c_elementData_915e3 wsJx4a65c_elementData_915e3 0 0 0 0 [.ref 98, .int (nI k)] (cmm n i x lm y ol od) (zpr (fun r M1 => r = 32 * k + 13 ∧ M1 = cmm n i x lm y ol od)) zno := by
  refine z_intro (cc := cJx4a65c_elementData_915e3) (maxL := 2) (ret := (some (.object "java/lang/Object"))) (by decide +kernel) rfl (Nat.le_of_ble_eq_true rfl) ?_
  have hlk_9 : Cond.fieldLink RJx4a65c 9 "java/util/ArrayList" "elementData" "[Ljava/lang/Object;" ∈ wsJx4a65c_elementData_915e3 := by decide +kernel
  intro g X
  show zE g 2 0 [(0, .ref 98), (1, .int (nI k))] [] (cmm n i x lm y ol od) 0 0
  refine z_aload_n X 0 dJx4a65c_elementData_915e3_0 rfl rfl ?_
  refine z_getR (ci := 2) (j := 1) (o' := cRow n 3) X dJx4a65c_elementData_915e3_1 (ck_2 (j := 3) (by decide)) rfl (by decide) hlk_9 (Or.inl rfl) (fun _ => rfl) (cr_2_1 (j := 3)) ?_
  refine z_iload_n X 1 dJx4a65c_elementData_915e3_4 rfl rfl ?_
  refine z_aald (j := k) (o' := 32 * k + 13) X dJx4a65c_elementData_915e3_5 (ck_row (j := 3) (by decide) (show n 8 ≠ 0 by omega)) (by rw [cn_row (j := 3) (by decide) (show n 8 ≠ 0 by omega)]; exact vp_in_nI (Nat.lt_of_lt_of_le hk (ccap_ge h33)) (by have := ccap_33 (n (5 + 3)); omega)) (nI_clamp (by omega)) (cr_row (j := 3) (by decide) hk h33) ?_
  refine z_aret X rfl (Or.inl ⟨_, rfl⟩) (Or.inr ⟨_, rfl⟩) (Nat.le_refl _) (Nat.le_refl _) dJx4a65c_elementData_915e3_6 ?_
  exact ⟨_, rfl, rfl, rfl⟩

set_option maxRecDepth 100000 in
set_option maxHeartbeats 4000000 in
theorem c_get3 (l : Launch) (n : Nat → Nat) (i x : Nat → Nat → Int32) (lm : Nat → Nat → Int64) (y : Nat → Nat → Nat) (ol : Int64) (od : UInt64) (k : Nat) (hk : k < n 8) (h33 : n 8 ≤ 33) : zS l yJx4a65c_get_915e3 wsJx4a65c_get_915e3 8 133 0 0 [.ref 98, .int (nI k)] (cmm n i x lm y ol od) (zpr (fun r M1 => r = 32 * k + 13 ∧ M1 = cmm n i x lm y ol od)) zno := by
  refine z_intro (cc := cJx4a65c_get_915e3) (maxL := 2) (ret := (some (.object "java/lang/Object"))) (by decide +kernel) rfl (Nat.le_of_ble_eq_true rfl) ?_
  have hlk_48 : Cond.fieldLink RJx4a65c 48 "java/util/ArrayList" "size" "I" ∈ wsJx4a65c_get_915e3 := by decide +kernel
  intro g X
  show zE g 2 0 [(0, .ref 98), (1, .int (nI k))] [] (cmm n i x lm y ol od) 0 0
  refine z_iload_n X 1 dJx4a65c_get_915e3_0 rfl rfl ?_
  refine z_aload_n X 0 dJx4a65c_get_915e3_1 rfl rfl ?_
  refine z_getI (ci := 2) (j := 2) (x := nI (n 8)) X dJx4a65c_get_915e3_2 (ck_2 (j := 3) (by decide)) rfl (by decide) hlk_48 (Or.inl rfl) (fun _ => rfl) (ci_2_2 (j := 3)) ?_
  refine z_callSi (As := [.int (nI k), .int (nI (n 8))]) (rest := []) (n1 := 2) X dJx4a65c_get_915e3_5 (c_J15_checkIndex_7cf53 l _ _ _ (nI_nn _ (by omega)) (nI_lt hk (by omega))) gJx4a65c_get_915e3_J15_checkIndex_7cf53 rfl rfl (by decide +kernel) ⟨by decide, by decide⟩ rfl (Nat.le_of_ble_eq_true rfl) ⟨by decide, by decide⟩ (fun _ h => h.elim) ?_
  rintro _ _ ⟨rfl, rfl⟩
  refine z_pop X dJx4a65c_get_915e3_8 rfl ?_
  refine z_aload_n X 0 dJx4a65c_get_915e3_9 rfl rfl ?_
  refine z_iload_n X 1 dJx4a65c_get_915e3_10 rfl rfl ?_
  refine z_callVr (As := [.int (nI k)]) (rest := []) (n1 := 1) (ci := 2) X dJx4a65c_get_915e3_11 (c_elementData3 l _ _ _ _ _ _ _ k hk h33) gJx4a65c_get_915e3_Jx4a65c_elementData_915e3 rfl rfl (by decide +kernel) ⟨by decide, by decide⟩ (ck_2 (j := 3) (by decide)) rfl rfl (Nat.le_of_ble_eq_true rfl) ⟨by decide, by decide⟩ (fun _ h => h.elim) ?_
  rintro _ _ ⟨rfl, rfl⟩
  refine z_aret X rfl (Or.inl ⟨_, rfl⟩) (Or.inr ⟨_, rfl⟩) (Nat.le_refl _) (Nat.le_refl _) dJx4a65c_get_915e3_14 ?_
  exact ⟨_, rfl, rfl, rfl⟩
