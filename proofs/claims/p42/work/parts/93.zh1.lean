/-! PART 93h: the law's helpers -/
def a_of0 (n : Nat → Nat) (i x : Nat → Nat → Int32) (y : Nat → Nat → Nat) (r : Int32) : Int32 := if cl r < n 5 ∧ r = nI (cl r) then (i 110 (cl r)) else (-1001)
def a_of1 (n : Nat → Nat) (i x : Nat → Nat → Int32) (y : Nat → Nat → Nat) (r : Int32) : Int32 := if cl r < n 5 ∧ r = nI (cl r) then (if i 112 (cl r) = 0 then 0 else 1) else (-1001)
def a_of2 (n : Nat → Nat) (i x : Nat → Nat → Int32) (y : Nat → Nat → Nat) (r : Int32) : Int32 := if cl r < n 5 ∧ r = nI (cl r) then (if ¬ i 116 (cl r) = 0 then (x 5 (cl r)) else (-1002)) else (-1001)
def a_of3 (n : Nat → Nat) (i x : Nat → Nat → Int32) (y : Nat → Nat → Nat) (r : Int32) : Int32 := if cl r < n 5 ∧ r = nI (cl r) then (8 - m_filled i (nI (cl r)) (n 7)) else (-1001)
def a_mean (n : Nat → Nat) (i x : Nat → Nat → Int32) (y : Nat → Nat → Nat) (r : Int32) : UInt64 := if cl r < n 5 ∧ r = nI (cl r) then (if ¬ i 116 (cl r) = 0 then (FP.ddiv (FP.i2d (x 6 (cl r))) (FP.i2d (i 116 (cl r)))) else 13875396937882009600) else 13875388141788987392
def a_pal0 (n : Nat → Nat) (i x : Nat → Nat → Int32) (y : Nat → Nat → Nat) (p : Int32) : Int32 := if cl p < n 7 ∧ p = nI (cl p) then (i 133 (cl p)) else (-1001)
def a_pal1 (n : Nat → Nat) (i x : Nat → Nat → Int32) (y : Nat → Nat → Nat) (p : Int32) : Int32 := if cl p < n 7 ∧ p = nI (cl p) then (i 133 (cl p)) else (-1001)
def a_pal2 (n : Nat → Nat) (i x : Nat → Nat → Int32) (y : Nat → Nat → Nat) (p : Int32) : Int32 := if cl p < n 7 ∧ p = nI (cl p) then (i 134 (cl p)) else (-1001)
def a_pal3 (n : Nat → Nat) (i x : Nat → Nat → Int32) (y : Nat → Nat → Nat) (p : Int32) : Int32 := if cl p < n 7 ∧ p = nI (cl p) then (if i 134 (cl p) = 114 then (i 132 (cl p)) else (-1002)) else (-1001)
def a_fore (n : Nat → Nat) (i x : Nat → Nat → Int32) (y : Nat → Nat → Nat) (p : Int32) (u : Int32) : Int32 := if cl p < n 7 ∧ p = nI (cl p) then (if i 134 (cl p) = 114 then (if zin u 0 960 then (if 0 < i 133 (cl p) - u * (if i 110 (y 1 (y 0 (cl p))) < i 129 (cl (i 131 (cl p))) then 10 else if i 128 (cl (i 131 (cl p))) < i 110 (y 1 (y 0 (cl p))) then 1 + (i 110 (y 1 (y 0 (cl p))) - i 128 (cl (i 131 (cl p)))) / 20 else 1) then i 133 (cl p) - u * (if i 110 (y 1 (y 0 (cl p))) < i 129 (cl (i 131 (cl p))) then 10 else if i 128 (cl (i 131 (cl p))) < i 110 (y 1 (y 0 (cl p))) then 1 + (i 110 (y 1 (y 0 (cl p))) - i 128 (cl (i 131 (cl p)))) / 20 else 1) else 0) else (-1003)) else (-1002)) else (-1001)
def a_soon (n : Nat → Nat) (i x : Nat → Nat → Int32) (y : Nat → Nat → Nat) : Int32 := if c_sn i (n 7) ≠ none then (nI ((c_sn i (n 7)).getD 0)) else (-1001)
def a_lost (n : Nat → Nat) (i x : Nat → Nat → Int32) (y : Nat → Nat → Nat) : UInt32 := if n 7 ≠ 0 then (FP.fdiv (FP.i2f (m_lost i (n 7))) (FP.i2f (nI (n 7)))) else 3212836864
def a_ord2 (n : Nat → Nat) (i x : Nat → Nat → Int32) (y : Nat → Nat → Nat) (o : Int32) : Int32 := if cl o < n 8 ∧ o = nI (cl o) then (m_cnt i (cl o) (n 7)) else (-1001)
def a_ord3 (n : Nat → Nat) (i x : Nat → Nat → Int32) (y : Nat → Nat → Nat) (o : Int32) : Int32 := if cl o < n 8 ∧ o = nI (cl o) then (i 140 (cl o)) else (-1001)
def a_ord4 (n : Nat → Nat) (i x : Nat → Nat → Int32) (y : Nat → Nat → Nat) (o : Int32) : Int32 := if cl o < n 8 ∧ o = nI (cl o) then (if i 140 (cl o) = 115 then (i 141 (cl o)) else (-1002)) else (-1001)
def a_ordA (n : Nat → Nat) (i x : Nat → Nat → Int32) (y : Nat → Nat → Nat) (o : Int32) (u : Int32) : Int32 := if cl o < n 8 ∧ o = nI (cl o) then (if c_at i (cl o) (n 7) (u - 10) ≠ none then (nI ((c_at i (cl o) (n 7) (u - 10)).getD 0)) else (-1002)) else (-1001)
set_option maxRecDepth 100000 in
set_option maxHeartbeats 4000000 in
theorem h_of0 (l : Launch) (hl0 : l.stackTraces = false) {n : Nat → Nat} {i x : Nat → Nat → Int32} {lm : Nat → Nat → Int64} {y : Nat → Nat → Nat} {t : Nat} (h : xSI n i x lm y t) (ol : Int64) (od : UInt64) (r : Int32) : zS l yL_of wsL_of 11 196 4 40 [.ref 1, .int r, .int 0] (cmm n i x lm y ol od) (zpi (fun v M1 => v = a_of0 n i x y r ∧ M1 = cmm n i x lm y ol od)) zno := by
  refine z_introW (cc := cL_of) (maxL := 4) (ret := (some .int)) (hh := [(0, 51, 52, 36), (0, 51, 57, 59)]) (by decide +kernel) rfl (Nat.le_of_ble_eq_true rfl) ?_
  intro g X
  show zE g 4 0 [(0, .ref 1), (1, .int r), (2, .int 0)] [] (cmm n i x lm y ol od) 0 0
  refine z_iload_n X 2 dL_of_0 rfl rfl ?_
  refine z_if_ne X 12 dL_of_1 (by decide) (fun c_1 => ?_) (fun c_1 => ?_)
  · exact absurd c_1 (by decide)
  · skip
    refine z_aload_n X 0 dL_of_4 rfl rfl ?_
    refine z_iload_n X 1 dL_of_5 rfl rfl ?_
    refine z_ctcVi (As := [.int r]) (rest := []) (n1 := 1) (ci := 10) X dL_of_6 (c_X7_temperature l hl0 n i x lm y ol od h.1.1 r) gL_of_X7_temperature rfl rfl (by decide +kernel) ⟨by decide, by decide⟩ ck_1 rfl rfl (Nat.le_of_ble_eq_true rfl) ⟨by decide, by decide⟩ (fun E he => ?_) ?_
    · obtain ⟨rfl, c0⟩ := he
      refine ⟨[(0, .ref 1), (1, .int r), (2, .int 0)], 53, ⟨[], ⟨0, 51, 52, 36⟩, [⟨0, 51, 57, 59⟩], 3, 1, rfl, fun _ hz => absurd hz List.not_mem_nil, rfl, by decide, by decide +kernel, by decide +kernel, Or.inl ⟨3, dL_of_52, rfl, rfl⟩, by decide, rfl, rfl⟩, ?_⟩
      refine z_sipush (v := (-1001)) X dL_of_53 (by decide) ?_
      refine z_iret X rfl rfl (Nat.le_of_ble_eq_true rfl) (Nat.le_of_ble_eq_true rfl) dL_of_56 ?_
      exact ⟨_, rfl, ⟨((if_neg c0)).symm, rfl⟩⟩
    rintro _ _ ⟨c0, rfl, rfl⟩
    refine z_goto (tgt := 51) X dL_of_9 (by decide) ?_
    refine z_iret X rfl rfl (Nat.le_of_ble_eq_true rfl) (Nat.le_of_ble_eq_true rfl) dL_of_51 ?_
    exact ⟨_, rfl, ⟨((if_pos c0)).symm, rfl⟩⟩

set_option maxRecDepth 100000 in
set_option maxHeartbeats 4000000 in
theorem h_of1 (l : Launch) (hl0 : l.stackTraces = false) {n : Nat → Nat} {i x : Nat → Nat → Int32} {lm : Nat → Nat → Int64} {y : Nat → Nat → Nat} {t : Nat} (h : xSI n i x lm y t) (ol : Int64) (od : UInt64) (r : Int32) : zS l yL_of wsL_of 11 196 4 40 [.ref 1, .int r, .int 1] (cmm n i x lm y ol od) (zpi (fun v M1 => v = a_of1 n i x y r ∧ M1 = cmm n i x lm y ol od)) zno := by
  refine z_introW (cc := cL_of) (maxL := 4) (ret := (some .int)) (hh := [(0, 51, 52, 36), (0, 51, 57, 59)]) (by decide +kernel) rfl (Nat.le_of_ble_eq_true rfl) ?_
  intro g X
  show zE g 4 0 [(0, .ref 1), (1, .int r), (2, .int 1)] [] (cmm n i x lm y ol od) 0 0
  refine z_iload_n X 2 dL_of_0 rfl rfl ?_
  refine z_if_ne X 12 dL_of_1 (by decide) (fun c_1 => ?_) (fun c_1 => ?_)
  · skip
    refine z_iload_n X 2 dL_of_12 rfl rfl ?_
    refine z_iconst (v := 1) X dL_of_13 (by decide) ?_
    refine z_icmp_ne X 33 dL_of_14 (by decide) (fun c_14 => ?_) (fun c_14 => ?_)
    · exact absurd c_14 (by decide)
    · skip
      refine z_aload_n X 0 dL_of_17 rfl rfl ?_
      refine z_iload_n X 1 dL_of_18 rfl rfl ?_
      refine z_ctcVi (As := [.int r]) (rest := []) (n1 := 1) (ci := 10) X dL_of_19 (c_X7_isCooled l hl0 n i x lm y ol od h.1.1 r (fun j => by rcases h.1.2.2.1.2.1 j with e | e <;> rw [e] <;> rfl)) gL_of_X7_isCooled rfl rfl (by decide +kernel) ⟨by decide, by decide⟩ ck_1 rfl rfl (Nat.le_of_ble_eq_true rfl) ⟨by decide, by decide⟩ (fun E he => ?_) ?_
      · obtain ⟨rfl, c0⟩ := he
        refine ⟨[(0, .ref 1), (1, .int r), (2, .int 1)], 53, ⟨[], ⟨0, 51, 52, 36⟩, [⟨0, 51, 57, 59⟩], 3, 1, rfl, fun _ hz => absurd hz List.not_mem_nil, rfl, by decide, by decide +kernel, by decide +kernel, Or.inl ⟨3, dL_of_52, rfl, rfl⟩, by decide, rfl, rfl⟩, ?_⟩
        refine z_sipush (v := (-1001)) X dL_of_53 (by decide) ?_
        refine z_iret X rfl rfl (Nat.le_of_ble_eq_true rfl) (Nat.le_of_ble_eq_true rfl) dL_of_56 ?_
        exact ⟨_, rfl, ⟨((if_neg c0)).symm, rfl⟩⟩
      rintro _ _ ⟨c0, rfl, rfl⟩
      refine z_if_eq X 29 dL_of_22 (by decide) (fun c_22 => ?_) (fun c_22 => ?_)
      · skip
        refine z_iconst (v := 0) X dL_of_29 (by decide) ?_
        refine z_goto (tgt := 51) X dL_of_30 (by decide) ?_
        refine z_iret X rfl rfl (Nat.le_of_ble_eq_true rfl) (Nat.le_of_ble_eq_true rfl) dL_of_51 ?_
        exact ⟨_, rfl, ⟨(((if_pos c0).trans (if_pos c_22))).symm, rfl⟩⟩
      · skip
        refine z_iconst (v := 1) X dL_of_25 (by decide) ?_
        refine z_goto (tgt := 51) X dL_of_26 (by decide) ?_
        refine z_iret X rfl rfl (Nat.le_of_ble_eq_true rfl) (Nat.le_of_ble_eq_true rfl) dL_of_51 ?_
        exact ⟨_, rfl, ⟨(((if_pos c0).trans (if_neg c_22))).symm, rfl⟩⟩
  · exact absurd c_1 (by decide)

set_option maxRecDepth 100000 in
set_option maxHeartbeats 4000000 in
theorem h_of2 (l : Launch) (hl0 : l.stackTraces = false) {n : Nat → Nat} {i x : Nat → Nat → Int32} {lm : Nat → Nat → Int64} {y : Nat → Nat → Nat} {t : Nat} (h : xSI n i x lm y t) (ol : Int64) (od : UInt64) (r : Int32) : zS l yL_of wsL_of 11 197 4 40 [.ref 1, .int r, .int 2] (cmm n i x lm y ol od) (zpi (fun v M1 => v = a_of2 n i x y r ∧ M1 = cmm n i x lm y ol od)) zno := by
  refine z_introW (cc := cL_of) (maxL := 4) (ret := (some .int)) (hh := [(0, 51, 52, 36), (0, 51, 57, 59)]) (by decide +kernel) rfl (Nat.le_of_ble_eq_true rfl) ?_
  intro g X
  show zE g 4 0 [(0, .ref 1), (1, .int r), (2, .int 2)] [] (cmm n i x lm y ol od) 0 0
  refine z_iload_n X 2 dL_of_0 rfl rfl ?_
  refine z_if_ne X 12 dL_of_1 (by decide) (fun c_1 => ?_) (fun c_1 => ?_)
  · skip
    refine z_iload_n X 2 dL_of_12 rfl rfl ?_
    refine z_iconst (v := 1) X dL_of_13 (by decide) ?_
    refine z_icmp_ne X 33 dL_of_14 (by decide) (fun c_14 => ?_) (fun c_14 => ?_)
    · skip
      refine z_iload_n X 2 dL_of_33 rfl rfl ?_
      refine z_iconst (v := 2) X dL_of_34 (by decide) ?_
      refine z_icmp_ne X 46 dL_of_35 (by decide) (fun c_35 => ?_) (fun c_35 => ?_)
      · exact absurd c_35 (by decide)
      · skip
        refine z_aload_n X 0 dL_of_38 rfl rfl ?_
        refine z_iload_n X 1 dL_of_39 rfl rfl ?_
        refine z_ctcVi (As := [.int r]) (rest := []) (n1 := 1) (ci := 10) X dL_of_40 (c_X7_warmest l hl0 n i x lm y ol od h.1.1 r) gL_of_X7_warmest rfl rfl (by decide +kernel) ⟨by decide, by decide⟩ ck_1 rfl rfl (Nat.le_of_ble_eq_true rfl) ⟨by decide, by decide⟩ (fun E he => ?_) ?_
        · rcases he with ⟨rfl, c0⟩ | ⟨rfl, c0, c1⟩
          · skip
            refine ⟨[(0, .ref 1), (1, .int r), (2, .int 2)], 53, ⟨[], ⟨0, 51, 52, 36⟩, [⟨0, 51, 57, 59⟩], 3, 1, rfl, fun _ hz => absurd hz List.not_mem_nil, rfl, by decide, by decide +kernel, by decide +kernel, Or.inl ⟨3, dL_of_52, rfl, rfl⟩, by decide, rfl, rfl⟩, ?_⟩
            refine z_sipush (v := (-1001)) X dL_of_53 (by decide) ?_
            refine z_iret X rfl rfl (Nat.le_of_ble_eq_true rfl) (Nat.le_of_ble_eq_true rfl) dL_of_56 ?_
            exact ⟨_, rfl, ⟨((if_neg c0)).symm, rfl⟩⟩
          · skip
            refine ⟨[(0, .ref 1), (1, .int r), (2, .int 2)], 58, ⟨[⟨0, 51, 52, 36⟩], ⟨0, 51, 57, 59⟩, [], 3, 1, rfl, List.forall_mem_cons.mpr ⟨Or.inr ⟨by decide, "java/lang/IndexOutOfBoundsException", by decide +kernel, by decide +kernel, by decide +kernel⟩, fun _ hz => absurd hz List.not_mem_nil⟩, rfl, by decide, by decide +kernel, by decide +kernel, Or.inl ⟨3, dL_of_57, rfl, rfl⟩, by decide, rfl, rfl⟩, ?_⟩
            refine z_sipush (v := (-1002)) X dL_of_58 (by decide) ?_
            refine z_iret X rfl rfl (Nat.le_of_ble_eq_true rfl) (Nat.le_of_ble_eq_true rfl) dL_of_61 ?_
            exact ⟨_, rfl, ⟨(((if_pos c0).trans (if_neg c1))).symm, rfl⟩⟩
        rintro _ _ ⟨c0, c1, rfl, rfl⟩
        refine z_goto (tgt := 51) X dL_of_43 (by decide) ?_
        refine z_iret X rfl rfl (Nat.le_of_ble_eq_true rfl) (Nat.le_of_ble_eq_true rfl) dL_of_51 ?_
        exact ⟨_, rfl, ⟨(((if_pos c0).trans (if_pos c1))).symm, rfl⟩⟩
    · exact absurd c_14 (by decide)
  · exact absurd c_1 (by decide)

set_option maxRecDepth 100000 in
set_option maxHeartbeats 4000000 in
theorem h_of3 (l : Launch) (hl0 : l.stackTraces = false) {n : Nat → Nat} {i x : Nat → Nat → Int32} {lm : Nat → Nat → Int64} {y : Nat → Nat → Nat} {t : Nat} (h : xSI n i x lm y t) (ol : Int64) (od : UInt64) (r : Int32) : zS l yL_of wsL_of 11 199 4 40 [.ref 1, .int r, .int 3] (cmm n i x lm y ol od) (zpi (fun v M1 => v = a_of3 n i x y r ∧ M1 = cmm n i x lm y ol od)) zno := by
  refine z_introW (cc := cL_of) (maxL := 4) (ret := (some .int)) (hh := [(0, 51, 52, 36), (0, 51, 57, 59)]) (by decide +kernel) rfl (Nat.le_of_ble_eq_true rfl) ?_
  intro g X
  show zE g 4 0 [(0, .ref 1), (1, .int r), (2, .int 3)] [] (cmm n i x lm y ol od) 0 0
  refine z_iload_n X 2 dL_of_0 rfl rfl ?_
  refine z_if_ne X 12 dL_of_1 (by decide) (fun c_1 => ?_) (fun c_1 => ?_)
  · skip
    refine z_iload_n X 2 dL_of_12 rfl rfl ?_
    refine z_iconst (v := 1) X dL_of_13 (by decide) ?_
    refine z_icmp_ne X 33 dL_of_14 (by decide) (fun c_14 => ?_) (fun c_14 => ?_)
    · skip
      refine z_iload_n X 2 dL_of_33 rfl rfl ?_
      refine z_iconst (v := 2) X dL_of_34 (by decide) ?_
      refine z_icmp_ne X 46 dL_of_35 (by decide) (fun c_35 => ?_) (fun c_35 => ?_)
      · skip
        refine z_aload_n X 0 dL_of_46 rfl rfl ?_
        refine z_iload_n X 1 dL_of_47 rfl rfl ?_
        refine z_ctcVi (As := [.int r]) (rest := []) (n1 := 1) (ci := 10) X dL_of_48 (c_X7_freeSpace l hl0 n i x lm y ol od h.1.1 r) gL_of_X7_freeSpace rfl rfl (by decide +kernel) ⟨by decide, by decide⟩ ck_1 rfl rfl (Nat.le_of_ble_eq_true rfl) ⟨by decide, by decide⟩ (fun E he => ?_) ?_
        · obtain ⟨rfl, c0⟩ := he
          refine ⟨[(0, .ref 1), (1, .int r), (2, .int 3)], 53, ⟨[], ⟨0, 51, 52, 36⟩, [⟨0, 51, 57, 59⟩], 3, 1, rfl, fun _ hz => absurd hz List.not_mem_nil, rfl, by decide, by decide +kernel, by decide +kernel, Or.inl ⟨3, dL_of_52, rfl, rfl⟩, by decide, rfl, rfl⟩, ?_⟩
          refine z_sipush (v := (-1001)) X dL_of_53 (by decide) ?_
          refine z_iret X rfl rfl (Nat.le_of_ble_eq_true rfl) (Nat.le_of_ble_eq_true rfl) dL_of_56 ?_
          exact ⟨_, rfl, ⟨((if_neg c0)).symm, rfl⟩⟩
        rintro _ _ ⟨c0, rfl, rfl⟩
        refine z_iret X rfl rfl (Nat.le_of_ble_eq_true rfl) (Nat.le_of_ble_eq_true rfl) dL_of_51 ?_
        exact ⟨_, rfl, ⟨((if_pos c0)).symm, rfl⟩⟩
      · exact absurd c_35 (by decide)
    · exact absurd c_14 (by decide)
  · exact absurd c_1 (by decide)

set_option maxRecDepth 100000 in
set_option maxHeartbeats 4000000 in
theorem h_mean (l : Launch) (hl0 : l.stackTraces = false) {n : Nat → Nat} {i x : Nat → Nat → Int32} {lm : Nat → Nat → Int64} {y : Nat → Nat → Nat} {t : Nat} (h : xSI n i x lm y t) (ol : Int64) (od : UInt64) (r : Int32) : zS l yL_mean wsL_mean 11 197 4 40 [.ref 1, .int r] (cmm n i x lm y ol od) (zpd (fun v M1 => v = a_mean n i x y r ∧ M1 = cmm n i x lm y ol od)) zno := by
  refine z_introW (cc := cL_mean) (maxL := 3) (ret := (some .double)) (hh := [(0, 5, 6, 36), (0, 5, 11, 67)]) (by decide +kernel) rfl (Nat.le_of_ble_eq_true rfl) ?_
  intro g X
  show zE g 3 0 [(0, .ref 1), (1, .int r)] [] (cmm n i x lm y ol od) 0 0
  refine z_aload_n X 0 dL_mean_0 rfl rfl ?_
  refine z_iload_n X 1 dL_mean_1 rfl rfl ?_
  refine z_ctcVd (As := [.int r]) (rest := []) (n1 := 1) (ci := 10) X dL_mean_2 (c_X7_meanTemperature l hl0 n i x lm y ol od h.1.1 r) gL_mean_X7_meanTemperature rfl rfl (by decide +kernel) ⟨by decide, by decide⟩ ck_1 rfl rfl (Nat.le_of_ble_eq_true rfl) ⟨by decide, by decide⟩ (fun E he => ?_) ?_
  · rcases he with ⟨rfl, c0⟩ | ⟨rfl, c0, c1⟩
    · skip
      refine ⟨[(0, .ref 1), (1, .int r)], 7, ⟨[], ⟨0, 5, 6, 36⟩, [⟨0, 5, 11, 67⟩], 2, 1, rfl, fun _ hz => absurd hz List.not_mem_nil, rfl, by decide, by decide +kernel, by decide +kernel, Or.inl ⟨2, dL_mean_6, rfl, rfl⟩, by decide, rfl, rfl⟩, ?_⟩
      refine z_ldcD (v := 13875388141788987392) X dL_mean_7 (by decide +kernel) ?_
      refine z_dret X rfl (Nat.le_of_ble_eq_true rfl) (Nat.le_of_ble_eq_true rfl) dL_mean_10 ?_
      exact ⟨_, rfl, ⟨((if_neg c0)).symm, rfl⟩⟩
    · skip
      refine ⟨[(0, .ref 1), (1, .int r)], 12, ⟨[⟨0, 5, 6, 36⟩], ⟨0, 5, 11, 67⟩, [], 2, 1, rfl, List.forall_mem_cons.mpr ⟨Or.inr ⟨by decide, "java/lang/IndexOutOfBoundsException", by decide +kernel, by decide +kernel, by decide +kernel⟩, fun _ hz => absurd hz List.not_mem_nil⟩, rfl, by decide, by decide +kernel, by decide +kernel, Or.inl ⟨2, dL_mean_11, rfl, rfl⟩, by decide, rfl, rfl⟩, ?_⟩
      refine z_ldcD (v := 13875396937882009600) X dL_mean_12 (by decide +kernel) ?_
      refine z_dret X rfl (Nat.le_of_ble_eq_true rfl) (Nat.le_of_ble_eq_true rfl) dL_mean_15 ?_
      exact ⟨_, rfl, ⟨(((if_pos c0).trans (if_neg c1))).symm, rfl⟩⟩
  rintro _ _ ⟨c0, c1, rfl, rfl⟩
  refine z_dret X rfl (Nat.le_of_ble_eq_true rfl) (Nat.le_of_ble_eq_true rfl) dL_mean_5 ?_
  exact ⟨_, rfl, ⟨(((if_pos c0).trans (if_pos c1))).symm, rfl⟩⟩

set_option maxRecDepth 100000 in
set_option maxHeartbeats 4000000 in
theorem h_pal0 (l : Launch) (hl0 : l.stackTraces = false) {n : Nat → Nat} {i x : Nat → Nat → Int32} {lm : Nat → Nat → Int64} {y : Nat → Nat → Nat} {t : Nat} (h : xSI n i x lm y t) (ol : Int64) (od : UInt64) (p : Int32) : zS l yL_pallet wsL_pallet 11 196 4 40 [.ref 1, .int p, .int 0] (cmm n i x lm y ol od) (zpi (fun v M1 => v = a_pal0 n i x y p ∧ M1 = cmm n i x lm y ol od)) zno := by
  refine z_introW (cc := cL_pallet) (maxL := 4) (ret := (some .int)) (hh := [(0, 56, 57, 36), (0, 56, 62, 59)]) (by decide +kernel) rfl (Nat.le_of_ble_eq_true rfl) ?_
  intro g X
  show zE g 4 0 [(0, .ref 1), (1, .int p), (2, .int 0)] [] (cmm n i x lm y ol od) 0 0
  refine z_iload_n X 2 dL_pallet_0 rfl rfl ?_
  refine z_if_ne X 12 dL_pallet_1 (by decide) (fun c_1 => ?_) (fun c_1 => ?_)
  · exact absurd c_1 (by decide)
  · skip
    refine z_aload_n X 0 dL_pallet_4 rfl rfl ?_
    refine z_iload_n X 1 dL_pallet_5 rfl rfl ?_
    refine z_ctcVi (As := [.int p]) (rest := []) (n1 := 1) (ci := 10) X dL_pallet_6 (c_X7_life l hl0 n i x lm y ol od h.1.1 p) gL_pallet_X7_life rfl rfl (by decide +kernel) ⟨by decide, by decide⟩ ck_1 rfl rfl (Nat.le_of_ble_eq_true rfl) ⟨by decide, by decide⟩ (fun E he => ?_) ?_
    · obtain ⟨rfl, c0⟩ := he
      refine ⟨[(0, .ref 1), (1, .int p), (2, .int 0)], 58, ⟨[], ⟨0, 56, 57, 36⟩, [⟨0, 56, 62, 59⟩], 3, 1, rfl, fun _ hz => absurd hz List.not_mem_nil, rfl, by decide, by decide +kernel, by decide +kernel, Or.inl ⟨3, dL_pallet_57, rfl, rfl⟩, by decide, rfl, rfl⟩, ?_⟩
      refine z_sipush (v := (-1001)) X dL_pallet_58 (by decide) ?_
      refine z_iret X rfl rfl (Nat.le_of_ble_eq_true rfl) (Nat.le_of_ble_eq_true rfl) dL_pallet_61 ?_
      exact ⟨_, rfl, ⟨((if_neg c0)).symm, rfl⟩⟩
    rintro _ _ ⟨c0, rfl, rfl⟩
    refine z_goto (tgt := 56) X dL_pallet_9 (by decide) ?_
    refine z_iret X rfl rfl (Nat.le_of_ble_eq_true rfl) (Nat.le_of_ble_eq_true rfl) dL_pallet_56 ?_
    exact ⟨_, rfl, ⟨((if_pos c0)).symm, rfl⟩⟩

set_option maxRecDepth 100000 in
set_option maxHeartbeats 4000000 in
theorem h_pal1 (l : Launch) (hl0 : l.stackTraces = false) {n : Nat → Nat} {i x : Nat → Nat → Int32} {lm : Nat → Nat → Int64} {y : Nat → Nat → Nat} {t : Nat} (h : xSI n i x lm y t) (ol : Int64) (od : UInt64) (p : Int32) : zS l yL_pallet wsL_pallet 11 196 4 40 [.ref 1, .int p, .int 1] (cmm n i x lm y ol od) (zpi (fun v M1 => v = a_pal1 n i x y p ∧ M1 = cmm n i x lm y ol od)) zno := by
  refine z_introW (cc := cL_pallet) (maxL := 4) (ret := (some .int)) (hh := [(0, 56, 57, 36), (0, 56, 62, 59)]) (by decide +kernel) rfl (Nat.le_of_ble_eq_true rfl) ?_
  intro g X
  show zE g 4 0 [(0, .ref 1), (1, .int p), (2, .int 1)] [] (cmm n i x lm y ol od) 0 0
  refine z_iload_n X 2 dL_pallet_0 rfl rfl ?_
  refine z_if_ne X 12 dL_pallet_1 (by decide) (fun c_1 => ?_) (fun c_1 => ?_)
  · skip
    refine z_iload_n X 2 dL_pallet_12 rfl rfl ?_
    refine z_iconst (v := 1) X dL_pallet_13 (by decide) ?_
    refine z_icmp_ne X 25 dL_pallet_14 (by decide) (fun c_14 => ?_) (fun c_14 => ?_)
    · exact absurd c_14 (by decide)
    · skip
      refine z_aload_n X 0 dL_pallet_17 rfl rfl ?_
      refine z_iload_n X 1 dL_pallet_18 rfl rfl ?_
      refine z_ctcVi (As := [.int p]) (rest := []) (n1 := 1) (ci := 10) X dL_pallet_19 (c_X7_lifeByRecords l hl0 n i x lm y ol od h.1.1 p t h.1.2.1.2.1 h.1.2.1.1 (s_x4 h.1) (s_x3 h.1)) gL_pallet_X7_lifeByRecords rfl rfl (by decide +kernel) ⟨by decide, by decide⟩ ck_1 rfl rfl (Nat.le_of_ble_eq_true rfl) ⟨by decide, by decide⟩ (fun E he => ?_) ?_
      · obtain ⟨rfl, c0⟩ := he
        refine ⟨[(0, .ref 1), (1, .int p), (2, .int 1)], 58, ⟨[], ⟨0, 56, 57, 36⟩, [⟨0, 56, 62, 59⟩], 3, 1, rfl, fun _ hz => absurd hz List.not_mem_nil, rfl, by decide, by decide +kernel, by decide +kernel, Or.inl ⟨3, dL_pallet_57, rfl, rfl⟩, by decide, rfl, rfl⟩, ?_⟩
        refine z_sipush (v := (-1001)) X dL_pallet_58 (by decide) ?_
        refine z_iret X rfl rfl (Nat.le_of_ble_eq_true rfl) (Nat.le_of_ble_eq_true rfl) dL_pallet_61 ?_
        exact ⟨_, rfl, ⟨((if_neg c0)).symm, rfl⟩⟩
      rintro _ _ ⟨c0, rfl, rfl⟩
      refine z_goto (tgt := 56) X dL_pallet_22 (by decide) ?_
      refine z_iret X rfl rfl (Nat.le_of_ble_eq_true rfl) (Nat.le_of_ble_eq_true rfl) dL_pallet_56 ?_
      exact ⟨_, rfl, ⟨(((if_pos c0).trans (lI_rv h.1 c0.1).1)).symm, rfl⟩⟩
  · exact absurd c_1 (by decide)

set_option maxRecDepth 100000 in
set_option maxHeartbeats 4000000 in
theorem h_pal2 (l : Launch) (hl0 : l.stackTraces = false) {n : Nat → Nat} {i x : Nat → Nat → Int32} {lm : Nat → Nat → Int64} {y : Nat → Nat → Nat} {t : Nat} (h : xSI n i x lm y t) (ol : Int64) (od : UInt64) (p : Int32) : zS l yL_pallet wsL_pallet 11 196 4 40 [.ref 1, .int p, .int 2] (cmm n i x lm y ol od) (zpi (fun v M1 => v = a_pal2 n i x y p ∧ M1 = cmm n i x lm y ol od)) zno := by
  refine z_introW (cc := cL_pallet) (maxL := 4) (ret := (some .int)) (hh := [(0, 56, 57, 36), (0, 56, 62, 59)]) (by decide +kernel) rfl (Nat.le_of_ble_eq_true rfl) ?_
  intro g X
  show zE g 4 0 [(0, .ref 1), (1, .int p), (2, .int 2)] [] (cmm n i x lm y ol od) 0 0
  refine z_iload_n X 2 dL_pallet_0 rfl rfl ?_
  refine z_if_ne X 12 dL_pallet_1 (by decide) (fun c_1 => ?_) (fun c_1 => ?_)
  · skip
    refine z_iload_n X 2 dL_pallet_12 rfl rfl ?_
    refine z_iconst (v := 1) X dL_pallet_13 (by decide) ?_
    refine z_icmp_ne X 25 dL_pallet_14 (by decide) (fun c_14 => ?_) (fun c_14 => ?_)
    · skip
      refine z_iload_n X 2 dL_pallet_25 rfl rfl ?_
      refine z_iconst (v := 2) X dL_pallet_26 (by decide) ?_
      refine z_icmp_ne X 38 dL_pallet_27 (by decide) (fun c_27 => ?_) (fun c_27 => ?_)
      · exact absurd c_27 (by decide)
      · skip
        refine z_aload_n X 0 dL_pallet_30 rfl rfl ?_
        refine z_iload_n X 1 dL_pallet_31 rfl rfl ?_
        refine z_ctcVi (As := [.int p]) (rest := []) (n1 := 1) (ci := 10) X dL_pallet_32 (c_X7_state l hl0 n i x lm y ol od h.1.1 p h.1.2.2.1.2.2.2.1) gL_pallet_X7_state rfl rfl (by decide +kernel) ⟨by decide, by decide⟩ ck_1 rfl rfl (Nat.le_of_ble_eq_true rfl) ⟨by decide, by decide⟩ (fun E he => ?_) ?_
        · obtain ⟨rfl, c0⟩ := he
          refine ⟨[(0, .ref 1), (1, .int p), (2, .int 2)], 58, ⟨[], ⟨0, 56, 57, 36⟩, [⟨0, 56, 62, 59⟩], 3, 1, rfl, fun _ hz => absurd hz List.not_mem_nil, rfl, by decide, by decide +kernel, by decide +kernel, Or.inl ⟨3, dL_pallet_57, rfl, rfl⟩, by decide, rfl, rfl⟩, ?_⟩
          refine z_sipush (v := (-1001)) X dL_pallet_58 (by decide) ?_
          refine z_iret X rfl rfl (Nat.le_of_ble_eq_true rfl) (Nat.le_of_ble_eq_true rfl) dL_pallet_61 ?_
          exact ⟨_, rfl, ⟨((if_neg c0)).symm, rfl⟩⟩
        rintro _ _ ⟨c0, rfl, rfl⟩
        refine z_goto (tgt := 56) X dL_pallet_35 (by decide) ?_
        refine z_iret X rfl rfl (Nat.le_of_ble_eq_true rfl) (Nat.le_of_ble_eq_true rfl) dL_pallet_56 ?_
        exact ⟨_, rfl, ⟨((if_pos c0)).symm, rfl⟩⟩
    · exact absurd c_14 (by decide)
  · exact absurd c_1 (by decide)

set_option maxRecDepth 100000 in
set_option maxHeartbeats 4000000 in
theorem h_pal3 (l : Launch) (hl0 : l.stackTraces = false) {n : Nat → Nat} {i x : Nat → Nat → Int32} {lm : Nat → Nat → Int64} {y : Nat → Nat → Nat} {t : Nat} (h : xSI n i x lm y t) (ol : Int64) (od : UInt64) (p : Int32) : zS l yL_pallet wsL_pallet 11 197 4 40 [.ref 1, .int p, .int 3] (cmm n i x lm y ol od) (zpi (fun v M1 => v = a_pal3 n i x y p ∧ M1 = cmm n i x lm y ol od)) zno := by
  refine z_introW (cc := cL_pallet) (maxL := 4) (ret := (some .int)) (hh := [(0, 56, 57, 36), (0, 56, 62, 59)]) (by decide +kernel) rfl (Nat.le_of_ble_eq_true rfl) ?_
  intro g X
  show zE g 4 0 [(0, .ref 1), (1, .int p), (2, .int 3)] [] (cmm n i x lm y ol od) 0 0
  refine z_iload_n X 2 dL_pallet_0 rfl rfl ?_
  refine z_if_ne X 12 dL_pallet_1 (by decide) (fun c_1 => ?_) (fun c_1 => ?_)
  · skip
    refine z_iload_n X 2 dL_pallet_12 rfl rfl ?_
    refine z_iconst (v := 1) X dL_pallet_13 (by decide) ?_
    refine z_icmp_ne X 25 dL_pallet_14 (by decide) (fun c_14 => ?_) (fun c_14 => ?_)
    · skip
      refine z_iload_n X 2 dL_pallet_25 rfl rfl ?_
      refine z_iconst (v := 2) X dL_pallet_26 (by decide) ?_
      refine z_icmp_ne X 38 dL_pallet_27 (by decide) (fun c_27 => ?_) (fun c_27 => ?_)
      · skip
        refine z_iload_n X 2 dL_pallet_38 rfl rfl ?_
        refine z_iconst (v := 3) X dL_pallet_39 (by decide) ?_
        refine z_icmp_ne X 51 dL_pallet_40 (by decide) (fun c_40 => ?_) (fun c_40 => ?_)
        · exact absurd c_40 (by decide)
        · skip
          refine z_aload_n X 0 dL_pallet_43 rfl rfl ?_
          refine z_iload_n X 1 dL_pallet_44 rfl rfl ?_
          refine z_ctcVi (As := [.int p]) (rest := []) (n1 := 1) (ci := 10) X dL_pallet_45 (c_X7_roomOf l hl0 n i x lm y ol od h.1.1 p) gL_pallet_X7_roomOf rfl rfl (by decide +kernel) ⟨by decide, by decide⟩ ck_1 rfl rfl (Nat.le_of_ble_eq_true rfl) ⟨by decide, by decide⟩ (fun E he => ?_) ?_
          · rcases he with ⟨rfl, c0⟩ | ⟨rfl, c0, c1⟩
            · skip
              refine ⟨[(0, .ref 1), (1, .int p), (2, .int 3)], 58, ⟨[], ⟨0, 56, 57, 36⟩, [⟨0, 56, 62, 59⟩], 3, 1, rfl, fun _ hz => absurd hz List.not_mem_nil, rfl, by decide, by decide +kernel, by decide +kernel, Or.inl ⟨3, dL_pallet_57, rfl, rfl⟩, by decide, rfl, rfl⟩, ?_⟩
              refine z_sipush (v := (-1001)) X dL_pallet_58 (by decide) ?_
              refine z_iret X rfl rfl (Nat.le_of_ble_eq_true rfl) (Nat.le_of_ble_eq_true rfl) dL_pallet_61 ?_
              exact ⟨_, rfl, ⟨((if_neg c0)).symm, rfl⟩⟩
            · skip
              refine ⟨[(0, .ref 1), (1, .int p), (2, .int 3)], 63, ⟨[⟨0, 56, 57, 36⟩], ⟨0, 56, 62, 59⟩, [], 3, 1, rfl, List.forall_mem_cons.mpr ⟨Or.inr ⟨by decide, "java/lang/IndexOutOfBoundsException", by decide +kernel, by decide +kernel, by decide +kernel⟩, fun _ hz => absurd hz List.not_mem_nil⟩, rfl, by decide, by decide +kernel, by decide +kernel, Or.inl ⟨3, dL_pallet_62, rfl, rfl⟩, by decide, rfl, rfl⟩, ?_⟩
              refine z_sipush (v := (-1002)) X dL_pallet_63 (by decide) ?_
              refine z_iret X rfl rfl (Nat.le_of_ble_eq_true rfl) (Nat.le_of_ble_eq_true rfl) dL_pallet_66 ?_
              exact ⟨_, rfl, ⟨(((if_pos c0).trans (if_neg c1))).symm, rfl⟩⟩
          rintro _ _ ⟨c0, c1, rfl, rfl⟩
          refine z_goto (tgt := 56) X dL_pallet_48 (by decide) ?_
          refine z_iret X rfl rfl (Nat.le_of_ble_eq_true rfl) (Nat.le_of_ble_eq_true rfl) dL_pallet_56 ?_
          exact ⟨_, rfl, ⟨(((if_pos c0).trans (if_pos c1))).symm, rfl⟩⟩
      · exact absurd c_27 (by decide)
    · exact absurd c_14 (by decide)
  · exact absurd c_1 (by decide)

set_option maxRecDepth 100000 in
set_option maxHeartbeats 4000000 in
theorem h_fore (l : Launch) (hl0 : l.stackTraces = false) {n : Nat → Nat} {i x : Nat → Nat → Int32} {lm : Nat → Nat → Int64} {y : Nat → Nat → Nat} {t : Nat} (h : xSI n i x lm y t) (ol : Int64) (od : UInt64) (p : Int32) (u : Int32) : zS l yL_forecast wsL_forecast 11 199 4 40 [.ref 1, .int p, .int u] (cmm n i x lm y ol od) (zpi (fun v M1 => v = a_fore n i x y p u ∧ M1 = cmm n i x lm y ol od)) zno := by
  refine z_introW (cc := cL_forecast) (maxL := 4) (ret := (some .int)) (hh := [(0, 6, 7, 36), (0, 6, 12, 59), (0, 6, 17, 13)]) (by decide +kernel) rfl (Nat.le_of_ble_eq_true rfl) ?_
  intro g X
  show zE g 4 0 [(0, .ref 1), (1, .int p), (2, .int u)] [] (cmm n i x lm y ol od) 0 0
  refine z_aload_n X 0 dL_forecast_0 rfl rfl ?_
  refine z_iload_n X 1 dL_forecast_1 rfl rfl ?_
  refine z_iload_n X 2 dL_forecast_2 rfl rfl ?_
  refine z_ctcVi (As := [.int p, .int u]) (rest := []) (n1 := 2) (ci := 10) X dL_forecast_3 (c_X7_forecast l hl0 n i x lm y ol od h.1.1 p u) gL_forecast_X7_forecast rfl rfl (by decide +kernel) ⟨by decide, by decide⟩ ck_1 rfl rfl (Nat.le_of_ble_eq_true rfl) ⟨by decide, by decide⟩ (fun E he => ?_) ?_
  · rcases he with ⟨rfl, c0⟩ | ⟨rfl, c0, c1⟩ | ⟨rfl, c0, c1, c2⟩
    · skip
      refine ⟨[(0, .ref 1), (1, .int p), (2, .int u)], 8, ⟨[], ⟨0, 6, 7, 36⟩, [⟨0, 6, 12, 59⟩, ⟨0, 6, 17, 13⟩], 3, 1, rfl, fun _ hz => absurd hz List.not_mem_nil, rfl, by decide, by decide +kernel, by decide +kernel, Or.inl ⟨3, dL_forecast_7, rfl, rfl⟩, by decide, rfl, rfl⟩, ?_⟩
      refine z_sipush (v := (-1001)) X dL_forecast_8 (by decide) ?_
      refine z_iret X rfl rfl (Nat.le_of_ble_eq_true rfl) (Nat.le_of_ble_eq_true rfl) dL_forecast_11 ?_
      exact ⟨_, rfl, ⟨((if_neg c0)).symm, rfl⟩⟩
    · skip
      refine ⟨[(0, .ref 1), (1, .int p), (2, .int u)], 13, ⟨[⟨0, 6, 7, 36⟩], ⟨0, 6, 12, 59⟩, [⟨0, 6, 17, 13⟩], 3, 1, rfl, List.forall_mem_cons.mpr ⟨Or.inr ⟨by decide, "java/lang/IndexOutOfBoundsException", by decide +kernel, by decide +kernel, by decide +kernel⟩, fun _ hz => absurd hz List.not_mem_nil⟩, rfl, by decide, by decide +kernel, by decide +kernel, Or.inl ⟨3, dL_forecast_12, rfl, rfl⟩, by decide, rfl, rfl⟩, ?_⟩
      refine z_sipush (v := (-1002)) X dL_forecast_13 (by decide) ?_
      refine z_iret X rfl rfl (Nat.le_of_ble_eq_true rfl) (Nat.le_of_ble_eq_true rfl) dL_forecast_16 ?_
      exact ⟨_, rfl, ⟨(((if_pos c0).trans (if_neg c1))).symm, rfl⟩⟩
    · skip
      refine ⟨[(0, .ref 1), (1, .int p), (2, .int u)], 18, ⟨[⟨0, 6, 7, 36⟩, ⟨0, 6, 12, 59⟩], ⟨0, 6, 17, 13⟩, [], 3, 1, rfl, List.forall_mem_cons.mpr ⟨Or.inr ⟨by decide, "java/lang/IndexOutOfBoundsException", by decide +kernel, by decide +kernel, by decide +kernel⟩, List.forall_mem_cons.mpr ⟨Or.inr ⟨by decide, "java/util/NoSuchElementException", by decide +kernel, by decide +kernel, by decide +kernel⟩, fun _ hz => absurd hz List.not_mem_nil⟩⟩, rfl, by decide, by decide +kernel, by decide +kernel, Or.inl ⟨3, dL_forecast_17, rfl, rfl⟩, by decide, rfl, rfl⟩, ?_⟩
      refine z_sipush (v := (-1003)) X dL_forecast_18 (by decide) ?_
      refine z_iret X rfl rfl (Nat.le_of_ble_eq_true rfl) (Nat.le_of_ble_eq_true rfl) dL_forecast_21 ?_
      exact ⟨_, rfl, ⟨(((if_pos c0).trans ((if_pos c1).trans (if_neg c2)))).symm, rfl⟩⟩
  rintro _ _ ⟨c0, c1, c2, rfl, rfl⟩
  refine z_iret X rfl rfl (Nat.le_of_ble_eq_true rfl) (Nat.le_of_ble_eq_true rfl) dL_forecast_6 ?_
  exact ⟨_, rfl, ⟨(((if_pos c0).trans ((if_pos c1).trans (if_pos c2)))).symm, rfl⟩⟩

set_option maxRecDepth 100000 in
set_option maxHeartbeats 4000000 in
theorem h_soon (l : Launch) (hl0 : l.stackTraces = false) {n : Nat → Nat} {i x : Nat → Nat → Int32} {lm : Nat → Nat → Int64} {y : Nat → Nat → Nat} {t : Nat} (h : xSI n i x lm y t) (ol : Int64) (od : UInt64) : zS l yL_soonest wsL_soonest 10 177 4 40 [.ref 1] (cmm n i x lm y ol od) (zpi (fun v M1 => v = a_soon n i x y ∧ M1 = cmm n i x lm y ol od)) zno := by
  refine z_introW (cc := cL_soonest) (maxL := 2) (ret := (some .int)) (hh := [(0, 4, 5, 59)]) (by decide +kernel) rfl (Nat.le_of_ble_eq_true rfl) ?_
  intro g X
  show zE g 2 0 [(0, .ref 1)] [] (cmm n i x lm y ol od) 0 0
  refine z_aload_n X 0 dL_soonest_0 rfl rfl ?_
  refine z_ctcVi (As := []) (rest := []) (n1 := 0) (ci := 10) X dL_soonest_1 (c_X7_soonest l hl0 n i x lm y ol od h.1.1) gL_soonest_X7_soonest rfl rfl (by decide +kernel) ⟨by decide, by decide⟩ ck_1 rfl rfl (Nat.le_of_ble_eq_true rfl) ⟨by decide, by decide⟩ (fun E he => ?_) ?_
  · obtain ⟨rfl, c0⟩ := he
    refine ⟨[(0, .ref 1)], 6, ⟨[], ⟨0, 4, 5, 59⟩, [], 1, 1, rfl, fun _ hz => absurd hz List.not_mem_nil, rfl, by decide, by decide +kernel, by decide +kernel, Or.inl ⟨1, dL_soonest_5, rfl, rfl⟩, by decide, rfl, rfl⟩, ?_⟩
    refine z_sipush (v := (-1001)) X dL_soonest_6 (by decide) ?_
    refine z_iret X rfl rfl (Nat.le_of_ble_eq_true rfl) (Nat.le_of_ble_eq_true rfl) dL_soonest_9 ?_
    exact ⟨_, rfl, ⟨((if_neg c0)).symm, rfl⟩⟩
  rintro _ _ ⟨c0, rfl, rfl⟩
  refine z_iret X rfl rfl (Nat.le_of_ble_eq_true rfl) (Nat.le_of_ble_eq_true rfl) dL_soonest_4 ?_
  exact ⟨_, rfl, ⟨((if_pos c0)).symm, rfl⟩⟩

set_option maxRecDepth 100000 in
set_option maxHeartbeats 4000000 in
theorem h_lost (l : Launch) (hl0 : l.stackTraces = false) {n : Nat → Nat} {i x : Nat → Nat → Int32} {lm : Nat → Nat → Int64} {y : Nat → Nat → Nat} {t : Nat} (h : xSI n i x lm y t) (ol : Int64) (od : UInt64) : zS l yL_lost wsL_lost 10 177 4 40 [.ref 1] (cmm n i x lm y ol od) (zpf (fun v M1 => v = a_lost n i x y ∧ M1 = cmm n i x lm y ol od)) zno := by
  refine z_introW (cc := cL_lost) (maxL := 2) (ret := (some .float)) (hh := [(0, 4, 5, 67)]) (by decide +kernel) rfl (Nat.le_of_ble_eq_true rfl) ?_
  intro g X
  show zE g 2 0 [(0, .ref 1)] [] (cmm n i x lm y ol od) 0 0
  refine z_aload_n X 0 dL_lost_0 rfl rfl ?_
  refine z_ctcVf (As := []) (rest := []) (n1 := 0) (ci := 10) X dL_lost_1 (c_X7_lostShare l hl0 n i x lm y ol od h.1.1) gL_lost_X7_lostShare rfl rfl (by decide +kernel) ⟨by decide, by decide⟩ ck_1 rfl rfl (Nat.le_of_ble_eq_true rfl) ⟨by decide, by decide⟩ (fun E he => ?_) ?_
  · obtain ⟨rfl, c0⟩ := he
    refine ⟨[(0, .ref 1)], 6, ⟨[], ⟨0, 4, 5, 67⟩, [], 1, 1, rfl, fun _ hz => absurd hz List.not_mem_nil, rfl, by decide, by decide +kernel, by decide +kernel, Or.inl ⟨1, dL_lost_5, rfl, rfl⟩, by decide, rfl, rfl⟩, ?_⟩
    refine z_ldcF (v := 3212836864) X dL_lost_6 (by decide +kernel) ?_
    refine z_fret X rfl (Nat.le_of_ble_eq_true rfl) (Nat.le_of_ble_eq_true rfl) dL_lost_8 ?_
    exact ⟨_, rfl, ⟨((if_neg c0)).symm, rfl⟩⟩
  rintro _ _ ⟨c0, rfl, rfl⟩
  refine z_fret X rfl (Nat.le_of_ble_eq_true rfl) (Nat.le_of_ble_eq_true rfl) dL_lost_4 ?_
  exact ⟨_, rfl, ⟨((if_pos c0)).symm, rfl⟩⟩

set_option maxRecDepth 100000 in
set_option maxHeartbeats 4000000 in
theorem h_ord2 (l : Launch) (hl0 : l.stackTraces = false) {n : Nat → Nat} {i x : Nat → Nat → Int32} {lm : Nat → Nat → Int64} {y : Nat → Nat → Nat} {t : Nat} (h : xSI n i x lm y t) (ol : Int64) (od : UInt64) (o : Int32) : zS l yL_orders wsL_orders 11 198 4 40 [.ref 1, .int o, .int 2] (cmm n i x lm y ol od) (zpi (fun v M1 => v = a_ord2 n i x y o ∧ M1 = cmm n i x lm y ol od)) zno := by
  refine z_introW (cc := cL_orders) (maxL := 4) (ret := (some .int)) (hh := [(0, 73, 74, 36), (0, 73, 79, 15), (0, 73, 84, 59), (0, 73, 89, 130)]) (by decide +kernel) rfl (Nat.le_of_ble_eq_true rfl) ?_
  intro g X
  show zE g 4 0 [(0, .ref 1), (1, .int o), (2, .int 2)] [] (cmm n i x lm y ol od) 0 0
  refine z_iload_n X 2 dL_orders_0 rfl rfl ?_
  refine z_if_ne X 12 dL_orders_1 (by decide) (fun c_1 => ?_) (fun c_1 => ?_)
  · skip
    refine z_iload_n X 2 dL_orders_12 rfl rfl ?_
    refine z_iconst (v := 1) X dL_orders_13 (by decide) ?_
    refine z_icmp_ne X 25 dL_orders_14 (by decide) (fun c_14 => ?_) (fun c_14 => ?_)
    · skip
      refine z_iload_n X 2 dL_orders_25 rfl rfl ?_
      refine z_iconst (v := 2) X dL_orders_26 (by decide) ?_
      refine z_icmp_ne X 38 dL_orders_27 (by decide) (fun c_27 => ?_) (fun c_27 => ?_)
      · exact absurd c_27 (by decide)
      · skip
        refine z_aload_n X 0 dL_orders_30 rfl rfl ?_
        refine z_iload_n X 1 dL_orders_31 rfl rfl ?_
        refine z_ctcVi (As := [.int o]) (rest := []) (n1 := 1) (ci := 10) X dL_orders_32 (c_X7_candidates l hl0 n i x lm y ol od h.1.1 o) gL_orders_X7_candidates rfl rfl (by decide +kernel) ⟨by decide, by decide⟩ ck_1 rfl rfl (Nat.le_of_ble_eq_true rfl) ⟨by decide, by decide⟩ (fun E he => ?_) ?_
        · obtain ⟨rfl, c0⟩ := he
          refine ⟨[(0, .ref 1), (1, .int o), (2, .int 2)], 75, ⟨[], ⟨0, 73, 74, 36⟩, [⟨0, 73, 79, 15⟩, ⟨0, 73, 84, 59⟩, ⟨0, 73, 89, 130⟩], 3, 1, rfl, fun _ hz => absurd hz List.not_mem_nil, rfl, by decide, by decide +kernel, by decide +kernel, Or.inl ⟨3, dL_orders_74, rfl, rfl⟩, by decide, rfl, rfl⟩, ?_⟩
          refine z_sipush (v := (-1001)) X dL_orders_75 (by decide) ?_
          refine z_iret X rfl rfl (Nat.le_of_ble_eq_true rfl) (Nat.le_of_ble_eq_true rfl) dL_orders_78 ?_
          exact ⟨_, rfl, ⟨((if_neg c0)).symm, rfl⟩⟩
        rintro _ _ ⟨c0, rfl, rfl⟩
        refine z_goto (tgt := 73) X dL_orders_35 (by decide) ?_
        refine z_iret X rfl rfl (Nat.le_of_ble_eq_true rfl) (Nat.le_of_ble_eq_true rfl) dL_orders_73 ?_
        exact ⟨_, rfl, ⟨((if_pos c0)).symm, rfl⟩⟩
    · exact absurd c_14 (by decide)
  · exact absurd c_1 (by decide)

set_option maxRecDepth 100000 in
set_option maxHeartbeats 4000000 in
theorem h_ord3 (l : Launch) (hl0 : l.stackTraces = false) {n : Nat → Nat} {i x : Nat → Nat → Int32} {lm : Nat → Nat → Int64} {y : Nat → Nat → Nat} {t : Nat} (h : xSI n i x lm y t) (ol : Int64) (od : UInt64) (o : Int32) : zS l yL_orders wsL_orders 11 196 4 40 [.ref 1, .int o, .int 3] (cmm n i x lm y ol od) (zpi (fun v M1 => v = a_ord3 n i x y o ∧ M1 = cmm n i x lm y ol od)) zno := by
  refine z_introW (cc := cL_orders) (maxL := 4) (ret := (some .int)) (hh := [(0, 73, 74, 36), (0, 73, 79, 15), (0, 73, 84, 59), (0, 73, 89, 130)]) (by decide +kernel) rfl (Nat.le_of_ble_eq_true rfl) ?_
  intro g X
  show zE g 4 0 [(0, .ref 1), (1, .int o), (2, .int 3)] [] (cmm n i x lm y ol od) 0 0
  refine z_iload_n X 2 dL_orders_0 rfl rfl ?_
  refine z_if_ne X 12 dL_orders_1 (by decide) (fun c_1 => ?_) (fun c_1 => ?_)
  · skip
    refine z_iload_n X 2 dL_orders_12 rfl rfl ?_
    refine z_iconst (v := 1) X dL_orders_13 (by decide) ?_
    refine z_icmp_ne X 25 dL_orders_14 (by decide) (fun c_14 => ?_) (fun c_14 => ?_)
    · skip
      refine z_iload_n X 2 dL_orders_25 rfl rfl ?_
      refine z_iconst (v := 2) X dL_orders_26 (by decide) ?_
      refine z_icmp_ne X 38 dL_orders_27 (by decide) (fun c_27 => ?_) (fun c_27 => ?_)
      · skip
        refine z_iload_n X 2 dL_orders_38 rfl rfl ?_
        refine z_iconst (v := 3) X dL_orders_39 (by decide) ?_
        refine z_icmp_ne X 51 dL_orders_40 (by decide) (fun c_40 => ?_) (fun c_40 => ?_)
        · exact absurd c_40 (by decide)
        · skip
          refine z_aload_n X 0 dL_orders_43 rfl rfl ?_
          refine z_iload_n X 1 dL_orders_44 rfl rfl ?_
          refine z_ctcVi (As := [.int o]) (rest := []) (n1 := 1) (ci := 10) X dL_orders_45 (c_X7_orderState l hl0 n i x lm y ol od h.1.1 o h.1.2.2.1.2.2.2.2) gL_orders_X7_orderState rfl rfl (by decide +kernel) ⟨by decide, by decide⟩ ck_1 rfl rfl (Nat.le_of_ble_eq_true rfl) ⟨by decide, by decide⟩ (fun E he => ?_) ?_
          · obtain ⟨rfl, c0⟩ := he
            refine ⟨[(0, .ref 1), (1, .int o), (2, .int 3)], 75, ⟨[], ⟨0, 73, 74, 36⟩, [⟨0, 73, 79, 15⟩, ⟨0, 73, 84, 59⟩, ⟨0, 73, 89, 130⟩], 3, 1, rfl, fun _ hz => absurd hz List.not_mem_nil, rfl, by decide, by decide +kernel, by decide +kernel, Or.inl ⟨3, dL_orders_74, rfl, rfl⟩, by decide, rfl, rfl⟩, ?_⟩
            refine z_sipush (v := (-1001)) X dL_orders_75 (by decide) ?_
            refine z_iret X rfl rfl (Nat.le_of_ble_eq_true rfl) (Nat.le_of_ble_eq_true rfl) dL_orders_78 ?_
            exact ⟨_, rfl, ⟨((if_neg c0)).symm, rfl⟩⟩
          rintro _ _ ⟨c0, rfl, rfl⟩
          refine z_goto (tgt := 73) X dL_orders_48 (by decide) ?_
          refine z_iret X rfl rfl (Nat.le_of_ble_eq_true rfl) (Nat.le_of_ble_eq_true rfl) dL_orders_73 ?_
          exact ⟨_, rfl, ⟨((if_pos c0)).symm, rfl⟩⟩
      · exact absurd c_27 (by decide)
    · exact absurd c_14 (by decide)
  · exact absurd c_1 (by decide)

set_option maxRecDepth 100000 in
set_option maxHeartbeats 4000000 in
theorem h_ord4 (l : Launch) (hl0 : l.stackTraces = false) {n : Nat → Nat} {i x : Nat → Nat → Int32} {lm : Nat → Nat → Int64} {y : Nat → Nat → Nat} {t : Nat} (h : xSI n i x lm y t) (ol : Int64) (od : UInt64) (o : Int32) : zS l yL_orders wsL_orders 11 197 4 40 [.ref 1, .int o, .int 4] (cmm n i x lm y ol od) (zpi (fun v M1 => v = a_ord4 n i x y o ∧ M1 = cmm n i x lm y ol od)) zno := by
  refine z_introW (cc := cL_orders) (maxL := 4) (ret := (some .int)) (hh := [(0, 73, 74, 36), (0, 73, 79, 15), (0, 73, 84, 59), (0, 73, 89, 130)]) (by decide +kernel) rfl (Nat.le_of_ble_eq_true rfl) ?_
  intro g X
  show zE g 4 0 [(0, .ref 1), (1, .int o), (2, .int 4)] [] (cmm n i x lm y ol od) 0 0
  refine z_iload_n X 2 dL_orders_0 rfl rfl ?_
  refine z_if_ne X 12 dL_orders_1 (by decide) (fun c_1 => ?_) (fun c_1 => ?_)
  · skip
    refine z_iload_n X 2 dL_orders_12 rfl rfl ?_
    refine z_iconst (v := 1) X dL_orders_13 (by decide) ?_
    refine z_icmp_ne X 25 dL_orders_14 (by decide) (fun c_14 => ?_) (fun c_14 => ?_)
    · skip
      refine z_iload_n X 2 dL_orders_25 rfl rfl ?_
      refine z_iconst (v := 2) X dL_orders_26 (by decide) ?_
      refine z_icmp_ne X 38 dL_orders_27 (by decide) (fun c_27 => ?_) (fun c_27 => ?_)
      · skip
        refine z_iload_n X 2 dL_orders_38 rfl rfl ?_
        refine z_iconst (v := 3) X dL_orders_39 (by decide) ?_
        refine z_icmp_ne X 51 dL_orders_40 (by decide) (fun c_40 => ?_) (fun c_40 => ?_)
        · skip
          refine z_iload_n X 2 dL_orders_51 rfl rfl ?_
          refine z_iconst (v := 4) X dL_orders_52 (by decide) ?_
          refine z_icmp_ne X 64 dL_orders_53 (by decide) (fun c_53 => ?_) (fun c_53 => ?_)
          · exact absurd c_53 (by decide)
          · skip
            refine z_aload_n X 0 dL_orders_56 rfl rfl ?_
            refine z_iload_n X 1 dL_orders_57 rfl rfl ?_
            refine z_ctcVi (As := [.int o]) (rest := []) (n1 := 1) (ci := 10) X dL_orders_58 (c_X7_leastShipped l hl0 n i x lm y ol od h.1.1 o) gL_orders_X7_leastShipped rfl rfl (by decide +kernel) ⟨by decide, by decide⟩ ck_1 rfl rfl (Nat.le_of_ble_eq_true rfl) ⟨by decide, by decide⟩ (fun E he => ?_) ?_
            · rcases he with ⟨rfl, c0⟩ | ⟨rfl, c0, c1⟩
              · skip
                refine ⟨[(0, .ref 1), (1, .int o), (2, .int 4)], 75, ⟨[], ⟨0, 73, 74, 36⟩, [⟨0, 73, 79, 15⟩, ⟨0, 73, 84, 59⟩, ⟨0, 73, 89, 130⟩], 3, 1, rfl, fun _ hz => absurd hz List.not_mem_nil, rfl, by decide, by decide +kernel, by decide +kernel, Or.inl ⟨3, dL_orders_74, rfl, rfl⟩, by decide, rfl, rfl⟩, ?_⟩
                refine z_sipush (v := (-1001)) X dL_orders_75 (by decide) ?_
                refine z_iret X rfl rfl (Nat.le_of_ble_eq_true rfl) (Nat.le_of_ble_eq_true rfl) dL_orders_78 ?_
                exact ⟨_, rfl, ⟨((if_neg c0)).symm, rfl⟩⟩
              · skip
                refine ⟨[(0, .ref 1), (1, .int o), (2, .int 4)], 85, ⟨[⟨0, 73, 74, 36⟩, ⟨0, 73, 79, 15⟩], ⟨0, 73, 84, 59⟩, [⟨0, 73, 89, 130⟩], 3, 1, rfl, List.forall_mem_cons.mpr ⟨Or.inr ⟨by decide, "java/lang/IndexOutOfBoundsException", by decide +kernel, by decide +kernel, by decide +kernel⟩, List.forall_mem_cons.mpr ⟨Or.inr ⟨by decide, "java/lang/IllegalStateException", by decide +kernel, by decide +kernel, by decide +kernel⟩, fun _ hz => absurd hz List.not_mem_nil⟩⟩, rfl, by decide, by decide +kernel, by decide +kernel, Or.inl ⟨3, dL_orders_84, rfl, rfl⟩, by decide, rfl, rfl⟩, ?_⟩
                refine z_sipush (v := (-1002)) X dL_orders_85 (by decide) ?_
                refine z_iret X rfl rfl (Nat.le_of_ble_eq_true rfl) (Nat.le_of_ble_eq_true rfl) dL_orders_88 ?_
                exact ⟨_, rfl, ⟨(((if_pos c0).trans (if_neg c1))).symm, rfl⟩⟩
            rintro _ _ ⟨c0, c1, rfl, rfl⟩
            refine z_goto (tgt := 73) X dL_orders_61 (by decide) ?_
            refine z_iret X rfl rfl (Nat.le_of_ble_eq_true rfl) (Nat.le_of_ble_eq_true rfl) dL_orders_73 ?_
            exact ⟨_, rfl, ⟨(((if_pos c0).trans (if_pos c1))).symm, rfl⟩⟩
        · exact absurd c_40 (by decide)
      · exact absurd c_27 (by decide)
    · exact absurd c_14 (by decide)
  · exact absurd c_1 (by decide)

set_option maxRecDepth 100000 in
set_option maxHeartbeats 4000000 in
theorem h_ordA (l : Launch) (hl0 : l.stackTraces = false) {n : Nat → Nat} {i x : Nat → Nat → Int32} {lm : Nat → Nat → Int64} {y : Nat → Nat → Nat} {t : Nat} (h : xSI n i x lm y t) (ol : Int64) (od : UInt64) (o : Int32) (u : Int32) (hv : ¬ u = 0 ∧ ¬ u = 1 ∧ ¬ u = 2 ∧ ¬ u = 3 ∧ ¬ u = 4) : zS l yL_orders wsL_orders 12 228 4 40 [.ref 1, .int o, .int u] (cmm n i x lm y ol od) (zpi (fun v M1 => v = a_ordA n i x y o u ∧ M1 = cmm n i x lm y ol od)) zno := by
  refine z_introW (cc := cL_orders) (maxL := 4) (ret := (some .int)) (hh := [(0, 73, 74, 36), (0, 73, 79, 15), (0, 73, 84, 59), (0, 73, 89, 130)]) (by decide +kernel) rfl (Nat.le_of_ble_eq_true rfl) ?_
  intro g X
  show zE g 4 0 [(0, .ref 1), (1, .int o), (2, .int u)] [] (cmm n i x lm y ol od) 0 0
  refine z_iload_n X 2 dL_orders_0 rfl rfl ?_
  refine z_if_ne X 12 dL_orders_1 (by decide) (fun c_1 => ?_) (fun c_1 => ?_)
  · skip
    refine z_iload_n X 2 dL_orders_12 rfl rfl ?_
    refine z_iconst (v := 1) X dL_orders_13 (by decide) ?_
    refine z_icmp_ne X 25 dL_orders_14 (by decide) (fun c_14 => ?_) (fun c_14 => ?_)
    · skip
      refine z_iload_n X 2 dL_orders_25 rfl rfl ?_
      refine z_iconst (v := 2) X dL_orders_26 (by decide) ?_
      refine z_icmp_ne X 38 dL_orders_27 (by decide) (fun c_27 => ?_) (fun c_27 => ?_)
      · skip
        refine z_iload_n X 2 dL_orders_38 rfl rfl ?_
        refine z_iconst (v := 3) X dL_orders_39 (by decide) ?_
        refine z_icmp_ne X 51 dL_orders_40 (by decide) (fun c_40 => ?_) (fun c_40 => ?_)
        · skip
          refine z_iload_n X 2 dL_orders_51 rfl rfl ?_
          refine z_iconst (v := 4) X dL_orders_52 (by decide) ?_
          refine z_icmp_ne X 64 dL_orders_53 (by decide) (fun c_53 => ?_) (fun c_53 => ?_)
          · skip
            refine z_aload_n X 0 dL_orders_64 rfl rfl ?_
            refine z_iload_n X 1 dL_orders_65 rfl rfl ?_
            refine z_iload_n X 2 dL_orders_66 rfl rfl ?_
            refine z_bipush (v := 10) X dL_orders_67 (by decide) ?_
            refine z_isub X dL_orders_69 ?_
            refine z_ctcVi (As := [.int o, .int (u - 10)]) (rest := []) (n1 := 2) (ci := 10) X dL_orders_70 (c_X7_candidateAt l hl0 n i x lm y ol od h.1.1 o (u - 10)) gL_orders_X7_candidateAt rfl rfl (by decide +kernel) ⟨by decide, by decide⟩ ck_1 rfl rfl (Nat.le_of_ble_eq_true rfl) ⟨by decide, by decide⟩ (fun E he => ?_) ?_
            · rcases he with ⟨rfl, c0⟩ | ⟨rfl, c0, c1⟩
              · skip
                refine ⟨[(0, .ref 1), (1, .int o), (2, .int u)], 75, ⟨[], ⟨0, 73, 74, 36⟩, [⟨0, 73, 79, 15⟩, ⟨0, 73, 84, 59⟩, ⟨0, 73, 89, 130⟩], 3, 1, rfl, fun _ hz => absurd hz List.not_mem_nil, rfl, by decide, by decide +kernel, by decide +kernel, Or.inl ⟨3, dL_orders_74, rfl, rfl⟩, by decide, rfl, rfl⟩, ?_⟩
                refine z_sipush (v := (-1001)) X dL_orders_75 (by decide) ?_
                refine z_iret X rfl rfl (Nat.le_of_ble_eq_true rfl) (Nat.le_of_ble_eq_true rfl) dL_orders_78 ?_
                exact ⟨_, rfl, ⟨((if_neg c0)).symm, rfl⟩⟩
              · skip
                refine ⟨[(0, .ref 1), (1, .int o), (2, .int u)], 85, ⟨[⟨0, 73, 74, 36⟩, ⟨0, 73, 79, 15⟩], ⟨0, 73, 84, 59⟩, [⟨0, 73, 89, 130⟩], 3, 1, rfl, List.forall_mem_cons.mpr ⟨Or.inr ⟨by decide, "java/lang/IndexOutOfBoundsException", by decide +kernel, by decide +kernel, by decide +kernel⟩, List.forall_mem_cons.mpr ⟨Or.inr ⟨by decide, "java/lang/IllegalStateException", by decide +kernel, by decide +kernel, by decide +kernel⟩, fun _ hz => absurd hz List.not_mem_nil⟩⟩, rfl, by decide, by decide +kernel, by decide +kernel, Or.inl ⟨3, dL_orders_84, rfl, rfl⟩, by decide, rfl, rfl⟩, ?_⟩
                refine z_sipush (v := (-1002)) X dL_orders_85 (by decide) ?_
                refine z_iret X rfl rfl (Nat.le_of_ble_eq_true rfl) (Nat.le_of_ble_eq_true rfl) dL_orders_88 ?_
                exact ⟨_, rfl, ⟨(((if_pos c0).trans (if_neg c1))).symm, rfl⟩⟩
            rintro _ _ ⟨c0, c1, rfl, rfl⟩
            refine z_iret X rfl rfl (Nat.le_of_ble_eq_true rfl) (Nat.le_of_ble_eq_true rfl) dL_orders_73 ?_
            exact ⟨_, rfl, ⟨(((if_pos c0).trans (if_pos c1))).symm, rfl⟩⟩
          · exact absurd c_53 hv.2.2.2.2
        · exact absurd c_40 hv.2.2.2.1
      · exact absurd c_27 hv.2.2.1
    · exact absurd c_14 hv.2.1
  · exact absurd c_1 hv.1
