/-! PART 93: the law's helpers, first part -/
set_option maxRecDepth 100000 in
set_option maxHeartbeats 4000000 in
theorem h_setOutside (l : Launch) (hl0 : l.stackTraces = false) {n : Nat → Nat} {i x : Nat → Nat → Int32} {lm : Nat → Nat → Int64} {y : Nat → Nat → Nat} {t : Nat} (h : CI n i x lm y t) (ol : Int64) (od : UInt64) (a : Int32) : zS l yL_setOutside wsL_setOutside 8 134 8 1100 [.ref 1, .int a, .ref 14] (cmm n i x lm y ol od) (zpi (fun k M1 => zO (q_setOutsideF i a) (lm) (q_setOutsideT i a) ((q_setOutsideV i a).toInt64) k M1)) zno := by
  refine z_introW (cc := cL_setOutside) (maxL := 4) (ret := (some .int)) (hh := [(0, 9, 12, 13)]) (by decide +kernel) rfl (Nat.le_of_ble_eq_true rfl) ?_
  intro g X
  show zE g 4 0 [(0, .ref 1), (1, .int a), (2, .ref 14)] [] (cmm n i x lm y ol od) 0 0
  refine z_aload_n X 2 dL_setOutside_0 rfl rfl ?_
  refine z_iconst (v := 0) X dL_setOutside_1 (by decide) ?_
  refine z_aload_n X 0 dL_setOutside_2 rfl rfl ?_
  refine z_iload_n X 1 dL_setOutside_3 rfl rfl ?_
  refine z_tryVi (As := [.int a]) (rest := [.int 0, .ref 14]) (n1 := 1) (ci := 10) X dL_setOutside_4 (c_X7_setOutside l hl0 n i x lm y ol od h.1 a) gL_setOutside_X7_setOutside rfl rfl (by decide +kernel) ⟨by decide, by decide⟩ ck_1 rfl rfl (Nat.le_of_ble_eq_true rfl) ⟨by decide, by decide⟩ rfl (fun E he => ?_) ?_
  · obtain ⟨rfl, c0⟩ := he
    exact ⟨1, ⟨[], ⟨0, 9, 12, 13⟩, [], 3, 1, 1, rfl, fun _ hz => absurd hz List.not_mem_nil, rfl, by decide, by decide +kernel, by decide +kernel, Or.inl ⟨3, dL_setOutside_12, rfl, rfl⟩, by decide, dL_setOutside_13, by decide, dL_setOutside_14⟩, ⟨_, rfl, zO_x h (by unfold q_setOutsideF; rw [if_neg c0]) rfl (by unfold q_setOutsideT; rw [if_neg c0]) (by decide)⟩⟩
  rintro _ _ ⟨c0, rfl, rfl⟩
  refine z_i2l X dL_setOutside_7 ?_
  refine z_last (j := 0) X dL_setOutside_8 ck_14 (by rw [cn_14]; unfold vp_in; decide) (by decide) ?_
  refine z_mem (M' := cmm n (zup i 1 1 a) x lm y ((i 1 1).toInt64) od) cw_ol ?_
  refine z_goto (tgt := 15) X dL_setOutside_9 (by decide) ?_
  refine z_iconst (v := 0) X dL_setOutside_15 (by decide) ?_
  refine z_iret X rfl rfl (Nat.le_of_ble_eq_true rfl) (Nat.le_of_ble_eq_true rfl) dL_setOutside_16 ?_
  exact ⟨_, rfl, zO_m (n' := n) (ic := zup i 1 1 a) (x' := x) (lc := lm) (y' := y) (t' := t) (F0 := zup (zup i 1 43 0) 1 1 a) (L0 := lm) (by unfold q_setOutsideF; rw [if_pos c0]) rfl (by unfold q_setOutsideT; rw [if_pos c0]) (congrArg Int32.toInt64 (by unfold q_setOutsideV; rw [if_pos c0])) (eV_zup (eV_43 (by omega) eV_rf) rfl) rfl (CI_out (CI_43 h) c0)⟩

set_option maxRecDepth 100000 in
set_option maxHeartbeats 4000000 in
theorem h_addRoom (l : Launch) (hl0 : l.stackTraces = false) {n : Nat → Nat} {i x : Nat → Nat → Int32} {lm : Nat → Nat → Int64} {y : Nat → Nat → Nat} {t : Nat} (h : CI n i x lm y t) (ol : Int64) (od : UInt64) (a : Int32) (b : Int32) (c : Int32) : zS l yL_addRoom wsL_addRoom 13 246 8 1100 [.ref 1, .int a, .int b, .int c, .ref 14] (cmm n i x lm y ol od) (zpi (fun k M1 => zO (q_addRoomF i (n 5) a b c) (lm) (q_addRoomT i (n 5) a b c) ((q_addRoomV i (n 5) a b c).toInt64) k M1)) zno := by
  refine z_introW (cc := cL_addRoom) (maxL := 6) (ret := (some .int)) (hh := [(0, 12, 15, 13), (0, 12, 19, 15)]) (by decide +kernel) rfl (Nat.le_of_ble_eq_true rfl) ?_
  intro g X
  show zE g 6 0 [(0, .ref 1), (1, .int a), (2, .int b), (3, .int c), (4, .ref 14)] [] (cmm n i x lm y ol od) 0 0
  refine z_aload X 4 dL_addRoom_0 rfl ?_
  refine z_iconst (v := 0) X dL_addRoom_2 (by decide) ?_
  refine z_aload_n X 0 dL_addRoom_3 rfl rfl ?_
  refine z_iload_n X 1 dL_addRoom_4 rfl rfl ?_
  refine z_iload_n X 2 dL_addRoom_5 rfl rfl ?_
  refine z_iload_n X 3 dL_addRoom_6 rfl rfl ?_
  refine z_tryVi (As := [.int a, .int b, .int c]) (rest := [.int 0, .ref 14]) (n1 := 3) (ci := 10) X dL_addRoom_7 (c_X7_addRoom l hl0 n i x lm y ol od h.1 a b c) gL_addRoom_X7_addRoom rfl rfl (by decide +kernel) ⟨by decide, by decide⟩ ck_1 rfl rfl (Nat.le_of_ble_eq_true rfl) ⟨by decide, by decide⟩ rfl (fun E he => ?_) ?_
  · rcases he with ⟨rfl, c0⟩ | ⟨rfl, c0, c1⟩
    · exact ⟨1, ⟨[], ⟨0, 12, 15, 13⟩, [⟨0, 12, 19, 15⟩], 5, 2, 1, rfl, fun _ hz => absurd hz List.not_mem_nil, rfl, by decide, by decide +kernel, by decide +kernel, Or.inr ⟨dL_addRoom_15, rfl⟩, by decide, dL_addRoom_17, by decide, dL_addRoom_18⟩, ⟨_, rfl, zO_x h (by unfold q_addRoomF; rw [if_pos c0]) rfl (by unfold q_addRoomT; rw [if_pos c0]) (by decide)⟩⟩
    · exact ⟨2, ⟨[⟨0, 12, 15, 13⟩], ⟨0, 12, 19, 15⟩, [], 5, 2, 2, rfl, List.forall_mem_cons.mpr ⟨Or.inr ⟨by decide, "java/lang/IllegalArgumentException", by decide +kernel, by decide +kernel, by decide +kernel⟩, fun _ hz => absurd hz List.not_mem_nil⟩, rfl, by decide, by decide +kernel, by decide +kernel, Or.inr ⟨dL_addRoom_19, rfl⟩, by decide, dL_addRoom_21, by decide, dL_addRoom_22⟩, ⟨_, rfl, zO_x h (by unfold q_addRoomF; rw [if_neg (Classical.not_not.mpr c0), if_pos (show nI (n 5) = 4 by rw [show n 5 = 4 by have := h.1.2.1.1; omega]; rfl)]) rfl (by unfold q_addRoomT; rw [if_neg (Classical.not_not.mpr c0), if_pos (show nI (n 5) = 4 by rw [show n 5 = 4 by have := h.1.2.1.1; omega]; rfl)]) (by decide)⟩⟩
  rintro _ _ ⟨c0, c1, rfl, rfl⟩
  refine z_i2l X dL_addRoom_10 ?_
  refine z_last (j := 0) X dL_addRoom_11 ck_14 (by rw [cn_14]; unfold vp_in; decide) (by decide) ?_
  refine z_mem (M' := cmm (nup (nup n 0 (n 0 + 1)) 5 (n 0 + 1)) (zup (zup (zup (zup (zup (zup (zup (zup (zup (zup (zup (zup i 105 (n 0) 20) 106 (n 0) 50) 109 (n 0) 97) 107 (n 0) 0) 108 (n 0) 0) 111 (n 0) 0) 112 (n 0) 0) 116 (n 0) 0) 102 (n 0) a) 103 (n 0) b) 104 (n 0) c) 110 (n 0) (i 1 1)) (zup (zup (zup (zrow x (n 0)) 0 (n 0) 0) 6 (n 0) 0) 5 (n 0) (-400)) lm y ((nI (n 0)).toInt64) od) cw_ol ?_
  refine z_goto (tgt := 23) X dL_addRoom_12 (by decide) ?_
  refine z_iconst (v := 0) X dL_addRoom_23 (by decide) ?_
  refine z_iret X rfl rfl (Nat.le_of_ble_eq_true rfl) (Nat.le_of_ble_eq_true rfl) dL_addRoom_24 ?_
  exact ⟨_, rfl, zO_m (n' := nup (nup n 0 (n 0 + 1)) 5 (n 0 + 1)) (ic := zup (zup (zup (zup (zup (zup (zup (zup (zup (zup (zup (zup i 105 (n 0) 20) 106 (n 0) 50) 109 (n 0) 97) 107 (n 0) 0) 108 (n 0) 0) 111 (n 0) 0) 112 (n 0) 0) 116 (n 0) 0) 102 (n 0) a) 103 (n 0) b) 104 (n 0) c) 110 (n 0) (i 1 1)) (x' := zup (zup (zup (zrow x (n 0)) 0 (n 0) 0) 6 (n 0) 0) 5 (n 0) (-400)) (lc := lm) (y' := y) (t' := t) (F0 := zup (zup (zup (zup (zup (zup (zup (zup (zup i 1 43 0) 102 (n 5) a) 103 (n 5) b) 104 (n 5) c) 105 (n 5) 20) 106 (n 5) 50) 109 (n 5) 97) 110 (n 5) (i 1 1)) 1 17 (nI (n 5) + 1)) (L0 := lm) (by unfold q_addRoomF; rw [if_neg (Classical.not_not.mpr c0), if_neg (show ¬ nI (n 5) = 4 from nI_nlt2 (N := 4) c1 (by decide))]) rfl (by unfold q_addRoomT; rw [if_neg (Classical.not_not.mpr c0), if_neg (show ¬ nI (n 5) = 4 from nI_nlt2 (N := 4) c1 (by decide))]) (congrArg Int32.toInt64 (by unfold q_addRoomV; rw [if_neg (Classical.not_not.mpr c0), if_neg (show ¬ nI (n 5) = 4 from nI_nlt2 (N := 4) c1 (by decide))] <;> rw [h.1.1.1, Int32.add_sub_cancel])) (by rw [h.1.1.1]; obtain ⟨f1, f2, f3, f4, f5, f6⟩ := h.2.2.2.1.2 (n 5) (Nat.le_refl _); exact eV_room ⟨f1, f2, f3, f4, f5⟩) rfl (by have h9 := CI_room (c := c) (CI_43 (v := 0) h) c1 c0.1 c0.2.1; rw [show zup i 1 43 0 1 1 = i 1 1 from zup_n (by omega)] at h9; exact h9)⟩

set_option maxRecDepth 100000 in
set_option maxHeartbeats 4000000 in
theorem h_setLimits (l : Launch) (hl0 : l.stackTraces = false) {n : Nat → Nat} {i x : Nat → Nat → Int32} {lm : Nat → Nat → Int64} {y : Nat → Nat → Nat} {t : Nat} (h : CI n i x lm y t) (ol : Int64) (od : UInt64) (r : Int32) (a : Int32) (b : Int32) : zS l yL_setLimits wsL_setLimits 11 200 8 1100 [.ref 1, .int r, .int a, .int b, .ref 14] (cmm n i x lm y ol od) (zpi (fun k M1 => zO (q_setLimitsF i r a b) (lm) (q_setLimitsT i r a b) ((q_setLimitsV i r a b).toInt64) k M1)) zno := by
  refine z_introW (cc := cL_setLimits) (maxL := 6) (ret := (some .int)) (hh := [(0, 12, 15, 27), (0, 12, 19, 13)]) (by decide +kernel) rfl (Nat.le_of_ble_eq_true rfl) ?_
  intro g X
  show zE g 6 0 [(0, .ref 1), (1, .int r), (2, .int a), (3, .int b), (4, .ref 14)] [] (cmm n i x lm y ol od) 0 0
  refine z_aload X 4 dL_setLimits_0 rfl ?_
  refine z_iconst (v := 0) X dL_setLimits_2 (by decide) ?_
  refine z_aload_n X 0 dL_setLimits_3 rfl rfl ?_
  refine z_iload_n X 1 dL_setLimits_4 rfl rfl ?_
  refine z_iload_n X 2 dL_setLimits_5 rfl rfl ?_
  refine z_iload_n X 3 dL_setLimits_6 rfl rfl ?_
  refine z_tryVi (As := [.int r, .int a, .int b]) (rest := [.int 0, .ref 14]) (n1 := 3) (ci := 10) X dL_setLimits_7 (c_X7_setLimits l hl0 n i x lm y ol od h.1 r a b) gL_setLimits_X7_setLimits rfl rfl (by decide +kernel) ⟨by decide, by decide⟩ ck_1 rfl rfl (Nat.le_of_ble_eq_true rfl) ⟨by decide, by decide⟩ rfl (fun E he => ?_) ?_
  · rcases he with ⟨rfl, c0⟩ | ⟨rfl, c0, c1⟩
    · exact ⟨1, ⟨[], ⟨0, 12, 15, 27⟩, [⟨0, 12, 19, 13⟩], 5, 2, 1, rfl, fun _ hz => absurd hz List.not_mem_nil, rfl, by decide, by decide +kernel, by decide +kernel, Or.inr ⟨dL_setLimits_15, rfl⟩, by decide, dL_setLimits_17, by decide, dL_setLimits_18⟩, ⟨_, rfl, zO_x h (by unfold q_setLimitsF; rw [if_pos (mt (fzr h r).mp c0)]) rfl (by unfold q_setLimitsT; rw [if_pos (mt (fzr h r).mp c0)]) (by decide)⟩⟩
    · exact ⟨2, ⟨[⟨0, 12, 15, 27⟩], ⟨0, 12, 19, 13⟩, [], 5, 2, 2, rfl, List.forall_mem_cons.mpr ⟨Or.inr ⟨by decide, "java/lang/IndexOutOfBoundsException", by decide +kernel, by decide +kernel, by decide +kernel⟩, fun _ hz => absurd hz List.not_mem_nil⟩, rfl, by decide, by decide +kernel, by decide +kernel, Or.inr ⟨dL_setLimits_19, rfl⟩, by decide, dL_setLimits_21, by decide, dL_setLimits_22⟩, ⟨_, rfl, zO_x h (by unfold q_setLimitsF; rw [if_neg (Classical.not_not.mpr ((fzr h r).mpr c0)), if_pos c1]) rfl (by unfold q_setLimitsT; rw [if_neg (Classical.not_not.mpr ((fzr h r).mpr c0)), if_pos c1]) (by decide)⟩⟩
  rintro _ _ ⟨c0, c1, rfl, rfl⟩
  refine z_i2l X dL_setLimits_10 ?_
  refine z_last (j := 0) X dL_setLimits_11 ck_14 (by rw [cn_14]; unfold vp_in; decide) (by decide) ?_
  refine z_mem (M' := cmm n (zup (zup i 105 (cl r) a) 106 (cl r) b) x lm y ((i 105 (cl r)).toInt64) od) cw_ol ?_
  refine z_goto (tgt := 23) X dL_setLimits_12 (by decide) ?_
  refine z_iconst (v := 0) X dL_setLimits_23 (by decide) ?_
  refine z_iret X rfl rfl (Nat.le_of_ble_eq_true rfl) (Nat.le_of_ble_eq_true rfl) dL_setLimits_24 ?_
  exact ⟨_, rfl, zO_m (n' := n) (ic := zup (zup i 105 (cl r) a) 106 (cl r) b) (x' := x) (lc := lm) (y' := y) (t' := t) (F0 := zup (zup (zup i 1 43 0) 105 (cl r) a) 106 (cl r) b) (L0 := lm) (by unfold q_setLimitsF; rw [if_neg (Classical.not_not.mpr ((fzr h r).mpr c0)), if_neg (Classical.not_not.mpr c1)]) rfl (by unfold q_setLimitsT; rw [if_neg (Classical.not_not.mpr ((fzr h r).mpr c0)), if_neg (Classical.not_not.mpr c1)]) (congrArg Int32.toInt64 (by unfold q_setLimitsV; rw [if_neg (Classical.not_not.mpr ((fzr h r).mpr c0)), if_neg (Classical.not_not.mpr c1)])) (eV_zup (eV_zup (eV_43 (by omega) eV_rf) rfl) rfl) rfl (CI_lim (CI_43 h) (Int32.not_lt.mp c1.2.1))⟩

set_option maxRecDepth 100000 in
set_option maxHeartbeats 4000000 in
theorem h_setMode (l : Launch) (hl0 : l.stackTraces = false) {n : Nat → Nat} {i x : Nat → Nat → Int32} {lm : Nat → Nat → Int64} {y : Nat → Nat → Nat} {t : Nat} (h : CI n i x lm y t) (ol : Int64) (od : UInt64) (r : Int32) (m : Int32) (hm : narrow .char (.int m) = .int m) : zS l yL_setMode wsL_setMode 11 199 8 1100 [.ref 1, .int r, .int m, .ref 14] (cmm n i x lm y ol od) (zpi (fun k M1 => zO (q_setModeF i r m) (lm) (q_setModeT i r m) ((q_setModeV i r m).toInt64) k M1)) zno := by
  refine z_introW (cc := cL_setMode) (maxL := 5) (ret := (some .int)) (hh := [(0, 10, 13, 27), (0, 10, 17, 13)]) (by decide +kernel) rfl (Nat.le_of_ble_eq_true rfl) ?_
  intro g X
  show zE g 5 0 [(0, .ref 1), (1, .int r), (2, .int m), (3, .ref 14)] [] (cmm n i x lm y ol od) 0 0
  refine z_aload_n X 3 dL_setMode_0 rfl rfl ?_
  refine z_iconst (v := 0) X dL_setMode_1 (by decide) ?_
  refine z_aload_n X 0 dL_setMode_2 rfl rfl ?_
  refine z_iload_n X 1 dL_setMode_3 rfl rfl ?_
  refine z_iload_n X 2 dL_setMode_4 rfl rfl ?_
  refine z_tryVi (As := [.int r, .int m]) (rest := [.int 0, .ref 14]) (n1 := 2) (ci := 10) X dL_setMode_5 (c_X7_setMode l hl0 n i x lm y ol od h.1 r m hm h.2.2.1.2.2.1) gL_setMode_X7_setMode rfl rfl (by decide +kernel) ⟨by decide, by decide⟩ ck_1 rfl rfl (Nat.le_of_ble_eq_true rfl) ⟨by decide, by decide⟩ rfl (fun E he => ?_) ?_
  · rcases he with ⟨rfl, c0⟩ | ⟨rfl, c0, c1⟩
    · exact ⟨1, ⟨[], ⟨0, 10, 13, 27⟩, [⟨0, 10, 17, 13⟩], 4, 2, 1, rfl, fun _ hz => absurd hz List.not_mem_nil, rfl, by decide, by decide +kernel, by decide +kernel, Or.inr ⟨dL_setMode_13, rfl⟩, by decide, dL_setMode_15, by decide, dL_setMode_16⟩, ⟨_, rfl, zO_x h (by unfold q_setModeF; rw [if_pos (mt (fzr h r).mp c0)]) rfl (by unfold q_setModeT; rw [if_pos (mt (fzr h r).mp c0)]) (by decide)⟩⟩
    · exact ⟨2, ⟨[⟨0, 10, 13, 27⟩], ⟨0, 10, 17, 13⟩, [], 4, 2, 2, rfl, List.forall_mem_cons.mpr ⟨Or.inr ⟨by decide, "java/lang/IndexOutOfBoundsException", by decide +kernel, by decide +kernel, by decide +kernel⟩, fun _ hz => absurd hz List.not_mem_nil⟩, rfl, by decide, by decide +kernel, by decide +kernel, Or.inr ⟨dL_setMode_17, rfl⟩, by decide, dL_setMode_19, by decide, dL_setMode_20⟩, ⟨_, rfl, zO_x h (by unfold q_setModeF; rw [if_neg (Classical.not_not.mpr ((fzr h r).mpr c0)), if_pos (show ¬ m = 97 ∧ ¬ m = 111 ∧ ¬ m = 110 from ⟨fun e => c1 (Or.inl e), fun e => c1 (Or.inr (Or.inl e)), fun e => c1 (Or.inr (Or.inr e))⟩)]) rfl (by unfold q_setModeT; rw [if_neg (Classical.not_not.mpr ((fzr h r).mpr c0)), if_pos (show ¬ m = 97 ∧ ¬ m = 111 ∧ ¬ m = 110 from ⟨fun e => c1 (Or.inl e), fun e => c1 (Or.inr (Or.inl e)), fun e => c1 (Or.inr (Or.inr e))⟩)]) (by decide)⟩⟩
  rintro _ _ ⟨c0, c1, rfl, rfl⟩
  refine z_i2l X dL_setMode_8 ?_
  refine z_last (j := 0) X dL_setMode_9 ck_14 (by rw [cn_14]; unfold vp_in; decide) (by decide) ?_
  refine z_mem (M' := cmm n (zup i 109 (cl r) m) x lm y ((i 109 (cl r)).toInt64) od) cw_ol ?_
  refine z_goto (tgt := 21) X dL_setMode_10 (by decide) ?_
  refine z_iconst (v := 0) X dL_setMode_21 (by decide) ?_
  refine z_iret X rfl rfl (Nat.le_of_ble_eq_true rfl) (Nat.le_of_ble_eq_true rfl) dL_setMode_22 ?_
  exact ⟨_, rfl, zO_m (n' := n) (ic := zup i 109 (cl r) m) (x' := x) (lc := lm) (y' := y) (t' := t) (F0 := zup (zup i 1 43 0) 109 (cl r) m) (L0 := lm) (by unfold q_setModeF; rw [if_neg (Classical.not_not.mpr ((fzr h r).mpr c0)), if_neg (show ¬ (¬ m = 97 ∧ ¬ m = 111 ∧ ¬ m = 110) from fun e => c1.elim e.1 (fun q => q.elim e.2.1 e.2.2))]) rfl (by unfold q_setModeT; rw [if_neg (Classical.not_not.mpr ((fzr h r).mpr c0)), if_neg (show ¬ (¬ m = 97 ∧ ¬ m = 111 ∧ ¬ m = 110) from fun e => c1.elim e.1 (fun q => q.elim e.2.1 e.2.2))]) (congrArg Int32.toInt64 (by unfold q_setModeV; rw [if_neg (Classical.not_not.mpr ((fzr h r).mpr c0)), if_neg (show ¬ (¬ m = 97 ∧ ¬ m = 111 ∧ ¬ m = 110) from fun e => c1.elim e.1 (fun q => q.elim e.2.1 e.2.2))])) (eV_zup (eV_43 (by omega) eV_rf) rfl) rfl (CI_mode (CI_43 h) c1)⟩

set_option maxRecDepth 100000 in
set_option maxHeartbeats 4000000 in
theorem h_setLead (l : Launch) (hl0 : l.stackTraces = false) {n : Nat → Nat} {i x : Nat → Nat → Int32} {lm : Nat → Nat → Int64} {y : Nat → Nat → Nat} {t : Nat} (h : CI n i x lm y t) (ol : Int64) (od : UInt64) (r : Int32) (a : Int32) (b : Int32) : zS l yL_setLead wsL_setLead 11 200 8 1100 [.ref 1, .int r, .int a, .int b, .ref 14] (cmm n i x lm y ol od) (zpi (fun k M1 => zO (q_setLeadF i r a b) (lm) (q_setLeadT i r a b) ((q_setLeadV i r a b).toInt64) k M1)) zno := by
  refine z_introW (cc := cL_setLead) (maxL := 6) (ret := (some .int)) (hh := [(0, 12, 15, 27), (0, 12, 19, 13)]) (by decide +kernel) rfl (Nat.le_of_ble_eq_true rfl) ?_
  intro g X
  show zE g 6 0 [(0, .ref 1), (1, .int r), (2, .int a), (3, .int b), (4, .ref 14)] [] (cmm n i x lm y ol od) 0 0
  refine z_aload X 4 dL_setLead_0 rfl ?_
  refine z_iconst (v := 0) X dL_setLead_2 (by decide) ?_
  refine z_aload_n X 0 dL_setLead_3 rfl rfl ?_
  refine z_iload_n X 1 dL_setLead_4 rfl rfl ?_
  refine z_iload_n X 2 dL_setLead_5 rfl rfl ?_
  refine z_iload_n X 3 dL_setLead_6 rfl rfl ?_
  refine z_tryVi (As := [.int r, .int a, .int b]) (rest := [.int 0, .ref 14]) (n1 := 3) (ci := 10) X dL_setLead_7 (c_X7_setLead l hl0 n i x lm y ol od h.1 r a b) gL_setLead_X7_setLead rfl rfl (by decide +kernel) ⟨by decide, by decide⟩ ck_1 rfl rfl (Nat.le_of_ble_eq_true rfl) ⟨by decide, by decide⟩ rfl (fun E he => ?_) ?_
  · rcases he with ⟨rfl, c0⟩ | ⟨rfl, c0, c1⟩
    · exact ⟨1, ⟨[], ⟨0, 12, 15, 27⟩, [⟨0, 12, 19, 13⟩], 5, 2, 1, rfl, fun _ hz => absurd hz List.not_mem_nil, rfl, by decide, by decide +kernel, by decide +kernel, Or.inr ⟨dL_setLead_15, rfl⟩, by decide, dL_setLead_17, by decide, dL_setLead_18⟩, ⟨_, rfl, zO_x h (by unfold q_setLeadF; rw [if_pos (mt (fzr h r).mp c0)]) rfl (by unfold q_setLeadT; rw [if_pos (mt (fzr h r).mp c0)]) (by decide)⟩⟩
    · exact ⟨2, ⟨[⟨0, 12, 15, 27⟩], ⟨0, 12, 19, 13⟩, [], 5, 2, 2, rfl, List.forall_mem_cons.mpr ⟨Or.inr ⟨by decide, "java/lang/IndexOutOfBoundsException", by decide +kernel, by decide +kernel, by decide +kernel⟩, fun _ hz => absurd hz List.not_mem_nil⟩, rfl, by decide, by decide +kernel, by decide +kernel, Or.inr ⟨dL_setLead_19, rfl⟩, by decide, dL_setLead_21, by decide, dL_setLead_22⟩, ⟨_, rfl, zO_x h (by unfold q_setLeadF; rw [if_neg (Classical.not_not.mpr ((fzr h r).mpr c0)), if_pos c1]) rfl (by unfold q_setLeadT; rw [if_neg (Classical.not_not.mpr ((fzr h r).mpr c0)), if_pos c1]) (by decide)⟩⟩
  rintro _ _ ⟨c0, c1, rfl, rfl⟩
  refine z_i2l X dL_setLead_10 ?_
  refine z_last (j := 0) X dL_setLead_11 ck_14 (by rw [cn_14]; unfold vp_in; decide) (by decide) ?_
  refine z_mem (M' := cmm n (zup (zup i 107 (cl r) a) 108 (cl r) b) x lm y ((i 107 (cl r)).toInt64) od) cw_ol ?_
  refine z_goto (tgt := 23) X dL_setLead_12 (by decide) ?_
  refine z_iconst (v := 0) X dL_setLead_23 (by decide) ?_
  refine z_iret X rfl rfl (Nat.le_of_ble_eq_true rfl) (Nat.le_of_ble_eq_true rfl) dL_setLead_24 ?_
  exact ⟨_, rfl, zO_m (n' := n) (ic := zup (zup i 107 (cl r) a) 108 (cl r) b) (x' := x) (lc := lm) (y' := y) (t' := t) (F0 := zup (zup (zup i 1 43 0) 107 (cl r) a) 108 (cl r) b) (L0 := lm) (by unfold q_setLeadF; rw [if_neg (Classical.not_not.mpr ((fzr h r).mpr c0)), if_neg (Classical.not_not.mpr c1)]) rfl (by unfold q_setLeadT; rw [if_neg (Classical.not_not.mpr ((fzr h r).mpr c0)), if_neg (Classical.not_not.mpr c1)]) (congrArg Int32.toInt64 (by unfold q_setLeadV; rw [if_neg (Classical.not_not.mpr ((fzr h r).mpr c0)), if_neg (Classical.not_not.mpr c1)])) (eV_zup (eV_zup (eV_43 (by omega) eV_rf) rfl) rfl) rfl (CI_lead (CI_43 h) c0.1)⟩

set_option maxRecDepth 100000 in
set_option maxHeartbeats 4000000 in
theorem h_temperature (l : Launch) (hl0 : l.stackTraces = false) {n : Nat → Nat} {i x : Nat → Nat → Int32} {lm : Nat → Nat → Int64} {y : Nat → Nat → Nat} {t : Nat} (h : CI n i x lm y t) (ol : Int64) (od : UInt64) (r : Int32) : zS l yL_temperature wsL_temperature 11 196 8 1100 [.ref 1, .int r, .ref 14] (cmm n i x lm y ol od) (zpi (fun k M1 => zO (q_temperatureF i r) (lm) (q_temperatureT i r) ((q_temperatureV i r).toInt64) k M1)) zno := by
  refine z_introW (cc := cL_temperature) (maxL := 4) (ret := (some .int)) (hh := [(0, 9, 12, 27)]) (by decide +kernel) rfl (Nat.le_of_ble_eq_true rfl) ?_
  intro g X
  show zE g 4 0 [(0, .ref 1), (1, .int r), (2, .ref 14)] [] (cmm n i x lm y ol od) 0 0
  refine z_aload_n X 2 dL_temperature_0 rfl rfl ?_
  refine z_iconst (v := 0) X dL_temperature_1 (by decide) ?_
  refine z_aload_n X 0 dL_temperature_2 rfl rfl ?_
  refine z_iload_n X 1 dL_temperature_3 rfl rfl ?_
  refine z_tryVi (As := [.int r]) (rest := [.int 0, .ref 14]) (n1 := 1) (ci := 10) X dL_temperature_4 (c_X7_temperature l hl0 n i x lm y ol od h.1 r) gL_temperature_X7_temperature rfl rfl (by decide +kernel) ⟨by decide, by decide⟩ ck_1 rfl rfl (Nat.le_of_ble_eq_true rfl) ⟨by decide, by decide⟩ rfl (fun E he => ?_) ?_
  · obtain ⟨rfl, c0⟩ := he
    exact ⟨1, ⟨[], ⟨0, 9, 12, 27⟩, [], 3, 1, 1, rfl, fun _ hz => absurd hz List.not_mem_nil, rfl, by decide, by decide +kernel, by decide +kernel, Or.inl ⟨3, dL_temperature_12, rfl, rfl⟩, by decide, dL_temperature_13, by decide, dL_temperature_14⟩, ⟨_, rfl, zO_x h (by unfold q_temperatureF; rw [if_neg (mt (fzr h r).mp c0)]) rfl (by unfold q_temperatureT; rw [if_neg (mt (fzr h r).mp c0)]) (by decide)⟩⟩
  rintro _ _ ⟨c0, rfl, rfl⟩
  refine z_i2l X dL_temperature_7 ?_
  refine z_last (j := 0) X dL_temperature_8 ck_14 (by rw [cn_14]; unfold vp_in; decide) (by decide) ?_
  refine z_mem (M' := cmm n i x lm y ((i 110 (cl r)).toInt64) od) cw_ol ?_
  refine z_goto (tgt := 15) X dL_temperature_9 (by decide) ?_
  refine z_iconst (v := 0) X dL_temperature_15 (by decide) ?_
  refine z_iret X rfl rfl (Nat.le_of_ble_eq_true rfl) (Nat.le_of_ble_eq_true rfl) dL_temperature_16 ?_
  exact ⟨_, rfl, zO_l h (by unfold q_temperatureF; rw [if_pos ((fzr h r).mpr c0)]) rfl (by unfold q_temperatureT; rw [if_pos ((fzr h r).mpr c0)]) (congrArg Int32.toInt64 (by unfold q_temperatureV; rw [if_pos ((fzr h r).mpr c0)]))⟩

set_option maxRecDepth 100000 in
set_option maxHeartbeats 4000000 in
theorem h_isCooled (l : Launch) (hl0 : l.stackTraces = false) {n : Nat → Nat} {i x : Nat → Nat → Int32} {lm : Nat → Nat → Int64} {y : Nat → Nat → Nat} {t : Nat} (h : CI n i x lm y t) (ol : Int64) (od : UInt64) (r : Int32) : zS l yL_isCooled wsL_isCooled 11 196 8 1100 [.ref 1, .int r, .ref 14] (cmm n i x lm y ol od) (zpi (fun k M1 => zO (q_isCooledF i r) (lm) (q_isCooledT i r) (if q_isCooledV i r = 0 then 0 else 1) k M1)) zno := by
  refine z_introW (cc := cL_isCooled) (maxL := 4) (ret := (some .int)) (hh := [(0, 16, 19, 27)]) (by decide +kernel) rfl (Nat.le_of_ble_eq_true rfl) ?_
  intro g X
  show zE g 4 0 [(0, .ref 1), (1, .int r), (2, .ref 14)] [] (cmm n i x lm y ol od) 0 0
  refine z_aload_n X 2 dL_isCooled_0 rfl rfl ?_
  refine z_iconst (v := 0) X dL_isCooled_1 (by decide) ?_
  refine z_aload_n X 0 dL_isCooled_2 rfl rfl ?_
  refine z_iload_n X 1 dL_isCooled_3 rfl rfl ?_
  refine z_tryVi (As := [.int r]) (rest := [.int 0, .ref 14]) (n1 := 1) (ci := 10) X dL_isCooled_4 (c_X7_isCooled l hl0 n i x lm y ol od h.1 r (fun j => by rcases h.2.2.1.2.1 j with e | e <;> rw [e] <;> rfl)) gL_isCooled_X7_isCooled rfl rfl (by decide +kernel) ⟨by decide, by decide⟩ ck_1 rfl rfl (Nat.le_of_ble_eq_true rfl) ⟨by decide, by decide⟩ rfl (fun E he => ?_) ?_
  · obtain ⟨rfl, c0⟩ := he
    exact ⟨1, ⟨[], ⟨0, 16, 19, 27⟩, [], 3, 1, 1, rfl, fun _ hz => absurd hz List.not_mem_nil, rfl, by decide, by decide +kernel, by decide +kernel, Or.inl ⟨3, dL_isCooled_19, rfl, rfl⟩, by decide, dL_isCooled_20, by decide, dL_isCooled_21⟩, ⟨_, rfl, zO_x h (by unfold q_isCooledF; rw [if_neg (mt (fzr h r).mp c0)]) rfl (by unfold q_isCooledT; rw [if_neg (mt (fzr h r).mp c0)]) (by decide)⟩⟩
  rintro _ _ ⟨c0, rfl, rfl⟩
  refine z_if_eq X 14 dL_isCooled_7 (by decide) (fun c_4 => ?_) (fun c_4 => ?_)
  · refine z_lconst (v := 0) X dL_isCooled_14 (by decide) ?_
    refine z_last (j := 0) X dL_isCooled_15 ck_14 (by rw [cn_14]; unfold vp_in; decide) (by decide) ?_
    refine z_mem (M' := cmm n i x lm y 0 od) cw_ol ?_
    refine z_goto (tgt := 22) X dL_isCooled_16 (by decide) ?_
    refine z_iconst (v := 0) X dL_isCooled_22 (by decide) ?_
    refine z_iret X rfl rfl (Nat.le_of_ble_eq_true rfl) (Nat.le_of_ble_eq_true rfl) dL_isCooled_23 ?_
    exact ⟨_, rfl, zO_l h (by unfold q_isCooledF; rw [if_pos ((fzr h r).mpr c0)]) rfl (by unfold q_isCooledT; rw [if_pos ((fzr h r).mpr c0)]) (by unfold q_isCooledV; rw [if_pos ((fzr h r).mpr c0), if_pos (zb_f (p := ¬ i 112 (cl r) = 0) (fun e => e c_4))])⟩
  · refine z_lconst (v := 1) X dL_isCooled_10 (by decide) ?_
    refine z_goto (tgt := 15) X dL_isCooled_11 (by decide) ?_
    refine z_last (j := 0) X dL_isCooled_15 ck_14 (by rw [cn_14]; unfold vp_in; decide) (by decide) ?_
    refine z_mem (M' := cmm n i x lm y 1 od) cw_ol ?_
    refine z_goto (tgt := 22) X dL_isCooled_16 (by decide) ?_
    refine z_iconst (v := 0) X dL_isCooled_22 (by decide) ?_
    refine z_iret X rfl rfl (Nat.le_of_ble_eq_true rfl) (Nat.le_of_ble_eq_true rfl) dL_isCooled_23 ?_
    exact ⟨_, rfl, zO_l h (by unfold q_isCooledF; rw [if_pos ((fzr h r).mpr c0)]) rfl (by unfold q_isCooledT; rw [if_pos ((fzr h r).mpr c0)]) (by unfold q_isCooledV; rw [if_pos ((fzr h r).mpr c0), if_neg (show ¬ zb (¬ i 112 (cl r) = 0) = 0 from zb_n0.mpr c_4)])⟩

set_option maxRecDepth 100000 in
set_option maxHeartbeats 4000000 in
theorem h_warmest (l : Launch) (hl0 : l.stackTraces = false) {n : Nat → Nat} {i x : Nat → Nat → Int32} {lm : Nat → Nat → Int64} {y : Nat → Nat → Nat} {t : Nat} (h : CI n i x lm y t) (ol : Int64) (od : UInt64) (r : Int32) : zS l yL_warmest wsL_warmest 11 197 8 1100 [.ref 1, .int r, .ref 14] (cmm n i x lm y ol od) (zpi (fun k M1 => zO (q_warmestF i r) (lm) (q_warmestT i r) ((q_warmestV i r).toInt64) k M1)) zno := by
  refine z_introW (cc := cL_warmest) (maxL := 4) (ret := (some .int)) (hh := [(0, 9, 12, 27), (0, 9, 15, 46)]) (by decide +kernel) rfl (Nat.le_of_ble_eq_true rfl) ?_
  intro g X
  show zE g 4 0 [(0, .ref 1), (1, .int r), (2, .ref 14)] [] (cmm n i x lm y ol od) 0 0
  refine z_aload_n X 2 dL_warmest_0 rfl rfl ?_
  refine z_iconst (v := 0) X dL_warmest_1 (by decide) ?_
  refine z_aload_n X 0 dL_warmest_2 rfl rfl ?_
  refine z_iload_n X 1 dL_warmest_3 rfl rfl ?_
  refine z_tryVi (As := [.int r]) (rest := [.int 0, .ref 14]) (n1 := 1) (ci := 10) X dL_warmest_4 (c_X7_warmest l hl0 n i x lm y ol od h.1 r) gL_warmest_X7_warmest rfl rfl (by decide +kernel) ⟨by decide, by decide⟩ ck_1 rfl rfl (Nat.le_of_ble_eq_true rfl) ⟨by decide, by decide⟩ rfl (fun E he => ?_) ?_
  · rcases he with ⟨rfl, c0⟩ | ⟨rfl, c0, c1⟩
    · exact ⟨1, ⟨[], ⟨0, 9, 12, 27⟩, [⟨0, 9, 15, 46⟩], 3, 1, 1, rfl, fun _ hz => absurd hz List.not_mem_nil, rfl, by decide, by decide +kernel, by decide +kernel, Or.inl ⟨3, dL_warmest_12, rfl, rfl⟩, by decide, dL_warmest_13, by decide, dL_warmest_14⟩, ⟨_, rfl, zO_x h (by unfold q_warmestF; rw [if_pos (mt (fzr h r).mp c0)]) rfl (by unfold q_warmestT; rw [if_pos (mt (fzr h r).mp c0)]) (by decide)⟩⟩
    · exact ⟨2, ⟨[⟨0, 9, 12, 27⟩], ⟨0, 9, 15, 46⟩, [], 3, 1, 2, rfl, List.forall_mem_cons.mpr ⟨Or.inr ⟨by decide, "java/lang/IndexOutOfBoundsException", by decide +kernel, by decide +kernel, by decide +kernel⟩, fun _ hz => absurd hz List.not_mem_nil⟩, rfl, by decide, by decide +kernel, by decide +kernel, Or.inl ⟨3, dL_warmest_15, rfl, rfl⟩, by decide, dL_warmest_16, by decide, dL_warmest_17⟩, ⟨_, rfl, zO_x h (by unfold q_warmestF; rw [if_neg (Classical.not_not.mpr ((fzr h r).mpr c0)), if_pos (Classical.not_not.mp c1)]) rfl (by unfold q_warmestT; rw [if_neg (Classical.not_not.mpr ((fzr h r).mpr c0)), if_pos (Classical.not_not.mp c1)]) (by decide)⟩⟩
  rintro _ _ ⟨c0, c1, rfl, rfl⟩
  refine z_i2l X dL_warmest_7 ?_
  refine z_last (j := 0) X dL_warmest_8 ck_14 (by rw [cn_14]; unfold vp_in; decide) (by decide) ?_
  refine z_mem (M' := cmm n i x lm y ((x 5 (cl r)).toInt64) od) cw_ol ?_
  refine z_goto (tgt := 18) X dL_warmest_9 (by decide) ?_
  refine z_iconst (v := 0) X dL_warmest_18 (by decide) ?_
  refine z_iret X rfl rfl (Nat.le_of_ble_eq_true rfl) (Nat.le_of_ble_eq_true rfl) dL_warmest_19 ?_
  exact ⟨_, rfl, zO_l h (by unfold q_warmestF; rw [if_neg (Classical.not_not.mpr ((fzr h r).mpr c0)), if_neg c1]) rfl (by unfold q_warmestT; rw [if_neg (Classical.not_not.mpr ((fzr h r).mpr c0)), if_neg c1]) (congrArg Int32.toInt64 (by unfold q_warmestV; rw [if_neg (Classical.not_not.mpr ((fzr h r).mpr c0)), if_neg c1] <;> rw [(h.2.2.2.1.1 _ c0.1).2.2.2.2.2.1, if_neg c1]))⟩

set_option maxRecDepth 100000 in
set_option maxHeartbeats 4000000 in
theorem h_meanTemperature (l : Launch) (hl0 : l.stackTraces = false) {n : Nat → Nat} {i x : Nat → Nat → Int32} {lm : Nat → Nat → Int64} {y : Nat → Nat → Nat} {t : Nat} (h : CI n i x lm y t) (ol : Int64) (od : UInt64) (r : Int32) : zS l yL_meanTemperature wsL_meanTemperature 11 197 8 1100 [.ref 1, .int r, .ref 15] (cmm n i x lm y ol od) (zpi (fun k M1 => zOd (q_meanTemperatureF i r) (lm) (q_meanTemperatureT i r) (q_meanTemperatureV i lm r) k M1)) zno := by
  refine z_introW (cc := cL_meanTemperature) (maxL := 4) (ret := (some .int)) (hh := [(0, 8, 11, 27), (0, 8, 14, 52)]) (by decide +kernel) rfl (Nat.le_of_ble_eq_true rfl) ?_
  intro g X
  show zE g 4 0 [(0, .ref 1), (1, .int r), (2, .ref 15)] [] (cmm n i x lm y ol od) 0 0
  refine z_aload_n X 2 dL_meanTemperature_0 rfl rfl ?_
  refine z_iconst (v := 0) X dL_meanTemperature_1 (by decide) ?_
  refine z_aload_n X 0 dL_meanTemperature_2 rfl rfl ?_
  refine z_iload_n X 1 dL_meanTemperature_3 rfl rfl ?_
  refine z_tryVd (As := [.int r]) (rest := [.int 0, .ref 15]) (n1 := 1) (ci := 10) X dL_meanTemperature_4 (c_X7_meanTemperature l hl0 n i x lm y ol od h.1 r) gL_meanTemperature_X7_meanTemperature rfl rfl (by decide +kernel) ⟨by decide, by decide⟩ ck_1 rfl rfl (Nat.le_of_ble_eq_true rfl) ⟨by decide, by decide⟩ rfl (fun E he => ?_) ?_
  · rcases he with ⟨rfl, c0⟩ | ⟨rfl, c0, c1⟩
    · exact ⟨1, ⟨[], ⟨0, 8, 11, 27⟩, [⟨0, 8, 14, 52⟩], 3, 1, 1, rfl, fun _ hz => absurd hz List.not_mem_nil, rfl, by decide, by decide +kernel, by decide +kernel, Or.inl ⟨3, dL_meanTemperature_11, rfl, rfl⟩, by decide, dL_meanTemperature_12, by decide, dL_meanTemperature_13⟩, ⟨_, rfl, zOd_x h (by unfold q_meanTemperatureF; rw [if_pos (mt (fzr h r).mp c0)]) rfl (by unfold q_meanTemperatureT; rw [if_pos (mt (fzr h r).mp c0)]) (by decide)⟩⟩
    · exact ⟨2, ⟨[⟨0, 8, 11, 27⟩], ⟨0, 8, 14, 52⟩, [], 3, 1, 2, rfl, List.forall_mem_cons.mpr ⟨Or.inr ⟨by decide, "java/lang/IndexOutOfBoundsException", by decide +kernel, by decide +kernel, by decide +kernel⟩, fun _ hz => absurd hz List.not_mem_nil⟩, rfl, by decide, by decide +kernel, by decide +kernel, Or.inl ⟨3, dL_meanTemperature_14, rfl, rfl⟩, by decide, dL_meanTemperature_15, by decide, dL_meanTemperature_16⟩, ⟨_, rfl, zOd_x h (by unfold q_meanTemperatureF; rw [if_neg (Classical.not_not.mpr ((fzr h r).mpr c0)), if_pos (Classical.not_not.mp c1)]) rfl (by unfold q_meanTemperatureT; rw [if_neg (Classical.not_not.mpr ((fzr h r).mpr c0)), if_pos (Classical.not_not.mp c1)]) (by decide)⟩⟩
  rintro _ _ ⟨c0, c1, rfl, rfl⟩
  refine z_dast (j := 0) X dL_meanTemperature_7 ck_15 (by rw [cn_15]; unfold vp_in; decide) (by decide) ?_
  refine z_mem (M' := cmm n i x lm y ol (FP.ddiv (FP.i2d (x 6 (cl r))) (FP.i2d (i 116 (cl r))))) cw_od ?_
  refine z_goto (tgt := 17) X dL_meanTemperature_8 (by decide) ?_
  refine z_iconst (v := 0) X dL_meanTemperature_17 (by decide) ?_
  refine z_iret X rfl rfl (Nat.le_of_ble_eq_true rfl) (Nat.le_of_ble_eq_true rfl) dL_meanTemperature_18 ?_
  exact ⟨_, rfl, zOd_l h (by unfold q_meanTemperatureF; rw [if_neg (Classical.not_not.mpr ((fzr h r).mpr c0)), if_neg c1]) rfl (by unfold q_meanTemperatureT; rw [if_neg (Classical.not_not.mpr ((fzr h r).mpr c0)), if_neg c1]) (by unfold q_meanTemperatureV; rw [if_neg (Classical.not_not.mpr ((fzr h r).mpr c0)), if_neg c1] <;> rw [(h.2.2.2.1.1 _ c0.1).2.2.2.2.2.2, zf_l2d])⟩

set_option maxRecDepth 100000 in
set_option maxHeartbeats 4000000 in
theorem h_freeSpace (l : Launch) (hl0 : l.stackTraces = false) {n : Nat → Nat} {i x : Nat → Nat → Int32} {lm : Nat → Nat → Int64} {y : Nat → Nat → Nat} {t : Nat} (h : CI n i x lm y t) (ol : Int64) (od : UInt64) (r : Int32) : zS l yL_freeSpace wsL_freeSpace 11 199 8 1100 [.ref 1, .int r, .ref 14] (cmm n i x lm y ol od) (zpi (fun k M1 => zO (q_freeSpaceF i (n 7) r) (lm) (q_freeSpaceT i (n 7) r) ((q_freeSpaceV i (n 7) r).toInt64) k M1)) zno := by
  refine z_introW (cc := cL_freeSpace) (maxL := 4) (ret := (some .int)) (hh := [(0, 9, 12, 27)]) (by decide +kernel) rfl (Nat.le_of_ble_eq_true rfl) ?_
  intro g X
  show zE g 4 0 [(0, .ref 1), (1, .int r), (2, .ref 14)] [] (cmm n i x lm y ol od) 0 0
  refine z_aload_n X 2 dL_freeSpace_0 rfl rfl ?_
  refine z_iconst (v := 0) X dL_freeSpace_1 (by decide) ?_
  refine z_aload_n X 0 dL_freeSpace_2 rfl rfl ?_
  refine z_iload_n X 1 dL_freeSpace_3 rfl rfl ?_
  refine z_tryVi (As := [.int r]) (rest := [.int 0, .ref 14]) (n1 := 1) (ci := 10) X dL_freeSpace_4 (c_X7_freeSpace l hl0 n i x lm y ol od h.1 r) gL_freeSpace_X7_freeSpace rfl rfl (by decide +kernel) ⟨by decide, by decide⟩ ck_1 rfl rfl (Nat.le_of_ble_eq_true rfl) ⟨by decide, by decide⟩ rfl (fun E he => ?_) ?_
  · obtain ⟨rfl, c0⟩ := he
    exact ⟨1, ⟨[], ⟨0, 9, 12, 27⟩, [], 3, 1, 1, rfl, fun _ hz => absurd hz List.not_mem_nil, rfl, by decide, by decide +kernel, by decide +kernel, Or.inl ⟨3, dL_freeSpace_12, rfl, rfl⟩, by decide, dL_freeSpace_13, by decide, dL_freeSpace_14⟩, ⟨_, rfl, zO_x h (by unfold q_freeSpaceF; rw [if_pos (mt (fzr h r).mp c0)]) rfl (by unfold q_freeSpaceT; rw [if_pos (mt (fzr h r).mp c0)]) (by decide)⟩⟩
  rintro _ _ ⟨c0, rfl, rfl⟩
  refine z_i2l X dL_freeSpace_7 ?_
  refine z_last (j := 0) X dL_freeSpace_8 ck_14 (by rw [cn_14]; unfold vp_in; decide) (by decide) ?_
  refine z_mem (M' := cmm n i x lm y ((8 - m_filled i (nI (cl r)) (n 7)).toInt64) od) cw_ol ?_
  refine z_goto (tgt := 15) X dL_freeSpace_9 (by decide) ?_
  refine z_iconst (v := 0) X dL_freeSpace_15 (by decide) ?_
  refine z_iret X rfl rfl (Nat.le_of_ble_eq_true rfl) (Nat.le_of_ble_eq_true rfl) dL_freeSpace_16 ?_
  exact ⟨_, rfl, zO_l h (by unfold q_freeSpaceF; rw [if_neg (Classical.not_not.mpr ((fzr h r).mpr c0))]) rfl (by unfold q_freeSpaceT; rw [if_neg (Classical.not_not.mpr ((fzr h r).mpr c0))]) (congrArg Int32.toInt64 (by unfold q_freeSpaceV; rw [if_neg (Classical.not_not.mpr ((fzr h r).mpr c0))] <;> rw [m_filled_43, ← c0.2]))⟩

set_option maxRecDepth 100000 in
set_option maxHeartbeats 4000000 in
theorem h_setPrices (l : Launch) (hl0 : l.stackTraces = false) {n : Nat → Nat} {i x : Nat → Nat → Int32} {lm : Nat → Nat → Int64} {y : Nat → Nat → Nat} {t : Nat} (h : CI n i x lm y t) (ol : Int64) (od : UInt64) (a : Int32) (b : Int32) (f : Int32) (e : Int32) : zS l yL_setPrices wsL_setPrices 8 137 8 1100 [.ref 1, .int a, .int b, .int f, .int e, .ref 14] (cmm n i x lm y ol od) (zpi (fun k M1 => zO (q_setPricesF i a b f e) (lm) (q_setPricesT i a b f e) ((q_setPricesV i a b f e).toInt64) k M1)) zno := by
  refine z_introW (cc := cL_setPrices) (maxL := 7) (ret := (some .int)) (hh := [(0, 14, 17, 13)]) (by decide +kernel) rfl (Nat.le_of_ble_eq_true rfl) ?_
  intro g X
  show zE g 7 0 [(0, .ref 1), (1, .int a), (2, .int b), (3, .int f), (4, .int e), (5, .ref 14)] [] (cmm n i x lm y ol od) 0 0
  refine z_aload X 5 dL_setPrices_0 rfl ?_
  refine z_iconst (v := 0) X dL_setPrices_2 (by decide) ?_
  refine z_aload_n X 0 dL_setPrices_3 rfl rfl ?_
  refine z_iload_n X 1 dL_setPrices_4 rfl rfl ?_
  refine z_iload_n X 2 dL_setPrices_5 rfl rfl ?_
  refine z_iload_n X 3 dL_setPrices_6 rfl rfl ?_
  refine z_iload X 4 dL_setPrices_7 rfl ?_
  refine z_tryVi (As := [.int a, .int b, .int f, .int e]) (rest := [.int 0, .ref 14]) (n1 := 4) (ci := 10) X dL_setPrices_9 (c_X7_setPrices l hl0 n i x lm y ol od h.1 a b f e) gL_setPrices_X7_setPrices rfl rfl (by decide +kernel) ⟨by decide, by decide⟩ ck_1 rfl rfl (Nat.le_of_ble_eq_true rfl) ⟨by decide, by decide⟩ rfl (fun E he => ?_) ?_
  · obtain ⟨rfl, c0⟩ := he
    exact ⟨1, ⟨[], ⟨0, 14, 17, 13⟩, [], 6, 2, 1, rfl, fun _ hz => absurd hz List.not_mem_nil, rfl, by decide, by decide +kernel, by decide +kernel, Or.inr ⟨dL_setPrices_17, rfl⟩, by decide, dL_setPrices_19, by decide, dL_setPrices_20⟩, ⟨_, rfl, zO_x h (by unfold q_setPricesF; rw [if_neg c0]) rfl (by unfold q_setPricesT; rw [if_neg c0]) (by decide)⟩⟩
  rintro _ _ ⟨c0, rfl, rfl⟩
  refine z_i2l X dL_setPrices_12 ?_
  refine z_last (j := 0) X dL_setPrices_13 ck_14 (by rw [cn_14]; unfold vp_in; decide) (by decide) ?_
  refine z_mem (M' := cmm n (zup (zup (zup i 1 18 a) 1 19 b) 1 21 e) (zup x 7 0 f) lm y ((i 1 18).toInt64) od) cw_ol ?_
  refine z_goto (tgt := 21) X dL_setPrices_14 (by decide) ?_
  refine z_iconst (v := 0) X dL_setPrices_21 (by decide) ?_
  refine z_iret X rfl rfl (Nat.le_of_ble_eq_true rfl) (Nat.le_of_ble_eq_true rfl) dL_setPrices_22 ?_
  exact ⟨_, rfl, zO_m (n' := n) (ic := zup (zup (zup i 1 18 a) 1 19 b) 1 21 e) (x' := zup x 7 0 f) (lc := lm) (y' := y) (t' := t) (F0 := zup (zup (zup (zup (zup i 1 43 0) 1 18 a) 1 19 b) 1 20 f) 1 21 e) (L0 := lm) (by unfold q_setPricesF; rw [if_pos c0]) rfl (by unfold q_setPricesT; rw [if_pos c0]) (congrArg Int32.toInt64 (by unfold q_setPricesV; rw [if_pos c0])) (eV_zup (eV_43 (by omega) (eV_zup (eV_zup (eV_43 (by omega) eV_rf) rfl) rfl)) rfl) rfl (CI_peak (CI_1 (CI_1 (CI_43 h) (by decide)) (by decide)) c0.2.2.1 c0.2.2.2)⟩

set_option maxRecDepth 100000 in
set_option maxHeartbeats 4000000 in
theorem h_setCharge (l : Launch) (hl0 : l.stackTraces = false) {n : Nat → Nat} {i x : Nat → Nat → Int32} {lm : Nat → Nat → Int64} {y : Nat → Nat → Nat} {t : Nat} (h : CI n i x lm y t) (ol : Int64) (od : UInt64) (a : Int32) : zS l yL_setCharge wsL_setCharge 8 134 8 1100 [.ref 1, .int a, .ref 14] (cmm n i x lm y ol od) (zpi (fun k M1 => zO (q_setChargeF i a) (lm) (q_setChargeT i a) ((q_setChargeV i a).toInt64) k M1)) zno := by
  refine z_introW (cc := cL_setCharge) (maxL := 4) (ret := (some .int)) (hh := [(0, 9, 12, 13)]) (by decide +kernel) rfl (Nat.le_of_ble_eq_true rfl) ?_
  intro g X
  show zE g 4 0 [(0, .ref 1), (1, .int a), (2, .ref 14)] [] (cmm n i x lm y ol od) 0 0
  refine z_aload_n X 2 dL_setCharge_0 rfl rfl ?_
  refine z_iconst (v := 0) X dL_setCharge_1 (by decide) ?_
  refine z_aload_n X 0 dL_setCharge_2 rfl rfl ?_
  refine z_iload_n X 1 dL_setCharge_3 rfl rfl ?_
  refine z_tryVi (As := [.int a]) (rest := [.int 0, .ref 14]) (n1 := 1) (ci := 10) X dL_setCharge_4 (c_X7_setCharge l hl0 n i x lm y ol od h.1 a) gL_setCharge_X7_setCharge rfl rfl (by decide +kernel) ⟨by decide, by decide⟩ ck_1 rfl rfl (Nat.le_of_ble_eq_true rfl) ⟨by decide, by decide⟩ rfl (fun E he => ?_) ?_
  · obtain ⟨rfl, c0⟩ := he
    exact ⟨1, ⟨[], ⟨0, 9, 12, 13⟩, [], 3, 1, 1, rfl, fun _ hz => absurd hz List.not_mem_nil, rfl, by decide, by decide +kernel, by decide +kernel, Or.inl ⟨3, dL_setCharge_12, rfl, rfl⟩, by decide, dL_setCharge_13, by decide, dL_setCharge_14⟩, ⟨_, rfl, zO_x h (by unfold q_setChargeF; rw [if_neg c0]) rfl (by unfold q_setChargeT; rw [if_neg c0]) (by decide)⟩⟩
  rintro _ _ ⟨c0, rfl, rfl⟩
  refine z_i2l X dL_setCharge_7 ?_
  refine z_last (j := 0) X dL_setCharge_8 ck_14 (by rw [cn_14]; unfold vp_in; decide) (by decide) ?_
  refine z_mem (M' := cmm n (zup i 1 22 a) x lm y ((i 1 22).toInt64) od) cw_ol ?_
  refine z_goto (tgt := 15) X dL_setCharge_9 (by decide) ?_
  refine z_iconst (v := 0) X dL_setCharge_15 (by decide) ?_
  refine z_iret X rfl rfl (Nat.le_of_ble_eq_true rfl) (Nat.le_of_ble_eq_true rfl) dL_setCharge_16 ?_
  exact ⟨_, rfl, zO_m (n' := n) (ic := zup i 1 22 a) (x' := x) (lc := lm) (y' := y) (t' := t) (F0 := zup (zup i 1 43 0) 1 22 a) (L0 := lm) (by unfold q_setChargeF; rw [if_pos c0]) rfl (by unfold q_setChargeT; rw [if_pos c0]) (congrArg Int32.toInt64 (by unfold q_setChargeV; rw [if_pos c0])) (eV_zup (eV_43 (by omega) eV_rf) rfl) rfl (CI_1 (CI_43 h) (by decide))⟩

set_option maxRecDepth 100000 in
set_option maxHeartbeats 4000000 in
theorem h_setPowerLimit (l : Launch) (hl0 : l.stackTraces = false) {n : Nat → Nat} {i x : Nat → Nat → Int32} {lm : Nat → Nat → Int64} {y : Nat → Nat → Nat} {t : Nat} (h : CI n i x lm y t) (ol : Int64) (od : UInt64) (a : Int32) : zS l yL_setPowerLimit wsL_setPowerLimit 8 134 8 1100 [.ref 1, .int a, .ref 14] (cmm n i x lm y ol od) (zpi (fun k M1 => zO (q_setPowerLimitF i a) (lm) (q_setPowerLimitT i a) ((q_setPowerLimitV i a).toInt64) k M1)) zno := by
  refine z_introW (cc := cL_setPowerLimit) (maxL := 4) (ret := (some .int)) (hh := [(0, 9, 12, 13)]) (by decide +kernel) rfl (Nat.le_of_ble_eq_true rfl) ?_
  intro g X
  show zE g 4 0 [(0, .ref 1), (1, .int a), (2, .ref 14)] [] (cmm n i x lm y ol od) 0 0
  refine z_aload_n X 2 dL_setPowerLimit_0 rfl rfl ?_
  refine z_iconst (v := 0) X dL_setPowerLimit_1 (by decide) ?_
  refine z_aload_n X 0 dL_setPowerLimit_2 rfl rfl ?_
  refine z_iload_n X 1 dL_setPowerLimit_3 rfl rfl ?_
  refine z_tryVi (As := [.int a]) (rest := [.int 0, .ref 14]) (n1 := 1) (ci := 10) X dL_setPowerLimit_4 (c_X7_setPowerLimit l hl0 n i x lm y ol od h.1 a) gL_setPowerLimit_X7_setPowerLimit rfl rfl (by decide +kernel) ⟨by decide, by decide⟩ ck_1 rfl rfl (Nat.le_of_ble_eq_true rfl) ⟨by decide, by decide⟩ rfl (fun E he => ?_) ?_
  · obtain ⟨rfl, c0⟩ := he
    exact ⟨1, ⟨[], ⟨0, 9, 12, 13⟩, [], 3, 1, 1, rfl, fun _ hz => absurd hz List.not_mem_nil, rfl, by decide, by decide +kernel, by decide +kernel, Or.inl ⟨3, dL_setPowerLimit_12, rfl, rfl⟩, by decide, dL_setPowerLimit_13, by decide, dL_setPowerLimit_14⟩, ⟨_, rfl, zO_x h (by unfold q_setPowerLimitF; rw [if_neg c0]) rfl (by unfold q_setPowerLimitT; rw [if_neg c0]) (by decide)⟩⟩
  rintro _ _ ⟨c0, rfl, rfl⟩
  refine z_i2l X dL_setPowerLimit_7 ?_
  refine z_last (j := 0) X dL_setPowerLimit_8 ck_14 (by rw [cn_14]; unfold vp_in; decide) (by decide) ?_
  refine z_mem (M' := cmm n (zup i 1 23 a) x lm y ((i 1 23).toInt64) od) cw_ol ?_
  refine z_goto (tgt := 15) X dL_setPowerLimit_9 (by decide) ?_
  refine z_iconst (v := 0) X dL_setPowerLimit_15 (by decide) ?_
  refine z_iret X rfl rfl (Nat.le_of_ble_eq_true rfl) (Nat.le_of_ble_eq_true rfl) dL_setPowerLimit_16 ?_
  exact ⟨_, rfl, zO_m (n' := n) (ic := zup i 1 23 a) (x' := x) (lc := lm) (y' := y) (t' := t) (F0 := zup (zup i 1 43 0) 1 23 a) (L0 := lm) (by unfold q_setPowerLimitF; rw [if_pos c0]) rfl (by unfold q_setPowerLimitT; rw [if_pos c0]) (congrArg Int32.toInt64 (by unfold q_setPowerLimitV; rw [if_pos c0])) (eV_zup (eV_43 (by omega) eV_rf) rfl) rfl (CI_1 (CI_43 h) (by decide))⟩

set_option maxRecDepth 100000 in
set_option maxHeartbeats 4000000 in
theorem h_addKind (l : Launch) (hl0 : l.stackTraces = false) {n : Nat → Nat} {i x : Nat → Nat → Int32} {lm : Nat → Nat → Int64} {y : Nat → Nat → Nat} {t : Nat} (h : CI n i x lm y t) (ol : Int64) (od : UInt64) (a : Int32) (b : Int32) (c : Int32) : zS l yL_addKind wsL_addKind 13 245 8 1100 [.ref 1, .int a, .int b, .int c, .ref 14] (cmm n i x lm y ol od) (zpi (fun k M1 => zO (q_addKindF i (n 6) a b c) (lm) (q_addKindT i (n 6) a b c) ((q_addKindV i (n 6) a b c).toInt64) k M1)) zno := by
  refine z_introW (cc := cL_addKind) (maxL := 6) (ret := (some .int)) (hh := [(0, 12, 15, 13), (0, 12, 19, 15)]) (by decide +kernel) rfl (Nat.le_of_ble_eq_true rfl) ?_
  intro g X
  show zE g 6 0 [(0, .ref 1), (1, .int a), (2, .int b), (3, .int c), (4, .ref 14)] [] (cmm n i x lm y ol od) 0 0
  refine z_aload X 4 dL_addKind_0 rfl ?_
  refine z_iconst (v := 0) X dL_addKind_2 (by decide) ?_
  refine z_aload_n X 0 dL_addKind_3 rfl rfl ?_
  refine z_iload_n X 1 dL_addKind_4 rfl rfl ?_
  refine z_iload_n X 2 dL_addKind_5 rfl rfl ?_
  refine z_iload_n X 3 dL_addKind_6 rfl rfl ?_
  refine z_tryVi (As := [.int a, .int b, .int c]) (rest := [.int 0, .ref 14]) (n1 := 3) (ci := 10) X dL_addKind_7 (c_X7_addKind l hl0 n i x lm y ol od h.1 a b c) gL_addKind_X7_addKind rfl rfl (by decide +kernel) ⟨by decide, by decide⟩ ck_1 rfl rfl (Nat.le_of_ble_eq_true rfl) ⟨by decide, by decide⟩ rfl (fun E he => ?_) ?_
  · rcases he with ⟨rfl, c0⟩ | ⟨rfl, c0, c1⟩
    · exact ⟨1, ⟨[], ⟨0, 12, 15, 13⟩, [⟨0, 12, 19, 15⟩], 5, 2, 1, rfl, fun _ hz => absurd hz List.not_mem_nil, rfl, by decide, by decide +kernel, by decide +kernel, Or.inr ⟨dL_addKind_15, rfl⟩, by decide, dL_addKind_17, by decide, dL_addKind_18⟩, ⟨_, rfl, zO_x h (by unfold q_addKindF; rw [if_pos c0]) rfl (by unfold q_addKindT; rw [if_pos c0]) (by decide)⟩⟩
    · exact ⟨2, ⟨[⟨0, 12, 15, 13⟩], ⟨0, 12, 19, 15⟩, [], 5, 2, 2, rfl, List.forall_mem_cons.mpr ⟨Or.inr ⟨by decide, "java/lang/IllegalArgumentException", by decide +kernel, by decide +kernel, by decide +kernel⟩, fun _ hz => absurd hz List.not_mem_nil⟩, rfl, by decide, by decide +kernel, by decide +kernel, Or.inr ⟨dL_addKind_19, rfl⟩, by decide, dL_addKind_21, by decide, dL_addKind_22⟩, ⟨_, rfl, zO_x h (by unfold q_addKindF; rw [if_neg (Classical.not_not.mpr c0), if_pos (show nI (n 6) = 5 by rw [show n 6 = 5 by have := h.1.2.1.2.1; omega]; rfl)]) rfl (by unfold q_addKindT; rw [if_neg (Classical.not_not.mpr c0), if_pos (show nI (n 6) = 5 by rw [show n 6 = 5 by have := h.1.2.1.2.1; omega]; rfl)]) (by decide)⟩⟩
  rintro _ _ ⟨c0, c1, rfl, rfl⟩
  refine z_i2l X dL_addKind_10 ?_
  refine z_last (j := 0) X dL_addKind_11 ck_14 (by rw [cn_14]; unfold vp_in; decide) (by decide) ?_
  refine z_mem (M' := cmm (nup (nup n 1 (n 1 + 1)) 6 (n 1 + 1)) (zup (zup (zup i 127 (n 1) a) 128 (n 1) b) 129 (n 1) c) x lm y ((nI (n 1 + 1) - 1).toInt64) od) cw_ol ?_
  refine z_goto (tgt := 23) X dL_addKind_12 (by decide) ?_
  refine z_iconst (v := 0) X dL_addKind_23 (by decide) ?_
  refine z_iret X rfl rfl (Nat.le_of_ble_eq_true rfl) (Nat.le_of_ble_eq_true rfl) dL_addKind_24 ?_
  exact ⟨_, rfl, zO_m (n' := nup (nup n 1 (n 1 + 1)) 6 (n 1 + 1)) (ic := zup (zup (zup i 127 (n 1) a) 128 (n 1) b) 129 (n 1) c) (x' := x) (lc := lm) (y' := y) (t' := t) (F0 := zup (zup (zup (zup (zup i 1 43 0) 127 (n 6) a) 128 (n 6) b) 129 (n 6) c) 1 30 (nI (n 6) + 1)) (L0 := lm) (by unfold q_addKindF; rw [if_neg (Classical.not_not.mpr c0), if_neg (show ¬ nI (n 6) = 5 from nI_nlt2 (N := 5) c1 (by decide))]) rfl (by unfold q_addKindT; rw [if_neg (Classical.not_not.mpr c0), if_neg (show ¬ nI (n 6) = 5 from nI_nlt2 (N := 5) c1 (by decide))]) (congrArg Int32.toInt64 (by unfold q_addKindV; rw [if_neg (Classical.not_not.mpr c0), if_neg (show ¬ nI (n 6) = 5 from nI_nlt2 (N := 5) c1 (by decide))] <;> rw [h.1.1.2.1, nI_1])) (by rw [h.1.1.2.1]; exact eV_43 (by omega) (eV_zup (eV_zup (eV_zup (eV_43 (by omega) eV_rf) rfl) rfl) rfl)) rfl (CI_kind (CI_43 h) c1 c0.1 c0.2.1)⟩

set_option maxRecDepth 100000 in
set_option maxHeartbeats 4000000 in
theorem h_addPallet (l : Launch) (hl0 : l.stackTraces = false) {n : Nat → Nat} {i x : Nat → Nat → Int32} {lm : Nat → Nat → Int64} {y : Nat → Nat → Nat} {t : Nat} (h : CI n i x lm y t) (ol : Int64) (od : UInt64) (kd : Int32) (r : Int32) : zS l yL_addPallet wsL_addPallet 13 247 8 1100 [.ref 1, .int kd, .int r, .ref 14] (cmm n i x lm y ol od) (zpi (fun k M1 => zO (q_addPalletF i (n 6) (n 7) kd r) (lm) (q_addPalletT i (n 6) (n 7) kd r) ((q_addPalletV i (n 6) (n 7) kd r).toInt64) k M1)) zno := by
  refine z_introW (cc := cL_addPallet) (maxL := 5) (ret := (some .int)) (hh := [(0, 10, 13, 27), (0, 10, 17, 15)]) (by decide +kernel) rfl (Nat.le_of_ble_eq_true rfl) ?_
  intro g X
  show zE g 5 0 [(0, .ref 1), (1, .int kd), (2, .int r), (3, .ref 14)] [] (cmm n i x lm y ol od) 0 0
  refine z_aload_n X 3 dL_addPallet_0 rfl rfl ?_
  refine z_iconst (v := 0) X dL_addPallet_1 (by decide) ?_
  refine z_aload_n X 0 dL_addPallet_2 rfl rfl ?_
  refine z_iload_n X 1 dL_addPallet_3 rfl rfl ?_
  refine z_iload_n X 2 dL_addPallet_4 rfl rfl ?_
  refine z_tryVi (As := [.int kd, .int r]) (rest := [.int 0, .ref 14]) (n1 := 2) (ci := 10) X dL_addPallet_5 (c_X7_addPallet l hl0 n i x lm y ol od h.1 kd r) gL_addPallet_X7_addPallet rfl rfl (by decide +kernel) ⟨by decide, by decide⟩ ck_1 rfl rfl (Nat.le_of_ble_eq_true rfl) ⟨by decide, by decide⟩ rfl (fun E he => ?_) ?_
  · rcases he with ⟨rfl, c0⟩ | ⟨rfl, c0, c1⟩ | ⟨rfl, c0, c1, c2⟩
    · exact ⟨1, ⟨[], ⟨0, 10, 13, 27⟩, [⟨0, 10, 17, 15⟩], 4, 2, 1, rfl, fun _ hz => absurd hz List.not_mem_nil, rfl, by decide, by decide +kernel, by decide +kernel, Or.inr ⟨dL_addPallet_13, rfl⟩, by decide, dL_addPallet_15, by decide, dL_addPallet_16⟩, ⟨_, rfl, zO_x h (by unfold q_addPalletF; rw [if_pos (show ¬ (zin kd 0 (nI (n 6) - 1) ∧ zin r 0 (i 1 17 - 1)) from fun e => c0 ((fzk h kd).mp e.1))]) rfl (by unfold q_addPalletT; rw [if_pos (show ¬ (zin kd 0 (nI (n 6) - 1) ∧ zin r 0 (i 1 17 - 1)) from fun e => c0 ((fzk h kd).mp e.1))]) (by decide)⟩⟩
    · exact ⟨1, ⟨[], ⟨0, 10, 13, 27⟩, [⟨0, 10, 17, 15⟩], 4, 2, 1, rfl, fun _ hz => absurd hz List.not_mem_nil, rfl, by decide, by decide +kernel, by decide +kernel, Or.inr ⟨dL_addPallet_13, rfl⟩, by decide, dL_addPallet_15, by decide, dL_addPallet_16⟩, ⟨_, rfl, zO_x h (by unfold q_addPalletF; rw [if_pos (show ¬ (zin kd 0 (nI (n 6) - 1) ∧ zin r 0 (i 1 17 - 1)) from fun e => c1 ((fzr h r).mp e.2))]) rfl (by unfold q_addPalletT; rw [if_pos (show ¬ (zin kd 0 (nI (n 6) - 1) ∧ zin r 0 (i 1 17 - 1)) from fun e => c1 ((fzr h r).mp e.2))]) (by decide)⟩⟩
    · exact ⟨2, ⟨[⟨0, 10, 13, 27⟩], ⟨0, 10, 17, 15⟩, [], 4, 2, 2, rfl, List.forall_mem_cons.mpr ⟨Or.inr ⟨by decide, "java/lang/IndexOutOfBoundsException", by decide +kernel, by decide +kernel, by decide +kernel⟩, fun _ hz => absurd hz List.not_mem_nil⟩, rfl, by decide, by decide +kernel, by decide +kernel, Or.inr ⟨dL_addPallet_17, rfl⟩, by decide, dL_addPallet_19, by decide, dL_addPallet_20⟩, ⟨_, rfl, zO_x h (by unfold q_addPalletF; rw [if_neg (Classical.not_not.mpr (And.intro ((fzk h kd).mpr c0) ((fzr h r).mpr c1))), if_pos (show nI (n 7) = 24 ∨ m_filled i r (n 7) = 8 from (Classical.em (n 7 < 24)).elim (fun e => Or.inr ((sp h c1).2.2.mpr (fun q => c2 ⟨e, (sp h c1).2.1.mpr q⟩))) (fun e => Or.inl (by rw [show n 7 = 24 by have := h.1.2.1.2.2.1; omega]; rfl)))]) rfl (by unfold q_addPalletT; rw [if_neg (Classical.not_not.mpr (And.intro ((fzk h kd).mpr c0) ((fzr h r).mpr c1))), if_pos (show nI (n 7) = 24 ∨ m_filled i r (n 7) = 8 from (Classical.em (n 7 < 24)).elim (fun e => Or.inr ((sp h c1).2.2.mpr (fun q => c2 ⟨e, (sp h c1).2.1.mpr q⟩))) (fun e => Or.inl (by rw [show n 7 = 24 by have := h.1.2.1.2.2.1; omega]; rfl)))]) (by decide)⟩⟩
  rintro _ _ ⟨c0, c1, c2, rfl, rfl⟩
  refine z_i2l X dL_addPallet_8 ?_
  refine z_last (j := 0) X dL_addPallet_9 ck_14 (by rw [cn_14]; unfold vp_in; decide) (by decide) ?_
  refine z_mem (M' := cmm (nup (nup (nup n 2 (n 2 + 1)) 4 (n 4 + 1)) 7 (n 2 + 1)) (zup (zup (zup i 134 (n 2) 114) 131 (n 2) kd) 133 (n 2) (i 127 (cl kd))) (zup (zup x 3 (n 2) 960) 4 (n 4) (i 1 0)) lm (zup (zup (zup y 1 (n 4) (cl r)) 2 (n 4) 0) 0 (n 2) (n 4)) ((nI (n 2)).toInt64) od) cw_ol ?_
  refine z_goto (tgt := 21) X dL_addPallet_10 (by decide) ?_
  refine z_iconst (v := 0) X dL_addPallet_21 (by decide) ?_
  refine z_iret X rfl rfl (Nat.le_of_ble_eq_true rfl) (Nat.le_of_ble_eq_true rfl) dL_addPallet_22 ?_
  exact ⟨_, rfl, zO_m (n' := nup (nup (nup n 2 (n 2 + 1)) 4 (n 4 + 1)) 7 (n 2 + 1)) (ic := zup (zup (zup i 134 (n 2) 114) 131 (n 2) kd) 133 (n 2) (i 127 (cl kd))) (x' := zup (zup x 3 (n 2) 960) 4 (n 4) (i 1 0)) (lc := lm) (y' := zup (zup (zup y 1 (n 4) (cl r)) 2 (n 4) 0) 0 (n 2) (n 4)) (t' := t) (F0 := zup (zup (zup (zup (zup (zup i 1 43 0) 131 (n 7) kd) 132 (n 7) r) 133 (n 7) (i 127 (cl kd))) 134 (n 7) 114) 1 35 (nI (n 7) + 1)) (L0 := lm) (by unfold q_addPalletF; rw [if_neg (Classical.not_not.mpr (And.intro ((fzk h kd).mpr c0) ((fzr h r).mpr c1))), if_neg (show ¬ (nI (n 7) = 24 ∨ m_filled i r (n 7) = 8) from fun e => e.elim (nI_nlt2 (N := 24) c2.1 (by decide)) (fun q => (sp h c1).2.2.mp q ((sp h c1).2.1.mp c2.2)))]) rfl (by unfold q_addPalletT; rw [if_neg (Classical.not_not.mpr (And.intro ((fzk h kd).mpr c0) ((fzr h r).mpr c1))), if_neg (show ¬ (nI (n 7) = 24 ∨ m_filled i r (n 7) = 8) from fun e => e.elim (nI_nlt2 (N := 24) c2.1 (by decide)) (fun q => (sp h c1).2.2.mp q ((sp h c1).2.1.mp c2.2)))]) (congrArg Int32.toInt64 (by unfold q_addPalletV; rw [if_neg (Classical.not_not.mpr (And.intro ((fzk h kd).mpr c0) ((fzr h r).mpr c1))), if_neg (show ¬ (nI (n 7) = 24 ∨ m_filled i r (n 7) = 8) from fun e => e.elim (nI_nlt2 (N := 24) c2.1 (by decide)) (fun q => (sp h c1).2.2.mp q ((sp h c1).2.1.mp c2.2)))] <;> rw [h.1.1.2.2.1, Int32.add_sub_cancel])) (by rw [h.1.1.2.2.1]; exact eV_pal) rfl (by have h9 := CI_pallet (CI_43 (v := 0) h) c2.1 c0 c1 (by rw [flN_same (i := i) (fun p _ => ⟨e43 (by omega), e43 (by omega)⟩)]; exact (sp h c1).2.1.mp c2.2); rw [show zup i 1 43 0 127 (cl kd) = i 127 (cl kd) from zup_n (by omega), show zup i 1 43 0 1 0 = i 1 0 from zup_n (by omega)] at h9; exact h9)⟩

set_option maxRecDepth 100000 in
set_option maxHeartbeats 4000000 in
theorem h_movePallet (l : Launch) (hl0 : l.stackTraces = false) {n : Nat → Nat} {i x : Nat → Nat → Int32} {lm : Nat → Nat → Int64} {y : Nat → Nat → Nat} {t : Nat} (h : CI n i x lm y t) (ol : Int64) (od : UInt64) (p : Int32) (r : Int32) : zS l yL_movePallet wsL_movePallet 12 224 8 1100 [.ref 1, .int p, .int r, .ref 14] (cmm n i x lm y ol od) (zpi (fun k M1 => zO (q_movePalletF i (n 7) p r) (lm) (q_movePalletT i (n 7) p r) ((q_movePalletV i (n 7) p r).toInt64) k M1)) zno := by
  refine z_introW (cc := cL_movePallet) (maxL := 5) (ret := (some .int)) (hh := [(0, 10, 13, 27), (0, 10, 17, 46), (0, 10, 21, 15)]) (by decide +kernel) rfl (Nat.le_of_ble_eq_true rfl) ?_
  intro g X
  show zE g 5 0 [(0, .ref 1), (1, .int p), (2, .int r), (3, .ref 14)] [] (cmm n i x lm y ol od) 0 0
  refine z_aload_n X 3 dL_movePallet_0 rfl rfl ?_
  refine z_iconst (v := 0) X dL_movePallet_1 (by decide) ?_
  refine z_aload_n X 0 dL_movePallet_2 rfl rfl ?_
  refine z_iload_n X 1 dL_movePallet_3 rfl rfl ?_
  refine z_iload_n X 2 dL_movePallet_4 rfl rfl ?_
  refine z_tryVi (As := [.int p, .int r]) (rest := [.int 0, .ref 14]) (n1 := 2) (ci := 10) X dL_movePallet_5 (c_X7_movePallet l hl0 n i x lm y ol od h.1 p r) gL_movePallet_X7_movePallet rfl rfl (by decide +kernel) ⟨by decide, by decide⟩ ck_1 rfl rfl (Nat.le_of_ble_eq_true rfl) ⟨by decide, by decide⟩ rfl (fun E he => ?_) ?_
  · rcases he with ⟨rfl, c0⟩ | ⟨rfl, c0, c1⟩ | ⟨rfl, c0, c1, c2⟩ | ⟨rfl, c0, c1, c2, c3⟩
    · exact ⟨1, ⟨[], ⟨0, 10, 13, 27⟩, [⟨0, 10, 17, 46⟩, ⟨0, 10, 21, 15⟩], 4, 2, 1, rfl, fun _ hz => absurd hz List.not_mem_nil, rfl, by decide, by decide +kernel, by decide +kernel, Or.inr ⟨dL_movePallet_13, rfl⟩, by decide, dL_movePallet_15, by decide, dL_movePallet_16⟩, ⟨_, rfl, zO_x h (by unfold q_movePalletF; rw [if_pos (show ¬ (zin p 0 (i 1 35 - 1) ∧ zin r 0 (i 1 17 - 1)) from fun e => c0 ((fzp h p).mp e.1))]) rfl (by unfold q_movePalletT; rw [if_pos (show ¬ (zin p 0 (i 1 35 - 1) ∧ zin r 0 (i 1 17 - 1)) from fun e => c0 ((fzp h p).mp e.1))]) (by decide)⟩⟩
    · exact ⟨1, ⟨[], ⟨0, 10, 13, 27⟩, [⟨0, 10, 17, 46⟩, ⟨0, 10, 21, 15⟩], 4, 2, 1, rfl, fun _ hz => absurd hz List.not_mem_nil, rfl, by decide, by decide +kernel, by decide +kernel, Or.inr ⟨dL_movePallet_13, rfl⟩, by decide, dL_movePallet_15, by decide, dL_movePallet_16⟩, ⟨_, rfl, zO_x h (by unfold q_movePalletF; rw [if_pos (show ¬ (zin p 0 (i 1 35 - 1) ∧ zin r 0 (i 1 17 - 1)) from fun e => c1 ((fzr h r).mp e.2))]) rfl (by unfold q_movePalletT; rw [if_pos (show ¬ (zin p 0 (i 1 35 - 1) ∧ zin r 0 (i 1 17 - 1)) from fun e => c1 ((fzr h r).mp e.2))]) (by decide)⟩⟩
    · exact ⟨2, ⟨[⟨0, 10, 13, 27⟩], ⟨0, 10, 17, 46⟩, [⟨0, 10, 21, 15⟩], 4, 2, 2, rfl, List.forall_mem_cons.mpr ⟨Or.inr ⟨by decide, "java/lang/IndexOutOfBoundsException", by decide +kernel, by decide +kernel, by decide +kernel⟩, fun _ hz => absurd hz List.not_mem_nil⟩, rfl, by decide, by decide +kernel, by decide +kernel, Or.inr ⟨dL_movePallet_17, rfl⟩, by decide, dL_movePallet_19, by decide, dL_movePallet_20⟩, ⟨_, rfl, zO_x h (by unfold q_movePalletF; rw [if_neg (Classical.not_not.mpr (And.intro ((fzp h p).mpr c0) ((fzr h r).mpr c1))), if_pos c2]) rfl (by unfold q_movePalletT; rw [if_neg (Classical.not_not.mpr (And.intro ((fzp h p).mpr c0) ((fzr h r).mpr c1))), if_pos c2]) (by decide)⟩⟩
    · exact ⟨3, ⟨[⟨0, 10, 13, 27⟩, ⟨0, 10, 17, 46⟩], ⟨0, 10, 21, 15⟩, [], 4, 2, 3, rfl, List.forall_mem_cons.mpr ⟨Or.inr ⟨by decide, "java/lang/IndexOutOfBoundsException", by decide +kernel, by decide +kernel, by decide +kernel⟩, List.forall_mem_cons.mpr ⟨Or.inr ⟨by decide, "java/util/NoSuchElementException", by decide +kernel, by decide +kernel, by decide +kernel⟩, fun _ hz => absurd hz List.not_mem_nil⟩⟩, rfl, by decide, by decide +kernel, by decide +kernel, Or.inr ⟨dL_movePallet_21, rfl⟩, by decide, dL_movePallet_23, by decide, dL_movePallet_24⟩, ⟨_, rfl, zO_x h (by unfold q_movePalletF; rw [if_neg (Classical.not_not.mpr (And.intro ((fzp h p).mpr c0) ((fzr h r).mpr c1))), if_neg (Classical.not_not.mpr c2), if_pos (show ¬ i 132 (cl p) = r ∧ m_filled i r (n 7) = 8 from ⟨fun q => c3 (Or.inl (s_mv h c0 c1 q)), (sp h c1).2.2.mpr (fun q => c3 (Or.inr ((sp h c1).2.1.mpr q)))⟩)]) rfl (by unfold q_movePalletT; rw [if_neg (Classical.not_not.mpr (And.intro ((fzp h p).mpr c0) ((fzr h r).mpr c1))), if_neg (Classical.not_not.mpr c2), if_pos (show ¬ i 132 (cl p) = r ∧ m_filled i r (n 7) = 8 from ⟨fun q => c3 (Or.inl (s_mv h c0 c1 q)), (sp h c1).2.2.mpr (fun q => c3 (Or.inr ((sp h c1).2.1.mpr q)))⟩)]) (by decide)⟩⟩
  rintro _ _ ⟨c0, c1, c2, c3, rfl, rfl⟩
  by_cases hS : y 1 (y 0 (cl p)) = cl r
  · rw [if_pos hS]
    refine z_i2l X dL_movePallet_8 ?_
    refine z_last (j := 0) X dL_movePallet_9 ck_14 (by rw [cn_14]; unfold vp_in; decide) (by decide) ?_
    refine z_mem (M' := cmm n i x lm y ((i 132 (cl p)).toInt64) od) cw_ol ?_
    refine z_goto (tgt := 25) X dL_movePallet_10 (by decide) ?_
    refine z_iconst (v := 0) X dL_movePallet_25 (by decide) ?_
    refine z_iret X rfl rfl (Nat.le_of_ble_eq_true rfl) (Nat.le_of_ble_eq_true rfl) dL_movePallet_26 ?_
    exact ⟨_, rfl, zO_m (n' := n) (ic := i) (x' := x) (lc := lm) (y' := y) (t' := t) (F0 := zup (zup i 1 43 0) 132 (cl p) r) (L0 := lm) (by unfold q_movePalletF; rw [if_neg (Classical.not_not.mpr (And.intro ((fzp h p).mpr c0) ((fzr h r).mpr c1))), if_neg (Classical.not_not.mpr c2), if_neg (show ¬ (¬ i 132 (cl p) = r ∧ m_filled i r (n 7) = 8) from fun e => c3.elim (fun q => e.1 (by rw [(h.1.2.2.1 _ c0.1).2.2, q]; exact c1.2.symm)) (fun q => (sp h c1).2.2.mp e.2 ((sp h c1).2.1.mp q)))]) rfl (by unfold q_movePalletT; rw [if_neg (Classical.not_not.mpr (And.intro ((fzp h p).mpr c0) ((fzr h r).mpr c1))), if_neg (Classical.not_not.mpr c2), if_neg (show ¬ (¬ i 132 (cl p) = r ∧ m_filled i r (n 7) = 8) from fun e => c3.elim (fun q => e.1 (by rw [(h.1.2.2.1 _ c0.1).2.2, q]; exact c1.2.symm)) (fun q => (sp h c1).2.2.mp e.2 ((sp h c1).2.1.mp q)))]) (congrArg Int32.toInt64 (by unfold q_movePalletV; rw [if_neg (Classical.not_not.mpr (And.intro ((fzp h p).mpr c0) ((fzr h r).mpr c1))), if_neg (Classical.not_not.mpr c2), if_neg (show ¬ (¬ i 132 (cl p) = r ∧ m_filled i r (n 7) = 8) from fun e => c3.elim (fun q => e.1 (by rw [(h.1.2.2.1 _ c0.1).2.2, q]; exact c1.2.symm)) (fun q => (sp h c1).2.2.mp e.2 ((sp h c1).2.1.mp q)))])) (eV_132 (eV_43 (by omega) eV_rf)) rfl (by rw [zup_self (by rw [e43 (by omega), (h.1.2.2.1 _ c0.1).2.2, hS]; exact c1.2)]; exact CI_43 h)⟩
  · rw [if_neg hS]
    refine z_i2l X dL_movePallet_8 ?_
    refine z_last (j := 0) X dL_movePallet_9 ck_14 (by rw [cn_14]; unfold vp_in; decide) (by decide) ?_
    refine z_mem (M' := cmm (nup n 4 (n 4 + 1)) i (zup x 4 (n 4) (i 1 0)) lm (zup (zup (zup y 1 (n 4) (cl r)) 2 (n 4) (if x 4 (y 0 (cl p)) = i 1 0 then y 2 (y 0 (cl p)) else y 0 (cl p) + 1)) 0 (cl p) (n 4)) ((i 132 (cl p)).toInt64) od) cw_ol ?_
    refine z_goto (tgt := 25) X dL_movePallet_10 (by decide) ?_
    refine z_iconst (v := 0) X dL_movePallet_25 (by decide) ?_
    refine z_iret X rfl rfl (Nat.le_of_ble_eq_true rfl) (Nat.le_of_ble_eq_true rfl) dL_movePallet_26 ?_
    exact ⟨_, rfl, zO_m (n' := nup n 4 (n 4 + 1)) (ic := i) (x' := zup x 4 (n 4) (i 1 0)) (lc := lm) (y' := zup (zup (zup y 1 (n 4) (cl r)) 2 (n 4) (if x 4 (y 0 (cl p)) = i 1 0 then y 2 (y 0 (cl p)) else y 0 (cl p) + 1)) 0 (cl p) (n 4)) (t' := t) (F0 := zup (zup i 1 43 0) 132 (cl p) r) (L0 := lm) (by unfold q_movePalletF; rw [if_neg (Classical.not_not.mpr (And.intro ((fzp h p).mpr c0) ((fzr h r).mpr c1))), if_neg (Classical.not_not.mpr c2), if_neg (show ¬ (¬ i 132 (cl p) = r ∧ m_filled i r (n 7) = 8) from fun e => c3.elim (fun q => e.1 (by rw [(h.1.2.2.1 _ c0.1).2.2, q]; exact c1.2.symm)) (fun q => (sp h c1).2.2.mp e.2 ((sp h c1).2.1.mp q)))]) rfl (by unfold q_movePalletT; rw [if_neg (Classical.not_not.mpr (And.intro ((fzp h p).mpr c0) ((fzr h r).mpr c1))), if_neg (Classical.not_not.mpr c2), if_neg (show ¬ (¬ i 132 (cl p) = r ∧ m_filled i r (n 7) = 8) from fun e => c3.elim (fun q => e.1 (by rw [(h.1.2.2.1 _ c0.1).2.2, q]; exact c1.2.symm)) (fun q => (sp h c1).2.2.mp e.2 ((sp h c1).2.1.mp q)))]) (congrArg Int32.toInt64 (by unfold q_movePalletV; rw [if_neg (Classical.not_not.mpr (And.intro ((fzp h p).mpr c0) ((fzr h r).mpr c1))), if_neg (Classical.not_not.mpr c2), if_neg (show ¬ (¬ i 132 (cl p) = r ∧ m_filled i r (n 7) = 8) from fun e => c3.elim (fun q => e.1 (by rw [(h.1.2.2.1 _ c0.1).2.2, q]; exact c1.2.symm)) (fun q => (sp h c1).2.2.mp e.2 ((sp h c1).2.1.mp q)))])) (eV_132 (eV_43 (by omega) eV_rf)) rfl (by have h9 := CI_move (r := r) (CI_43 (v := 0) h) c0.1 c1 (by rw [e43 (by omega)]; exact c2) hS (by rw [flN_same (i := i) (fun p _ => ⟨e43 (by omega), e43 (by omega)⟩)]; exact (sp h c1).2.1.mp (c3.resolve_left hS)); rw [show zup i 1 43 0 1 0 = i 1 0 from zup_n (by omega)] at h9; exact h9)⟩
