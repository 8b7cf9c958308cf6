/-! PART 94: the law's helpers, second part -/
set_option maxRecDepth 100000 in
set_option maxHeartbeats 4000000 in
theorem h_scrap (l : Launch) (hl0 : l.stackTraces = false) {n : Nat → Nat} {i x : Nat → Nat → Int32} {lm : Nat → Nat → Int64} {y : Nat → Nat → Nat} {t : Nat} (h : CI n i x lm y t) (ol : Int64) (od : UInt64) (p : Int32) : zS l yL_scrap wsL_scrap 11 197 8 1100 [.ref 1, .int p, .ref 14] (cmm n i x lm y ol od) (zpi (fun k M1 => zO (q_scrapF i p) (lm) (q_scrapT i p) ((q_scrapV i p).toInt64) k M1)) zno := by
  refine z_introW (cc := cL_scrap) (maxL := 4) (ret := (some .int)) (hh := [(0, 9, 12, 27), (0, 9, 15, 46)]) (by decide +kernel) rfl (Nat.le_of_ble_eq_true rfl) ?_
  intro g X
  show zE g 4 0 [(0, .ref 1), (1, .int p), (2, .ref 14)] [] (cmm n i x lm y ol od) 0 0
  refine z_aload_n X 2 dL_scrap_0 rfl rfl ?_
  refine z_iconst (v := 0) X dL_scrap_1 (by decide) ?_
  refine z_aload_n X 0 dL_scrap_2 rfl rfl ?_
  refine z_iload_n X 1 dL_scrap_3 rfl rfl ?_
  refine z_tryVi (As := [.int p]) (rest := [.int 0, .ref 14]) (n1 := 1) (ci := 10) X dL_scrap_4 (c_X7_scrap l hl0 n i x lm y ol od h.1 p) gL_scrap_X7_scrap rfl rfl (by decide +kernel) ⟨by decide, by decide⟩ ck_1 rfl rfl (Nat.le_of_ble_eq_true rfl) ⟨by decide, by decide⟩ rfl (fun E he => ?_) ?_
  · rcases he with ⟨rfl, c0⟩ | ⟨rfl, c0, c1⟩
    · exact ⟨1, ⟨[], ⟨0, 9, 12, 27⟩, [⟨0, 9, 15, 46⟩], 3, 1, 1, rfl, fun _ hz => absurd hz List.not_mem_nil, rfl, by decide, by decide +kernel, by decide +kernel, Or.inl ⟨3, dL_scrap_12, rfl, rfl⟩, by decide, dL_scrap_13, by decide, dL_scrap_14⟩, ⟨_, rfl, zO_x h (by unfold q_scrapF; rw [if_pos (mt (fzp h p).mp c0)]) rfl (by unfold q_scrapT; rw [if_pos (mt (fzp h p).mp c0)]) (by decide)⟩⟩
    · exact ⟨2, ⟨[⟨0, 9, 12, 27⟩], ⟨0, 9, 15, 46⟩, [], 3, 1, 2, rfl, List.forall_mem_cons.mpr ⟨Or.inr ⟨by decide, "java/lang/IndexOutOfBoundsException", by decide +kernel, by decide +kernel, by decide +kernel⟩, fun _ hz => absurd hz List.not_mem_nil⟩, rfl, by decide, by decide +kernel, by decide +kernel, Or.inl ⟨3, dL_scrap_15, rfl, rfl⟩, by decide, dL_scrap_16, by decide, dL_scrap_17⟩, ⟨_, rfl, zO_x h (by unfold q_scrapF; rw [if_neg (Classical.not_not.mpr ((fzp h p).mpr c0)), if_pos c1]) rfl (by unfold q_scrapT; rw [if_neg (Classical.not_not.mpr ((fzp h p).mpr c0)), if_pos c1]) (by decide)⟩⟩
  rintro _ _ ⟨c0, c1, rfl, rfl⟩
  refine z_i2l X dL_scrap_7 ?_
  refine z_last (j := 0) X dL_scrap_8 ck_14 (by rw [cn_14]; unfold vp_in; decide) (by decide) ?_
  refine z_mem (M' := cmm n (zup i 134 (cl p) 120) (zup x 3 (cl p) (i 1 0)) lm y ((i 133 (cl p)).toInt64) od) cw_ol ?_
  refine z_goto (tgt := 18) X dL_scrap_9 (by decide) ?_
  refine z_iconst (v := 0) X dL_scrap_18 (by decide) ?_
  refine z_iret X rfl rfl (Nat.le_of_ble_eq_true rfl) (Nat.le_of_ble_eq_true rfl) dL_scrap_19 ?_
  exact ⟨_, rfl, zO_m (n' := n) (ic := zup i 134 (cl p) 120) (x' := zup x 3 (cl p) (i 1 0)) (lc := lm) (y' := y) (t' := t) (F0 := zup (zup i 1 43 0) 134 (cl p) 120) (L0 := lm) (by unfold q_scrapF; rw [if_neg (Classical.not_not.mpr ((fzp h p).mpr c0)), if_neg (Classical.not_not.mpr c1)]) rfl (by unfold q_scrapT; rw [if_neg (Classical.not_not.mpr ((fzp h p).mpr c0)), if_neg (Classical.not_not.mpr c1)]) (congrArg Int32.toInt64 (by unfold q_scrapV; rw [if_neg (Classical.not_not.mpr ((fzp h p).mpr c0)), if_neg (Classical.not_not.mpr c1)])) (eV_zup (eV_43 (by omega) eV_rf) rfl) rfl (s_scrap (CI_43 h) c1 (e43 (by omega)) (e43 (by omega)))⟩

set_option maxRecDepth 100000 in
set_option maxHeartbeats 4000000 in
theorem h_state (l : Launch) (hl0 : l.stackTraces = false) {n : Nat → Nat} {i x : Nat → Nat → Int32} {lm : Nat → Nat → Int64} {y : Nat → Nat → Nat} {t : Nat} (h : CI n i x lm y t) (ol : Int64) (od : UInt64) (p : Int32) : zS l yL_state wsL_state 11 196 8 1100 [.ref 1, .int p, .ref 14] (cmm n i x lm y ol od) (zpi (fun k M1 => zO (q_stateF i p) (lm) (q_stateT i p) ((q_stateV i p).toInt64) k M1)) zno := by
  refine z_introW (cc := cL_state) (maxL := 4) (ret := (some .int)) (hh := [(0, 9, 12, 27)]) (by decide +kernel) rfl (Nat.le_of_ble_eq_true rfl) ?_
  intro g X
  show zE g 4 0 [(0, .ref 1), (1, .int p), (2, .ref 14)] [] (cmm n i x lm y ol od) 0 0
  refine z_aload_n X 2 dL_state_0 rfl rfl ?_
  refine z_iconst (v := 0) X dL_state_1 (by decide) ?_
  refine z_aload_n X 0 dL_state_2 rfl rfl ?_
  refine z_iload_n X 1 dL_state_3 rfl rfl ?_
  refine z_tryVi (As := [.int p]) (rest := [.int 0, .ref 14]) (n1 := 1) (ci := 10) X dL_state_4 (c_X7_state l hl0 n i x lm y ol od h.1 p h.2.2.1.2.2.2.1) gL_state_X7_state rfl rfl (by decide +kernel) ⟨by decide, by decide⟩ ck_1 rfl rfl (Nat.le_of_ble_eq_true rfl) ⟨by decide, by decide⟩ rfl (fun E he => ?_) ?_
  · obtain ⟨rfl, c0⟩ := he
    exact ⟨1, ⟨[], ⟨0, 9, 12, 27⟩, [], 3, 1, 1, rfl, fun _ hz => absurd hz List.not_mem_nil, rfl, by decide, by decide +kernel, by decide +kernel, Or.inl ⟨3, dL_state_12, rfl, rfl⟩, by decide, dL_state_13, by decide, dL_state_14⟩, ⟨_, rfl, zO_x h (by unfold q_stateF; rw [if_pos (mt (fzp h p).mp c0)]) rfl (by unfold q_stateT; rw [if_pos (mt (fzp h p).mp c0)]) (by decide)⟩⟩
  rintro _ _ ⟨c0, rfl, rfl⟩
  refine z_i2l X dL_state_7 ?_
  refine z_last (j := 0) X dL_state_8 ck_14 (by rw [cn_14]; unfold vp_in; decide) (by decide) ?_
  refine z_mem (M' := cmm n i x lm y ((i 134 (cl p)).toInt64) od) cw_ol ?_
  refine z_goto (tgt := 15) X dL_state_9 (by decide) ?_
  refine z_iconst (v := 0) X dL_state_15 (by decide) ?_
  refine z_iret X rfl rfl (Nat.le_of_ble_eq_true rfl) (Nat.le_of_ble_eq_true rfl) dL_state_16 ?_
  exact ⟨_, rfl, zO_l h (by unfold q_stateF; rw [if_neg (Classical.not_not.mpr ((fzp h p).mpr c0))]) rfl (by unfold q_stateT; rw [if_neg (Classical.not_not.mpr ((fzp h p).mpr c0))]) (congrArg Int32.toInt64 (by unfold q_stateV; rw [if_neg (Classical.not_not.mpr ((fzp h p).mpr c0))]))⟩

set_option maxRecDepth 100000 in
set_option maxHeartbeats 4000000 in
theorem h_roomOf (l : Launch) (hl0 : l.stackTraces = false) {n : Nat → Nat} {i x : Nat → Nat → Int32} {lm : Nat → Nat → Int64} {y : Nat → Nat → Nat} {t : Nat} (h : CI n i x lm y t) (ol : Int64) (od : UInt64) (p : Int32) : zS l yL_roomOf wsL_roomOf 11 197 8 1100 [.ref 1, .int p, .ref 14] (cmm n i x lm y ol od) (zpi (fun k M1 => zO (q_roomOfF i p) (lm) (q_roomOfT i p) ((q_roomOfV i p).toInt64) k M1)) zno := by
  refine z_introW (cc := cL_roomOf) (maxL := 4) (ret := (some .int)) (hh := [(0, 9, 12, 27), (0, 9, 15, 46)]) (by decide +kernel) rfl (Nat.le_of_ble_eq_true rfl) ?_
  intro g X
  show zE g 4 0 [(0, .ref 1), (1, .int p), (2, .ref 14)] [] (cmm n i x lm y ol od) 0 0
  refine z_aload_n X 2 dL_roomOf_0 rfl rfl ?_
  refine z_iconst (v := 0) X dL_roomOf_1 (by decide) ?_
  refine z_aload_n X 0 dL_roomOf_2 rfl rfl ?_
  refine z_iload_n X 1 dL_roomOf_3 rfl rfl ?_
  refine z_tryVi (As := [.int p]) (rest := [.int 0, .ref 14]) (n1 := 1) (ci := 10) X dL_roomOf_4 (c_X7_roomOf l hl0 n i x lm y ol od h.1 p) gL_roomOf_X7_roomOf rfl rfl (by decide +kernel) ⟨by decide, by decide⟩ ck_1 rfl rfl (Nat.le_of_ble_eq_true rfl) ⟨by decide, by decide⟩ rfl (fun E he => ?_) ?_
  · rcases he with ⟨rfl, c0⟩ | ⟨rfl, c0, c1⟩
    · exact ⟨1, ⟨[], ⟨0, 9, 12, 27⟩, [⟨0, 9, 15, 46⟩], 3, 1, 1, rfl, fun _ hz => absurd hz List.not_mem_nil, rfl, by decide, by decide +kernel, by decide +kernel, Or.inl ⟨3, dL_roomOf_12, rfl, rfl⟩, by decide, dL_roomOf_13, by decide, dL_roomOf_14⟩, ⟨_, rfl, zO_x h (by unfold q_roomOfF; rw [if_pos (mt (fzp h p).mp c0)]) rfl (by unfold q_roomOfT; rw [if_pos (mt (fzp h p).mp c0)]) (by decide)⟩⟩
    · exact ⟨2, ⟨[⟨0, 9, 12, 27⟩], ⟨0, 9, 15, 46⟩, [], 3, 1, 2, rfl, List.forall_mem_cons.mpr ⟨Or.inr ⟨by decide, "java/lang/IndexOutOfBoundsException", by decide +kernel, by decide +kernel, by decide +kernel⟩, fun _ hz => absurd hz List.not_mem_nil⟩, rfl, by decide, by decide +kernel, by decide +kernel, Or.inl ⟨3, dL_roomOf_15, rfl, rfl⟩, by decide, dL_roomOf_16, by decide, dL_roomOf_17⟩, ⟨_, rfl, zO_x h (by unfold q_roomOfF; rw [if_neg (Classical.not_not.mpr ((fzp h p).mpr c0)), if_pos c1]) rfl (by unfold q_roomOfT; rw [if_neg (Classical.not_not.mpr ((fzp h p).mpr c0)), if_pos c1]) (by decide)⟩⟩
  rintro _ _ ⟨c0, c1, rfl, rfl⟩
  refine z_i2l X dL_roomOf_7 ?_
  refine z_last (j := 0) X dL_roomOf_8 ck_14 (by rw [cn_14]; unfold vp_in; decide) (by decide) ?_
  refine z_mem (M' := cmm n i x lm y ((i 132 (cl p)).toInt64) od) cw_ol ?_
  refine z_goto (tgt := 18) X dL_roomOf_9 (by decide) ?_
  refine z_iconst (v := 0) X dL_roomOf_18 (by decide) ?_
  refine z_iret X rfl rfl (Nat.le_of_ble_eq_true rfl) (Nat.le_of_ble_eq_true rfl) dL_roomOf_19 ?_
  exact ⟨_, rfl, zO_l h (by unfold q_roomOfF; rw [if_neg (Classical.not_not.mpr ((fzp h p).mpr c0)), if_neg (Classical.not_not.mpr c1)]) rfl (by unfold q_roomOfT; rw [if_neg (Classical.not_not.mpr ((fzp h p).mpr c0)), if_neg (Classical.not_not.mpr c1)]) (congrArg Int32.toInt64 (by unfold q_roomOfV; rw [if_neg (Classical.not_not.mpr ((fzp h p).mpr c0)), if_neg (Classical.not_not.mpr c1)]))⟩

set_option maxRecDepth 100000 in
set_option maxHeartbeats 4000000 in
theorem h_life (l : Launch) (hl0 : l.stackTraces = false) {n : Nat → Nat} {i x : Nat → Nat → Int32} {lm : Nat → Nat → Int64} {y : Nat → Nat → Nat} {t : Nat} (h : CI n i x lm y t) (ol : Int64) (od : UInt64) (p : Int32) : zS l yL_life wsL_life 11 196 8 1100 [.ref 1, .int p, .ref 14] (cmm n i x lm y ol od) (zpi (fun k M1 => zO (q_lifeF i p) (lm) (q_lifeT i p) ((q_lifeV i p).toInt64) k M1)) zno := by
  refine z_introW (cc := cL_life) (maxL := 4) (ret := (some .int)) (hh := [(0, 9, 12, 27)]) (by decide +kernel) rfl (Nat.le_of_ble_eq_true rfl) ?_
  intro g X
  show zE g 4 0 [(0, .ref 1), (1, .int p), (2, .ref 14)] [] (cmm n i x lm y ol od) 0 0
  refine z_aload_n X 2 dL_life_0 rfl rfl ?_
  refine z_iconst (v := 0) X dL_life_1 (by decide) ?_
  refine z_aload_n X 0 dL_life_2 rfl rfl ?_
  refine z_iload_n X 1 dL_life_3 rfl rfl ?_
  refine z_tryVi (As := [.int p]) (rest := [.int 0, .ref 14]) (n1 := 1) (ci := 10) X dL_life_4 (c_X7_life l hl0 n i x lm y ol od h.1 p) gL_life_X7_life rfl rfl (by decide +kernel) ⟨by decide, by decide⟩ ck_1 rfl rfl (Nat.le_of_ble_eq_true rfl) ⟨by decide, by decide⟩ rfl (fun E he => ?_) ?_
  · obtain ⟨rfl, c0⟩ := he
    exact ⟨1, ⟨[], ⟨0, 9, 12, 27⟩, [], 3, 1, 1, rfl, fun _ hz => absurd hz List.not_mem_nil, rfl, by decide, by decide +kernel, by decide +kernel, Or.inl ⟨3, dL_life_12, rfl, rfl⟩, by decide, dL_life_13, by decide, dL_life_14⟩, ⟨_, rfl, zO_x h (by unfold q_lifeF; rw [if_pos (mt (fzp h p).mp c0)]) rfl (by unfold q_lifeT; rw [if_pos (mt (fzp h p).mp c0)]) (by decide)⟩⟩
  rintro _ _ ⟨c0, rfl, rfl⟩
  refine z_i2l X dL_life_7 ?_
  refine z_last (j := 0) X dL_life_8 ck_14 (by rw [cn_14]; unfold vp_in; decide) (by decide) ?_
  refine z_mem (M' := cmm n i x lm y ((i 133 (cl p)).toInt64) od) cw_ol ?_
  refine z_goto (tgt := 15) X dL_life_9 (by decide) ?_
  refine z_iconst (v := 0) X dL_life_15 (by decide) ?_
  refine z_iret X rfl rfl (Nat.le_of_ble_eq_true rfl) (Nat.le_of_ble_eq_true rfl) dL_life_16 ?_
  exact ⟨_, rfl, zO_l h (by unfold q_lifeF; rw [if_neg (Classical.not_not.mpr ((fzp h p).mpr c0))]) rfl (by unfold q_lifeT; rw [if_neg (Classical.not_not.mpr ((fzp h p).mpr c0))]) (congrArg Int32.toInt64 (by unfold q_lifeV; rw [if_neg (Classical.not_not.mpr ((fzp h p).mpr c0))]))⟩

set_option maxRecDepth 100000 in
set_option maxHeartbeats 4000000 in
theorem h_lifeByRecords (l : Launch) (hl0 : l.stackTraces = false) {n : Nat → Nat} {i x : Nat → Nat → Int32} {lm : Nat → Nat → Int64} {y : Nat → Nat → Nat} {t : Nat} (h : CI n i x lm y t) (ol : Int64) (od : UInt64) (p : Int32) : zS l yL_lifeByRecords wsL_lifeByRecords 11 196 8 1100 [.ref 1, .int p, .ref 14] (cmm n i x lm y ol od) (zpi (fun k M1 => zO (q_lifeByRecordsF i p) (lm) (q_lifeByRecordsT i p) ((q_lifeByRecordsV i p).toInt64) k M1)) zno := by
  refine z_introW (cc := cL_lifeByRecords) (maxL := 4) (ret := (some .int)) (hh := [(0, 9, 12, 27)]) (by decide +kernel) rfl (Nat.le_of_ble_eq_true rfl) ?_
  intro g X
  show zE g 4 0 [(0, .ref 1), (1, .int p), (2, .ref 14)] [] (cmm n i x lm y ol od) 0 0
  refine z_aload_n X 2 dL_lifeByRecords_0 rfl rfl ?_
  refine z_iconst (v := 0) X dL_lifeByRecords_1 (by decide) ?_
  refine z_aload_n X 0 dL_lifeByRecords_2 rfl rfl ?_
  refine z_iload_n X 1 dL_lifeByRecords_3 rfl rfl ?_
  refine z_tryVi (As := [.int p]) (rest := [.int 0, .ref 14]) (n1 := 1) (ci := 10) X dL_lifeByRecords_4 (c_X7_lifeByRecords l hl0 n i x lm y ol od h.1 p t h.2.1.2.1 h.2.1.1 (s_x4 h) (s_x3 h)) gL_lifeByRecords_X7_lifeByRecords rfl rfl (by decide +kernel) ⟨by decide, by decide⟩ ck_1 rfl rfl (Nat.le_of_ble_eq_true rfl) ⟨by decide, by decide⟩ rfl (fun E he => ?_) ?_
  · obtain ⟨rfl, c0⟩ := he
    exact ⟨1, ⟨[], ⟨0, 9, 12, 27⟩, [], 3, 1, 1, rfl, fun _ hz => absurd hz List.not_mem_nil, rfl, by decide, by decide +kernel, by decide +kernel, Or.inl ⟨3, dL_lifeByRecords_12, rfl, rfl⟩, by decide, dL_lifeByRecords_13, by decide, dL_lifeByRecords_14⟩, ⟨_, rfl, zO_x h (by unfold q_lifeByRecordsF q_lifeF; rw [if_pos (mt (fzp h p).mp c0)]) rfl (by unfold q_lifeByRecordsT q_lifeT; rw [if_pos (mt (fzp h p).mp c0)]) (by decide)⟩⟩
  rintro _ _ ⟨c0, rfl, rfl⟩
  refine z_i2l X dL_lifeByRecords_7 ?_
  refine z_last (j := 0) X dL_lifeByRecords_8 ck_14 (by rw [cn_14]; unfold vp_in; decide) (by decide) ?_
  refine z_mem (M' := cmm n i x lm y ((c_rv i x y n (cl p) t).toInt64) od) cw_ol ?_
  refine z_goto (tgt := 15) X dL_lifeByRecords_9 (by decide) ?_
  refine z_iconst (v := 0) X dL_lifeByRecords_15 (by decide) ?_
  refine z_iret X rfl rfl (Nat.le_of_ble_eq_true rfl) (Nat.le_of_ble_eq_true rfl) dL_lifeByRecords_16 ?_
  exact ⟨_, rfl, zO_l h (by unfold q_lifeByRecordsF q_lifeF; rw [if_neg (Classical.not_not.mpr ((fzp h p).mpr c0))]) rfl (by unfold q_lifeByRecordsT q_lifeT; rw [if_neg (Classical.not_not.mpr ((fzp h p).mpr c0))]) (congrArg Int32.toInt64 (by unfold q_lifeByRecordsV q_lifeV; rw [if_neg (Classical.not_not.mpr ((fzp h p).mpr c0))] <;> rw [(lI_rv h c0.1).1]))⟩

set_option maxRecDepth 100000 in
set_option maxHeartbeats 4000000 in
theorem h_forecast (l : Launch) (hl0 : l.stackTraces = false) {n : Nat → Nat} {i x : Nat → Nat → Int32} {lm : Nat → Nat → Int64} {y : Nat → Nat → Nat} {t : Nat} (h : CI n i x lm y t) (ol : Int64) (od : UInt64) (p : Int32) (u : Int32) : zS l yL_forecast wsL_forecast 11 199 8 1100 [.ref 1, .int p, .int u, .ref 14] (cmm n i x lm y ol od) (zpi (fun k M1 => zO (q_forecastF i p u) (lm) (q_forecastT i p u) ((q_forecastV i p u).toInt64) k M1)) zno := by
  refine z_introW (cc := cL_forecast) (maxL := 5) (ret := (some .int)) (hh := [(0, 10, 13, 27), (0, 10, 17, 46), (0, 10, 21, 13)]) (by decide +kernel) rfl (Nat.le_of_ble_eq_true rfl) ?_
  intro g X
  show zE g 5 0 [(0, .ref 1), (1, .int p), (2, .int u), (3, .ref 14)] [] (cmm n i x lm y ol od) 0 0
  refine z_aload_n X 3 dL_forecast_0 rfl rfl ?_
  refine z_iconst (v := 0) X dL_forecast_1 (by decide) ?_
  refine z_aload_n X 0 dL_forecast_2 rfl rfl ?_
  refine z_iload_n X 1 dL_forecast_3 rfl rfl ?_
  refine z_iload_n X 2 dL_forecast_4 rfl rfl ?_
  refine z_tryVi (As := [.int p, .int u]) (rest := [.int 0, .ref 14]) (n1 := 2) (ci := 10) X dL_forecast_5 (c_X7_forecast l hl0 n i x lm y ol od h.1 p u) gL_forecast_X7_forecast rfl rfl (by decide +kernel) ⟨by decide, by decide⟩ ck_1 rfl rfl (Nat.le_of_ble_eq_true rfl) ⟨by decide, by decide⟩ rfl (fun E he => ?_) ?_
  · rcases he with ⟨rfl, c0⟩ | ⟨rfl, c0, c1⟩ | ⟨rfl, c0, c1, c2⟩
    · exact ⟨1, ⟨[], ⟨0, 10, 13, 27⟩, [⟨0, 10, 17, 46⟩, ⟨0, 10, 21, 13⟩], 4, 2, 1, rfl, fun _ hz => absurd hz List.not_mem_nil, rfl, by decide, by decide +kernel, by decide +kernel, Or.inr ⟨dL_forecast_13, rfl⟩, by decide, dL_forecast_15, by decide, dL_forecast_16⟩, ⟨_, rfl, zO_x h (by unfold q_forecastF; rw [if_pos (mt (fzp h p).mp c0)]) rfl (by unfold q_forecastT; rw [if_pos (mt (fzp h p).mp c0)]) (by decide)⟩⟩
    · exact ⟨2, ⟨[⟨0, 10, 13, 27⟩], ⟨0, 10, 17, 46⟩, [⟨0, 10, 21, 13⟩], 4, 2, 2, rfl, List.forall_mem_cons.mpr ⟨Or.inr ⟨by decide, "java/lang/IndexOutOfBoundsException", by decide +kernel, by decide +kernel, by decide +kernel⟩, fun _ hz => absurd hz List.not_mem_nil⟩, rfl, by decide, by decide +kernel, by decide +kernel, Or.inr ⟨dL_forecast_17, rfl⟩, by decide, dL_forecast_19, by decide, dL_forecast_20⟩, ⟨_, rfl, zO_x h (by unfold q_forecastF; rw [if_neg (Classical.not_not.mpr ((fzp h p).mpr c0)), if_pos c1]) rfl (by unfold q_forecastT; rw [if_neg (Classical.not_not.mpr ((fzp h p).mpr c0)), if_pos c1]) (by decide)⟩⟩
    · exact ⟨3, ⟨[⟨0, 10, 13, 27⟩, ⟨0, 10, 17, 46⟩], ⟨0, 10, 21, 13⟩, [], 4, 2, 3, rfl, List.forall_mem_cons.mpr ⟨Or.inr ⟨by decide, "java/lang/IndexOutOfBoundsException", by decide +kernel, by decide +kernel, by decide +kernel⟩, List.forall_mem_cons.mpr ⟨Or.inr ⟨by decide, "java/util/NoSuchElementException", by decide +kernel, by decide +kernel, by decide +kernel⟩, fun _ hz => absurd hz List.not_mem_nil⟩⟩, rfl, by decide, by decide +kernel, by decide +kernel, Or.inr ⟨dL_forecast_21, rfl⟩, by decide, dL_forecast_23, by decide, dL_forecast_24⟩, ⟨_, rfl, zO_x h (by unfold q_forecastF; rw [if_neg (Classical.not_not.mpr ((fzp h p).mpr c0)), if_neg (Classical.not_not.mpr c1), if_pos c2]) rfl (by unfold q_forecastT; rw [if_neg (Classical.not_not.mpr ((fzp h p).mpr c0)), if_neg (Classical.not_not.mpr c1), if_pos c2]) (by decide)⟩⟩
  rintro _ _ ⟨c0, c1, c2, rfl, rfl⟩
  refine z_i2l X dL_forecast_8 ?_
  refine z_last (j := 0) X dL_forecast_9 ck_14 (by rw [cn_14]; unfold vp_in; decide) (by decide) ?_
  refine z_mem (M' := cmm n i x lm y (((if 0 < i 133 (cl p) - u * (if i 110 (y 1 (y 0 (cl p))) < i 129 (cl (i 131 (cl p))) then 10 else if i 128 (cl (i 131 (cl p))) < i 110 (y 1 (y 0 (cl p))) then 1 + (i 110 (y 1 (y 0 (cl p))) - i 128 (cl (i 131 (cl p)))) / 20 else 1) then i 133 (cl p) - u * (if i 110 (y 1 (y 0 (cl p))) < i 129 (cl (i 131 (cl p))) then 10 else if i 128 (cl (i 131 (cl p))) < i 110 (y 1 (y 0 (cl p))) then 1 + (i 110 (y 1 (y 0 (cl p))) - i 128 (cl (i 131 (cl p)))) / 20 else 1) else 0)).toInt64) od) cw_ol ?_
  refine z_goto (tgt := 25) X dL_forecast_10 (by decide) ?_
  refine z_iconst (v := 0) X dL_forecast_25 (by decide) ?_
  refine z_iret X rfl rfl (Nat.le_of_ble_eq_true rfl) (Nat.le_of_ble_eq_true rfl) dL_forecast_26 ?_
  exact ⟨_, rfl, zO_l h (by unfold q_forecastF; rw [if_neg (Classical.not_not.mpr ((fzp h p).mpr c0)), if_neg (Classical.not_not.mpr c1), if_neg (Classical.not_not.mpr c2)]) rfl (by unfold q_forecastT; rw [if_neg (Classical.not_not.mpr ((fzp h p).mpr c0)), if_neg (Classical.not_not.mpr c1), if_neg (Classical.not_not.mpr c2)]) (congrArg Int32.toInt64 (by unfold q_forecastV; rw [if_neg (Classical.not_not.mpr ((fzp h p).mpr c0)), if_neg (Classical.not_not.mpr c1), if_neg (Classical.not_not.mpr c2)] <;> rw [s_fore h c0.1]))⟩

set_option maxRecDepth 100000 in
set_option maxHeartbeats 4000000 in
theorem h_soonest (l : Launch) (hl0 : l.stackTraces = false) {n : Nat → Nat} {i x : Nat → Nat → Int32} {lm : Nat → Nat → Int64} {y : Nat → Nat → Nat} {t : Nat} (h : CI n i x lm y t) (ol : Int64) (od : UInt64) : zS l yL_soonest wsL_soonest 10 177 8 1100 [.ref 1, .ref 14] (cmm n i x lm y ol od) (zpi (fun k M1 => zO (q_soonestF i (n 7)) (lm) (q_soonestT i (n 7)) ((q_soonestV i (n 7)).toInt64) k M1)) zno := by
  refine z_introW (cc := cL_soonest) (maxL := 3) (ret := (some .int)) (hh := [(0, 8, 11, 46)]) (by decide +kernel) rfl (Nat.le_of_ble_eq_true rfl) ?_
  intro g X
  show zE g 3 0 [(0, .ref 1), (1, .ref 14)] [] (cmm n i x lm y ol od) 0 0
  refine z_aload_n X 1 dL_soonest_0 rfl rfl ?_
  refine z_iconst (v := 0) X dL_soonest_1 (by decide) ?_
  refine z_aload_n X 0 dL_soonest_2 rfl rfl ?_
  refine z_tryVi (As := []) (rest := [.int 0, .ref 14]) (n1 := 0) (ci := 10) X dL_soonest_3 (c_X7_soonest l hl0 n i x lm y ol od h.1) gL_soonest_X7_soonest rfl rfl (by decide +kernel) ⟨by decide, by decide⟩ ck_1 rfl rfl (Nat.le_of_ble_eq_true rfl) ⟨by decide, by decide⟩ rfl (fun E he => ?_) ?_
  · obtain ⟨rfl, c0⟩ := he
    exact ⟨1, ⟨[], ⟨0, 8, 11, 46⟩, [], 2, 1, 1, rfl, fun _ hz => absurd hz List.not_mem_nil, rfl, by decide, by decide +kernel, by decide +kernel, Or.inl ⟨2, dL_soonest_11, rfl, rfl⟩, by decide, dL_soonest_12, by decide, dL_soonest_13⟩, ⟨_, rfl, zO_x h (by unfold q_soonestF; rw [if_pos ((s_soon h).2 c0)]) rfl (by unfold q_soonestT; rw [if_pos ((s_soon h).2 c0)]) (by decide)⟩⟩
  rintro _ _ ⟨c0, rfl, rfl⟩
  refine z_i2l X dL_soonest_6 ?_
  refine z_last (j := 0) X dL_soonest_7 ck_14 (by rw [cn_14]; unfold vp_in; decide) (by decide) ?_
  refine z_mem (M' := cmm n i x lm y ((nI ((c_sn i (n 7)).getD 0)).toInt64) od) cw_ol ?_
  refine z_goto (tgt := 14) X dL_soonest_8 (by decide) ?_
  refine z_iconst (v := 0) X dL_soonest_14 (by decide) ?_
  refine z_iret X rfl rfl (Nat.le_of_ble_eq_true rfl) (Nat.le_of_ble_eq_true rfl) dL_soonest_15 ?_
  exact ⟨_, rfl, zO_l h (by unfold q_soonestF; rw [if_neg ((s_soon h).1 c0).1]) rfl (by unfold q_soonestT; rw [if_neg ((s_soon h).1 c0).1]) (congrArg Int32.toInt64 (by unfold q_soonestV; rw [if_neg ((s_soon h).1 c0).1] <;> rw [((s_soon h).1 c0).2]))⟩

set_option maxRecDepth 100000 in
set_option maxHeartbeats 4000000 in
theorem h_lostShare (l : Launch) (hl0 : l.stackTraces = false) {n : Nat → Nat} {i x : Nat → Nat → Int32} {lm : Nat → Nat → Int64} {y : Nat → Nat → Nat} {t : Nat} (h : CI n i x lm y t) (ol : Int64) (od : UInt64) : zS l yL_lostShare wsL_lostShare 10 177 8 1100 [.ref 1, .ref 15] (cmm n i x lm y ol od) (zpi (fun k M1 => zOd (q_lostShareF i (n 7)) (lm) (q_lostShareT i (n 7)) (FP.f2d (q_lostShareV i (n 7))) k M1)) zno := by
  refine z_introW (cc := cL_lostShare) (maxL := 3) (ret := (some .int)) (hh := [(0, 8, 11, 52)]) (by decide +kernel) rfl (Nat.le_of_ble_eq_true rfl) ?_
  intro g X
  show zE g 3 0 [(0, .ref 1), (1, .ref 15)] [] (cmm n i x lm y ol od) 0 0
  refine z_aload_n X 1 dL_lostShare_0 rfl rfl ?_
  refine z_iconst (v := 0) X dL_lostShare_1 (by decide) ?_
  refine z_aload_n X 0 dL_lostShare_2 rfl rfl ?_
  refine z_tryVf (As := []) (rest := [.int 0, .ref 15]) (n1 := 0) (ci := 10) X dL_lostShare_3 (c_X7_lostShare l hl0 n i x lm y ol od h.1) gL_lostShare_X7_lostShare rfl rfl (by decide +kernel) ⟨by decide, by decide⟩ ck_1 rfl rfl (Nat.le_of_ble_eq_true rfl) ⟨by decide, by decide⟩ rfl (fun E he => ?_) ?_
  · obtain ⟨rfl, c0⟩ := he
    exact ⟨1, ⟨[], ⟨0, 8, 11, 52⟩, [], 2, 1, 1, rfl, fun _ hz => absurd hz List.not_mem_nil, rfl, by decide, by decide +kernel, by decide +kernel, Or.inl ⟨2, dL_lostShare_11, rfl, rfl⟩, by decide, dL_lostShare_12, by decide, dL_lostShare_13⟩, ⟨_, rfl, zOd_x h (by unfold q_lostShareF; rw [if_pos (show i 1 35 = 0 by rw [h.2.1.2.2.2.2.1, Classical.not_not.mp c0]; exact nI_0)]) rfl (by unfold q_lostShareT; rw [if_pos (show i 1 35 = 0 by rw [h.2.1.2.2.2.2.1, Classical.not_not.mp c0]; exact nI_0)]) (by decide)⟩⟩
  rintro _ _ ⟨c0, rfl, rfl⟩
  refine z_f2d X dL_lostShare_6 (zf_shareD _ (fun e => c0 (nI_z (by have := h.1.2.1.2.2.1; omega) e))) ?_
  refine z_dast (j := 0) X dL_lostShare_7 ck_15 (by rw [cn_15]; unfold vp_in; decide) (by decide) ?_
  refine z_mem (M' := cmm n i x lm y ol (FP.f2d (FP.fdiv (FP.i2f (m_lost i (n 7))) (FP.i2f (nI (n 7)))))) cw_od ?_
  refine z_goto (tgt := 14) X dL_lostShare_8 (by decide) ?_
  refine z_iconst (v := 0) X dL_lostShare_14 (by decide) ?_
  refine z_iret X rfl rfl (Nat.le_of_ble_eq_true rfl) (Nat.le_of_ble_eq_true rfl) dL_lostShare_15 ?_
  exact ⟨_, rfl, zOd_l h (by unfold q_lostShareF; rw [if_neg (show ¬ i 1 35 = 0 by rw [h.2.1.2.2.2.2.1]; exact nI_ne0 (by omega) (by have := h.1.2.1.2.2.1; omega))]) rfl (by unfold q_lostShareT; rw [if_neg (show ¬ i 1 35 = 0 by rw [h.2.1.2.2.2.2.1]; exact nI_ne0 (by omega) (by have := h.1.2.1.2.2.1; omega))]) (congrArg FP.f2d (by unfold q_lostShareV; rw [if_neg (show ¬ i 1 35 = 0 by rw [h.2.1.2.2.2.2.1]; exact nI_ne0 (by omega) (by have := h.1.2.1.2.2.1; omega))] <;> rw [h.2.1.2.2.2.2.1]))⟩

set_option maxRecDepth 100000 in
set_option maxHeartbeats 4000000 in
theorem h_order (l : Launch) (hl0 : l.stackTraces = false) {n : Nat → Nat} {i x : Nat → Nat → Int32} {lm : Nat → Nat → Int64} {y : Nat → Nat → Nat} {t : Nat} (h : CI n i x lm y t) (ol : Int64) (od : UInt64) (kd : Int32) (a : Int32) (b : Int32) (c : Int32) : zS l yL_order wsL_order 13 247 8 1100 [.ref 1, .int kd, .int a, .int b, .int c, .ref 14] (cmm n i x lm y ol od) (zpi (fun k M1 => zO (q_orderF i (n 6) (n 8) kd a b c) (lm) (q_orderT i (n 6) (n 8) kd a b c) ((q_orderV i (n 6) (n 8) kd a b c).toInt64) k M1)) zno := by
  refine z_introW (cc := cL_order) (maxL := 7) (ret := (some .int)) (hh := [(0, 14, 17, 27), (0, 14, 21, 13), (0, 14, 25, 15)]) (by decide +kernel) rfl (Nat.le_of_ble_eq_true rfl) ?_
  intro g X
  show zE g 7 0 [(0, .ref 1), (1, .int kd), (2, .int a), (3, .int b), (4, .int c), (5, .ref 14)] [] (cmm n i x lm y ol od) 0 0
  refine z_aload X 5 dL_order_0 rfl ?_
  refine z_iconst (v := 0) X dL_order_2 (by decide) ?_
  refine z_aload_n X 0 dL_order_3 rfl rfl ?_
  refine z_iload_n X 1 dL_order_4 rfl rfl ?_
  refine z_iload_n X 2 dL_order_5 rfl rfl ?_
  refine z_iload_n X 3 dL_order_6 rfl rfl ?_
  refine z_iload X 4 dL_order_7 rfl ?_
  refine z_tryVi (As := [.int kd, .int a, .int b, .int c]) (rest := [.int 0, .ref 14]) (n1 := 4) (ci := 10) X dL_order_9 (c_X7_order l hl0 n i x lm y ol od h.1 kd a b c) gL_order_X7_order rfl rfl (by decide +kernel) ⟨by decide, by decide⟩ ck_1 rfl rfl (Nat.le_of_ble_eq_true rfl) ⟨by decide, by decide⟩ rfl (fun E he => ?_) ?_
  · rcases he with ⟨rfl, c0⟩ | ⟨rfl, c0, c1⟩ | ⟨rfl, c0, c1, c2⟩
    · exact ⟨1, ⟨[], ⟨0, 14, 17, 27⟩, [⟨0, 14, 21, 13⟩, ⟨0, 14, 25, 15⟩], 6, 2, 1, rfl, fun _ hz => absurd hz List.not_mem_nil, rfl, by decide, by decide +kernel, by decide +kernel, Or.inr ⟨dL_order_17, rfl⟩, by decide, dL_order_19, by decide, dL_order_20⟩, ⟨_, rfl, zO_x h (by unfold q_orderF; rw [if_pos (mt (fzk h kd).mp c0)]) rfl (by unfold q_orderT; rw [if_pos (mt (fzk h kd).mp c0)]) (by decide)⟩⟩
    · exact ⟨2, ⟨[⟨0, 14, 17, 27⟩], ⟨0, 14, 21, 13⟩, [⟨0, 14, 25, 15⟩], 6, 2, 2, rfl, List.forall_mem_cons.mpr ⟨Or.inr ⟨by decide, "java/lang/IndexOutOfBoundsException", by decide +kernel, by decide +kernel, by decide +kernel⟩, fun _ hz => absurd hz List.not_mem_nil⟩, rfl, by decide, by decide +kernel, by decide +kernel, Or.inr ⟨dL_order_21, rfl⟩, by decide, dL_order_23, by decide, dL_order_24⟩, ⟨_, rfl, zO_x h (by unfold q_orderF; rw [if_neg (Classical.not_not.mpr ((fzk h kd).mpr c0)), if_pos c1]) rfl (by unfold q_orderT; rw [if_neg (Classical.not_not.mpr ((fzk h kd).mpr c0)), if_pos c1]) (by decide)⟩⟩
    · exact ⟨3, ⟨[⟨0, 14, 17, 27⟩, ⟨0, 14, 21, 13⟩], ⟨0, 14, 25, 15⟩, [], 6, 2, 3, rfl, List.forall_mem_cons.mpr ⟨Or.inr ⟨by decide, "java/lang/IndexOutOfBoundsException", by decide +kernel, by decide +kernel, by decide +kernel⟩, List.forall_mem_cons.mpr ⟨Or.inr ⟨by decide, "java/lang/IllegalArgumentException", by decide +kernel, by decide +kernel, by decide +kernel⟩, fun _ hz => absurd hz List.not_mem_nil⟩⟩, rfl, by decide, by decide +kernel, by decide +kernel, Or.inr ⟨dL_order_25, rfl⟩, by decide, dL_order_27, by decide, dL_order_28⟩, ⟨_, rfl, zO_x h (by unfold q_orderF; rw [if_neg (Classical.not_not.mpr ((fzk h kd).mpr c0)), if_neg (Classical.not_not.mpr c1), if_pos (show nI (n 8) = 12 by rw [show n 8 = 12 by have := h.1.2.1.2.2.2; omega]; rfl)]) rfl (by unfold q_orderT; rw [if_neg (Classical.not_not.mpr ((fzk h kd).mpr c0)), if_neg (Classical.not_not.mpr c1), if_pos (show nI (n 8) = 12 by rw [show n 8 = 12 by have := h.1.2.1.2.2.2; omega]; rfl)]) (by decide)⟩⟩
  rintro _ _ ⟨c0, c1, c2, rfl, rfl⟩
  refine z_i2l X dL_order_12 ?_
  refine z_last (j := 0) X dL_order_13 ck_14 (by rw [cn_14]; unfold vp_in; decide) (by decide) ?_
  refine z_mem (M' := cmm (nup (nup n 3 (n 3 + 1)) 8 (n 3 + 1)) (zup (zup (zup (zup (zup (zup i 140 (n 3) 111) 141 (n 3) 0) 136 (n 3) kd) 137 (n 3) a) 138 (n 3) b) 139 (n 3) c) x lm y ((nI (n 3 + 1) - 1).toInt64) od) cw_ol ?_
  refine z_goto (tgt := 29) X dL_order_14 (by decide) ?_
  refine z_iconst (v := 0) X dL_order_29 (by decide) ?_
  refine z_iret X rfl rfl (Nat.le_of_ble_eq_true rfl) (Nat.le_of_ble_eq_true rfl) dL_order_30 ?_
  exact ⟨_, rfl, zO_m (n' := nup (nup n 3 (n 3 + 1)) 8 (n 3 + 1)) (ic := zup (zup (zup (zup (zup (zup i 140 (n 3) 111) 141 (n 3) 0) 136 (n 3) kd) 137 (n 3) a) 138 (n 3) b) 139 (n 3) c) (x' := x) (lc := lm) (y' := y) (t' := t) (F0 := zup (zup (zup (zup (zup (zup (zup i 1 43 0) 136 (n 8) kd) 137 (n 8) a) 138 (n 8) b) 139 (n 8) c) 140 (n 8) 111) 1 42 (nI (n 8) + 1)) (L0 := lm) (by unfold q_orderF; rw [if_neg (Classical.not_not.mpr ((fzk h kd).mpr c0)), if_neg (Classical.not_not.mpr c1), if_neg (show ¬ nI (n 8) = 12 from nI_nlt2 (N := 12) c2 (by decide))]) rfl (by unfold q_orderT; rw [if_neg (Classical.not_not.mpr ((fzk h kd).mpr c0)), if_neg (Classical.not_not.mpr c1), if_neg (show ¬ nI (n 8) = 12 from nI_nlt2 (N := 12) c2 (by decide))]) (congrArg Int32.toInt64 (by unfold q_orderV; rw [if_neg (Classical.not_not.mpr ((fzk h kd).mpr c0)), if_neg (Classical.not_not.mpr c1), if_neg (show ¬ nI (n 8) = 12 from nI_nlt2 (N := 12) c2 (by decide))] <;> rw [h.1.1.2.2.2, nI_1])) (by rw [h.1.1.2.2.2]; exact eV_ord (h.2.2.2.2.2.2.2.2.2.1.2 _ (Nat.le_refl _))) rfl (CI_order (CI_43 h) c2 c0 c1.1 (by rw [e43 (by omega)]; exact c1.2.2))⟩

set_option maxRecDepth 100000 in
set_option maxHeartbeats 4000000 in
theorem h_cancel (l : Launch) (hl0 : l.stackTraces = false) {n : Nat → Nat} {i x : Nat → Nat → Int32} {lm : Nat → Nat → Int64} {y : Nat → Nat → Nat} {t : Nat} (h : CI n i x lm y t) (ol : Int64) (od : UInt64) (o : Int32) : zS l yL_cancel wsL_cancel 11 198 8 1100 [.ref 1, .int o, .ref 14] (cmm n i x lm y ol od) (zpi (fun k M1 => zO (q_cancelF i (n 8) o) (lm) (q_cancelT i (n 8) o) ((q_cancelV i (n 8) o).toInt64) k M1)) zno := by
  refine z_introW (cc := cL_cancel) (maxL := 4) (ret := (some .int)) (hh := [(0, 9, 12, 27), (0, 9, 15, 15)]) (by decide +kernel) rfl (Nat.le_of_ble_eq_true rfl) ?_
  intro g X
  show zE g 4 0 [(0, .ref 1), (1, .int o), (2, .ref 14)] [] (cmm n i x lm y ol od) 0 0
  refine z_aload_n X 2 dL_cancel_0 rfl rfl ?_
  refine z_iconst (v := 0) X dL_cancel_1 (by decide) ?_
  refine z_aload_n X 0 dL_cancel_2 rfl rfl ?_
  refine z_iload_n X 1 dL_cancel_3 rfl rfl ?_
  refine z_tryVi (As := [.int o]) (rest := [.int 0, .ref 14]) (n1 := 1) (ci := 10) X dL_cancel_4 (c_X7_cancel l hl0 n i x lm y ol od h.1 o) gL_cancel_X7_cancel rfl rfl (by decide +kernel) ⟨by decide, by decide⟩ ck_1 rfl rfl (Nat.le_of_ble_eq_true rfl) ⟨by decide, by decide⟩ rfl (fun E he => ?_) ?_
  · rcases he with ⟨rfl, c0⟩ | ⟨rfl, c0, c1⟩
    · exact ⟨1, ⟨[], ⟨0, 9, 12, 27⟩, [⟨0, 9, 15, 15⟩], 3, 1, 1, rfl, fun _ hz => absurd hz List.not_mem_nil, rfl, by decide, by decide +kernel, by decide +kernel, Or.inl ⟨3, dL_cancel_12, rfl, rfl⟩, by decide, dL_cancel_13, by decide, dL_cancel_14⟩, ⟨_, rfl, zO_x h (by unfold q_cancelF; rw [if_pos (mt (fzo h o).mp c0)]) rfl (by unfold q_cancelT; rw [if_pos (mt (fzo h o).mp c0)]) (by decide)⟩⟩
    · exact ⟨2, ⟨[⟨0, 9, 12, 27⟩], ⟨0, 9, 15, 15⟩, [], 3, 1, 2, rfl, List.forall_mem_cons.mpr ⟨Or.inr ⟨by decide, "java/lang/IndexOutOfBoundsException", by decide +kernel, by decide +kernel, by decide +kernel⟩, fun _ hz => absurd hz List.not_mem_nil⟩, rfl, by decide, by decide +kernel, by decide +kernel, Or.inl ⟨3, dL_cancel_15, rfl, rfl⟩, by decide, dL_cancel_16, by decide, dL_cancel_17⟩, ⟨_, rfl, zO_x h (by unfold q_cancelF; rw [if_neg (Classical.not_not.mpr ((fzo h o).mpr c0)), if_pos c1]) rfl (by unfold q_cancelT; rw [if_neg (Classical.not_not.mpr ((fzo h o).mpr c0)), if_pos c1]) (by decide)⟩⟩
  rintro _ _ ⟨c0, c1, rfl, rfl⟩
  refine z_i2l X dL_cancel_7 ?_
  refine z_last (j := 0) X dL_cancel_8 ck_14 (by rw [cn_14]; unfold vp_in; decide) (by decide) ?_
  refine z_mem (M' := cmm n (zup i 140 (cl o) 99) x lm y ((m_openN (zup i 140 (cl o) 99) (n 8)).toInt64) od) cw_ol ?_
  refine z_goto (tgt := 18) X dL_cancel_9 (by decide) ?_
  refine z_iconst (v := 0) X dL_cancel_18 (by decide) ?_
  refine z_iret X rfl rfl (Nat.le_of_ble_eq_true rfl) (Nat.le_of_ble_eq_true rfl) dL_cancel_19 ?_
  exact ⟨_, rfl, zO_m (n' := n) (ic := zup i 140 (cl o) 99) (x' := x) (lc := lm) (y' := y) (t' := t) (F0 := zup (zup i 1 43 0) 140 (cl o) 99) (L0 := lm) (by unfold q_cancelF; rw [if_neg (Classical.not_not.mpr ((fzo h o).mpr c0)), if_neg (Classical.not_not.mpr c1)]) rfl (by unfold q_cancelT; rw [if_neg (Classical.not_not.mpr ((fzo h o).mpr c0)), if_neg (Classical.not_not.mpr c1)]) (congrArg Int32.toInt64 (by unfold q_cancelV; rw [if_neg (Classical.not_not.mpr ((fzo h o).mpr c0)), if_neg (Classical.not_not.mpr c1)] <;> rw [m_openN_c (i := zup i 140 (cl o) 99) (j := zup (zup i 1 43 0) 140 (cl o) 99) (n 8) (fun q => s_140)])) (eV_zup (eV_43 (by omega) eV_rf) rfl) rfl (CI_can (CI_43 h))⟩

set_option maxRecDepth 100000 in
set_option maxHeartbeats 4000000 in
theorem h_candidates (l : Launch) (hl0 : l.stackTraces = false) {n : Nat → Nat} {i x : Nat → Nat → Int32} {lm : Nat → Nat → Int64} {y : Nat → Nat → Nat} {t : Nat} (h : CI n i x lm y t) (ol : Int64) (od : UInt64) (o : Int32) : zS l yL_candidates wsL_candidates 11 198 8 1100 [.ref 1, .int o, .ref 14] (cmm n i x lm y ol od) (zpi (fun k M1 => zO (q_candidatesF i (n 7) o) (lm) (q_candidatesT i (n 7) o) ((q_candidatesV i (n 7) o).toInt64) k M1)) zno := by
  refine z_introW (cc := cL_candidates) (maxL := 4) (ret := (some .int)) (hh := [(0, 9, 12, 27)]) (by decide +kernel) rfl (Nat.le_of_ble_eq_true rfl) ?_
  intro g X
  show zE g 4 0 [(0, .ref 1), (1, .int o), (2, .ref 14)] [] (cmm n i x lm y ol od) 0 0
  refine z_aload_n X 2 dL_candidates_0 rfl rfl ?_
  refine z_iconst (v := 0) X dL_candidates_1 (by decide) ?_
  refine z_aload_n X 0 dL_candidates_2 rfl rfl ?_
  refine z_iload_n X 1 dL_candidates_3 rfl rfl ?_
  refine z_tryVi (As := [.int o]) (rest := [.int 0, .ref 14]) (n1 := 1) (ci := 10) X dL_candidates_4 (c_X7_candidates l hl0 n i x lm y ol od h.1 o) gL_candidates_X7_candidates rfl rfl (by decide +kernel) ⟨by decide, by decide⟩ ck_1 rfl rfl (Nat.le_of_ble_eq_true rfl) ⟨by decide, by decide⟩ rfl (fun E he => ?_) ?_
  · obtain ⟨rfl, c0⟩ := he
    exact ⟨1, ⟨[], ⟨0, 9, 12, 27⟩, [], 3, 1, 1, rfl, fun _ hz => absurd hz List.not_mem_nil, rfl, by decide, by decide +kernel, by decide +kernel, Or.inl ⟨3, dL_candidates_12, rfl, rfl⟩, by decide, dL_candidates_13, by decide, dL_candidates_14⟩, ⟨_, rfl, zO_x h (by unfold q_candidatesF; rw [if_pos (mt (fzo h o).mp c0)]) rfl (by unfold q_candidatesT; rw [if_pos (mt (fzo h o).mp c0)]) (by decide)⟩⟩
  rintro _ _ ⟨c0, rfl, rfl⟩
  refine z_i2l X dL_candidates_7 ?_
  refine z_last (j := 0) X dL_candidates_8 ck_14 (by rw [cn_14]; unfold vp_in; decide) (by decide) ?_
  refine z_mem (M' := cmm n i x lm y ((m_cnt i (cl o) (n 7)).toInt64) od) cw_ol ?_
  refine z_goto (tgt := 15) X dL_candidates_9 (by decide) ?_
  refine z_iconst (v := 0) X dL_candidates_15 (by decide) ?_
  refine z_iret X rfl rfl (Nat.le_of_ble_eq_true rfl) (Nat.le_of_ble_eq_true rfl) dL_candidates_16 ?_
  exact ⟨_, rfl, zO_l h (by unfold q_candidatesF; rw [if_neg (Classical.not_not.mpr ((fzo h o).mpr c0))]) rfl (by unfold q_candidatesT; rw [if_neg (Classical.not_not.mpr ((fzo h o).mpr c0))]) (congrArg Int32.toInt64 (by unfold q_candidatesV; rw [if_neg (Classical.not_not.mpr ((fzo h o).mpr c0))] <;> rw [m_cnt_43]))⟩

set_option maxRecDepth 100000 in
set_option maxHeartbeats 4000000 in
theorem h_candidateAt (l : Launch) (hl0 : l.stackTraces = false) {n : Nat → Nat} {i x : Nat → Nat → Int32} {lm : Nat → Nat → Int64} {y : Nat → Nat → Nat} {t : Nat} (h : CI n i x lm y t) (ol : Int64) (od : UInt64) (o : Int32) (v : Int32) : zS l yL_candidateAt wsL_candidateAt 12 228 8 1100 [.ref 1, .int o, .int v, .ref 14] (cmm n i x lm y ol od) (zpi (fun k M1 => zO (q_candidateAtF i (n 7) o v) (lm) (q_candidateAtT i (n 7) o v) ((q_candidateAtV i (n 7) o v).toInt64) k M1)) zno := by
  refine z_introW (cc := cL_candidateAt) (maxL := 5) (ret := (some .int)) (hh := [(0, 10, 13, 27), (0, 10, 17, 46)]) (by decide +kernel) rfl (Nat.le_of_ble_eq_true rfl) ?_
  intro g X
  show zE g 5 0 [(0, .ref 1), (1, .int o), (2, .int v), (3, .ref 14)] [] (cmm n i x lm y ol od) 0 0
  refine z_aload_n X 3 dL_candidateAt_0 rfl rfl ?_
  refine z_iconst (v := 0) X dL_candidateAt_1 (by decide) ?_
  refine z_aload_n X 0 dL_candidateAt_2 rfl rfl ?_
  refine z_iload_n X 1 dL_candidateAt_3 rfl rfl ?_
  refine z_iload_n X 2 dL_candidateAt_4 rfl rfl ?_
  refine z_tryVi (As := [.int o, .int v]) (rest := [.int 0, .ref 14]) (n1 := 2) (ci := 10) X dL_candidateAt_5 (c_X7_candidateAt l hl0 n i x lm y ol od h.1 o v) gL_candidateAt_X7_candidateAt rfl rfl (by decide +kernel) ⟨by decide, by decide⟩ ck_1 rfl rfl (Nat.le_of_ble_eq_true rfl) ⟨by decide, by decide⟩ rfl (fun E he => ?_) ?_
  · rcases he with ⟨rfl, c0⟩ | ⟨rfl, c0, c1⟩
    · exact ⟨1, ⟨[], ⟨0, 10, 13, 27⟩, [⟨0, 10, 17, 46⟩], 4, 2, 1, rfl, fun _ hz => absurd hz List.not_mem_nil, rfl, by decide, by decide +kernel, by decide +kernel, Or.inr ⟨dL_candidateAt_13, rfl⟩, by decide, dL_candidateAt_15, by decide, dL_candidateAt_16⟩, ⟨_, rfl, zO_x h (by unfold q_candidateAtF; rw [if_pos (mt (fzo h o).mp c0)]) rfl (by unfold q_candidateAtT; rw [if_pos (mt (fzo h o).mp c0)]) (by decide)⟩⟩
    · exact ⟨2, ⟨[⟨0, 10, 13, 27⟩], ⟨0, 10, 17, 46⟩, [], 4, 2, 2, rfl, List.forall_mem_cons.mpr ⟨Or.inr ⟨by decide, "java/lang/IndexOutOfBoundsException", by decide +kernel, by decide +kernel, by decide +kernel⟩, fun _ hz => absurd hz List.not_mem_nil⟩, rfl, by decide, by decide +kernel, by decide +kernel, Or.inr ⟨dL_candidateAt_17, rfl⟩, by decide, dL_candidateAt_19, by decide, dL_candidateAt_20⟩, ⟨_, rfl, zO_x h (by unfold q_candidateAtF; rw [if_neg (Classical.not_not.mpr ((fzo h o).mpr c0)), if_pos ((s_at h).2 c1)]) rfl (by unfold q_candidateAtT; rw [if_neg (Classical.not_not.mpr ((fzo h o).mpr c0)), if_pos ((s_at h).2 c1)]) (by decide)⟩⟩
  rintro _ _ ⟨c0, c1, rfl, rfl⟩
  refine z_i2l X dL_candidateAt_8 ?_
  refine z_last (j := 0) X dL_candidateAt_9 ck_14 (by rw [cn_14]; unfold vp_in; decide) (by decide) ?_
  refine z_mem (M' := cmm n i x lm y ((nI ((c_at i (cl o) (n 7) v).getD 0)).toInt64) od) cw_ol ?_
  refine z_goto (tgt := 21) X dL_candidateAt_10 (by decide) ?_
  refine z_iconst (v := 0) X dL_candidateAt_21 (by decide) ?_
  refine z_iret X rfl rfl (Nat.le_of_ble_eq_true rfl) (Nat.le_of_ble_eq_true rfl) dL_candidateAt_22 ?_
  exact ⟨_, rfl, zO_l h (by unfold q_candidateAtF; rw [if_neg (Classical.not_not.mpr ((fzo h o).mpr c0)), if_neg ((s_at h).1 c1).1]) rfl (by unfold q_candidateAtT; rw [if_neg (Classical.not_not.mpr ((fzo h o).mpr c0)), if_neg ((s_at h).1 c1).1]) (congrArg Int32.toInt64 (by unfold q_candidateAtV; rw [if_neg (Classical.not_not.mpr ((fzo h o).mpr c0)), if_neg ((s_at h).1 c1).1] <;> rw [((s_at h).1 c1).2]))⟩

set_option maxRecDepth 100000 in
set_option maxHeartbeats 4000000 in
theorem h_ship (l : Launch) (hl0 : l.stackTraces = false) {n : Nat → Nat} {i x : Nat → Nat → Int32} {lm : Nat → Nat → Int64} {y : Nat → Nat → Nat} {t : Nat} (h : CI n i x lm y t) (ol : Int64) (od : UInt64) (o : Int32) : zS l yL_ship wsL_ship 12 226 8 1100 [.ref 1, .int o, .ref 14] (cmm n i x lm y ol od) (zpi (fun k M1 => zO (q_shipF i (n 7) o) (lm) (q_shipT i (n 7) o) ((q_shipV i (n 7) o).toInt64) k M1)) zno := by
  refine z_introW (cc := cL_ship) (maxL := 4) (ret := (some .int)) (hh := [(0, 9, 12, 27), (0, 9, 15, 15), (0, 9, 18, 119)]) (by decide +kernel) rfl (Nat.le_of_ble_eq_true rfl) ?_
  intro g X
  show zE g 4 0 [(0, .ref 1), (1, .int o), (2, .ref 14)] [] (cmm n i x lm y ol od) 0 0
  refine z_aload_n X 2 dL_ship_0 rfl rfl ?_
  refine z_iconst (v := 0) X dL_ship_1 (by decide) ?_
  refine z_aload_n X 0 dL_ship_2 rfl rfl ?_
  refine z_iload_n X 1 dL_ship_3 rfl rfl ?_
  refine z_tryVi (As := [.int o]) (rest := [.int 0, .ref 14]) (n1 := 1) (ci := 10) X dL_ship_4 (s_shipC l hl0 h ol od o) gL_ship_X7_ship rfl rfl (by decide +kernel) ⟨by decide, by decide⟩ ck_1 rfl rfl (Nat.le_of_ble_eq_true rfl) ⟨by decide, by decide⟩ rfl (fun E he => ?_) ?_
  · rcases he with ⟨rfl, c0⟩ | ⟨rfl, c0, c1⟩ | ⟨rfl, c0, c1, c2⟩
    · exact ⟨1, ⟨[], ⟨0, 9, 12, 27⟩, [⟨0, 9, 15, 15⟩, ⟨0, 9, 18, 119⟩], 3, 1, 1, rfl, fun _ hz => absurd hz List.not_mem_nil, rfl, by decide, by decide +kernel, by decide +kernel, Or.inl ⟨3, dL_ship_12, rfl, rfl⟩, by decide, dL_ship_13, by decide, dL_ship_14⟩, ⟨_, rfl, zO_x h (by unfold q_shipF; rw [if_pos (mt (fzo h o).mp c0)]) rfl (by unfold q_shipT; rw [if_pos (mt (fzo h o).mp c0)]) (by decide)⟩⟩
    · exact ⟨2, ⟨[⟨0, 9, 12, 27⟩], ⟨0, 9, 15, 15⟩, [⟨0, 9, 18, 119⟩], 3, 1, 2, rfl, List.forall_mem_cons.mpr ⟨Or.inr ⟨by decide, "java/lang/IndexOutOfBoundsException", by decide +kernel, by decide +kernel, by decide +kernel⟩, fun _ hz => absurd hz List.not_mem_nil⟩, rfl, by decide, by decide +kernel, by decide +kernel, Or.inl ⟨3, dL_ship_15, rfl, rfl⟩, by decide, dL_ship_16, by decide, dL_ship_17⟩, ⟨_, rfl, zO_x h (by unfold q_shipF; rw [if_neg (Classical.not_not.mpr ((fzo h o).mpr c0)), if_pos c1]) rfl (by unfold q_shipT; rw [if_neg (Classical.not_not.mpr ((fzo h o).mpr c0)), if_pos c1]) (by decide)⟩⟩
    · exact ⟨3, ⟨[⟨0, 9, 12, 27⟩, ⟨0, 9, 15, 15⟩], ⟨0, 9, 18, 119⟩, [], 3, 1, 3, rfl, List.forall_mem_cons.mpr ⟨Or.inr ⟨by decide, "java/lang/IndexOutOfBoundsException", by decide +kernel, by decide +kernel, by decide +kernel⟩, List.forall_mem_cons.mpr ⟨Or.inr ⟨by decide, "java/lang/IllegalStateException", by decide +kernel, by decide +kernel, by decide +kernel⟩, fun _ hz => absurd hz List.not_mem_nil⟩⟩, rfl, by decide, by decide +kernel, by decide +kernel, Or.inl ⟨3, dL_ship_18, rfl, rfl⟩, by decide, dL_ship_19, by decide, dL_ship_20⟩, ⟨_, rfl, zO_x h (by unfold q_shipF; rw [if_neg (Classical.not_not.mpr ((fzo h o).mpr c0)), if_neg (Classical.not_not.mpr c1), if_pos c2]) rfl (by unfold q_shipT; rw [if_neg (Classical.not_not.mpr ((fzo h o).mpr c0)), if_neg (Classical.not_not.mpr c1), if_pos c2]) (by decide)⟩⟩
  rintro _ _ ⟨c0, c1, c2, rfl, rfl⟩
  refine z_i2l X dL_ship_7 ?_
  refine z_last (j := 0) X dL_ship_8 ck_14 (by rw [cn_14]; unfold vp_in; decide) (by decide) ?_
  refine z_mem (M' := cmm n ((c_ships (cl o) (n 7) (cl (i 137 (cl o))) (zup i 1 43 0) x).1) ((c_ships (cl o) (n 7) (cl (i 137 (cl o))) (zup i 1 43 0) x).2.1) lm y (((c_ships (cl o) (n 7) (cl (i 137 (cl o))) (zup i 1 43 0) x).2.2).toInt64) od) cw_ol ?_
  refine z_goto (tgt := 21) X dL_ship_9 (by decide) ?_
  refine z_iconst (v := 0) X dL_ship_21 (by decide) ?_
  refine z_iret X rfl rfl (Nat.le_of_ble_eq_true rfl) (Nat.le_of_ble_eq_true rfl) dL_ship_22 ?_
  exact ⟨_, rfl, zO_m (n' := n) (ic := (c_ships (cl o) (n 7) (cl (i 137 (cl o))) (zup i 1 43 0) x).1) (x' := (c_ships (cl o) (n 7) (cl (i 137 (cl o))) (zup i 1 43 0) x).2.1) (lc := lm) (y' := y) (t' := t) (F0 := m_ships (zup i 1 43 0) (cl o) (n 7)) (L0 := lm) (by unfold q_shipF; rw [if_neg (Classical.not_not.mpr ((fzo h o).mpr c0)), if_neg (Classical.not_not.mpr c1), if_neg (Classical.not_not.mpr c2)]) rfl (by unfold q_shipT; rw [if_neg (Classical.not_not.mpr ((fzo h o).mpr c0)), if_neg (Classical.not_not.mpr c1), if_neg (Classical.not_not.mpr c2)]) (congrArg Int32.toInt64 (by unfold q_shipV; rw [if_neg (Classical.not_not.mpr ((fzo h o).mpr c0)), if_neg (Classical.not_not.mpr c1), if_neg (Classical.not_not.mpr c2)] <;> rw [(s_ship h c0.1 c2).1])) ((s_ship h c0.1 c2).2.1) rfl ((s_ship h c0.1 c2).2.2)⟩

set_option maxRecDepth 100000 in
set_option maxHeartbeats 4000000 in
theorem h_orderState (l : Launch) (hl0 : l.stackTraces = false) {n : Nat → Nat} {i x : Nat → Nat → Int32} {lm : Nat → Nat → Int64} {y : Nat → Nat → Nat} {t : Nat} (h : CI n i x lm y t) (ol : Int64) (od : UInt64) (o : Int32) : zS l yL_orderState wsL_orderState 11 196 8 1100 [.ref 1, .int o, .ref 14] (cmm n i x lm y ol od) (zpi (fun k M1 => zO (q_orderStateF i o) (lm) (q_orderStateT i o) ((q_orderStateV i o).toInt64) k M1)) zno := by
  refine z_introW (cc := cL_orderState) (maxL := 4) (ret := (some .int)) (hh := [(0, 9, 12, 27)]) (by decide +kernel) rfl (Nat.le_of_ble_eq_true rfl) ?_
  intro g X
  show zE g 4 0 [(0, .ref 1), (1, .int o), (2, .ref 14)] [] (cmm n i x lm y ol od) 0 0
  refine z_aload_n X 2 dL_orderState_0 rfl rfl ?_
  refine z_iconst (v := 0) X dL_orderState_1 (by decide) ?_
  refine z_aload_n X 0 dL_orderState_2 rfl rfl ?_
  refine z_iload_n X 1 dL_orderState_3 rfl rfl ?_
  refine z_tryVi (As := [.int o]) (rest := [.int 0, .ref 14]) (n1 := 1) (ci := 10) X dL_orderState_4 (c_X7_orderState l hl0 n i x lm y ol od h.1 o h.2.2.1.2.2.2.2) gL_orderState_X7_orderState rfl rfl (by decide +kernel) ⟨by decide, by decide⟩ ck_1 rfl rfl (Nat.le_of_ble_eq_true rfl) ⟨by decide, by decide⟩ rfl (fun E he => ?_) ?_
  · obtain ⟨rfl, c0⟩ := he
    exact ⟨1, ⟨[], ⟨0, 9, 12, 27⟩, [], 3, 1, 1, rfl, fun _ hz => absurd hz List.not_mem_nil, rfl, by decide, by decide +kernel, by decide +kernel, Or.inl ⟨3, dL_orderState_12, rfl, rfl⟩, by decide, dL_orderState_13, by decide, dL_orderState_14⟩, ⟨_, rfl, zO_x h (by unfold q_orderStateF; rw [if_pos (mt (fzo h o).mp c0)]) rfl (by unfold q_orderStateT; rw [if_pos (mt (fzo h o).mp c0)]) (by decide)⟩⟩
  rintro _ _ ⟨c0, rfl, rfl⟩
  refine z_i2l X dL_orderState_7 ?_
  refine z_last (j := 0) X dL_orderState_8 ck_14 (by rw [cn_14]; unfold vp_in; decide) (by decide) ?_
  refine z_mem (M' := cmm n i x lm y ((i 140 (cl o)).toInt64) od) cw_ol ?_
  refine z_goto (tgt := 15) X dL_orderState_9 (by decide) ?_
  refine z_iconst (v := 0) X dL_orderState_15 (by decide) ?_
  refine z_iret X rfl rfl (Nat.le_of_ble_eq_true rfl) (Nat.le_of_ble_eq_true rfl) dL_orderState_16 ?_
  exact ⟨_, rfl, zO_l h (by unfold q_orderStateF; rw [if_neg (Classical.not_not.mpr ((fzo h o).mpr c0))]) rfl (by unfold q_orderStateT; rw [if_neg (Classical.not_not.mpr ((fzo h o).mpr c0))]) (congrArg Int32.toInt64 (by unfold q_orderStateV; rw [if_neg (Classical.not_not.mpr ((fzo h o).mpr c0))]))⟩

set_option maxRecDepth 100000 in
set_option maxHeartbeats 4000000 in
theorem h_leastShipped (l : Launch) (hl0 : l.stackTraces = false) {n : Nat → Nat} {i x : Nat → Nat → Int32} {lm : Nat → Nat → Int64} {y : Nat → Nat → Nat} {t : Nat} (h : CI n i x lm y t) (ol : Int64) (od : UInt64) (o : Int32) : zS l yL_leastShipped wsL_leastShipped 11 197 8 1100 [.ref 1, .int o, .ref 14] (cmm n i x lm y ol od) (zpi (fun k M1 => zO (q_leastShippedF i o) (lm) (q_leastShippedT i o) ((q_leastShippedV i o).toInt64) k M1)) zno := by
  refine z_introW (cc := cL_leastShipped) (maxL := 4) (ret := (some .int)) (hh := [(0, 9, 12, 27), (0, 9, 15, 46)]) (by decide +kernel) rfl (Nat.le_of_ble_eq_true rfl) ?_
  intro g X
  show zE g 4 0 [(0, .ref 1), (1, .int o), (2, .ref 14)] [] (cmm n i x lm y ol od) 0 0
  refine z_aload_n X 2 dL_leastShipped_0 rfl rfl ?_
  refine z_iconst (v := 0) X dL_leastShipped_1 (by decide) ?_
  refine z_aload_n X 0 dL_leastShipped_2 rfl rfl ?_
  refine z_iload_n X 1 dL_leastShipped_3 rfl rfl ?_
  refine z_tryVi (As := [.int o]) (rest := [.int 0, .ref 14]) (n1 := 1) (ci := 10) X dL_leastShipped_4 (c_X7_leastShipped l hl0 n i x lm y ol od h.1 o) gL_leastShipped_X7_leastShipped rfl rfl (by decide +kernel) ⟨by decide, by decide⟩ ck_1 rfl rfl (Nat.le_of_ble_eq_true rfl) ⟨by decide, by decide⟩ rfl (fun E he => ?_) ?_
  · rcases he with ⟨rfl, c0⟩ | ⟨rfl, c0, c1⟩
    · exact ⟨1, ⟨[], ⟨0, 9, 12, 27⟩, [⟨0, 9, 15, 46⟩], 3, 1, 1, rfl, fun _ hz => absurd hz List.not_mem_nil, rfl, by decide, by decide +kernel, by decide +kernel, Or.inl ⟨3, dL_leastShipped_12, rfl, rfl⟩, by decide, dL_leastShipped_13, by decide, dL_leastShipped_14⟩, ⟨_, rfl, zO_x h (by unfold q_leastShippedF; rw [if_pos (mt (fzo h o).mp c0)]) rfl (by unfold q_leastShippedT; rw [if_pos (mt (fzo h o).mp c0)]) (by decide)⟩⟩
    · exact ⟨2, ⟨[⟨0, 9, 12, 27⟩], ⟨0, 9, 15, 46⟩, [], 3, 1, 2, rfl, List.forall_mem_cons.mpr ⟨Or.inr ⟨by decide, "java/lang/IndexOutOfBoundsException", by decide +kernel, by decide +kernel, by decide +kernel⟩, fun _ hz => absurd hz List.not_mem_nil⟩, rfl, by decide, by decide +kernel, by decide +kernel, Or.inl ⟨3, dL_leastShipped_15, rfl, rfl⟩, by decide, dL_leastShipped_16, by decide, dL_leastShipped_17⟩, ⟨_, rfl, zO_x h (by unfold q_leastShippedF; rw [if_neg (Classical.not_not.mpr ((fzo h o).mpr c0)), if_pos c1]) rfl (by unfold q_leastShippedT; rw [if_neg (Classical.not_not.mpr ((fzo h o).mpr c0)), if_pos c1]) (by decide)⟩⟩
  rintro _ _ ⟨c0, c1, rfl, rfl⟩
  refine z_i2l X dL_leastShipped_7 ?_
  refine z_last (j := 0) X dL_leastShipped_8 ck_14 (by rw [cn_14]; unfold vp_in; decide) (by decide) ?_
  refine z_mem (M' := cmm n i x lm y ((i 141 (cl o)).toInt64) od) cw_ol ?_
  refine z_goto (tgt := 18) X dL_leastShipped_9 (by decide) ?_
  refine z_iconst (v := 0) X dL_leastShipped_18 (by decide) ?_
  refine z_iret X rfl rfl (Nat.le_of_ble_eq_true rfl) (Nat.le_of_ble_eq_true rfl) dL_leastShipped_19 ?_
  exact ⟨_, rfl, zO_l h (by unfold q_leastShippedF; rw [if_neg (Classical.not_not.mpr ((fzo h o).mpr c0)), if_neg (Classical.not_not.mpr c1)]) rfl (by unfold q_leastShippedT; rw [if_neg (Classical.not_not.mpr ((fzo h o).mpr c0)), if_neg (Classical.not_not.mpr c1)]) (congrArg Int32.toInt64 (by unfold q_leastShippedV; rw [if_neg (Classical.not_not.mpr ((fzo h o).mpr c0)), if_neg (Classical.not_not.mpr c1)]))⟩

set_option maxRecDepth 100000 in
set_option maxHeartbeats 4000000 in
theorem h_pass (l : Launch) (hl0 : l.stackTraces = false) {n : Nat → Nat} {i x : Nat → Nat → Int32} {lm : Nat → Nat → Int64} {y : Nat → Nat → Nat} {t : Nat} (h : CI n i x lm y t) (ol : Int64) (od : UInt64) (u : Int32) : zS l yL_pass wsL_pass 14 273 8 1100 [.ref 1, .int u, .ref 14] (cmm n i x lm y ol od) (zpi (fun k M1 => zO (q_passF i (n 5) (n 7) (n 8) u) (q_passL i lm (n 5) (n 7) (n 8) u) (q_passT i u) ((q_passV i (n 5) (n 7) (n 8) u).toInt64) k M1)) zno := by
  refine z_introW (cc := cL_pass) (maxL := 4) (ret := (some .int)) (hh := [(0, 9, 12, 13), (0, 9, 15, 15)]) (by decide +kernel) rfl (Nat.le_of_ble_eq_true rfl) ?_
  intro g X
  show zE g 4 0 [(0, .ref 1), (1, .int u), (2, .ref 14)] [] (cmm n i x lm y ol od) 0 0
  refine z_aload_n X 2 dL_pass_0 rfl rfl ?_
  refine z_iconst (v := 0) X dL_pass_1 (by decide) ?_
  refine z_aload_n X 0 dL_pass_2 rfl rfl ?_
  refine z_iload_n X 1 dL_pass_3 rfl rfl ?_
  refine z_tryVi (As := [.int u]) (rest := [.int 0, .ref 14]) (n1 := 1) (ci := 10) X dL_pass_4 (s_passC l hl0 h ol od u) gL_pass_X7_pass rfl rfl (by decide +kernel) ⟨by decide, by decide⟩ ck_1 rfl rfl (Nat.le_of_ble_eq_true rfl) ⟨by decide, by decide⟩ rfl (fun E he => ?_) ?_
  · rcases he with ⟨rfl, c0⟩ | ⟨rfl, c0, c1⟩
    · exact ⟨1, ⟨[], ⟨0, 9, 12, 13⟩, [⟨0, 9, 15, 15⟩], 3, 1, 1, rfl, fun _ hz => absurd hz List.not_mem_nil, rfl, by decide, by decide +kernel, by decide +kernel, Or.inl ⟨3, dL_pass_12, rfl, rfl⟩, by decide, dL_pass_13, by decide, dL_pass_14⟩, ⟨_, rfl, zO_x h (by unfold q_passF; rw [if_pos c0]) (by unfold q_passL; rw [if_pos c0]) (by unfold q_passT; rw [if_pos c0]) (by decide)⟩⟩
    · exact ⟨2, ⟨[⟨0, 9, 12, 13⟩], ⟨0, 9, 15, 15⟩, [], 3, 1, 2, rfl, List.forall_mem_cons.mpr ⟨Or.inr ⟨by decide, "java/lang/IllegalArgumentException", by decide +kernel, by decide +kernel, by decide +kernel⟩, fun _ hz => absurd hz List.not_mem_nil⟩, rfl, by decide, by decide +kernel, by decide +kernel, Or.inl ⟨3, dL_pass_15, rfl, rfl⟩, by decide, dL_pass_16, by decide, dL_pass_17⟩, ⟨_, rfl, zO_x h (by unfold q_passF; rw [if_neg (Classical.not_not.mpr c0), if_pos (mt (s_960 h c0).mp c1)]) (by unfold q_passL; rw [if_neg (Classical.not_not.mpr c0), if_pos (mt (s_960 h c0).mp c1)]) (by unfold q_passT; rw [if_neg (Classical.not_not.mpr c0), if_pos (mt (s_960 h c0).mp c1)]) (by decide)⟩⟩
  rintro _ _ ⟨c0, c1, rfl, rfl⟩
  refine z_i2l X dL_pass_7 ?_
  refine z_last (j := 0) X dL_pass_8 ck_14 (by rw [cn_14]; unfold vp_in; decide) (by decide) ?_
  refine z_mem (M' := cmm n (m_tkI (n 5) (n 7) (n 8) (zup i 1 43 0) (cl u)) (c_px n y (zup i 1 43 0) x (cl u)) (m_tkL (n 5) (n 7) (n 8) (zup i 1 43 0) lm (cl u)) y ((m_tkS (n 5) (n 7) (n 8) (zup i 1 43 0) (cl u)).toInt64) od) cw_ol ?_
  refine z_goto (tgt := 18) X dL_pass_9 (by decide) ?_
  refine z_iconst (v := 0) X dL_pass_18 (by decide) ?_
  refine z_iret X rfl rfl (Nat.le_of_ble_eq_true rfl) (Nat.le_of_ble_eq_true rfl) dL_pass_19 ?_
  exact ⟨_, rfl, zO_m (n' := n) (ic := m_tkI (n 5) (n 7) (n 8) (zup i 1 43 0) (cl u)) (x' := c_px n y (zup i 1 43 0) x (cl u)) (lc := m_tkL (n 5) (n 7) (n 8) (zup i 1 43 0) lm (cl u)) (y' := y) (t' := t + cl u) (F0 := m_tkI (n 5) (n 7) (n 8) (zup i 1 43 0) (cl u)) (L0 := m_tkL (n 5) (n 7) (n 8) (zup i 1 43 0) lm (cl u)) (by unfold q_passF; rw [if_neg (Classical.not_not.mpr c0), if_neg (Classical.not_not.mpr ((s_960 h c0).mpr c1))]) (by unfold q_passL; rw [if_neg (Classical.not_not.mpr c0), if_neg (Classical.not_not.mpr ((s_960 h c0).mpr c1))]) (by unfold q_passT; rw [if_neg (Classical.not_not.mpr c0), if_neg (Classical.not_not.mpr ((s_960 h c0).mpr c1))]) (congrArg Int32.toInt64 (by unfold q_passV; rw [if_neg (Classical.not_not.mpr c0), if_neg (Classical.not_not.mpr ((s_960 h c0).mpr c1))])) (eV_rf) rfl (pass_CI (CI_43 h) (cl u) (s_960t h c0 c1))⟩
