/-! PART 62: a new pallet -/
theorem znew_c {M : zMem} {o t n p : Nat} (h : p ≠ o) : zc (znew M o t n) p = zc M p := if_neg h
theorem znew_i {M : zMem} {o t n p q : Nat} (h : p ≠ o) : zi (znew M o t n) p q = zi M p q := if_neg h
set_option maxRecDepth 100000 in
set_option maxHeartbeats 4000000 in
theorem c_X4_init (l : Launch) (M : zMem) (o s kd r : Nat) (ho : zc M o = 7 + 1) (hk : zc M kd = 4 + 1) (hs0 : zc M s = 0) (hs31 : s ≠ zE0) (hs63 : s ≠ zMi) (nr tm lf : Int32) (hlf : zi M kd 0 = lf) : zS l yX4_init wsX4_init 2 43 1 3 [.ref o, .int nr, .ref kd, .ref r, .int tm] M (zpv (fun M1 => M1 = zwi (zwr (zwr (zwi (zwr (znew (zwr (zwi (zwi (zwi M o 3 114) o 4 960) o 0 nr) o 1 (some kd)) s 10 0) s 0 (some r)) s 1 tm) s 2 none) o 2 (some s)) o 5 lf)) zno := by
  refine z_intro (cc := cX4_init) (maxL := 5) (ret := none) (by decide +kernel) rfl (Nat.le_of_ble_eq_true rfl) ?_
  have hlk_9 : Cond.fieldLink RX4 9 "ColdStore$Pallet" "status" "C" ∈ wsX4_init := by decide +kernel
  have hlk_15 : Cond.fieldLink RX4 15 "ColdStore$Pallet" "leftAt" "I" ∈ wsX4_init := by decide +kernel
  have hlk_19 : Cond.fieldLink RX4 19 "ColdStore$Pallet" "number" "I" ∈ wsX4_init := by decide +kernel
  have hlk_22 : Cond.fieldLink RX4 22 "ColdStore$Pallet" "kind" "LColdStore$Kind;" ∈ wsX4_init := by decide +kernel
  have hlk_31 : Cond.fieldLink RX4 31 "ColdStore$Pallet" "stay" "LColdStore$Stay;" ∈ wsX4_init := by decide +kernel
  have hlk_35 : Cond.fieldLink RX4 35 "ColdStore$Kind" "fullLife" "I" ∈ wsX4_init := by decide +kernel
  have hlk_40 : Cond.fieldLink RX4 40 "ColdStore$Pallet" "lifeLeft" "I" ∈ wsX4_init := by decide +kernel
  intro g X
  show zE g 5 0 [(0, .ref o), (1, .int nr), (2, .ref kd), (3, .ref r), (4, .int tm)] [] M 0 0
  refine z_aload_n X 0 dX4_init_0 rfl rfl ?_
  refine z_objInit (v := .null) X dX4_init_1 (by decide +kernel) (by decide +kernel) (by decide +kernel) (by decide) (by decide) ?_
  refine z_aload_n X 0 dX4_init_4 rfl rfl ?_
  refine z_bipush (v := 114) X dX4_init_5 (by decide) ?_
  refine z_putI (ci := 7) (j := 3) X dX4_init_7 ((show zc M o = zc M o from rfl).trans ho) rfl (by decide) hlk_9 (Or.inl rfl) (Or.inl rfl) (fun _ => rfl) (rfl) rfl ?_
  refine z_aload_n X 0 dX4_init_10 rfl rfl ?_
  refine z_sipush (v := 960) X dX4_init_11 (by decide) ?_
  refine z_putI (ci := 7) (j := 4) X dX4_init_14 ((show zc (zwi M o 3 114) o = zc M o from rfl).trans ho) rfl (by decide) hlk_15 (Or.inl rfl) (Or.inl rfl) (fun _ => rfl) rfl rfl ?_
  refine z_aload_n X 0 dX4_init_17 rfl rfl ?_
  refine z_iload_n X 1 dX4_init_18 rfl rfl ?_
  refine z_putI (ci := 7) (j := 0) X dX4_init_19 ((show zc (zwi (zwi M o 3 114) o 4 960) o = zc M o from rfl).trans ho) rfl (by decide) hlk_19 (Or.inl rfl) (Or.inr ⟨rfl, rfl, rfl⟩) (fun _ => rfl) rfl rfl ?_
  refine z_aload_n X 0 dX4_init_22 rfl rfl ?_
  refine z_aload_n X 2 dX4_init_23 rfl rfl ?_
  refine z_putR (ci := 7) (j := 1) X dX4_init_24 ((show zc (zwi (zwi (zwi M o 3 114) o 4 960) o 0 nr) o = zc M o from rfl).trans ho) rfl (by decide) hlk_22 (Or.inl rfl) (Or.inr ⟨rfl, rfl, rfl⟩) (fun _ => rfl) (fun _ => rfl) (fun _ => rfl) ?_
  refine z_aload_n X 0 dX4_init_27 rfl rfl ?_
  have hs9 : zc (zwr (zwi (zwi (zwi M o 3 114) o 4 960) o 0 nr) o 1 (some kd)) s = 0 := hs0
  refine z_new (ci := 9) X s dX4_init_28 rfl (by decide +kernel) (by decide +kernel) (by decide +kernel) hs9 hs31 hs63 ⟨by decide, by decide⟩ ?_
  have hs1 : zc (znew (zwr (zwi (zwi (zwi M o 3 114) o 4 960) o 0 nr) o 1 (some kd)) s 10 0) s = 10 := if_pos rfl
  have ho9 : zc (znew (zwr (zwi (zwi (zwi M o 3 114) o 4 960) o 0 nr) o 1 (some kd)) s 10 0) o = 7 + 1 := (if_neg (fun e9 => by rw [e9] at ho; rw [ho] at hs0; cases hs0)).trans ho
  have hk9 : zc (znew (zwr (zwi (zwi (zwi M o 3 114) o 4 960) o 0 nr) o 1 (some kd)) s 10 0) kd = 4 + 1 := (if_neg (fun e9 => by rw [e9] at hk; rw [hk] at hs0; cases hs0)).trans hk
  have hks : ¬ kd = s := fun e9 => by rw [e9] at hk; rw [hk] at hs0; cases hs0
  have hko : ¬ kd = o := fun e9 => by rw [e9] at hk; rw [hk] at ho; cases ho
  refine z_dup X dX4_init_31 rfl ?_
  refine z_aload_n X 3 dX4_init_32 rfl rfl ?_
  refine z_iload X 4 dX4_init_33 rfl ?_
  refine z_null X dX4_init_35 ?_
  refine z_callIv (As := [.ref r, .int tm, .null]) (rest := [.ref s, .ref o]) (n1 := 3) X dX4_init_36 (c_X6_initN l (znew (zwr (zwi (zwi (zwi M o 3 114) o 4 960) o 0 nr) o 1 (some kd)) s 10 0) s r hs1 tm) gX4_init_X6_init rfl (by decide +kernel) (by decide +kernel) (by decide +kernel) rfl rfl (by decide +kernel) ⟨by decide, by decide⟩ rfl (Nat.le_of_ble_eq_true rfl) ⟨by decide, by decide⟩ (fun _ h => h.elim) ?_
  rintro _ e9
  rw [e9]
  refine z_putR (ci := 7) (j := 2) X dX4_init_39 ((show zc (zwr (zwi (zwr (znew (zwr (zwi (zwi (zwi M o 3 114) o 4 960) o 0 nr) o 1 (some kd)) s 10 0) s 0 (some r)) s 1 tm) s 2 none) o = zc (znew (zwr (zwi (zwi (zwi M o 3 114) o 4 960) o 0 nr) o 1 (some kd)) s 10 0) o from rfl).trans ho9) rfl (by decide) hlk_31 (Or.inl rfl) (Or.inl rfl) (fun _ => rfl) (fun _ => rfl) (fun _ => rfl) ?_
  refine z_aload_n X 0 dX4_init_42 rfl rfl ?_
  refine z_aload_n X 2 dX4_init_43 rfl rfl ?_
  refine z_getI (ci := 4) (j := 0) (x := lf) X dX4_init_44 ((show zc (zwr (zwr (zwi (zwr (znew (zwr (zwi (zwi (zwi M o 3 114) o 4 960) o 0 nr) o 1 (some kd)) s 10 0) s 0 (some r)) s 1 tm) s 2 none) o 2 (some s)) kd = zc (znew (zwr (zwi (zwi (zwi M o 3 114) o 4 960) o 0 nr) o 1 (some kd)) s 10 0) kd from rfl).trans hk9) rfl (by decide) hlk_35 (Or.inl rfl) (fun _ => rfl) ((show (if kd = s ∧ 0 = 1 then tm else if kd = s then 0 else if kd = o ∧ 0 = 0 then nr else if kd = o ∧ 0 = 4 then 960 else if kd = o ∧ 0 = 3 then 114 else zi M kd 0) = lf by simp only [hks, hko, false_and, if_false]; exact hlf)) ?_
  refine z_putI (ci := 7) (j := 5) X dX4_init_47 ((show zc (zwr (zwr (zwi (zwr (znew (zwr (zwi (zwi (zwi M o 3 114) o 4 960) o 0 nr) o 1 (some kd)) s 10 0) s 0 (some r)) s 1 tm) s 2 none) o 2 (some s)) o = zc (znew (zwr (zwi (zwi (zwi M o 3 114) o 4 960) o 0 nr) o 1 (some kd)) s 10 0) o from rfl).trans ho9) rfl (by decide) hlk_40 (Or.inl rfl) (Or.inl rfl) (fun _ => rfl) rfl rfl ?_
  refine z_vret X rfl (Nat.le_of_ble_eq_true rfl) (Nat.le_of_ble_eq_true rfl) dX4_init_50 ?_
  exact ⟨rfl, rfl⟩
