/-! PART 54: new objects of the class -/
set_option maxRecDepth 100000 in
set_option maxHeartbeats 4000000 in
theorem c_X1_init (l : Launch) (M : zMem) (o : Nat) (ho : zc M o = 4 + 1) (a b c : Int32) : zS l yX1_init wsX1_init 1 20 0 0 [.ref o, .int a, .int b, .int c] M (zpv (fun M1 => M1 = zwi (zwi (zwi M o 0 a) o 1 b) o 2 c)) zno := by
  refine z_intro (cc := cX1_init) (maxL := 4) (ret := none) (by decide +kernel) rfl (Nat.le_of_ble_eq_true rfl) ?_
  have hlk_7 : Cond.fieldLink RX1 7 "ColdStore$Kind" "fullLife" "I" ∈ wsX1_init := by decide +kernel
  have hlk_13 : Cond.fieldLink RX1 13 "ColdStore$Kind" "best" "I" ∈ wsX1_init := by decide +kernel
  have hlk_16 : Cond.fieldLink RX1 16 "ColdStore$Kind" "lowest" "I" ∈ wsX1_init := by decide +kernel
  intro g X
  show zE g 4 0 [(0, .ref o), (1, .int a), (2, .int b), (3, .int c)] [] M 0 0
  refine z_aload_n X 0 dX1_init_0 rfl rfl ?_
  refine z_objInit (v := .null) X dX1_init_1 (by decide +kernel) (by decide +kernel) (by decide +kernel) (by decide) (by decide) ?_
  refine z_aload_n X 0 dX1_init_4 rfl rfl ?_
  refine z_iload_n X 1 dX1_init_5 rfl rfl ?_
  refine z_putI (ci := 4) (j := 0) X dX1_init_6 ((show zc M o = zc M o from rfl).trans ho) rfl (by decide) hlk_7 (Or.inl rfl) (Or.inr ⟨rfl, rfl, rfl⟩) (fun _ => rfl) rfl rfl ?_
  refine z_aload_n X 0 dX1_init_9 rfl rfl ?_
  refine z_iload_n X 2 dX1_init_10 rfl rfl ?_
  refine z_putI (ci := 4) (j := 1) X dX1_init_11 ((show zc (zwi M o 0 a) o = zc M o from rfl).trans ho) rfl (by decide) hlk_13 (Or.inl rfl) (Or.inr ⟨rfl, rfl, rfl⟩) (fun _ => rfl) rfl rfl ?_
  refine z_aload_n X 0 dX1_init_14 rfl rfl ?_
  refine z_iload_n X 3 dX1_init_15 rfl rfl ?_
  refine z_putI (ci := 4) (j := 2) X dX1_init_16 ((show zc (zwi (zwi M o 0 a) o 1 b) o = zc M o from rfl).trans ho) rfl (by decide) hlk_16 (Or.inl rfl) (Or.inr ⟨rfl, rfl, rfl⟩) (fun _ => rfl) rfl rfl ?_
  refine z_vret X rfl (Nat.le_of_ble_eq_true rfl) (Nat.le_of_ble_eq_true rfl) dX1_init_19 ?_
  exact ⟨rfl, rfl⟩

set_option maxRecDepth 100000 in
set_option maxHeartbeats 4000000 in
theorem c_X3_init (l : Launch) (M : zMem) (o kd : Nat) (ho : zc M o = 6 + 1) (a b c : Int32) : zS l yX3_init wsX3_init 1 20 0 0 [.ref o, .ref kd, .int a, .int b, .int c] M (zpv (fun M1 => M1 = zwi (zwi (zwi (zwr (zwi (zwi M o 4 111) o 5 0) o 0 (some kd)) o 1 a) o 2 b) o 3 c)) zno := by
  refine z_intro (cc := cX3_init) (maxL := 5) (ret := none) (by decide +kernel) rfl (Nat.le_of_ble_eq_true rfl) ?_
  have hlk_9 : Cond.fieldLink RX3 9 "ColdStore$Order" "status" "C" ∈ wsX3_init := by decide +kernel
  have hlk_15 : Cond.fieldLink RX3 15 "ColdStore$Order" "leastLife" "I" ∈ wsX3_init := by decide +kernel
  have hlk_19 : Cond.fieldLink RX3 19 "ColdStore$Order" "kind" "LColdStore$Kind;" ∈ wsX3_init := by decide +kernel
  have hlk_23 : Cond.fieldLink RX3 23 "ColdStore$Order" "count" "I" ∈ wsX3_init := by decide +kernel
  have hlk_26 : Cond.fieldLink RX3 26 "ColdStore$Order" "promise" "I" ∈ wsX3_init := by decide +kernel
  have hlk_29 : Cond.fieldLink RX3 29 "ColdStore$Order" "due" "I" ∈ wsX3_init := by decide +kernel
  intro g X
  show zE g 5 0 [(0, .ref o), (1, .ref kd), (2, .int a), (3, .int b), (4, .int c)] [] M 0 0
  refine z_aload_n X 0 dX3_init_0 rfl rfl ?_
  refine z_objInit (v := .null) X dX3_init_1 (by decide +kernel) (by decide +kernel) (by decide +kernel) (by decide) (by decide) ?_
  refine z_aload_n X 0 dX3_init_4 rfl rfl ?_
  refine z_bipush (v := 111) X dX3_init_5 (by decide) ?_
  refine z_putI (ci := 6) (j := 4) X dX3_init_7 ((show zc M o = zc M o from rfl).trans ho) rfl (by decide) hlk_9 (Or.inl rfl) (Or.inl rfl) (fun _ => rfl) (rfl) rfl ?_
  refine z_aload_n X 0 dX3_init_10 rfl rfl ?_
  refine z_iconst (v := 0) X dX3_init_11 (by decide) ?_
  refine z_putI (ci := 6) (j := 5) X dX3_init_12 ((show zc (zwi M o 4 111) o = zc M o from rfl).trans ho) rfl (by decide) hlk_15 (Or.inl rfl) (Or.inl rfl) (fun _ => rfl) rfl rfl ?_
  refine z_aload_n X 0 dX3_init_15 rfl rfl ?_
  refine z_aload_n X 1 dX3_init_16 rfl rfl ?_
  refine z_putR (ci := 6) (j := 0) X dX3_init_17 ((show zc (zwi (zwi M o 4 111) o 5 0) o = zc M o from rfl).trans ho) rfl (by decide) hlk_19 (Or.inl rfl) (Or.inr ⟨rfl, rfl, rfl⟩) (fun _ => rfl) (fun _ => rfl) (fun _ => rfl) ?_
  refine z_aload_n X 0 dX3_init_20 rfl rfl ?_
  refine z_iload_n X 2 dX3_init_21 rfl rfl ?_
  refine z_putI (ci := 6) (j := 1) X dX3_init_22 ((show zc (zwr (zwi (zwi M o 4 111) o 5 0) o 0 (some kd)) o = zc M o from rfl).trans ho) rfl (by decide) hlk_23 (Or.inl rfl) (Or.inr ⟨rfl, rfl, rfl⟩) (fun _ => rfl) rfl rfl ?_
  refine z_aload_n X 0 dX3_init_25 rfl rfl ?_
  refine z_iload_n X 3 dX3_init_26 rfl rfl ?_
  refine z_putI (ci := 6) (j := 2) X dX3_init_27 ((show zc (zwi (zwr (zwi (zwi M o 4 111) o 5 0) o 0 (some kd)) o 1 a) o = zc M o from rfl).trans ho) rfl (by decide) hlk_26 (Or.inl rfl) (Or.inr ⟨rfl, rfl, rfl⟩) (fun _ => rfl) rfl rfl ?_
  refine z_aload_n X 0 dX3_init_30 rfl rfl ?_
  refine z_iload X 4 dX3_init_31 rfl ?_
  refine z_putI (ci := 6) (j := 3) X dX3_init_33 ((show zc (zwi (zwi (zwr (zwi (zwi M o 4 111) o 5 0) o 0 (some kd)) o 1 a) o 2 b) o = zc M o from rfl).trans ho) rfl (by decide) hlk_29 (Or.inl rfl) (Or.inr ⟨rfl, rfl, rfl⟩) (fun _ => rfl) rfl rfl ?_
  refine z_vret X rfl (Nat.le_of_ble_eq_true rfl) (Nat.le_of_ble_eq_true rfl) dX3_init_36 ?_
  exact ⟨rfl, rfl⟩

set_option maxRecDepth 100000 in
set_option maxHeartbeats 4000000 in
theorem c_X6_initN (l : Launch) (M : zMem) (o r : Nat) (ho : zc M o = 9 + 1) (a : Int32) : zS l yX6_init wsX6_init 1 20 0 0 [.ref o, .ref r, .int a, .null] M (zpv (fun M1 => M1 = zwr (zwi (zwr M o 0 (some r)) o 1 a) o 2 none)) zno := by
  refine z_intro (cc := cX6_init) (maxL := 4) (ret := none) (by decide +kernel) rfl (Nat.le_of_ble_eq_true rfl) ?_
  have hlk_7 : Cond.fieldLink RX6 7 "ColdStore$Stay" "room" "LColdStore$Room;" ∈ wsX6_init := by decide +kernel
  have hlk_13 : Cond.fieldLink RX6 13 "ColdStore$Stay" "since" "I" ∈ wsX6_init := by decide +kernel
  have hlk_17 : Cond.fieldLink RX6 17 "ColdStore$Stay" "earlier" "LColdStore$Stay;" ∈ wsX6_init := by decide +kernel
  intro g X
  show zE g 4 0 [(0, .ref o), (1, .ref r), (2, .int a), (3, .null)] [] M 0 0
  refine z_aload_n X 0 dX6_init_0 rfl rfl ?_
  refine z_objInit (v := .null) X dX6_init_1 (by decide +kernel) (by decide +kernel) (by decide +kernel) (by decide) (by decide) ?_
  refine z_aload_n X 0 dX6_init_4 rfl rfl ?_
  refine z_aload_n X 1 dX6_init_5 rfl rfl ?_
  refine z_putR (ci := 9) (j := 0) X dX6_init_6 ((show zc M o = zc M o from rfl).trans ho) rfl (by decide) hlk_7 (Or.inl rfl) (Or.inr ⟨rfl, rfl, rfl⟩) (fun _ => rfl) (fun _ => rfl) (fun _ => rfl) ?_
  refine z_aload_n X 0 dX6_init_9 rfl rfl ?_
  refine z_iload_n X 2 dX6_init_10 rfl rfl ?_
  refine z_putI (ci := 9) (j := 1) X dX6_init_11 ((show zc (zwr M o 0 (some r)) o = zc M o from rfl).trans ho) rfl (by decide) hlk_13 (Or.inl rfl) (Or.inr ⟨rfl, rfl, rfl⟩) (fun _ => rfl) rfl rfl ?_
  refine z_aload_n X 0 dX6_init_14 rfl rfl ?_
  refine z_aload_nN X 3 dX6_init_15 rfl rfl ?_
  refine z_putN (ci := 9) (j := 2) X dX6_init_16 ((show zc (zwi (zwr M o 0 (some r)) o 1 a) o = zc M o from rfl).trans ho) rfl (by decide) hlk_17 (Or.inl rfl) (Or.inr ⟨rfl, rfl, rfl⟩) (fun _ => rfl) rfl rfl ?_
  refine z_vret X rfl (Nat.le_of_ble_eq_true rfl) (Nat.le_of_ble_eq_true rfl) dX6_init_19 ?_
  exact ⟨rfl, rfl⟩

set_option maxRecDepth 100000 in
set_option maxHeartbeats 4000000 in
theorem c_X6_initS (l : Launch) (M : zMem) (o r e : Nat) (ho : zc M o = 9 + 1) (a : Int32) : zS l yX6_init wsX6_init 1 20 0 0 [.ref o, .ref r, .int a, .ref e] M (zpv (fun M1 => M1 = zwr (zwi (zwr M o 0 (some r)) o 1 a) o 2 (some e))) zno := by
  refine z_intro (cc := cX6_init) (maxL := 4) (ret := none) (by decide +kernel) rfl (Nat.le_of_ble_eq_true rfl) ?_
  have hlk_7 : Cond.fieldLink RX6 7 "ColdStore$Stay" "room" "LColdStore$Room;" ∈ wsX6_init := by decide +kernel
  have hlk_13 : Cond.fieldLink RX6 13 "ColdStore$Stay" "since" "I" ∈ wsX6_init := by decide +kernel
  have hlk_17 : Cond.fieldLink RX6 17 "ColdStore$Stay" "earlier" "LColdStore$Stay;" ∈ wsX6_init := by decide +kernel
  intro g X
  show zE g 4 0 [(0, .ref o), (1, .ref r), (2, .int a), (3, .ref e)] [] M 0 0
  refine z_aload_n X 0 dX6_init_0 rfl rfl ?_
  refine z_objInit (v := .null) X dX6_init_1 (by decide +kernel) (by decide +kernel) (by decide +kernel) (by decide) (by decide) ?_
  refine z_aload_n X 0 dX6_init_4 rfl rfl ?_
  refine z_aload_n X 1 dX6_init_5 rfl rfl ?_
  refine z_putR (ci := 9) (j := 0) X dX6_init_6 ((show zc M o = zc M o from rfl).trans ho) rfl (by decide) hlk_7 (Or.inl rfl) (Or.inr ⟨rfl, rfl, rfl⟩) (fun _ => rfl) (fun _ => rfl) (fun _ => rfl) ?_
  refine z_aload_n X 0 dX6_init_9 rfl rfl ?_
  refine z_iload_n X 2 dX6_init_10 rfl rfl ?_
  refine z_putI (ci := 9) (j := 1) X dX6_init_11 ((show zc (zwr M o 0 (some r)) o = zc M o from rfl).trans ho) rfl (by decide) hlk_13 (Or.inl rfl) (Or.inr ⟨rfl, rfl, rfl⟩) (fun _ => rfl) rfl rfl ?_
  refine z_aload_n X 0 dX6_init_14 rfl rfl ?_
  refine z_aload_n X 3 dX6_init_15 rfl rfl ?_
  refine z_putR (ci := 9) (j := 2) X dX6_init_16 ((show zc (zwi (zwr M o 0 (some r)) o 1 a) o = zc M o from rfl).trans ho) rfl (by decide) hlk_17 (Or.inl rfl) (Or.inr ⟨rfl, rfl, rfl⟩) (fun _ => rfl) (fun _ => rfl) (fun _ => rfl) ?_
  refine z_vret X rfl (Nat.le_of_ble_eq_true rfl) (Nat.le_of_ble_eq_true rfl) dX6_init_19 ?_
  exact ⟨rfl, rfl⟩

set_option maxRecDepth 100000 in
set_option maxHeartbeats 4000000 in
theorem c_X0_init (l : Launch) (M : zMem) (o : Nat) (ho : zc M o = 3 + 1) : zS l yX0_init wsX0_init 1 20 0 0 [.ref o] M (zpv (fun M1 => M1 = zwi (zwi (zwi (zwi (zwi (zwi M o 0 10) o 1 10) o 2 0) o 3 (-1)) o 4 0) o 5 400)) zno := by
  refine z_intro (cc := cX0_init) (maxL := 1) (ret := none) (by decide +kernel) rfl (Nat.le_of_ble_eq_true rfl) ?_
  have hlk_9 : Cond.fieldLink RX0 9 "ColdStore$Contract" "normalPrice" "I" ∈ wsX0_init := by decide +kernel
  have hlk_15 : Cond.fieldLink RX0 15 "ColdStore$Contract" "peakPrice" "I" ∈ wsX0_init := by decide +kernel
  have hlk_18 : Cond.fieldLink RX0 18 "ColdStore$Contract" "firstPeak" "I" ∈ wsX0_init := by decide +kernel
  have hlk_21 : Cond.fieldLink RX0 21 "ColdStore$Contract" "lastPeak" "I" ∈ wsX0_init := by decide +kernel
  have hlk_24 : Cond.fieldLink RX0 24 "ColdStore$Contract" "charge" "I" ∈ wsX0_init := by decide +kernel
  have hlk_27 : Cond.fieldLink RX0 27 "ColdStore$Contract" "limit" "I" ∈ wsX0_init := by decide +kernel
  intro g X
  show zE g 1 0 [(0, .ref o)] [] M 0 0
  refine z_aload_n X 0 dX0_init_0 rfl rfl ?_
  refine z_objInit (v := .null) X dX0_init_1 (by decide +kernel) (by decide +kernel) (by decide +kernel) (by decide) (by decide) ?_
  refine z_aload_n X 0 dX0_init_4 rfl rfl ?_
  refine z_bipush (v := 10) X dX0_init_5 (by decide) ?_
  refine z_putI (ci := 3) (j := 0) X dX0_init_7 ((show zc M o = zc M o from rfl).trans ho) rfl (by decide) hlk_9 (Or.inl rfl) (Or.inl rfl) (fun _ => rfl) rfl rfl ?_
  refine z_aload_n X 0 dX0_init_10 rfl rfl ?_
  refine z_bipush (v := 10) X dX0_init_11 (by decide) ?_
  refine z_putI (ci := 3) (j := 1) X dX0_init_13 ((show zc (zwi M o 0 10) o = zc M o from rfl).trans ho) rfl (by decide) hlk_15 (Or.inl rfl) (Or.inl rfl) (fun _ => rfl) rfl rfl ?_
  refine z_aload_n X 0 dX0_init_16 rfl rfl ?_
  refine z_iconst (v := 0) X dX0_init_17 (by decide) ?_
  refine z_putI (ci := 3) (j := 2) X dX0_init_18 ((show zc (zwi (zwi M o 0 10) o 1 10) o = zc M o from rfl).trans ho) rfl (by decide) hlk_18 (Or.inl rfl) (Or.inl rfl) (fun _ => rfl) rfl rfl ?_
  refine z_aload_n X 0 dX0_init_21 rfl rfl ?_
  refine z_iconst (v := (-1)) X dX0_init_22 (by decide) ?_
  refine z_putI (ci := 3) (j := 3) X dX0_init_23 ((show zc (zwi (zwi (zwi M o 0 10) o 1 10) o 2 0) o = zc M o from rfl).trans ho) rfl (by decide) hlk_21 (Or.inl rfl) (Or.inl rfl) (fun _ => rfl) rfl rfl ?_
  refine z_aload_n X 0 dX0_init_26 rfl rfl ?_
  refine z_iconst (v := 0) X dX0_init_27 (by decide) ?_
  refine z_putI (ci := 3) (j := 4) X dX0_init_28 ((show zc (zwi (zwi (zwi (zwi M o 0 10) o 1 10) o 2 0) o 3 (-1)) o = zc M o from rfl).trans ho) rfl (by decide) hlk_24 (Or.inl rfl) (Or.inl rfl) (fun _ => rfl) rfl rfl ?_
  refine z_aload_n X 0 dX0_init_31 rfl rfl ?_
  refine z_sipush (v := 400) X dX0_init_32 (by decide) ?_
  refine z_putI (ci := 3) (j := 5) X dX0_init_35 ((show zc (zwi (zwi (zwi (zwi (zwi M o 0 10) o 1 10) o 2 0) o 3 (-1)) o 4 0) o = zc M o from rfl).trans ho) rfl (by decide) hlk_27 (Or.inl rfl) (Or.inl rfl) (fun _ => rfl) rfl rfl ?_
  refine z_vret X rfl (Nat.le_of_ble_eq_true rfl) (Nat.le_of_ble_eq_true rfl) dX0_init_38 ?_
  exact ⟨rfl, rfl⟩

set_option maxRecDepth 100000 in
set_option maxHeartbeats 4000000 in
theorem c_X5_init (l : Launch) (M : zMem) (o b : Nat) (ho : zc M o = 8 + 1) (hb0 : zc M b = 0) (hb1 : b ≠ zE0) (hb2 : b ≠ zMi) (v a c d e : Int32) : zS l yX5_init wsX5_init 1 20 1 960 [.ref o, .int v, .int a, .int c, .int d, .int e] M (zpv (fun M1 => M1 = zwi (zwi (zwi (zwi (zwi (zwi (zwi (zwi (zwi (zwi (zwi (zwi (zwi (zwi (zwi (zwi (zwr (znew M b 20 960) o 4 (some b)) o 5 20) o 6 50) o 7 97) o 8 0) o 9 0) o 11 0) o 12 0) o 13 0) o 14 0) o 15 0) o 16 (-400)) o 0 v) o 1 a) o 2 c) o 3 d) o 10 e)) zno := by
  refine z_intro (cc := cX5_init) (maxL := 6) (ret := none) (by decide +kernel) rfl (Nat.le_of_ble_eq_true rfl) ?_
  have hla_0 : Cond.arrayClass .int ∈ wsX5_init := by decide +kernel
  have hlk_9 : Cond.fieldLink RX5 9 "ColdStore$Room" "records" "[I" ∈ wsX5_init := by decide +kernel
  have hlk_15 : Cond.fieldLink RX5 15 "ColdStore$Room" "lower" "I" ∈ wsX5_init := by decide +kernel
  have hlk_19 : Cond.fieldLink RX5 19 "ColdStore$Room" "upper" "I" ∈ wsX5_init := by decide +kernel
  have hlk_22 : Cond.fieldLink RX5 22 "ColdStore$Room" "mode" "C" ∈ wsX5_init := by decide +kernel
  have hlk_26 : Cond.fieldLink RX5 26 "ColdStore$Room" "leadTicks" "I" ∈ wsX5_init := by decide +kernel
  have hlk_29 : Cond.fieldLink RX5 29 "ColdStore$Room" "leadDepth" "I" ∈ wsX5_init := by decide +kernel
  have hlk_32 : Cond.fieldLink RX5 32 "ColdStore$Room" "wanting" "Z" ∈ wsX5_init := by decide +kernel
  have hlk_36 : Cond.fieldLink RX5 36 "ColdStore$Room" "waiting" "Z" ∈ wsX5_init := by decide +kernel
  have hlk_39 : Cond.fieldLink RX5 39 "ColdStore$Room" "cooled" "Z" ∈ wsX5_init := by decide +kernel
  have hlk_42 : Cond.fieldLink RX5 42 "ColdStore$Room" "ticks" "I" ∈ wsX5_init := by decide +kernel
  have hlk_45 : Cond.fieldLink RX5 45 "ColdStore$Room" "sum" "I" ∈ wsX5_init := by decide +kernel
  have hlk_48 : Cond.fieldLink RX5 48 "ColdStore$Room" "greatest" "I" ∈ wsX5_init := by decide +kernel
  have hlk_51 : Cond.fieldLink RX5 51 "ColdStore$Room" "number" "I" ∈ wsX5_init := by decide +kernel
  have hlk_54 : Cond.fieldLink RX5 54 "ColdStore$Room" "leak" "I" ∈ wsX5_init := by decide +kernel
  have hlk_57 : Cond.fieldLink RX5 57 "ColdStore$Room" "strength" "I" ∈ wsX5_init := by decide +kernel
  have hlk_60 : Cond.fieldLink RX5 60 "ColdStore$Room" "kilowatts" "I" ∈ wsX5_init := by decide +kernel
  have hlk_63 : Cond.fieldLink RX5 63 "ColdStore$Room" "degrees" "I" ∈ wsX5_init := by decide +kernel
  intro g X
  show zE g 6 0 [(0, .ref o), (1, .int v), (2, .int a), (3, .int c), (4, .int d), (5, .int e)] [] M 0 0
  refine z_aload_n X 0 dX5_init_0 rfl rfl ?_
  refine z_objInit (v := .null) X dX5_init_1 (by decide +kernel) (by decide +kernel) (by decide +kernel) (by decide) (by decide) ?_
  refine z_aload_n X 0 dX5_init_4 rfl rfl ?_
  have ho1 : zc (znew M b 20 960) o = 8 + 1 := (if_neg (fun e9 => by rw [e9] at ho; rw [ho] at hb0; cases hb0)).trans ho
  refine z_sipush (v := 960) X dX5_init_5 (by decide) ?_
  refine z_newa (t := 0) (N := 960) X b dX5_init_8 rfl (by decide) hla_0 (by decide) (by decide) (by decide) hb0 hb1 hb2 ⟨by decide, by decide⟩ ?_
  refine z_putR (ci := 8) (j := 4) X dX5_init_10 ((show zc (znew M b 20 960) o = zc (znew M b 20 960) o from rfl).trans ho1) rfl (by decide) hlk_9 (Or.inl rfl) (Or.inr ⟨rfl, rfl, rfl⟩) (fun _ => rfl) (fun _ => rfl) (fun _ => rfl) ?_
  refine z_aload_n X 0 dX5_init_13 rfl rfl ?_
  refine z_bipush (v := 20) X dX5_init_14 (by decide) ?_
  refine z_putI (ci := 8) (j := 5) X dX5_init_16 ((show zc (zwr (znew M b 20 960) o 4 (some b)) o = zc (znew M b 20 960) o from rfl).trans ho1) rfl (by decide) hlk_15 (Or.inl rfl) (Or.inl rfl) (fun _ => rfl) rfl rfl ?_
  refine z_aload_n X 0 dX5_init_19 rfl rfl ?_
  refine z_bipush (v := 50) X dX5_init_20 (by decide) ?_
  refine z_putI (ci := 8) (j := 6) X dX5_init_22 ((show zc (zwi (zwr (znew M b 20 960) o 4 (some b)) o 5 20) o = zc (znew M b 20 960) o from rfl).trans ho1) rfl (by decide) hlk_19 (Or.inl rfl) (Or.inl rfl) (fun _ => rfl) rfl rfl ?_
  refine z_aload_n X 0 dX5_init_25 rfl rfl ?_
  refine z_bipush (v := 97) X dX5_init_26 (by decide) ?_
  refine z_putI (ci := 8) (j := 7) X dX5_init_28 ((show zc (zwi (zwi (zwr (znew M b 20 960) o 4 (some b)) o 5 20) o 6 50) o = zc (znew M b 20 960) o from rfl).trans ho1) rfl (by decide) hlk_22 (Or.inl rfl) (Or.inl rfl) (fun _ => rfl) (rfl) rfl ?_
  refine z_aload_n X 0 dX5_init_31 rfl rfl ?_
  refine z_iconst (v := 0) X dX5_init_32 (by decide) ?_
  refine z_putI (ci := 8) (j := 8) X dX5_init_33 ((show zc (zwi (zwi (zwi (zwr (znew M b 20 960) o 4 (some b)) o 5 20) o 6 50) o 7 97) o = zc (znew M b 20 960) o from rfl).trans ho1) rfl (by decide) hlk_26 (Or.inl rfl) (Or.inl rfl) (fun _ => rfl) rfl rfl ?_
  refine z_aload_n X 0 dX5_init_36 rfl rfl ?_
  refine z_iconst (v := 0) X dX5_init_37 (by decide) ?_
  refine z_putI (ci := 8) (j := 9) X dX5_init_38 ((show zc (zwi (zwi (zwi (zwi (zwr (znew M b 20 960) o 4 (some b)) o 5 20) o 6 50) o 7 97) o 8 0) o = zc (znew M b 20 960) o from rfl).trans ho1) rfl (by decide) hlk_29 (Or.inl rfl) (Or.inl rfl) (fun _ => rfl) rfl rfl ?_
  refine z_aload_n X 0 dX5_init_41 rfl rfl ?_
  refine z_iconst (v := 0) X dX5_init_42 (by decide) ?_
  refine z_putI (ci := 8) (j := 11) X dX5_init_43 ((show zc (zwi (zwi (zwi (zwi (zwi (zwr (znew M b 20 960) o 4 (some b)) o 5 20) o 6 50) o 7 97) o 8 0) o 9 0) o = zc (znew M b 20 960) o from rfl).trans ho1) rfl (by decide) hlk_32 (Or.inl rfl) (Or.inl rfl) (fun _ => rfl) (rfl) rfl ?_
  refine z_aload_n X 0 dX5_init_46 rfl rfl ?_
  refine z_iconst (v := 0) X dX5_init_47 (by decide) ?_
  refine z_putI (ci := 8) (j := 12) X dX5_init_48 ((show zc (zwi (zwi (zwi (zwi (zwi (zwi (zwr (znew M b 20 960) o 4 (some b)) o 5 20) o 6 50) o 7 97) o 8 0) o 9 0) o 11 0) o = zc (znew M b 20 960) o from rfl).trans ho1) rfl (by decide) hlk_36 (Or.inl rfl) (Or.inl rfl) (fun _ => rfl) (rfl) rfl ?_
  refine z_aload_n X 0 dX5_init_51 rfl rfl ?_
  refine z_iconst (v := 0) X dX5_init_52 (by decide) ?_
  refine z_putI (ci := 8) (j := 13) X dX5_init_53 ((show zc (zwi (zwi (zwi (zwi (zwi (zwi (zwi (zwr (znew M b 20 960) o 4 (some b)) o 5 20) o 6 50) o 7 97) o 8 0) o 9 0) o 11 0) o 12 0) o = zc (znew M b 20 960) o from rfl).trans ho1) rfl (by decide) hlk_39 (Or.inl rfl) (Or.inl rfl) (fun _ => rfl) (rfl) rfl ?_
  refine z_aload_n X 0 dX5_init_56 rfl rfl ?_
  refine z_iconst (v := 0) X dX5_init_57 (by decide) ?_
  refine z_putI (ci := 8) (j := 14) X dX5_init_58 ((show zc (zwi (zwi (zwi (zwi (zwi (zwi (zwi (zwi (zwr (znew M b 20 960) o 4 (some b)) o 5 20) o 6 50) o 7 97) o 8 0) o 9 0) o 11 0) o 12 0) o 13 0) o = zc (znew M b 20 960) o from rfl).trans ho1) rfl (by decide) hlk_42 (Or.inl rfl) (Or.inl rfl) (fun _ => rfl) rfl rfl ?_
  refine z_aload_n X 0 dX5_init_61 rfl rfl ?_
  refine z_iconst (v := 0) X dX5_init_62 (by decide) ?_
  refine z_putI (ci := 8) (j := 15) X dX5_init_63 ((show zc (zwi (zwi (zwi (zwi (zwi (zwi (zwi (zwi (zwi (zwr (znew M b 20 960) o 4 (some b)) o 5 20) o 6 50) o 7 97) o 8 0) o 9 0) o 11 0) o 12 0) o 13 0) o 14 0) o = zc (znew M b 20 960) o from rfl).trans ho1) rfl (by decide) hlk_45 (Or.inl rfl) (Or.inl rfl) (fun _ => rfl) rfl rfl ?_
  refine z_aload_n X 0 dX5_init_66 rfl rfl ?_
  refine z_sipush (v := (-400)) X dX5_init_67 (by decide) ?_
  refine z_putI (ci := 8) (j := 16) X dX5_init_70 ((show zc (zwi (zwi (zwi (zwi (zwi (zwi (zwi (zwi (zwi (zwi (zwr (znew M b 20 960) o 4 (some b)) o 5 20) o 6 50) o 7 97) o 8 0) o 9 0) o 11 0) o 12 0) o 13 0) o 14 0) o 15 0) o = zc (znew M b 20 960) o from rfl).trans ho1) rfl (by decide) hlk_48 (Or.inl rfl) (Or.inl rfl) (fun _ => rfl) rfl rfl ?_
  refine z_aload_n X 0 dX5_init_73 rfl rfl ?_
  refine z_iload_n X 1 dX5_init_74 rfl rfl ?_
  refine z_putI (ci := 8) (j := 0) X dX5_init_75 ((show zc (zwi (zwi (zwi (zwi (zwi (zwi (zwi (zwi (zwi (zwi (zwi (zwr (znew M b 20 960) o 4 (some b)) o 5 20) o 6 50) o 7 97) o 8 0) o 9 0) o 11 0) o 12 0) o 13 0) o 14 0) o 15 0) o 16 (-400)) o = zc (znew M b 20 960) o from rfl).trans ho1) rfl (by decide) hlk_51 (Or.inl rfl) (Or.inr ⟨rfl, rfl, rfl⟩) (fun _ => rfl) rfl rfl ?_
  refine z_aload_n X 0 dX5_init_78 rfl rfl ?_
  refine z_iload_n X 2 dX5_init_79 rfl rfl ?_
  refine z_putI (ci := 8) (j := 1) X dX5_init_80 ((show zc (zwi (zwi (zwi (zwi (zwi (zwi (zwi (zwi (zwi (zwi (zwi (zwi (zwr (znew M b 20 960) o 4 (some b)) o 5 20) o 6 50) o 7 97) o 8 0) o 9 0) o 11 0) o 12 0) o 13 0) o 14 0) o 15 0) o 16 (-400)) o 0 v) o = zc (znew M b 20 960) o from rfl).trans ho1) rfl (by decide) hlk_54 (Or.inl rfl) (Or.inr ⟨rfl, rfl, rfl⟩) (fun _ => rfl) rfl rfl ?_
  refine z_aload_n X 0 dX5_init_83 rfl rfl ?_
  refine z_iload_n X 3 dX5_init_84 rfl rfl ?_
  refine z_putI (ci := 8) (j := 2) X dX5_init_85 ((show zc (zwi (zwi (zwi (zwi (zwi (zwi (zwi (zwi (zwi (zwi (zwi (zwi (zwi (zwr (znew M b 20 960) o 4 (some b)) o 5 20) o 6 50) o 7 97) o 8 0) o 9 0) o 11 0) o 12 0) o 13 0) o 14 0) o 15 0) o 16 (-400)) o 0 v) o 1 a) o = zc (znew M b 20 960) o from rfl).trans ho1) rfl (by decide) hlk_57 (Or.inl rfl) (Or.inr ⟨rfl, rfl, rfl⟩) (fun _ => rfl) rfl rfl ?_
  refine z_aload_n X 0 dX5_init_88 rfl rfl ?_
  refine z_iload X 4 dX5_init_89 rfl ?_
  refine z_putI (ci := 8) (j := 3) X dX5_init_91 ((show zc (zwi (zwi (zwi (zwi (zwi (zwi (zwi (zwi (zwi (zwi (zwi (zwi (zwi (zwi (zwr (znew M b 20 960) o 4 (some b)) o 5 20) o 6 50) o 7 97) o 8 0) o 9 0) o 11 0) o 12 0) o 13 0) o 14 0) o 15 0) o 16 (-400)) o 0 v) o 1 a) o 2 c) o = zc (znew M b 20 960) o from rfl).trans ho1) rfl (by decide) hlk_60 (Or.inl rfl) (Or.inr ⟨rfl, rfl, rfl⟩) (fun _ => rfl) rfl rfl ?_
  refine z_aload_n X 0 dX5_init_94 rfl rfl ?_
  refine z_iload X 5 dX5_init_95 rfl ?_
  refine z_putI (ci := 8) (j := 10) X dX5_init_97 ((show zc (zwi (zwi (zwi (zwi (zwi (zwi (zwi (zwi (zwi (zwi (zwi (zwi (zwi (zwi (zwi (zwr (znew M b 20 960) o 4 (some b)) o 5 20) o 6 50) o 7 97) o 8 0) o 9 0) o 11 0) o 12 0) o 13 0) o 14 0) o 15 0) o 16 (-400)) o 0 v) o 1 a) o 2 c) o 3 d) o = zc (znew M b 20 960) o from rfl).trans ho1) rfl (by decide) hlk_63 (Or.inl rfl) (Or.inl rfl) (fun _ => rfl) rfl rfl ?_
  refine z_vret X rfl (Nat.le_of_ble_eq_true rfl) (Nat.le_of_ble_eq_true rfl) dX5_init_100 ?_
  exact ⟨rfl, rfl⟩

set_option maxRecDepth 100000 in
set_option maxHeartbeats 4000000 in
theorem c_X2_init (l : Launch) (M : zMem) (o b b2 : Nat) (ho : zc M o = 5 + 1) (hb0 : zc M b = 0) (hb1 : b ≠ zE0) (hb2 : b ≠ zMi) (hb20 : zc M b2 = 0) (hb21 : b2 ≠ zE0) (hb22 : b2 ≠ zMi) (hbb : b ≠ b2) : zS l yX2_init wsX2_init 1 20 2 1920 [.ref o] M (zpv (fun M1 => M1 = zwl (zwi (zwi (zwr (znew (zwr (znew M b 20 960) o 0 (some b)) b2 20 960) o 1 (some b2)) o 2 0) o 3 0) o 4 0)) zno := by
  refine z_intro (cc := cX2_init) (maxL := 1) (ret := none) (by decide +kernel) rfl (Nat.le_of_ble_eq_true rfl) ?_
  have hla_0 : Cond.arrayClass .int ∈ wsX2_init := by decide +kernel
  have hlk_9 : Cond.fieldLink RX2 9 "ColdStore$Meter" "powers" "[I" ∈ wsX2_init := by decide +kernel
  have hlk_15 : Cond.fieldLink RX2 15 "ColdStore$Meter" "prices" "[I" ∈ wsX2_init := by decide +kernel
  have hlk_18 : Cond.fieldLink RX2 18 "ColdStore$Meter" "latest" "I" ∈ wsX2_init := by decide +kernel
  have hlk_22 : Cond.fieldLink RX2 22 "ColdStore$Meter" "greatest" "I" ∈ wsX2_init := by decide +kernel
  have hlk_25 : Cond.fieldLink RX2 25 "ColdStore$Meter" "costs" "J" ∈ wsX2_init := by decide +kernel
  intro g X
  show zE g 1 0 [(0, .ref o)] [] M 0 0
  refine z_aload_n X 0 dX2_init_0 rfl rfl ?_
  refine z_objInit (v := .null) X dX2_init_1 (by decide +kernel) (by decide +kernel) (by decide +kernel) (by decide) (by decide) ?_
  have ho1 : zc (znew M b 20 960) o = 5 + 1 := (if_neg (fun e9 => by rw [e9] at ho; rw [ho] at hb0; cases hb0)).trans ho
  have hb29 : zc (zwr (znew M b 20 960) o 0 (some b)) b2 = 0 := (if_neg (fun e9 => hbb e9.symm)).trans hb20
  have ho2 : zc (znew (zwr (znew M b 20 960) o 0 (some b)) b2 20 960) o = 5 + 1 := (if_neg (fun e9 => by rw [e9] at ho; rw [ho] at hb20; cases hb20)).trans ho1
  refine z_aload_n X 0 dX2_init_4 rfl rfl ?_
  refine z_sipush (v := 960) X dX2_init_5 (by decide) ?_
  refine z_newa (t := 0) (N := 960) X b dX2_init_8 rfl (by decide) hla_0 (by decide) (by decide) (by decide) hb0 hb1 hb2 ⟨by decide, by decide⟩ ?_
  refine z_putR (ci := 5) (j := 0) X dX2_init_10 ((show zc (znew M b 20 960) o = zc (znew M b 20 960) o from rfl).trans ho1) rfl (by decide) hlk_9 (Or.inl rfl) (Or.inr ⟨rfl, rfl, rfl⟩) (fun _ => rfl) (fun _ => rfl) (fun _ => rfl) ?_
  refine z_aload_n X 0 dX2_init_13 rfl rfl ?_
  refine z_sipush (v := 960) X dX2_init_14 (by decide) ?_
  refine z_newa (t := 0) (N := 960) X b2 dX2_init_17 rfl (by decide) hla_0 (by decide) (by decide) (by decide) hb29 hb21 hb22 ⟨by decide, by decide⟩ ?_
  refine z_putR (ci := 5) (j := 1) X dX2_init_19 ((show zc (znew (zwr (znew M b 20 960) o 0 (some b)) b2 20 960) o = zc (znew (zwr (znew M b 20 960) o 0 (some b)) b2 20 960) o from rfl).trans ho2) rfl (by decide) hlk_15 (Or.inl rfl) (Or.inr ⟨rfl, rfl, rfl⟩) (fun _ => rfl) (fun _ => rfl) (fun _ => rfl) ?_
  refine z_aload_n X 0 dX2_init_22 rfl rfl ?_
  refine z_iconst (v := 0) X dX2_init_23 (by decide) ?_
  refine z_putI (ci := 5) (j := 2) X dX2_init_24 ((show zc (zwr (znew (zwr (znew M b 20 960) o 0 (some b)) b2 20 960) o 1 (some b2)) o = zc (znew (zwr (znew M b 20 960) o 0 (some b)) b2 20 960) o from rfl).trans ho2) rfl (by decide) hlk_18 (Or.inl rfl) (Or.inl rfl) (fun _ => rfl) rfl rfl ?_
  refine z_aload_n X 0 dX2_init_27 rfl rfl ?_
  refine z_iconst (v := 0) X dX2_init_28 (by decide) ?_
  refine z_putI (ci := 5) (j := 3) X dX2_init_29 ((show zc (zwi (zwr (znew (zwr (znew M b 20 960) o 0 (some b)) b2 20 960) o 1 (some b2)) o 2 0) o = zc (znew (zwr (znew M b 20 960) o 0 (some b)) b2 20 960) o from rfl).trans ho2) rfl (by decide) hlk_22 (Or.inl rfl) (Or.inl rfl) (fun _ => rfl) rfl rfl ?_
  refine z_aload_n X 0 dX2_init_32 rfl rfl ?_
  refine z_lconst (v := 0) X dX2_init_33 (by decide) ?_
  refine z_putL (ci := 5) (j := 4) X dX2_init_34 ((show zc (zwi (zwi (zwr (znew (zwr (znew M b 20 960) o 0 (some b)) b2 20 960) o 1 (some b2)) o 2 0) o 3 0) o = zc (znew (zwr (znew M b 20 960) o 0 (some b)) b2 20 960) o from rfl).trans ho2) rfl (by decide) hlk_25 (Or.inl rfl) (Or.inl rfl) (fun _ => rfl) rfl rfl ?_
  refine z_vret X rfl (Nat.le_of_ble_eq_true rfl) (Nat.le_of_ble_eq_true rfl) dX2_init_37 ?_
  exact ⟨rfl, rfl⟩

set_option maxRecDepth 100000 in
set_option maxHeartbeats 4000000 in
theorem c_AO0 (l : Launch) (M : zMem) (o : Nat) : zS l yJxa1e45_init_da8c8 wsJxa1e45_init_da8c8 1 20 0 0 [.ref o] M (zpv (fun M1 => M1 = M)) zno := by
  refine z_intro (cc := cJxa1e45_init_da8c8) (maxL := 1) (ret := none) (by decide +kernel) rfl (Nat.le_of_ble_eq_true rfl) ?_
  intro g X
  show zE g 1 0 [(0, .ref o)] [] M 0 0
  refine z_aload_n X 0 dJxa1e45_init_da8c8_0 rfl rfl ?_
  refine z_objInit (v := .null) X dJxa1e45_init_da8c8_1 (by decide +kernel) (by decide +kernel) (by decide +kernel) (by decide) (by decide) ?_
  refine z_vret X rfl (Nat.le_of_ble_eq_true rfl) (Nat.le_of_ble_eq_true rfl) dJxa1e45_init_da8c8_4 ?_
  exact ⟨rfl, rfl⟩

set_option maxRecDepth 100000 in
set_option maxHeartbeats 4000000 in
theorem c_AL0 (l : Launch) (M : zMem) (o : Nat) (ho : zc M o = 2 + 1) : zS l yJxc12de_init_da8c8 wsJxc12de_init_da8c8 2 40 0 0 [.ref o] M (zpv (fun M1 => M1 = zwi M o 0 0)) zno := by
  refine z_intro (cc := cJxc12de_init_da8c8) (maxL := 1) (ret := none) (by decide +kernel) rfl (Nat.le_of_ble_eq_true rfl) ?_
  have hlk_7 : Cond.fieldLink RJxc12de 7 "java/util/AbstractList" "modCount" "I" ∈ wsJxc12de_init_da8c8 := by decide +kernel
  intro g X
  show zE g 1 0 [(0, .ref o)] [] M 0 0
  refine z_aload_n X 0 dJxc12de_init_da8c8_0 rfl rfl ?_
  refine z_callIv (As := []) (rest := []) (n1 := 0) X dJxc12de_init_da8c8_1 (c_AO0 l M o) gJxc12de_init_da8c8_Jxa1e45_init_da8c8 rfl (by decide +kernel) (by decide +kernel) (by decide +kernel) rfl rfl (by decide +kernel) ⟨by decide, by decide⟩ rfl (Nat.le_of_ble_eq_true rfl) ⟨by decide, by decide⟩ (fun _ h => h.elim) ?_
  rintro _ e9
  rw [e9]
  refine z_aload_n X 0 dJxc12de_init_da8c8_4 rfl rfl ?_
  refine z_iconst (v := 0) X dJxc12de_init_da8c8_5 (by decide) ?_
  refine z_putI (ci := 2) (j := 0) X dJxc12de_init_da8c8_6 ((show zc M o = zc M o from rfl).trans ho) rfl (by decide) hlk_7 (Or.inl rfl) (Or.inl rfl) (fun _ => rfl) rfl rfl ?_
  refine z_vret X rfl (Nat.le_of_ble_eq_true rfl) (Nat.le_of_ble_eq_true rfl) dJxc12de_init_da8c8_9 ?_
  exact ⟨rfl, rfl⟩

set_option maxRecDepth 100000 in
set_option maxHeartbeats 4000000 in
theorem c_AL (l : Launch) (M : zMem) (o : Nat) (ho : zc M o = 2 + 1) (hE0 : zc M zE0 = 26) : zS l yJx4a65c_init_da8c8 wsJx4a65c_init_da8c8 3 60 0 0 [.ref o] M (zpv (fun M1 => M1 = zwr (zwi M o 0 0) o 1 (some 31))) zno := by
  refine z_intro (cc := cJx4a65c_init_da8c8) (maxL := 1) (ret := none) (by decide +kernel) rfl (Nat.le_of_ble_eq_true rfl) ?_
  have hlk_9 : Cond.fieldLink RJx4a65c 9 "java/util/ArrayList" "elementData" "[Ljava/lang/Object;" ∈ wsJx4a65c_init_da8c8 := by decide +kernel
  intro g X
  show zE g 1 0 [(0, .ref o)] [] M 0 0
  refine z_aload_n X 0 dJx4a65c_init_da8c8_0 rfl rfl ?_
  refine z_callIv (As := []) (rest := []) (n1 := 0) X dJx4a65c_init_da8c8_1 (c_AL0 l M o ho) gJx4a65c_init_da8c8_Jxc12de_init_da8c8 rfl (by decide +kernel) (by decide +kernel) (by decide +kernel) rfl rfl (by decide +kernel) ⟨by decide, by decide⟩ rfl (Nat.le_of_ble_eq_true rfl) ⟨by decide, by decide⟩ (fun _ h => h.elim) ?_
  rintro _ e9
  rw [e9]
  refine z_aload_n X 0 dJx4a65c_init_da8c8_4 rfl rfl ?_
  refine z_getE X hE0 dJx4a65c_init_da8c8_5 (by decide +kernel) ?_
  refine z_putR (ci := 2) (j := 1) X dJx4a65c_init_da8c8_8 ((show zc (zwi M o 0 0) o = zc M o from rfl).trans ho) rfl (by decide) hlk_9 (Or.inl rfl) (Or.inl rfl) (fun _ => rfl) (fun _ => rfl) (fun _ => rfl) ?_
  refine z_vret X rfl (Nat.le_of_ble_eq_true rfl) (Nat.le_of_ble_eq_true rfl) dJx4a65c_init_da8c8_11 ?_
  exact ⟨rfl, rfl⟩
