/-! PART 73: the constructor of ColdStore, the start memory -/
theorem zmk_l0 {A R I} {o k : Nat} : zwl (zmk A R I) o k 0 = zmk A R I := by
  unfold zwl zmk
  refine Prod.ext rfl (Prod.ext rfl (Prod.ext rfl (Prod.ext rfl (Prod.ext (funext fun p => funext fun q => ?_) rfl))))
  show (if p = o ∧ q = k then (0 : Int64) else 0) = 0
  exact ite_self _
theorem zlr_big {α : Type} {R : List (Nat × Nat × α)} {b o k : Nat} (h : ∀ q ∈ R, q.2.1 < b) (hk : b ≤ k) : zlr R o k = none := by
  unfold zlr
  rw [List.find?_eq_none.mpr (fun q hq e => ?_)]
  · rfl
  · have := (Bool.and_eq_true _ _ ▸ e : (q.1 == o) = true ∧ (q.2.1 == k) = true).2
    have h2 := h q hq
    rw [eq_of_beq this] at h2
    exact absurd h2 (by omega)
set_option maxRecDepth 100000 in
set_option maxHeartbeats 4000000 in
theorem c_X7_init (l : Launch)  : zS l yX7_init wsX7_init 4 80 10 1960 [.ref 1] (zmk [(1, 11, 0), (31, 26, 0), (63, 19, 0)] [] []) (zpv (fun M1 => M1 = zmk [(7, 20, 960), (6, 20, 960), (5, 6, 0), (4, 4, 0), (98, 3, 0), (66, 3, 0), (34, 3, 0), (2, 3, 0), (1, 11, 0), (31, 26, 0), (63, 19, 0)] [(1, 5, 5), (5, 1, 7), (5, 0, 6), (1, 4, 4), (1, 3, 98), (98, 1, 31), (1, 2, 66), (66, 1, 31), (1, 1, 34), (34, 1, 31), (1, 0, 2), (2, 1, 31)] [(1, 7, 250), (1, 6, 0), (5, 3, 0), (5, 2, 0), (4, 5, 400), (4, 4, 0), (4, 3, (-1)), (4, 2, 0), (4, 1, 10), (4, 0, 10), (98, 0, 0), (66, 0, 0), (34, 0, 0), (2, 0, 0)])) zno := by
  refine z_intro (cc := cX7_init) (maxL := 1) (ret := none) (by decide +kernel) rfl (Nat.le_of_ble_eq_true rfl) ?_
  have hlk_10 : Cond.fieldLink RX7 10 "ColdStore" "rooms" "Ljava/util/ArrayList;" ∈ wsX7_init := by decide +kernel
  have hlk_16 : Cond.fieldLink RX7 16 "ColdStore" "kinds" "Ljava/util/ArrayList;" ∈ wsX7_init := by decide +kernel
  have hlk_19 : Cond.fieldLink RX7 19 "ColdStore" "pallets" "Ljava/util/ArrayList;" ∈ wsX7_init := by decide +kernel
  have hlk_22 : Cond.fieldLink RX7 22 "ColdStore" "orders" "Ljava/util/ArrayList;" ∈ wsX7_init := by decide +kernel
  have hlk_28 : Cond.fieldLink RX7 28 "ColdStore" "contract" "LColdStore$Contract;" ∈ wsX7_init := by decide +kernel
  have hlk_35 : Cond.fieldLink RX7 35 "ColdStore" "meter" "LColdStore$Meter;" ∈ wsX7_init := by decide +kernel
  have hlk_39 : Cond.fieldLink RX7 39 "ColdStore" "time" "I" ∈ wsX7_init := by decide +kernel
  have hlk_43 : Cond.fieldLink RX7 43 "ColdStore" "outside" "I" ∈ wsX7_init := by decide +kernel
  intro g X
  show zE g 1 0 [(0, .ref 1)] [] (zmk [(1, 11, 0), (31, 26, 0), (63, 19, 0)] [] []) 0 0
  refine z_aload_n X 0 dX7_init_0 rfl rfl ?_
  refine z_objInit (v := .null) X dX7_init_1 (by decide +kernel) (by decide +kernel) (by decide +kernel) (by decide) (by decide) ?_
  refine z_aload_n X 0 dX7_init_4 rfl rfl ?_
  refine z_new (ci := 2) X 2 dX7_init_5 rfl (by decide +kernel) (by decide +kernel) (by decide +kernel) rfl (by decide) (by decide) ⟨by decide, by decide⟩ ?_
  refine z_mem (M' := zmk [(2, 3, 0), (1, 11, 0), (31, 26, 0), (63, 19, 0)] [] []) (zmk_new (by decide) (by decide)) ?_
  refine z_dup X dX7_init_8 rfl ?_
  refine z_callIv (As := []) (rest := [.ref 2, .ref 1]) (n1 := 0) X dX7_init_9 (c_AL l (zmk [(2, 3, 0), (1, 11, 0), (31, 26, 0), (63, 19, 0)] [] []) 2 rfl rfl) gX7_init_Jx4a65c_init_da8c8 rfl (by decide +kernel) (by decide +kernel) (by decide +kernel) rfl rfl (by decide +kernel) ⟨by decide, by decide⟩ rfl (Nat.le_of_ble_eq_true rfl) ⟨by decide, by decide⟩ (fun _ h => h.elim) ?_
  rintro _ rfl
  refine z_mem (M' := zmk [(2, 3, 0), (1, 11, 0), (31, 26, 0), (63, 19, 0)] [(2, 1, 31)] [(2, 0, 0)]) (by rw [zmk_i, zmk_r]) ?_
  refine z_putR (ci := 10) (j := 0) X dX7_init_12 rfl rfl (by decide) hlk_10 (Or.inl rfl) (Or.inr ⟨rfl, rfl, rfl⟩) (fun _ => rfl) (fun _ => rfl) (fun _ => rfl) ?_
  refine z_mem (M' := zmk [(2, 3, 0), (1, 11, 0), (31, 26, 0), (63, 19, 0)] [(1, 0, 2), (2, 1, 31)] [(2, 0, 0)]) zmk_r ?_
  refine z_aload_n X 0 dX7_init_15 rfl rfl ?_
  refine z_new (ci := 2) X 34 dX7_init_16 rfl (by decide +kernel) (by decide +kernel) (by decide +kernel) rfl (by decide) (by decide) ⟨by decide, by decide⟩ ?_
  refine z_mem (M' := zmk [(34, 3, 0), (2, 3, 0), (1, 11, 0), (31, 26, 0), (63, 19, 0)] [(1, 0, 2), (2, 1, 31)] [(2, 0, 0)]) (zmk_new (by decide) (by decide)) ?_
  refine z_dup X dX7_init_19 rfl ?_
  refine z_callIv (As := []) (rest := [.ref 34, .ref 1]) (n1 := 0) X dX7_init_20 (c_AL l (zmk [(34, 3, 0), (2, 3, 0), (1, 11, 0), (31, 26, 0), (63, 19, 0)] [(1, 0, 2), (2, 1, 31)] [(2, 0, 0)]) 34 rfl rfl) gX7_init_Jx4a65c_init_da8c8 rfl (by decide +kernel) (by decide +kernel) (by decide +kernel) rfl rfl (by decide +kernel) ⟨by decide, by decide⟩ rfl (Nat.le_of_ble_eq_true rfl) ⟨by decide, by decide⟩ (fun _ h => h.elim) ?_
  rintro _ rfl
  refine z_mem (M' := zmk [(34, 3, 0), (2, 3, 0), (1, 11, 0), (31, 26, 0), (63, 19, 0)] [(34, 1, 31), (1, 0, 2), (2, 1, 31)] [(34, 0, 0), (2, 0, 0)]) (by rw [zmk_i, zmk_r]) ?_
  refine z_putR (ci := 10) (j := 1) X dX7_init_23 rfl rfl (by decide) hlk_16 (Or.inl rfl) (Or.inr ⟨rfl, rfl, rfl⟩) (fun _ => rfl) (fun _ => rfl) (fun _ => rfl) ?_
  refine z_mem (M' := zmk [(34, 3, 0), (2, 3, 0), (1, 11, 0), (31, 26, 0), (63, 19, 0)] [(1, 1, 34), (34, 1, 31), (1, 0, 2), (2, 1, 31)] [(34, 0, 0), (2, 0, 0)]) zmk_r ?_
  refine z_aload_n X 0 dX7_init_26 rfl rfl ?_
  refine z_new (ci := 2) X 66 dX7_init_27 rfl (by decide +kernel) (by decide +kernel) (by decide +kernel) rfl (by decide) (by decide) ⟨by decide, by decide⟩ ?_
  refine z_mem (M' := zmk [(66, 3, 0), (34, 3, 0), (2, 3, 0), (1, 11, 0), (31, 26, 0), (63, 19, 0)] [(1, 1, 34), (34, 1, 31), (1, 0, 2), (2, 1, 31)] [(34, 0, 0), (2, 0, 0)]) (zmk_new (by decide) (by decide)) ?_
  refine z_dup X dX7_init_30 rfl ?_
  refine z_callIv (As := []) (rest := [.ref 66, .ref 1]) (n1 := 0) X dX7_init_31 (c_AL l (zmk [(66, 3, 0), (34, 3, 0), (2, 3, 0), (1, 11, 0), (31, 26, 0), (63, 19, 0)] [(1, 1, 34), (34, 1, 31), (1, 0, 2), (2, 1, 31)] [(34, 0, 0), (2, 0, 0)]) 66 rfl rfl) gX7_init_Jx4a65c_init_da8c8 rfl (by decide +kernel) (by decide +kernel) (by decide +kernel) rfl rfl (by decide +kernel) ⟨by decide, by decide⟩ rfl (Nat.le_of_ble_eq_true rfl) ⟨by decide, by decide⟩ (fun _ h => h.elim) ?_
  rintro _ rfl
  refine z_mem (M' := zmk [(66, 3, 0), (34, 3, 0), (2, 3, 0), (1, 11, 0), (31, 26, 0), (63, 19, 0)] [(66, 1, 31), (1, 1, 34), (34, 1, 31), (1, 0, 2), (2, 1, 31)] [(66, 0, 0), (34, 0, 0), (2, 0, 0)]) (by rw [zmk_i, zmk_r]) ?_
  refine z_putR (ci := 10) (j := 2) X dX7_init_34 rfl rfl (by decide) hlk_19 (Or.inl rfl) (Or.inr ⟨rfl, rfl, rfl⟩) (fun _ => rfl) (fun _ => rfl) (fun _ => rfl) ?_
  refine z_mem (M' := zmk [(66, 3, 0), (34, 3, 0), (2, 3, 0), (1, 11, 0), (31, 26, 0), (63, 19, 0)] [(1, 2, 66), (66, 1, 31), (1, 1, 34), (34, 1, 31), (1, 0, 2), (2, 1, 31)] [(66, 0, 0), (34, 0, 0), (2, 0, 0)]) zmk_r ?_
  refine z_aload_n X 0 dX7_init_37 rfl rfl ?_
  refine z_new (ci := 2) X 98 dX7_init_38 rfl (by decide +kernel) (by decide +kernel) (by decide +kernel) rfl (by decide) (by decide) ⟨by decide, by decide⟩ ?_
  refine z_mem (M' := zmk [(98, 3, 0), (66, 3, 0), (34, 3, 0), (2, 3, 0), (1, 11, 0), (31, 26, 0), (63, 19, 0)] [(1, 2, 66), (66, 1, 31), (1, 1, 34), (34, 1, 31), (1, 0, 2), (2, 1, 31)] [(66, 0, 0), (34, 0, 0), (2, 0, 0)]) (zmk_new (by decide) (by decide)) ?_
  refine z_dup X dX7_init_41 rfl ?_
  refine z_callIv (As := []) (rest := [.ref 98, .ref 1]) (n1 := 0) X dX7_init_42 (c_AL l (zmk [(98, 3, 0), (66, 3, 0), (34, 3, 0), (2, 3, 0), (1, 11, 0), (31, 26, 0), (63, 19, 0)] [(1, 2, 66), (66, 1, 31), (1, 1, 34), (34, 1, 31), (1, 0, 2), (2, 1, 31)] [(66, 0, 0), (34, 0, 0), (2, 0, 0)]) 98 rfl rfl) gX7_init_Jx4a65c_init_da8c8 rfl (by decide +kernel) (by decide +kernel) (by decide +kernel) rfl rfl (by decide +kernel) ⟨by decide, by decide⟩ rfl (Nat.le_of_ble_eq_true rfl) ⟨by decide, by decide⟩ (fun _ h => h.elim) ?_
  rintro _ rfl
  refine z_mem (M' := zmk [(98, 3, 0), (66, 3, 0), (34, 3, 0), (2, 3, 0), (1, 11, 0), (31, 26, 0), (63, 19, 0)] [(98, 1, 31), (1, 2, 66), (66, 1, 31), (1, 1, 34), (34, 1, 31), (1, 0, 2), (2, 1, 31)] [(98, 0, 0), (66, 0, 0), (34, 0, 0), (2, 0, 0)]) (by rw [zmk_i, zmk_r]) ?_
  refine z_putR (ci := 10) (j := 3) X dX7_init_45 rfl rfl (by decide) hlk_22 (Or.inl rfl) (Or.inr ⟨rfl, rfl, rfl⟩) (fun _ => rfl) (fun _ => rfl) (fun _ => rfl) ?_
  refine z_mem (M' := zmk [(98, 3, 0), (66, 3, 0), (34, 3, 0), (2, 3, 0), (1, 11, 0), (31, 26, 0), (63, 19, 0)] [(1, 3, 98), (98, 1, 31), (1, 2, 66), (66, 1, 31), (1, 1, 34), (34, 1, 31), (1, 0, 2), (2, 1, 31)] [(98, 0, 0), (66, 0, 0), (34, 0, 0), (2, 0, 0)]) zmk_r ?_
  refine z_aload_n X 0 dX7_init_48 rfl rfl ?_
  refine z_new (ci := 3) X 4 dX7_init_49 rfl (by decide +kernel) (by decide +kernel) (by decide +kernel) rfl (by decide) (by decide) ⟨by decide, by decide⟩ ?_
  refine z_mem (M' := zmk [(4, 4, 0), (98, 3, 0), (66, 3, 0), (34, 3, 0), (2, 3, 0), (1, 11, 0), (31, 26, 0), (63, 19, 0)] [(1, 3, 98), (98, 1, 31), (1, 2, 66), (66, 1, 31), (1, 1, 34), (34, 1, 31), (1, 0, 2), (2, 1, 31)] [(98, 0, 0), (66, 0, 0), (34, 0, 0), (2, 0, 0)]) (zmk_new (by decide) (by decide)) ?_
  refine z_dup X dX7_init_52 rfl ?_
  refine z_callIvN (host := "ColdStore") (As := []) (rest := [.ref 4, .ref 1]) (n1 := 0) X dX7_init_53 (c_X0_init l (zmk [(4, 4, 0), (98, 3, 0), (66, 3, 0), (34, 3, 0), (2, 3, 0), (1, 11, 0), (31, 26, 0), (63, 19, 0)] [(1, 3, 98), (98, 1, 31), (1, 2, 66), (66, 1, 31), (1, 1, 34), (34, 1, 31), (1, 0, 2), (2, 1, 31)] [(98, 0, 0), (66, 0, 0), (34, 0, 0), (2, 0, 0)]) 4 rfl) gX7_init_X0_init_n27 rfl (by decide +kernel) (fun U h => h.2.2.1.1) (by decide +kernel) rfl rfl (by decide +kernel) ⟨by decide, by decide⟩ rfl (Nat.le_of_ble_eq_true rfl) ⟨by decide, by decide⟩ (fun _ h => h.elim) ?_
  rintro _ rfl
  refine z_mem (M' := zmk [(4, 4, 0), (98, 3, 0), (66, 3, 0), (34, 3, 0), (2, 3, 0), (1, 11, 0), (31, 26, 0), (63, 19, 0)] [(1, 3, 98), (98, 1, 31), (1, 2, 66), (66, 1, 31), (1, 1, 34), (34, 1, 31), (1, 0, 2), (2, 1, 31)] [(4, 5, 400), (4, 4, 0), (4, 3, (-1)), (4, 2, 0), (4, 1, 10), (4, 0, 10), (98, 0, 0), (66, 0, 0), (34, 0, 0), (2, 0, 0)]) (by rw [zmk_i, zmk_i, zmk_i, zmk_i, zmk_i, zmk_i]) ?_
  refine z_putR (ci := 10) (j := 4) X dX7_init_56 rfl rfl (by decide) hlk_28 (Or.inl rfl) (Or.inr ⟨rfl, rfl, rfl⟩) (fun _ => rfl) (fun _ => rfl) (fun _ => rfl) ?_
  refine z_mem (M' := zmk [(4, 4, 0), (98, 3, 0), (66, 3, 0), (34, 3, 0), (2, 3, 0), (1, 11, 0), (31, 26, 0), (63, 19, 0)] [(1, 4, 4), (1, 3, 98), (98, 1, 31), (1, 2, 66), (66, 1, 31), (1, 1, 34), (34, 1, 31), (1, 0, 2), (2, 1, 31)] [(4, 5, 400), (4, 4, 0), (4, 3, (-1)), (4, 2, 0), (4, 1, 10), (4, 0, 10), (98, 0, 0), (66, 0, 0), (34, 0, 0), (2, 0, 0)]) zmk_r ?_
  refine z_aload_n X 0 dX7_init_59 rfl rfl ?_
  refine z_new (ci := 5) X 5 dX7_init_60 rfl (by decide +kernel) (by decide +kernel) (by decide +kernel) rfl (by decide) (by decide) ⟨by decide, by decide⟩ ?_
  refine z_mem (M' := zmk [(5, 6, 0), (4, 4, 0), (98, 3, 0), (66, 3, 0), (34, 3, 0), (2, 3, 0), (1, 11, 0), (31, 26, 0), (63, 19, 0)] [(1, 4, 4), (1, 3, 98), (98, 1, 31), (1, 2, 66), (66, 1, 31), (1, 1, 34), (34, 1, 31), (1, 0, 2), (2, 1, 31)] [(4, 5, 400), (4, 4, 0), (4, 3, (-1)), (4, 2, 0), (4, 1, 10), (4, 0, 10), (98, 0, 0), (66, 0, 0), (34, 0, 0), (2, 0, 0)]) (zmk_new (by decide) (by decide)) ?_
  refine z_dup X dX7_init_63 rfl ?_
  refine z_callIvN (host := "ColdStore") (As := []) (rest := [.ref 5, .ref 1]) (n1 := 0) X dX7_init_64 (c_X2_init l (zmk [(5, 6, 0), (4, 4, 0), (98, 3, 0), (66, 3, 0), (34, 3, 0), (2, 3, 0), (1, 11, 0), (31, 26, 0), (63, 19, 0)] [(1, 4, 4), (1, 3, 98), (98, 1, 31), (1, 2, 66), (66, 1, 31), (1, 1, 34), (34, 1, 31), (1, 0, 2), (2, 1, 31)] [(4, 5, 400), (4, 4, 0), (4, 3, (-1)), (4, 2, 0), (4, 1, 10), (4, 0, 10), (98, 0, 0), (66, 0, 0), (34, 0, 0), (2, 0, 0)]) 5 6 7 rfl rfl (by decide) (by decide) rfl (by decide) (by decide) (by decide)) gX7_init_X2_init_n34 rfl (by decide +kernel) (fun U h => h.2.2.1.2) (by decide +kernel) rfl rfl (by decide +kernel) ⟨by decide, by decide⟩ rfl (Nat.le_of_ble_eq_true rfl) ⟨by decide, by decide⟩ (fun _ h => h.elim) ?_
  rintro _ rfl
  refine z_mem (M' := zmk [(7, 20, 960), (6, 20, 960), (5, 6, 0), (4, 4, 0), (98, 3, 0), (66, 3, 0), (34, 3, 0), (2, 3, 0), (1, 11, 0), (31, 26, 0), (63, 19, 0)] [(5, 1, 7), (5, 0, 6), (1, 4, 4), (1, 3, 98), (98, 1, 31), (1, 2, 66), (66, 1, 31), (1, 1, 34), (34, 1, 31), (1, 0, 2), (2, 1, 31)] [(5, 3, 0), (5, 2, 0), (4, 5, 400), (4, 4, 0), (4, 3, (-1)), (4, 2, 0), (4, 1, 10), (4, 0, 10), (98, 0, 0), (66, 0, 0), (34, 0, 0), (2, 0, 0)]) (by rw [zmk_new (by decide) (by decide), zmk_r, zmk_new (by decide) (by decide), zmk_r, zmk_i, zmk_i, zmk_l0]) ?_
  refine z_putR (ci := 10) (j := 5) X dX7_init_67 rfl rfl (by decide) hlk_35 (Or.inl rfl) (Or.inr ⟨rfl, rfl, rfl⟩) (fun _ => rfl) (fun _ => rfl) (fun _ => rfl) ?_
  refine z_mem (M' := zmk [(7, 20, 960), (6, 20, 960), (5, 6, 0), (4, 4, 0), (98, 3, 0), (66, 3, 0), (34, 3, 0), (2, 3, 0), (1, 11, 0), (31, 26, 0), (63, 19, 0)] [(1, 5, 5), (5, 1, 7), (5, 0, 6), (1, 4, 4), (1, 3, 98), (98, 1, 31), (1, 2, 66), (66, 1, 31), (1, 1, 34), (34, 1, 31), (1, 0, 2), (2, 1, 31)] [(5, 3, 0), (5, 2, 0), (4, 5, 400), (4, 4, 0), (4, 3, (-1)), (4, 2, 0), (4, 1, 10), (4, 0, 10), (98, 0, 0), (66, 0, 0), (34, 0, 0), (2, 0, 0)]) zmk_r ?_
  refine z_aload_n X 0 dX7_init_70 rfl rfl ?_
  refine z_iconst (v := 0) X dX7_init_71 (by decide) ?_
  refine z_putI (ci := 10) (j := 6) X dX7_init_72 rfl rfl (by decide) hlk_39 (Or.inl rfl) (Or.inl rfl) (fun _ => rfl) rfl rfl ?_
  refine z_mem (M' := zmk [(7, 20, 960), (6, 20, 960), (5, 6, 0), (4, 4, 0), (98, 3, 0), (66, 3, 0), (34, 3, 0), (2, 3, 0), (1, 11, 0), (31, 26, 0), (63, 19, 0)] [(1, 5, 5), (5, 1, 7), (5, 0, 6), (1, 4, 4), (1, 3, 98), (98, 1, 31), (1, 2, 66), (66, 1, 31), (1, 1, 34), (34, 1, 31), (1, 0, 2), (2, 1, 31)] [(1, 6, 0), (5, 3, 0), (5, 2, 0), (4, 5, 400), (4, 4, 0), (4, 3, (-1)), (4, 2, 0), (4, 1, 10), (4, 0, 10), (98, 0, 0), (66, 0, 0), (34, 0, 0), (2, 0, 0)]) zmk_i ?_
  refine z_aload_n X 0 dX7_init_75 rfl rfl ?_
  refine z_sipush (v := 250) X dX7_init_76 (by decide) ?_
  refine z_putI (ci := 10) (j := 7) X dX7_init_79 rfl rfl (by decide) hlk_43 (Or.inl rfl) (Or.inl rfl) (fun _ => rfl) rfl rfl ?_
  refine z_mem (M' := zmk [(7, 20, 960), (6, 20, 960), (5, 6, 0), (4, 4, 0), (98, 3, 0), (66, 3, 0), (34, 3, 0), (2, 3, 0), (1, 11, 0), (31, 26, 0), (63, 19, 0)] [(1, 5, 5), (5, 1, 7), (5, 0, 6), (1, 4, 4), (1, 3, 98), (98, 1, 31), (1, 2, 66), (66, 1, 31), (1, 1, 34), (34, 1, 31), (1, 0, 2), (2, 1, 31)] [(1, 7, 250), (1, 6, 0), (5, 3, 0), (5, 2, 0), (4, 5, 400), (4, 4, 0), (4, 3, (-1)), (4, 2, 0), (4, 1, 10), (4, 0, 10), (98, 0, 0), (66, 0, 0), (34, 0, 0), (2, 0, 0)]) zmk_i ?_
  refine z_vret X rfl (by decide) (by decide) dX7_init_82 ?_
  exact ⟨rfl, rfl⟩
def c_x0 : Nat → Nat → Int32 := fun _ _ => 0
def c_n0 : Nat → Nat := fun _ => 0
def c_y0 : Nat → Nat → Nat := fun _ _ => 0
def c_l0 : Nat → Nat → Int64 := fun _ _ => 0
theorem cC_n0 {o : Nat} (h : 128 ≤ o) : cC c_n0 (o % 32) (o / 32) = 0 := by
  have h4 : 4 ≤ o / 32 := by omega
  unfold cC
  split <;> first | rfl | (rw [if_neg (by omega), if_neg (by omega)]) | (rw [if_neg (by omega)]) | (rw [if_neg (by unfold c_n0; omega)]) | (rw [if_neg (by unfold cLive ccap c_n0; simp; omega)])
theorem c_start : zq (zmk [(7, 20, 960), (6, 20, 960), (5, 6, 0), (4, 4, 0), (98, 3, 0), (66, 3, 0), (34, 3, 0), (2, 3, 0), (1, 11, 0), (31, 26, 0), (63, 19, 0)] [(1, 5, 5), (5, 1, 7), (5, 0, 6), (1, 4, 4), (1, 3, 98), (98, 1, 31), (1, 2, 66), (66, 1, 31), (1, 1, 34), (34, 1, 31), (1, 0, 2), (2, 1, 31)] [(1, 7, 250), (1, 6, 0), (5, 3, 0), (5, 2, 0), (4, 5, 400), (4, 4, 0), (4, 3, (-1)), (4, 2, 0), (4, 1, 10), (4, 0, 10), (98, 0, 0), (66, 0, 0), (34, 0, 0), (2, 0, 0)]) (cmm c_n0 m_i0 c_x0 c_l0 c_y0 0 0) := by
  refine ⟨funext fun o => ?_, fun o ho => ?_⟩
  · show (zlk _ o).1 = cC c_n0 (o % 32) (o / 32)
    rcases Nat.lt_or_ge o 128 with h | h
    · revert o; decide +kernel
    · rw [cC_n0 h, zlk_no (b := 128) (by decide +kernel) h]
  · have h : o < 128 := by
      rcases Nat.lt_or_ge o 128 with h | h
      · exact h
      · exact absurd (congrArg Prod.fst (zlk_no (b := 128) (by decide +kernel) h)) ho
    have ho' : ¬ (zlk [((7, 20, 960) : Nat × Nat × Nat), ((6, 20, 960) : Nat × Nat × Nat), ((5, 6, 0) : Nat × Nat × Nat), ((4, 4, 0) : Nat × Nat × Nat), ((98, 3, 0) : Nat × Nat × Nat), ((66, 3, 0) : Nat × Nat × Nat), ((34, 3, 0) : Nat × Nat × Nat), ((2, 3, 0) : Nat × Nat × Nat), ((1, 11, 0) : Nat × Nat × Nat), ((31, 26, 0) : Nat × Nat × Nat), ((63, 19, 0) : Nat × Nat × Nat)] o).1 = 0 := ho
    clear ho
    refine ⟨?_, fun k => ⟨?_, ?_, ?_, ?_⟩⟩
    · show (zlk _ o).2 = cN (o % 32) (o / 32)
      revert o; decide +kernel
    · show zlr _ o k = cR c_n0 m_i0 c_y0 (o % 32) (o / 32) k
      rcases Nat.lt_or_ge k 20 with hk | hk
      · revert k; revert o; decide +kernel
      · rw [show zlr _ o k = none from zlr_big (b := 20) (by decide +kernel) hk]
        unfold cR
        split <;> first | rfl | (rw [if_neg (by omega), if_neg (by omega), if_neg (by omega)]) | (rw [if_neg (by omega), if_neg (by omega)]) | (rw [if_neg (by omega)]) | (rw [if_neg (by unfold c_n0; omega)])
    · show (zlr _ o k).getD 0 = cI c_n0 m_i0 c_x0 (o % 32) (o / 32) k
      rcases Nat.lt_or_ge k 20 with hk | hk
      · revert k; revert o; decide +kernel
      · rw [show zlr _ o k = none from zlr_big (b := 20) (by decide +kernel) hk]
        unfold cI
        have hc : cTc (o % 32) k = 0 := by
          rcases Nat.eq_zero_or_pos (cTc (o % 32) k) with q | q
          · exact q
          · have h1 := cTc_mem (t := o % 32) (k := k) rfl (by omega)
            have h2 : ∀ q ∈ cTl, q.2.1 < 20 := by decide +kernel
            exact absurd (h2 _ h1) (by simp only; omega)
        rw [hc]
        split
        · exact (ite_self _).symm
        · split
          · exact (ite_self _).symm
          · split <;> rfl
    · show (0 : Int64) = if o = 14 ∧ k = 0 then 0 else if o = 5 ∧ k = 4 then 0 else 0
      rw [ite_self, ite_self]
    · show (0 : UInt64) = if o = 15 ∧ k = 0 then 0 else 0
      rw [ite_self]
