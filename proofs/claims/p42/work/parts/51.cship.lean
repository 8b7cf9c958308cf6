/-! PART 51: ships and dues of the class -/
def c_sh1 (o np k : Nat) (s : cGS) : cGS := match c_nx s.1 o (fun _ => true) np with
  | none => s
  | some b => (zup (if k = 0 then zup s.1 141 o (s.1 133 b) else s.1) 134 b 115, zup s.2.1 3 b (s.1 1 0), s.2.2 + s.1 133 b)
def c_sh (o np : Nat) (s : cGS) : Nat → cGS
  | 0 => s
  | k + 1 => c_sh1 o np k (c_sh o np s k)
theorem c_sh1_n {o np k : Nat} {s : cGS} (h : c_nx s.1 o (fun _ => true) np = none) : c_sh1 o np k s = s := by unfold c_sh1; rw [h]
theorem c_sh1_s {o np k b : Nat} {s : cGS} (h : c_nx s.1 o (fun _ => true) np = some b) : c_sh1 o np k s = (zup (if k = 0 then zup s.1 141 o (s.1 133 b) else s.1) 134 b 115, zup s.2.1 3 b (s.1 1 0), s.2.2 + s.1 133 b) := by unfold c_sh1; rw [h]
theorem c_sh_n {o np : Nat} {s : cGS} {k : Nat} (h : c_nx (c_sh o np s k).1 o (fun _ => true) np = none) : ∀ m, k ≤ m → c_sh o np s m = c_sh o np s k
  | 0, hm => by rw [show k = 0 by omega]
  | m + 1, hm => by
    rcases Nat.lt_or_ge m k with q | q
    · rw [show k = m + 1 by omega]
    · have e := c_sh_n h m q
      show c_sh1 o np m (c_sh o np s m) = _
      rw [e]
      exact c_sh1_n h
theorem c_sh1_o {o np k a c : Nat} {s : cGS} (h1 : a ≠ 134) (h2 : a ≠ 141) : (c_sh1 o np k s).1 a c = s.1 a c := by
  unfold c_sh1
  split
  · rfl
  · show zup _ 134 _ 115 a c = _
    rw [zup_n (by omega)]
    split
    · exact zup_n (by omega)
    · rfl
theorem c_sh_o {o np a c : Nat} {s : cGS} (h1 : a ≠ 134) (h2 : a ≠ 141) : ∀ k, (c_sh o np s k).1 a c = s.1 a c
  | 0 => rfl
  | k + 1 => (c_sh1_o h1 h2).trans (c_sh_o h1 h2 k)
def c_ships (o np cn : Nat) (i x : Nat → Nat → Int32) : cGS := (zup (c_sh o np (i, x, 0) cn).1 140 o 115, (c_sh o np (i, x, 0) cn).2.1, (c_sh o np (i, x, 0) cn).2.2)
def c_due1 (np k : Nat) (s : cGS) : cGS := if s.1 140 k = 111 ∧ s.1 139 k = s.1 1 0 then (if s.1 137 k ≤ m_cnt s.1 k np then ((c_ships k np (cl (s.1 137 k)) s.1 s.2.1).1, (c_ships k np (cl (s.1 137 k)) s.1 s.2.1).2.1, s.2.2 + 1) else (zup s.1 140 k 109, s.2.1, s.2.2)) else s
def c_due (np : Nat) (s : cGS) : Nat → cGS
  | 0 => s
  | k + 1 => c_due1 np k (c_due np s k)
theorem c_due1_o {np k a c : Nat} {s : cGS} (h1 : a ≠ 134) (h2 : a ≠ 141) (h3 : a ≠ 140) : (c_due1 np k s).1 a c = s.1 a c := by
  unfold c_due1
  split
  · split
    · exact (zup_n (by omega)).trans (c_sh_o h1 h2 _)
    · exact zup_n (by omega)
  · rfl
theorem c_due_o {np a c : Nat} {s : cGS} (h1 : a ≠ 134) (h2 : a ≠ 141) (h3 : a ≠ 140) : ∀ k, (c_due np s k).1 a c = s.1 a c
  | 0 => rfl
  | k + 1 => (c_due1_o h1 h2 h3).trans (c_due_o h1 h2 h3 k)
theorem nI_1f (a : Int32) : a + 1 = a + 1 := rfl
set_option maxRecDepth 100000 in
set_option maxHeartbeats 4000000 in
theorem c_X7_shipCandidates (l : Launch) (n : Nat → Nat) (i x : Nat → Nat → Int32) (lm : Nat → Nat → Int64) (y : Nat → Nat → Nat) (ol : Int64) (od : UInt64) (hW : cW n i y) (o : Nat) (ho : o < n 8) (cn : Nat) (hc8 : cn ≤ 8) (hcn : i 137 o = nI cn) : zS l yX7_shipCandidates wsX7_shipCandidates 10 180 0 0 [.ref 1, .ref (32 * o + 13)] (cmm n i x lm y ol od) (zpi (fun q M1 => q = (c_ships o (n 7) cn i x).2.2 ∧ M1 = cmm n (c_ships o (n 7) cn i x).1 (c_ships o (n 7) cn i x).2.1 lm y ol od)) zno := by
  refine z_intro (cc := cX7_shipCandidates) (maxL := 5) (ret := (some .int)) (by decide +kernel) rfl (Nat.le_of_ble_eq_true rfl) ?_
  have hlk_376 : Cond.fieldLink RX7 376 "ColdStore$Order" "count" "I" ∈ wsX7_shipCandidates := by decide +kernel
  have hlk_269 : Cond.fieldLink RX7 269 "ColdStore$Order" "status" "C" ∈ wsX7_shipCandidates := by decide +kernel
  have hlk_212 : Cond.fieldLink RX7 212 "ColdStore$Pallet" "lifeLeft" "I" ∈ wsX7_shipCandidates := by decide +kernel
  have hlk_39 : Cond.fieldLink RX7 39 "ColdStore" "time" "I" ∈ wsX7_shipCandidates := by decide +kernel
  have hlk_297 : Cond.fieldLink RX7 297 "ColdStore$Order" "leastLife" "I" ∈ wsX7_shipCandidates := by decide +kernel
  intro g X
  show zE g 5 0 [(0, .ref 1), (1, .ref (32 * o + 13))] [] (cmm n i x lm y ol od) 0 0
  obtain ⟨⟨hn0, hn1, hn2, hn3⟩, ⟨hb5, hb6, hb7, hb8⟩, hp9, hs9, ho9⟩ := hW
  refine z_iconst (v := 0) X dX7_shipCandidates_0 (by decide) ?_
  refine z_istore_n (ls' := [(2, .int 0), (0, .ref 1), (1, .ref (32 * o + 13))]) X dX7_shipCandidates_1 rfl (by decide) rfl ?_
  refine z_iconst (v := 0) X dX7_shipCandidates_2 (by decide) ?_
  refine z_istore_n (ls' := [(3, .int 0), (2, .int 0), (0, .ref 1), (1, .ref (32 * o + 13))]) X dX7_shipCandidates_3 rfl (by decide) rfl ?_
  have hloop4 : ∀ k : Nat, k ≤ cn → zE g 5 4 [(0, .ref 1), (1, .ref (32 * o + 13)), (2, .int ((c_sh o (n 7) (i, x, 0) k).2.2)), (3, .int (nI k))] [] (cmm n ((c_sh o (n 7) (i, x, 0) k).1) ((c_sh o (n 7) (i, x, 0) k).2.1) lm y ol od) 0 0 := by
    refine z_loop (fun k => zE g 5 4 [(0, .ref 1), (1, .ref (32 * o + 13)), (2, .int ((c_sh o (n 7) (i, x, 0) k).2.2)), (3, .int (nI k))] [] (cmm n ((c_sh o (n 7) (i, x, 0) k).1) ((c_sh o (n 7) (i, x, 0) k).2.1) lm y ol od) 0 0) cn ?_ ?_
    · show zE g 5 4 [(0, .ref 1), (1, .ref (32 * o + 13)), (2, .int ((c_sh o (n 7) (i, x, 0) cn).2.2)), (3, .int (nI cn))] [] (cmm n ((c_sh o (n 7) (i, x, 0) cn).1) ((c_sh o (n 7) (i, x, 0) cn).2.1) lm y ol od) 0 0
      refine z_iload_n X 3 dX7_shipCandidates_4 rfl rfl ?_
      refine z_aload_n X 1 dX7_shipCandidates_5 rfl rfl ?_
      refine z_getI (ci := 6) (j := 1) (x := nI cn) X dX7_shipCandidates_6 (ck_13 (by omega)) rfl (by decide) hlk_376 (Or.inl rfl) (fun _ => rfl) (by rw [ci_13_1]; exact (c_sh_o (by decide) (by decide) _).trans hcn) ?_
      refine z_icmp_ge X 66 dX7_shipCandidates_9 (by decide) (fun c_9 => ?_) (fun c_9 => ?_)
      · skip
        refine z_aload_n X 1 dX7_shipCandidates_66 rfl rfl ?_
        refine z_bipush (v := 115) X dX7_shipCandidates_67 (by decide) ?_
        refine z_putI (ci := 6) (j := 4) X dX7_shipCandidates_69 (ck_13 (by omega)) rfl (by decide) hlk_269 (Or.inl rfl) (Or.inl rfl) (fun _ => rfl) (rfl) rfl ?_
        obtain ⟨i_1, hi_1⟩ : ∃ q, q = zup ((c_sh o (n 7) (i, x, 0) cn).1) 140 o 115 := ⟨_, rfl⟩
        refine z_mem (M' := cmm n i_1 ((c_sh o (n 7) (i, x, 0) cn).2.1) lm y ol od) (by rw [hi_1]; exact cw_i 13 4 140) ?_
        refine z_iload_n X 2 dX7_shipCandidates_72 rfl rfl ?_
        refine z_iret X rfl rfl (Nat.le_of_ble_eq_true rfl) (Nat.le_of_ble_eq_true rfl) dX7_shipCandidates_73 ?_
        subst hi_1
        exact ⟨_, rfl, rfl, rfl⟩
      · exact absurd (Int32.le_refl _) c_9
    · intro k hk_4 ih4
      have ih4 : zE g 5 4 [(0, .ref 1), (1, .ref (32 * o + 13)), (2, .int ((c_sh o (n 7) (i, x, 0) (k + 1)).2.2)), (3, .int (nI (k + 1)))] [] (cmm n ((c_sh o (n 7) (i, x, 0) (k + 1)).1) ((c_sh o (n 7) (i, x, 0) (k + 1)).2.1) lm y ol od) 0 0 := ih4
      show zE g 5 4 [(0, .ref 1), (1, .ref (32 * o + 13)), (2, .int ((c_sh o (n 7) (i, x, 0) k).2.2)), (3, .int (nI k))] [] (cmm n ((c_sh o (n 7) (i, x, 0) k).1) ((c_sh o (n 7) (i, x, 0) k).2.1) lm y ol od) 0 0
      refine z_iload_n X 3 dX7_shipCandidates_4 rfl rfl ?_
      refine z_aload_n X 1 dX7_shipCandidates_5 rfl rfl ?_
      refine z_getI (ci := 6) (j := 1) (x := nI cn) X dX7_shipCandidates_6 (ck_13 (by omega)) rfl (by decide) hlk_376 (Or.inl rfl) (fun _ => rfl) (by rw [ci_13_1]; exact (c_sh_o (by decide) (by decide) _).trans hcn) ?_
      refine z_icmp_ge X 66 dX7_shipCandidates_9 (by decide) (fun c_9 => ?_) (fun c_9 => ?_)
      · exact absurd c_9 (nI_ge hk_4 (by omega))
      · skip
        refine z_aload_n X 0 dX7_shipCandidates_12 rfl rfl ?_
        refine z_aload_n X 1 dX7_shipCandidates_13 rfl rfl ?_
        refine z_null X dX7_shipCandidates_14 ?_
        refine z_callVq (As := [.ref (32 * o + 13), .null]) (rest := []) (n1 := 2) (ci := 10) X dX7_shipCandidates_15 (c_next0 l n ((c_sh o (n 7) (i, x, 0) k).1) ((c_sh o (n 7) (i, x, 0) k).2.1) lm y ol od (cW.of ⟨⟨hn0, hn1, hn2, hn3⟩, ⟨hb5, hb6, hb7, hb8⟩, hp9, hs9, ho9⟩ (fun b => ⟨c_sh_o (by decide) (by decide) _, c_sh_o (by decide) (by decide) _, c_sh_o (by decide) (by decide) _⟩)) o (by omega)) gX7_shipCandidates_X7_nextCandidate rfl rfl (by decide +kernel) ⟨by decide, by decide⟩ ck_1 rfl rfl (Nat.le_of_ble_eq_true rfl) ⟨by decide, by decide⟩ (fun _ h => h.elim) ?_
        rintro _ _ ⟨rfl, rfl⟩
        refine z_astoreO (ls' := [(4, va_rf ((c_nx ((c_sh o (n 7) (i, x, 0) k).1) o (fun _ => true) (n 7)).map (fun b => 32 * b + 11))), (0, .ref 1), (1, .ref (32 * o + 13)), (2, .int ((c_sh o (n 7) (i, x, 0) k).2.2)), (3, .int (nI k))]) X dX7_shipCandidates_18 (by decide) rfl ?_
        rcases hop : c_nx ((c_sh o (n 7) (i, x, 0) k).1) o (fun _ => true) (n 7) with _ | b
        · refine z_lse (ls' := [(4, .null), (0, .ref 1), (1, .ref (32 * o + 13)), (2, .int ((c_sh o (n 7) (i, x, 0) k).2.2)), (3, .int (nI k))]) (by first | rfl | (rw [hop]; rfl)) ?_
          refine z_aloadN X 0 dX7_shipCandidates_20 rfl ?_
          refine z_ifnonnullN X dX7_shipCandidates_22 ?_
          refine z_goto (tgt := 66) X dX7_shipCandidates_25 (by decide) ?_
          have hst := c_sh_n (o := o) (np := n 7) (s := (i, x, 0)) (k := k) hop cn (by omega)
          refine z_aload_n X 2 dX7_shipCandidates_66 rfl rfl ?_
          refine z_bipush (v := 115) X dX7_shipCandidates_67 (by decide) ?_
          refine z_putI (ci := 6) (j := 4) X dX7_shipCandidates_69 (ck_13 (by omega)) rfl (by decide) hlk_269 (Or.inl rfl) (Or.inl rfl) (fun _ => rfl) (rfl) rfl ?_
          obtain ⟨i_2, hi_2⟩ : ∃ q, q = zup ((c_sh o (n 7) (i, x, 0) k).1) 140 o 115 := ⟨_, rfl⟩
          refine z_mem (M' := cmm n i_2 ((c_sh o (n 7) (i, x, 0) k).2.1) lm y ol od) (by rw [hi_2]; exact cw_i 13 4 140) ?_
          refine z_iload_n X 3 dX7_shipCandidates_72 rfl rfl ?_
          refine z_iret X rfl rfl (Nat.le_of_ble_eq_true rfl) (Nat.le_of_ble_eq_true rfl) dX7_shipCandidates_73 ?_
          subst hi_2
          exact ⟨_, rfl, by unfold c_ships; rw [hst], by unfold c_ships; rw [hst]⟩
        · refine z_lse (ls' := [(4, .ref (32 * b + 11)), (0, .ref 1), (1, .ref (32 * o + 13)), (2, .int ((c_sh o (n 7) (i, x, 0) k).2.2)), (3, .int (nI k))]) (by first | rfl | (rw [hop]; rfl)) ?_
          have hb9 := (c_nx_lt hop).1
          refine z_aload X 0 dX7_shipCandidates_20 rfl ?_
          refine z_ifnonnull X 28 dX7_shipCandidates_22 (by decide) ?_
          refine z_iload_n X 4 dX7_shipCandidates_28 rfl rfl ?_
          refine z_if_ne X 41 dX7_shipCandidates_29 (by decide) (fun c_29 => ?_) (fun c_29 => ?_)
          · skip
            refine z_iload_n X 3 dX7_shipCandidates_41 rfl rfl ?_
            refine z_aload X 0 dX7_shipCandidates_42 rfl ?_
            refine z_getI (ci := 7) (j := 5) (x := ((c_sh o (n 7) (i, x, 0) k).1) 133 b) X dX7_shipCandidates_44 (ck_11 (by omega)) rfl (by decide) hlk_212 (Or.inl rfl) (fun _ => rfl) (ci_11_5) ?_
            refine z_iadd X dX7_shipCandidates_47 ?_
            refine z_istore_n (ls' := [(2, .int (((c_sh o (n 7) (i, x, 0) k).2.2) + (((c_sh o (n 7) (i, x, 0) k).1) 133 b))), (4, .ref (32 * b + 11)), (0, .ref 1), (1, .ref (32 * o + 13)), (3, .int (nI k))]) X dX7_shipCandidates_48 rfl (by decide) rfl ?_
            refine z_aload X 1 dX7_shipCandidates_49 rfl ?_
            refine z_bipush (v := 115) X dX7_shipCandidates_51 (by decide) ?_
            refine z_aload_n X 2 dX7_shipCandidates_53 rfl rfl ?_
            refine z_getI (ci := 10) (j := 6) (x := ((c_sh o (n 7) (i, x, 0) k).1) 1 0) X dX7_shipCandidates_54 ck_1 rfl (by decide) hlk_39 (Or.inl rfl) (fun _ => rfl) (ci_1_6) ?_
            refine z_callVv (As := [.int 115, .int (((c_sh o (n 7) (i, x, 0) k).1) 1 0)]) (rest := []) (n1 := 2) (ci := 7) X dX7_shipCandidates_57 (c_X4_leave l n ((c_sh o (n 7) (i, x, 0) k).1) ((c_sh o (n 7) (i, x, 0) k).2.1) lm y ol od b (by omega) 115 (((c_sh o (n 7) (i, x, 0) k).1) 1 0) rfl rfl) gX7_shipCandidates_X4_leave rfl rfl (by decide +kernel) ⟨by decide, by decide⟩ (ck_11 (by omega)) rfl rfl (Nat.le_of_ble_eq_true rfl) ⟨by decide, by decide⟩ (fun _ h => h.elim) ?_
            rintro _ rfl
            obtain ⟨i_3, hi_3⟩ : ∃ q, q = zup ((c_sh o (n 7) (i, x, 0) k).1) 134 b 115 := ⟨_, rfl⟩
            obtain ⟨x_4, hx_4⟩ : ∃ q, q = zup ((c_sh o (n 7) (i, x, 0) k).2.1) 3 b (((c_sh o (n 7) (i, x, 0) k).1) 1 0) := ⟨_, rfl⟩
            refine z_mem (M' := cmm n i_3 x_4 lm y ol od) (by rw [hi_3, hx_4]) ?_
            have hk0 : ¬ k = 0 := fun e => c_29 (by rw [e]; rfl)
            have hsh : c_sh o (n 7) (i, x, 0) (k + 1) = _ := c_sh1_s (k := k) (s := c_sh o (n 7) (i, x, 0) k) hop
            rw [if_neg hk0] at hsh
            refine z_iinc (ls' := [(3, .int (nI (k + 1))), (2, .int (((c_sh o (n 7) (i, x, 0) k).2.2) + (((c_sh o (n 7) (i, x, 0) k).1) 133 b))), (4, .ref (32 * b + 11)), (0, .ref 1), (1, .ref (32 * o + 13))]) (v := nI (k + 1)) X 4 dX7_shipCandidates_60 rfl (nI_1 _) (by decide) rfl ?_
            refine z_goto (tgt := 4) X dX7_shipCandidates_63 (by decide) ?_
            refine z_sub (ls' := [(0, .ref 1), (1, .ref (32 * o + 13)), (2, .int (((c_sh o (n 7) (i, x, 0) k).2.2) + (((c_sh o (n 7) (i, x, 0) k).1) 133 b))), (3, .int (nI (k + 1)))]) [3, 4, 1, 0] rfl ?_
            refine z_lse (ls' := [(0, .ref 1), (1, .ref (32 * o + 13)), (2, .int ((c_sh o (n 7) (i, x, 0) (k + 1)).2.2)), (3, .int (nI (k + 1)))]) (by rw [hsh]) ?_
            refine z_mem (M' := cmm n ((c_sh o (n 7) (i, x, 0) (k + 1)).1) ((c_sh o (n 7) (i, x, 0) (k + 1)).2.1) lm y ol od) (by rw [hi_3]; rw [hx_4]; rw [hsh]) ?_
            exact ih4
          · skip
            refine z_aload_n X 2 dX7_shipCandidates_32 rfl rfl ?_
            refine z_aload X 0 dX7_shipCandidates_33 rfl ?_
            refine z_getI (ci := 7) (j := 5) (x := ((c_sh o (n 7) (i, x, 0) k).1) 133 b) X dX7_shipCandidates_35 (ck_11 (by omega)) rfl (by decide) hlk_212 (Or.inl rfl) (fun _ => rfl) (ci_11_5) ?_
            refine z_putI (ci := 6) (j := 5) X dX7_shipCandidates_38 (ck_13 (by omega)) rfl (by decide) hlk_297 (Or.inl rfl) (Or.inl rfl) (fun _ => rfl) rfl rfl ?_
            obtain ⟨i_5, hi_5⟩ : ∃ q, q = zup ((c_sh o (n 7) (i, x, 0) k).1) 141 o (((c_sh o (n 7) (i, x, 0) k).1) 133 b) := ⟨_, rfl⟩
            refine z_mem (M' := cmm n i_5 ((c_sh o (n 7) (i, x, 0) k).2.1) lm y ol od) (by rw [hi_5]; exact cw_i 13 5 141) ?_
            refine z_iload_n X 3 dX7_shipCandidates_41 rfl rfl ?_
            refine z_aload X 0 dX7_shipCandidates_42 rfl ?_
            refine z_getI (ci := 7) (j := 5) (x := ((c_sh o (n 7) (i, x, 0) k).1) 133 b) X dX7_shipCandidates_44 (ck_11 (by omega)) rfl (by decide) hlk_212 (Or.inl rfl) (fun _ => rfl) (by rw [ci_11_5]; rw [hi_5, zup_n (by omega)]) ?_
            refine z_iadd X dX7_shipCandidates_47 ?_
            refine z_istore_n (ls' := [(2, .int (((c_sh o (n 7) (i, x, 0) k).2.2) + (((c_sh o (n 7) (i, x, 0) k).1) 133 b))), (4, .ref (32 * b + 11)), (0, .ref 1), (1, .ref (32 * o + 13)), (3, .int (nI k))]) X dX7_shipCandidates_48 rfl (by decide) rfl ?_
            refine z_aload X 1 dX7_shipCandidates_49 rfl ?_
            refine z_bipush (v := 115) X dX7_shipCandidates_51 (by decide) ?_
            refine z_aload_n X 2 dX7_shipCandidates_53 rfl rfl ?_
            refine z_getI (ci := 10) (j := 6) (x := ((c_sh o (n 7) (i, x, 0) k).1) 1 0) X dX7_shipCandidates_54 ck_1 rfl (by decide) hlk_39 (Or.inl rfl) (fun _ => rfl) (by rw [ci_1_6]; rw [hi_5, zup_n (by omega)]) ?_
            refine z_callVv (As := [.int 115, .int (((c_sh o (n 7) (i, x, 0) k).1) 1 0)]) (rest := []) (n1 := 2) (ci := 7) X dX7_shipCandidates_57 (c_X4_leave l n i_5 ((c_sh o (n 7) (i, x, 0) k).2.1) lm y ol od b (by omega) 115 (((c_sh o (n 7) (i, x, 0) k).1) 1 0) rfl rfl) gX7_shipCandidates_X4_leave rfl rfl (by decide +kernel) ⟨by decide, by decide⟩ (ck_11 (by omega)) rfl rfl (Nat.le_of_ble_eq_true rfl) ⟨by decide, by decide⟩ (fun _ h => h.elim) ?_
            rintro _ rfl
            obtain ⟨i_6, hi_6⟩ : ∃ q, q = zup i_5 134 b 115 := ⟨_, rfl⟩
            obtain ⟨x_7, hx_7⟩ : ∃ q, q = zup ((c_sh o (n 7) (i, x, 0) k).2.1) 3 b (((c_sh o (n 7) (i, x, 0) k).1) 1 0) := ⟨_, rfl⟩
            refine z_mem (M' := cmm n i_6 x_7 lm y ol od) (by rw [hi_6, hx_7]) ?_
            have hk0 : k = 0 := nI_z (by omega) c_29
            have hsh : c_sh o (n 7) (i, x, 0) (k + 1) = _ := c_sh1_s (k := k) (s := c_sh o (n 7) (i, x, 0) k) hop
            rw [if_pos hk0] at hsh
            refine z_iinc (ls' := [(3, .int (nI (k + 1))), (2, .int (((c_sh o (n 7) (i, x, 0) k).2.2) + (((c_sh o (n 7) (i, x, 0) k).1) 133 b))), (4, .ref (32 * b + 11)), (0, .ref 1), (1, .ref (32 * o + 13))]) (v := nI (k + 1)) X 4 dX7_shipCandidates_60 rfl (nI_1 _) (by decide) rfl ?_
            refine z_goto (tgt := 4) X dX7_shipCandidates_63 (by decide) ?_
            refine z_sub (ls' := [(0, .ref 1), (1, .ref (32 * o + 13)), (2, .int (((c_sh o (n 7) (i, x, 0) k).2.2) + (((c_sh o (n 7) (i, x, 0) k).1) 133 b))), (3, .int (nI (k + 1)))]) [3, 4, 1, 0] rfl ?_
            refine z_lse (ls' := [(0, .ref 1), (1, .ref (32 * o + 13)), (2, .int ((c_sh o (n 7) (i, x, 0) (k + 1)).2.2)), (3, .int (nI (k + 1)))]) (by rw [hsh]) ?_
            refine z_mem (M' := cmm n ((c_sh o (n 7) (i, x, 0) (k + 1)).1) ((c_sh o (n 7) (i, x, 0) (k + 1)).2.1) lm y ol od) (by rw [hi_6]; rw [hi_5]; rw [hx_7]; rw [hsh]) ?_
            exact ih4
  refine z_sub (ls' := [(0, .ref 1), (1, .ref (32 * o + 13)), (2, .int 0), (3, .int 0)]) [2, 3, 1, 0] rfl ?_
  refine z_lse (ls' := [(0, .ref 1), (1, .ref (32 * o + 13)), (2, .int ((c_sh o (n 7) (i, x, 0) 0).2.2)), (3, .int (nI 0))]) (rfl) ?_
  refine z_mem (M' := cmm n ((c_sh o (n 7) (i, x, 0) 0).1) ((c_sh o (n 7) (i, x, 0) 0).2.1) lm y ol od) (rfl) ?_
  exact hloop4 0 (Nat.zero_le _)

set_option maxRecDepth 100000 in
set_option maxHeartbeats 4000000 in
theorem c_X7_ship (l : Launch) (hl0 : l.stackTraces = false) (n : Nat → Nat) (i x : Nat → Nat → Int32) (lm : Nat → Nat → Int64) (y : Nat → Nat → Nat) (ol : Int64) (od : UInt64) (hW : cW n i y) (o : Int32) (hct : ∀ o, o < n 8 → cl (i 137 o) ≤ 8 ∧ i 137 o = nI (cl (i 137 o))) : zS l yX7_ship wsX7_ship 11 204 8 1100 [.ref 1, .int o] (cmm n i x lm y ol od) (zpi (fun v9 M1 => (cl o < n 8 ∧ o = nI (cl o)) ∧ (i 140 (cl o) = 111) ∧ (i 137 (cl o) ≤ m_cnt i (cl o) (n 7)) ∧ v9 = (c_ships (cl o) (n 7) (cl (i 137 (cl o))) i x).2.2 ∧ M1 = cmm n ((c_ships (cl o) (n 7) (cl (i 137 (cl o))) i x).1) ((c_ships (cl o) (n 7) (cl (i 137 (cl o))) i x).2.1) lm y ol od)) (fun E => (E = "java/lang/IndexOutOfBoundsException" ∧ ¬ (cl o < n 8 ∧ o = nI (cl o))) ∨ (E = "java/lang/IllegalStateException" ∧ (cl o < n 8 ∧ o = nI (cl o)) ∧ ¬ (i 140 (cl o) = 111)) ∨ (E = "java/lang/UnsupportedOperationException" ∧ (cl o < n 8 ∧ o = nI (cl o)) ∧ (i 140 (cl o) = 111) ∧ ¬ (i 137 (cl o) ≤ m_cnt i (cl o) (n 7)))) := by
  refine z_intro (cc := cX7_ship) (maxL := 3) (ret := (some .int)) (by decide +kernel) rfl (Nat.le_of_ble_eq_true rfl) ?_
  intro g X
  show zE g 3 0 [(0, .ref 1), (1, .int o)] [] (cmm n i x lm y ol od) 0 0
  obtain ⟨⟨hn0, hn1, hn2, hn3⟩, ⟨hb5, hb6, hb7, hb8⟩, hp9, hs9, ho9⟩ := hW
  refine z_aload_n X 0 dX7_ship_0 rfl rfl ?_
  refine z_iload_n X 1 dX7_ship_1 rfl rfl ?_
  refine z_callVr (As := [.int o]) (rest := []) (n1 := 1) (ci := 10) X dX7_ship_2 (c_X7_findOrder l hl0 n i x lm y ol od ⟨by omega, by omega⟩ o) gX7_ship_X7_findOrder rfl rfl (by decide +kernel) ⟨by decide, by decide⟩ ck_1 rfl rfl (Nat.le_of_ble_eq_true rfl) ⟨by decide, by decide⟩ (fun E h => ⟨Or.inl (⟨h.1, find_no (by omega) h.2⟩), rfl⟩) ?_
  rintro _ _ ⟨rfl, rfl, hf0, hg0⟩
  refine z_astore_n (ls' := [(2, .ref (32 * (cl o) + 13)), (0, .ref 1), (1, .int o)]) X dX7_ship_5 rfl (by decide) rfl ?_
  refine z_aload_n X 0 dX7_ship_6 rfl rfl ?_
  refine z_callSv (As := [.ref (32 * (cl o) + 13)]) (rest := []) (n1 := 1) X dX7_ship_7 (c_X7_requireOpen l hl0 n i x lm y ol od (⟨⟨hn0, hn1, hn2, hn3⟩, ⟨hb5, hb6, hb7, hb8⟩, hp9, hs9, ho9⟩) (cl o) (by omega)) gX7_ship_X7_requireOpen rfl rfl (by decide +kernel) ⟨by decide, by decide⟩ rfl (Nat.le_of_ble_eq_true rfl) ⟨by decide, by decide⟩ (fun E h => ⟨Or.inr (Or.inl (⟨h.1, ⟨hf0, hg0⟩, h.2⟩)), rfl⟩) ?_
  rintro _ ⟨rfl, hz1⟩
  refine z_aload_n X 1 dX7_ship_10 rfl rfl ?_
  refine z_aload_n X 0 dX7_ship_11 rfl rfl ?_
  refine z_callVi (As := [.ref (32 * (cl o) + 13)]) (rest := []) (n1 := 1) (ci := 10) X dX7_ship_12 (c_X7_canBeShipped l n i x lm y ol od (⟨⟨hn0, hn1, hn2, hn3⟩, ⟨hb5, hb6, hb7, hb8⟩, hp9, hs9, ho9⟩) (cl o) (by omega)) gX7_ship_X7_canBeShipped rfl rfl (by decide +kernel) ⟨by decide, by decide⟩ ck_1 rfl rfl (Nat.le_of_ble_eq_true rfl) ⟨by decide, by decide⟩ (fun _ h => h.elim) ?_
  rintro _ _ ⟨rfl, rfl⟩
  refine z_if_ne X 29 dX7_ship_15 (by decide) (fun c_15 => ?_) (fun c_15 => ?_)
  · skip
    refine z_aload_n X 1 dX7_ship_29 rfl rfl ?_
    refine z_aload_n X 0 dX7_ship_30 rfl rfl ?_
    refine z_callVi (As := [.ref (32 * (cl o) + 13)]) (rest := []) (n1 := 1) (ci := 10) X dX7_ship_31 (c_X7_shipCandidates l n i x lm y ol od (⟨⟨hn0, hn1, hn2, hn3⟩, ⟨hb5, hb6, hb7, hb8⟩, hp9, hs9, ho9⟩) (cl o) (by omega) (cl (i 137 (cl o))) ((hct _ hf0).1) ((hct _ hf0).2)) gX7_ship_X7_shipCandidates rfl rfl (by decide +kernel) ⟨by decide, by decide⟩ ck_1 rfl rfl (Nat.le_of_ble_eq_true rfl) ⟨by decide, by decide⟩ (fun _ h => h.elim) ?_
    rintro _ _ ⟨rfl, rfl⟩
    refine z_iret X rfl rfl (Nat.le_of_ble_eq_true rfl) (Nat.le_of_ble_eq_true rfl) dX7_ship_34 ?_
    exact ⟨_, rfl, ⟨hf0, hg0⟩, hz1, (zb_n0.mp c_15), rfl, rfl⟩
  · skip
    exact z_throwSW X hl0 (cls := "java/lang/UnsupportedOperationException") (text := "the order has too few candidates") (ik := 287) (is := 289) (ic := 291) (by decide +kernel) (by decide +kernel) (by decide +kernel) rfl dX7_ship_18 dX7_ship_21 dX7_ship_22 dX7_ship_25 dX7_ship_28 (by decide) (by decide) ⟨by decide, by decide⟩ rfl (Or.inr (Or.inr (⟨rfl, ⟨hf0, hg0⟩, hz1, zb_0.mp (by first | exact c_15 | exact Classical.not_not.mp c_15)⟩)))

set_option maxRecDepth 100000 in
set_option maxHeartbeats 4000000 in
theorem c_X7_settleDueOrders (l : Launch) (n : Nat → Nat) (i x : Nat → Nat → Int32) (lm : Nat → Nat → Int64) (y : Nat → Nat → Nat) (ol : Int64) (od : UInt64) (hW : cW n i y) (hct : ∀ o, o < n 8 → cl (i 137 o) ≤ 8 ∧ i 137 o = nI (cl (i 137 o))) : zS l yX7_settleDueOrders wsX7_settleDueOrders 11 204 0 0 [.ref 1] (cmm n i x lm y ol od) (zpi (fun q M1 => q = (c_due (n 7) (i, x, 0) (n 8)).2.2 ∧ M1 = cmm n (c_due (n 7) (i, x, 0) (n 8)).1 (c_due (n 7) (i, x, 0) (n 8)).2.1 lm y ol od)) zno := by
  refine z_intro (cc := cX7_settleDueOrders) (maxL := 4) (ret := (some .int)) (by decide +kernel) rfl (Nat.le_of_ble_eq_true rfl) ?_
  have hlk_22 : Cond.fieldLink RX7 22 "ColdStore" "orders" "Ljava/util/ArrayList;" ∈ wsX7_settleDueOrders := by decide +kernel
  have hlk_269 : Cond.fieldLink RX7 269 "ColdStore$Order" "status" "C" ∈ wsX7_settleDueOrders := by decide +kernel
  have hlk_370 : Cond.fieldLink RX7 370 "ColdStore$Order" "due" "I" ∈ wsX7_settleDueOrders := by decide +kernel
  have hlk_39 : Cond.fieldLink RX7 39 "ColdStore" "time" "I" ∈ wsX7_settleDueOrders := by decide +kernel
  intro g X
  show zE g 4 0 [(0, .ref 1)] [] (cmm n i x lm y ol od) 0 0
  obtain ⟨⟨hn0, hn1, hn2, hn3⟩, ⟨hb5, hb6, hb7, hb8⟩, hp9, hs9, ho9⟩ := hW
  refine z_iconst (v := 0) X dX7_settleDueOrders_0 (by decide) ?_
  refine z_istore_n (ls' := [(1, .int 0), (0, .ref 1)]) X dX7_settleDueOrders_1 rfl (by decide) rfl ?_
  refine z_iconst (v := 0) X dX7_settleDueOrders_2 (by decide) ?_
  refine z_istore_n (ls' := [(2, .int 0), (1, .int 0), (0, .ref 1)]) X dX7_settleDueOrders_3 rfl (by decide) rfl ?_
  have hloop4 : ∀ k : Nat, k ≤ n 8 → zE g 4 4 [(0, .ref 1), (1, .int ((c_due (n 7) (i, x, 0) k).2.2)), (2, .int (nI k))] [] (cmm n ((c_due (n 7) (i, x, 0) k).1) ((c_due (n 7) (i, x, 0) k).2.1) lm y ol od) 0 0 := by
    refine z_loop (fun k => zE g 4 4 [(0, .ref 1), (1, .int ((c_due (n 7) (i, x, 0) k).2.2)), (2, .int (nI k))] [] (cmm n ((c_due (n 7) (i, x, 0) k).1) ((c_due (n 7) (i, x, 0) k).2.1) lm y ol od) 0 0) (n 8) ?_ ?_
    · show zE g 4 4 [(0, .ref 1), (1, .int ((c_due (n 7) (i, x, 0) (n 8)).2.2)), (2, .int (nI (n 8)))] [] (cmm n ((c_due (n 7) (i, x, 0) (n 8)).1) ((c_due (n 7) (i, x, 0) (n 8)).2.1) lm y ol od) 0 0
      refine z_iload_n X 2 dX7_settleDueOrders_4 rfl rfl ?_
      refine z_aload_n X 0 dX7_settleDueOrders_5 rfl rfl ?_
      refine z_getR (ci := 10) (j := 3) (o' := 98) X dX7_settleDueOrders_6 ck_1 rfl (by decide) hlk_22 (Or.inl rfl) (fun _ => rfl) (cr_1_3) ?_
      refine z_callVi (As := []) (rest := [.int (nI (n 8))]) (n1 := 0) (ci := 2) X dX7_settleDueOrders_9 (c_size3 l _ _ _ _ _ _ _) gX7_settleDueOrders_Jx4a65c_size_8abf5 rfl rfl (by decide +kernel) ⟨by decide, by decide⟩ (ck_2 (j := 3) (by decide)) rfl rfl (Nat.le_of_ble_eq_true rfl) ⟨by decide, by decide⟩ (fun _ h => h.elim) ?_
      rintro _ _ ⟨rfl, rfl⟩
      refine z_icmp_ge X 79 dX7_settleDueOrders_12 (by decide) (fun c_12 => ?_) (fun c_12 => ?_)
      · skip
        refine z_iload_n X 1 dX7_settleDueOrders_79 rfl rfl ?_
        refine z_iret X rfl rfl (Nat.le_of_ble_eq_true rfl) (Nat.le_of_ble_eq_true rfl) dX7_settleDueOrders_80 ?_
        exact ⟨_, rfl, rfl, rfl⟩
      · exact absurd (Int32.le_refl _) c_12
    · intro k hk_4 ih4
      have ih4 : zE g 4 4 [(0, .ref 1), (1, .int ((c_due (n 7) (i, x, 0) (k + 1)).2.2)), (2, .int (nI (k + 1)))] [] (cmm n ((c_due (n 7) (i, x, 0) (k + 1)).1) ((c_due (n 7) (i, x, 0) (k + 1)).2.1) lm y ol od) 0 0 := ih4
      show zE g 4 4 [(0, .ref 1), (1, .int ((c_due (n 7) (i, x, 0) k).2.2)), (2, .int (nI k))] [] (cmm n ((c_due (n 7) (i, x, 0) k).1) ((c_due (n 7) (i, x, 0) k).2.1) lm y ol od) 0 0
      refine z_iload_n X 2 dX7_settleDueOrders_4 rfl rfl ?_
      refine z_aload_n X 0 dX7_settleDueOrders_5 rfl rfl ?_
      refine z_getR (ci := 10) (j := 3) (o' := 98) X dX7_settleDueOrders_6 ck_1 rfl (by decide) hlk_22 (Or.inl rfl) (fun _ => rfl) (cr_1_3) ?_
      refine z_callVi (As := []) (rest := [.int (nI k)]) (n1 := 0) (ci := 2) X dX7_settleDueOrders_9 (c_size3 l _ _ _ _ _ _ _) gX7_settleDueOrders_Jx4a65c_size_8abf5 rfl rfl (by decide +kernel) ⟨by decide, by decide⟩ (ck_2 (j := 3) (by decide)) rfl rfl (Nat.le_of_ble_eq_true rfl) ⟨by decide, by decide⟩ (fun _ h => h.elim) ?_
      rintro _ _ ⟨rfl, rfl⟩
      refine z_icmp_ge X 79 dX7_settleDueOrders_12 (by decide) (fun c_12 => ?_) (fun c_12 => ?_)
      · exact absurd c_12 (nI_ge hk_4 (by omega))
      · skip
        refine z_aload_n X 0 dX7_settleDueOrders_15 rfl rfl ?_
        refine z_getR (ci := 10) (j := 3) (o' := 98) X dX7_settleDueOrders_16 ck_1 rfl (by decide) hlk_22 (Or.inl rfl) (fun _ => rfl) (cr_1_3) ?_
        refine z_iload_n X 2 dX7_settleDueOrders_19 rfl rfl ?_
        refine z_callVr (As := [.int (nI k)]) (rest := []) (n1 := 1) (ci := 2) X dX7_settleDueOrders_20 (c_get3 l _ _ _ _ _ _ _ k (by omega) (by omega)) gX7_settleDueOrders_Jx4a65c_get_915e3 rfl rfl (by decide +kernel) ⟨by decide, by decide⟩ (ck_2 (j := 3) (by decide)) rfl rfl (Nat.le_of_ble_eq_true rfl) ⟨by decide, by decide⟩ (fun _ h => h.elim) ?_
        rintro _ _ ⟨rfl, rfl⟩
        refine z_ckc (ci := 6) X dX7_settleDueOrders_23 (by decide +kernel) (ck_13 (by omega)) rfl ?_
        refine z_astore_n (ls' := [(3, .ref (32 * k + 13)), (0, .ref 1), (1, .int ((c_due (n 7) (i, x, 0) k).2.2)), (2, .int (nI k))]) X dX7_settleDueOrders_26 rfl (by decide) rfl ?_
        refine z_aload_n X 0 dX7_settleDueOrders_27 rfl rfl ?_
        refine z_getI (ci := 6) (j := 4) (x := ((c_due (n 7) (i, x, 0) k).1) 140 k) X dX7_settleDueOrders_28 (ck_13 (by omega)) rfl (by decide) hlk_269 (Or.inl rfl) (fun _ => rfl) (ci_13_4) ?_
        refine z_bipush (v := 111) X dX7_settleDueOrders_31 (by decide) ?_
        refine z_icmp_ne X 73 dX7_settleDueOrders_33 (by decide) (fun c_33 => ?_) (fun c_33 => ?_)
        · skip
          have hdu : c_due (n 7) (i, x, 0) (k + 1) = _ := (show c_due1 (n 7) k (c_due (n 7) (i, x, 0) k) = _ from if_neg (fun e => c_33 e.1))
          refine z_iinc (ls' := [(2, .int (nI (k + 1))), (3, .ref (32 * k + 13)), (0, .ref 1), (1, .int ((c_due (n 7) (i, x, 0) k).2.2))]) (v := nI (k + 1)) X 3 dX7_settleDueOrders_73 rfl (nI_1 _) (by decide) rfl ?_
          refine z_goto (tgt := 4) X dX7_settleDueOrders_76 (by decide) ?_
          refine z_sub (ls' := [(0, .ref 1), (1, .int ((c_due (n 7) (i, x, 0) k).2.2)), (2, .int (nI (k + 1)))]) [2, 3, 0] rfl ?_
          refine z_lse (ls' := [(0, .ref 1), (1, .int ((c_due (n 7) (i, x, 0) (k + 1)).2.2)), (2, .int (nI (k + 1)))]) (by rw [hdu]) ?_
          refine z_mem (M' := cmm n ((c_due (n 7) (i, x, 0) (k + 1)).1) ((c_due (n 7) (i, x, 0) (k + 1)).2.1) lm y ol od) (by rw [hdu]) ?_
          exact ih4
        · skip
          refine z_aload_n X 0 dX7_settleDueOrders_36 rfl rfl ?_
          refine z_getI (ci := 6) (j := 3) (x := ((c_due (n 7) (i, x, 0) k).1) 139 k) X dX7_settleDueOrders_37 (ck_13 (by omega)) rfl (by decide) hlk_370 (Or.inl rfl) (fun _ => rfl) (ci_13_3) ?_
          refine z_aload_n X 1 dX7_settleDueOrders_40 rfl rfl ?_
          refine z_getI (ci := 10) (j := 6) (x := ((c_due (n 7) (i, x, 0) k).1) 1 0) X dX7_settleDueOrders_41 ck_1 rfl (by decide) hlk_39 (Or.inl rfl) (fun _ => rfl) (ci_1_6) ?_
          refine z_icmp_ne X 73 dX7_settleDueOrders_44 (by decide) (fun c_44 => ?_) (fun c_44 => ?_)
          · skip
            have hdu : c_due (n 7) (i, x, 0) (k + 1) = _ := (show c_due1 (n 7) k (c_due (n 7) (i, x, 0) k) = _ from if_neg (fun e => c_44 e.2))
            refine z_iinc (ls' := [(2, .int (nI (k + 1))), (3, .ref (32 * k + 13)), (0, .ref 1), (1, .int ((c_due (n 7) (i, x, 0) k).2.2))]) (v := nI (k + 1)) X 3 dX7_settleDueOrders_73 rfl (nI_1 _) (by decide) rfl ?_
            refine z_goto (tgt := 4) X dX7_settleDueOrders_76 (by decide) ?_
            refine z_sub (ls' := [(0, .ref 1), (1, .int ((c_due (n 7) (i, x, 0) k).2.2)), (2, .int (nI (k + 1)))]) [2, 3, 0] rfl ?_
            refine z_lse (ls' := [(0, .ref 1), (1, .int ((c_due (n 7) (i, x, 0) (k + 1)).2.2)), (2, .int (nI (k + 1)))]) (by rw [hdu]) ?_
            refine z_mem (M' := cmm n ((c_due (n 7) (i, x, 0) (k + 1)).1) ((c_due (n 7) (i, x, 0) (k + 1)).2.1) lm y ol od) (by rw [hdu]) ?_
            exact ih4
          · skip
            refine z_aload_n X 1 dX7_settleDueOrders_47 rfl rfl ?_
            refine z_aload_n X 0 dX7_settleDueOrders_48 rfl rfl ?_
            refine z_callVi (As := [.ref (32 * k + 13)]) (rest := []) (n1 := 1) (ci := 10) X dX7_settleDueOrders_49 (c_X7_canBeShipped l n ((c_due (n 7) (i, x, 0) k).1) ((c_due (n 7) (i, x, 0) k).2.1) lm y ol od (cW.of ⟨⟨hn0, hn1, hn2, hn3⟩, ⟨hb5, hb6, hb7, hb8⟩, hp9, hs9, ho9⟩ (fun b => ⟨c_due_o (by decide) (by decide) (by decide) _, c_due_o (by decide) (by decide) (by decide) _, c_due_o (by decide) (by decide) (by decide) _⟩)) k (by omega)) gX7_settleDueOrders_X7_canBeShipped rfl rfl (by decide +kernel) ⟨by decide, by decide⟩ ck_1 rfl rfl (Nat.le_of_ble_eq_true rfl) ⟨by decide, by decide⟩ (fun _ h => h.elim) ?_
            rintro _ _ ⟨rfl, rfl⟩
            refine z_if_eq X 67 dX7_settleDueOrders_52 (by decide) (fun c_52 => ?_) (fun c_52 => ?_)
            · skip
              refine z_aload_n X 0 dX7_settleDueOrders_67 rfl rfl ?_
              refine z_bipush (v := 109) X dX7_settleDueOrders_68 (by decide) ?_
              refine z_putI (ci := 6) (j := 4) X dX7_settleDueOrders_70 (ck_13 (by omega)) rfl (by decide) hlk_269 (Or.inl rfl) (Or.inl rfl) (fun _ => rfl) (rfl) rfl ?_
              obtain ⟨i_1, hi_1⟩ : ∃ q, q = zup ((c_due (n 7) (i, x, 0) k).1) 140 k 109 := ⟨_, rfl⟩
              refine z_mem (M' := cmm n i_1 ((c_due (n 7) (i, x, 0) k).2.1) lm y ol od) (by rw [hi_1]; exact cw_i 13 4 140) ?_
              have hdu : c_due (n 7) (i, x, 0) (k + 1) = _ := (show c_due1 (n 7) k (c_due (n 7) (i, x, 0) k) = _ from (if_pos ⟨c_33, c_44⟩).trans (if_neg (zb_0.mp c_52)))
              refine z_iinc (ls' := [(2, .int (nI (k + 1))), (3, .ref (32 * k + 13)), (0, .ref 1), (1, .int ((c_due (n 7) (i, x, 0) k).2.2))]) (v := nI (k + 1)) X 3 dX7_settleDueOrders_73 rfl (nI_1 _) (by decide) rfl ?_
              refine z_goto (tgt := 4) X dX7_settleDueOrders_76 (by decide) ?_
              refine z_sub (ls' := [(0, .ref 1), (1, .int ((c_due (n 7) (i, x, 0) k).2.2)), (2, .int (nI (k + 1)))]) [2, 3, 0] rfl ?_
              refine z_lse (ls' := [(0, .ref 1), (1, .int ((c_due (n 7) (i, x, 0) (k + 1)).2.2)), (2, .int (nI (k + 1)))]) (by rw [hdu]) ?_
              refine z_mem (M' := cmm n ((c_due (n 7) (i, x, 0) (k + 1)).1) ((c_due (n 7) (i, x, 0) (k + 1)).2.1) lm y ol od) (by rw [hi_1]; rw [hdu]) ?_
              exact ih4
            · skip
              refine z_aload_n X 1 dX7_settleDueOrders_55 rfl rfl ?_
              refine z_aload_n X 0 dX7_settleDueOrders_56 rfl rfl ?_
              refine z_callVi (As := [.ref (32 * k + 13)]) (rest := []) (n1 := 1) (ci := 10) X dX7_settleDueOrders_57 (c_X7_shipCandidates l n ((c_due (n 7) (i, x, 0) k).1) ((c_due (n 7) (i, x, 0) k).2.1) lm y ol od (cW.of ⟨⟨hn0, hn1, hn2, hn3⟩, ⟨hb5, hb6, hb7, hb8⟩, hp9, hs9, ho9⟩ (fun b => ⟨c_due_o (by decide) (by decide) (by decide) _, c_due_o (by decide) (by decide) (by decide) _, c_due_o (by decide) (by decide) (by decide) _⟩)) k (by omega) (cl (((c_due (n 7) (i, x, 0) k).1) 137 k)) (by rw [c_due_o (by decide) (by decide) (by decide)]; exact (hct _ (by omega)).1) (by rw [c_due_o (by decide) (by decide) (by decide)]; exact (hct _ (by omega)).2)) gX7_settleDueOrders_X7_shipCandidates rfl rfl (by decide +kernel) ⟨by decide, by decide⟩ ck_1 rfl rfl (Nat.le_of_ble_eq_true rfl) ⟨by decide, by decide⟩ (fun _ h => h.elim) ?_
              rintro _ _ ⟨rfl, rfl⟩
              refine z_pop X dX7_settleDueOrders_60 rfl ?_
              refine z_iinc (ls' := [(1, .int (((c_due (n 7) (i, x, 0) k).2.2) + 1)), (3, .ref (32 * k + 13)), (0, .ref 1), (2, .int (nI k))]) (v := ((c_due (n 7) (i, x, 0) k).2.2) + 1) X 2 dX7_settleDueOrders_61 rfl (rfl) (by decide) rfl ?_
              refine z_goto (tgt := 73) X dX7_settleDueOrders_64 (by decide) ?_
              have hdu : c_due (n 7) (i, x, 0) (k + 1) = _ := (show c_due1 (n 7) k (c_due (n 7) (i, x, 0) k) = _ from (if_pos ⟨c_33, c_44⟩).trans (if_pos (zb_n0.mp c_52)))
              refine z_iinc (ls' := [(2, .int (nI (k + 1))), (1, .int (((c_due (n 7) (i, x, 0) k).2.2) + 1)), (3, .ref (32 * k + 13)), (0, .ref 1)]) (v := nI (k + 1)) X 3 dX7_settleDueOrders_73 rfl (nI_1 _) (by decide) rfl ?_
              refine z_goto (tgt := 4) X dX7_settleDueOrders_76 (by decide) ?_
              refine z_sub (ls' := [(0, .ref 1), (1, .int (((c_due (n 7) (i, x, 0) k).2.2) + 1)), (2, .int (nI (k + 1)))]) [3, 1, 0] rfl ?_
              refine z_lse (ls' := [(0, .ref 1), (1, .int ((c_due (n 7) (i, x, 0) (k + 1)).2.2)), (2, .int (nI (k + 1)))]) (by rw [hdu]) ?_
              refine z_mem (M' := cmm n ((c_due (n 7) (i, x, 0) (k + 1)).1) ((c_due (n 7) (i, x, 0) (k + 1)).2.1) lm y ol od) (by rw [hdu]) ?_
              exact ih4
  refine z_sub (ls' := [(0, .ref 1), (1, .int 0), (2, .int 0)]) [2, 1, 0] rfl ?_
  refine z_lse (ls' := [(0, .ref 1), (1, .int ((c_due (n 7) (i, x, 0) 0).2.2)), (2, .int (nI 0))]) (rfl) ?_
  refine z_mem (M' := cmm n ((c_due (n 7) (i, x, 0) 0).1) ((c_due (n 7) (i, x, 0) 0).2.1) lm y ol od) (rfl) ?_
  exact hloop4 0 (Nat.zero_le _)
