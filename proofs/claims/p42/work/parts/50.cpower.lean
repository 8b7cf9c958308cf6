/-! PART 50: power and ships of the class -/
def c_nw (i x : Nat → Nat → Int32) : Nat → Option Nat
  | 0 => none
  | k + 1 => match c_nw i x k with
    | none => if ¬ x 0 k = 0 then some k else none
    | some b => if ¬ x 0 k = 0 ∧ ¬ i 110 k - i 106 k ≤ i 110 b - i 106 b then some k else some b
theorem c_nw_n {i x : Nat → Nat → Int32} {k : Nat} (h : c_nw i x k = none) : c_nw i x (k + 1) = if ¬ x 0 k = 0 then some k else none := by
  show (match c_nw i x k with
    | none => if ¬ x 0 k = 0 then some k else none
    | some b => if ¬ x 0 k = 0 ∧ ¬ i 110 k - i 106 k ≤ i 110 b - i 106 b then some k else some b) = _
  rw [h]
theorem c_nw_s {i x : Nat → Nat → Int32} {k b : Nat} (h : c_nw i x k = some b) : c_nw i x (k + 1) = if ¬ x 0 k = 0 ∧ ¬ i 110 k - i 106 k ≤ i 110 b - i 106 b then some k else some b := by
  show (match c_nw i x k with
    | none => if ¬ x 0 k = 0 then some k else none
    | some b => if ¬ x 0 k = 0 ∧ ¬ i 110 k - i 106 k ≤ i 110 b - i 106 b then some k else some b) = _
  rw [h]
theorem c_nw_lt {i x : Nat → Nat → Int32} : ∀ {k b : Nat}, c_nw i x k = some b → b < k ∧ ¬ x 0 b = 0
  | 0, _, h => nomatch h
  | k + 1, b, h => by
    cases hk : c_nw i x k with
    | none =>
      rw [c_nw_n hk] at h
      split at h
      · rename_i h1; cases h; exact ⟨by omega, h1⟩
      · cases h
    | some c =>
      rw [c_nw_s hk] at h
      have := c_nw_lt hk
      split at h
      · rename_i h1; cases h; exact ⟨by omega, h1.1⟩
      · cases h; exact ⟨by omega, this.2⟩
def c_gp0 (i : Nat → Nat → Int32) : Nat → Nat → Nat → Int32
  | 0 => i
  | k + 1 => zup (c_gp0 i k) 112 k 0
def c_gp0X (i x : Nat → Nat → Int32) : Nat → Nat → Nat → Int32
  | 0 => x
  | k + 1 => zup (c_gp0X i x k) 0 k (i 111 k)
theorem c_gp0_o {i : Nat → Nat → Int32} {a b : Nat} (h : a ≠ 112) : ∀ k, c_gp0 i k a b = i a b
  | 0 => rfl
  | k + 1 => (zup_n (by omega)).trans (c_gp0_o h k)
abbrev cGS : Type := (Nat → Nat → Int32) × (Nat → Nat → Int32) × Int32
/-- power is given to one room more, if one waits -/
def c_gv1 (nr : Nat) (s : cGS) : cGS := match c_nw s.1 s.2.1 nr with
  | none => s
  | some r => if s.1 1 23 < s.2.2 + s.1 104 r then (s.1, zup s.2.1 0 r 0, s.2.2) else (zup s.1 112 r 1, zup s.2.1 0 r 0, s.2.2 + s.1 104 r)
def c_gv (nr : Nat) (s : cGS) : Nat → cGS
  | 0 => s
  | k + 1 => c_gv1 nr (c_gv nr s k)
theorem c_gv1_n {nr : Nat} {s : cGS} (h : c_nw s.1 s.2.1 nr = none) : c_gv1 nr s = s := by unfold c_gv1; rw [h]
theorem c_gv1_s {nr : Nat} {s : cGS} {r : Nat} (h : c_nw s.1 s.2.1 nr = some r) : c_gv1 nr s = if s.1 1 23 < s.2.2 + s.1 104 r then (s.1, zup s.2.1 0 r 0, s.2.2) else (zup s.1 112 r 1, zup s.2.1 0 r 0, s.2.2 + s.1 104 r) := by unfold c_gv1; rw [h]
theorem c_gv_n {nr : Nat} {s : cGS} {k : Nat} (h : c_nw (c_gv nr s k).1 (c_gv nr s k).2.1 nr = none) : ∀ m, k ≤ m → c_gv nr s m = c_gv nr s k
  | 0, hm => by rw [show k = 0 by omega]
  | m + 1, hm => by
    rcases Nat.lt_or_ge m k with q | q
    · rw [show k = m + 1 by omega]
    · have e := c_gv_n h m q
      show c_gv1 nr (c_gv nr s m) = _
      rw [e]
      exact c_gv1_n h
def c_give (i x : Nat → Nat → Int32) (nr : Nat) : cGS := c_gv nr (c_gp0 i nr, c_gp0X i x nr, 0) nr
theorem c_gv1_o {nr : Nat} {s : cGS} {a b : Nat} (h : a ≠ 112) : (c_gv1 nr s).1 a b = s.1 a b := by
  unfold c_gv1
  split
  · rfl
  · split
    · rfl
    · exact zup_n (by omega)
theorem c_gv_a {nr : Nat} {s : cGS} {a b : Nat} (h : a ≠ 112) : ∀ k, (c_gv nr s k).1 a b = s.1 a b
  | 0 => rfl
  | k + 1 => (c_gv1_o h).trans (c_gv_a h k)
theorem c_gv_o {i x : Nat → Nat → Int32} {nr m : Nat} (h1 : 131 ≠ 112) (h2 : 132 ≠ 112) (h3 : 136 ≠ 112) (b k : Nat) : (c_gv nr (c_gp0 i m, x, 0) k).1 131 b = i 131 b ∧ (c_gv nr (c_gp0 i m, x, 0) k).1 132 b = i 132 b ∧ (c_gv nr (c_gp0 i m, x, 0) k).1 136 b = i 136 b :=
  ⟨(c_gv_a h1 k).trans (c_gp0_o h1 m), (c_gv_a h2 k).trans (c_gp0_o h2 m), (c_gv_a h3 k).trans (c_gp0_o h3 m)⟩
set_option maxRecDepth 100000 in
set_option maxHeartbeats 4000000 in
theorem c_X7_nextWaitingRoom (l : Launch) (n : Nat → Nat) (i x : Nat → Nat → Int32) (lm : Nat → Nat → Int64) (y : Nat → Nat → Nat) (ol : Int64) (od : UInt64) (hW : cW n i y) : zS l yX7_nextWaitingRoom wsX7_nextWaitingRoom 9 154 0 0 [.ref 1] (cmm n i x lm y ol od) (zpq (fun q M1 => q = (c_nw i x (n 5)).map (fun b => 32 * b + 8) ∧ M1 = cmm n i x lm y ol od)) zno := by
  refine z_intro (cc := cX7_nextWaitingRoom) (maxL := 4) (ret := (some (.object "ColdStore$Room"))) (by decide +kernel) rfl (Nat.le_of_ble_eq_true rfl) ?_
  have hlk_10 : Cond.fieldLink RX7 10 "ColdStore" "rooms" "Ljava/util/ArrayList;" ∈ wsX7_nextWaitingRoom := by decide +kernel
  have hlk_357 : Cond.fieldLink RX7 357 "ColdStore$Room" "waiting" "Z" ∈ wsX7_nextWaitingRoom := by decide +kernel
  intro g X
  show zE g 4 0 [(0, .ref 1)] [] (cmm n i x lm y ol od) 0 0
  obtain ⟨⟨hn0, hn1, hn2, hn3⟩, ⟨hb5, hb6, hb7, hb8⟩, hp9, hs9, ho9⟩ := hW
  refine z_null X dX7_nextWaitingRoom_0 ?_
  refine z_astore_nN (ls' := [(1, .null), (0, .ref 1)]) X dX7_nextWaitingRoom_1 rfl (by decide) rfl ?_
  refine z_iconst (v := 0) X dX7_nextWaitingRoom_2 (by decide) ?_
  refine z_istore_n (ls' := [(2, .int 0), (1, .null), (0, .ref 1)]) X dX7_nextWaitingRoom_3 rfl (by decide) rfl ?_
  have hloop4 : ∀ k : Nat, k ≤ n 5 → zE g 4 4 [(0, .ref 1), (1, va_rf ((c_nw i x k).map (fun b => 32 * b + 8))), (2, .int (nI k))] [] (cmm n i x lm y ol od) 0 0 := by
    refine z_loop (fun k => zE g 4 4 [(0, .ref 1), (1, va_rf ((c_nw i x k).map (fun b => 32 * b + 8))), (2, .int (nI k))] [] (cmm n i x lm y ol od) 0 0) (n 5) ?_ ?_
    · show zE g 4 4 [(0, .ref 1), (1, va_rf ((c_nw i x (n 5)).map (fun b => 32 * b + 8))), (2, .int (nI (n 5)))] [] (cmm n i x lm y ol od) 0 0
      refine z_iload_n X 2 dX7_nextWaitingRoom_4 rfl rfl ?_
      refine z_aload_n X 0 dX7_nextWaitingRoom_5 rfl rfl ?_
      refine z_getR (ci := 10) (j := 0) (o' := 2) X dX7_nextWaitingRoom_6 ck_1 rfl (by decide) hlk_10 (Or.inl rfl) (fun _ => rfl) (cr_1_0) ?_
      refine z_callVi (As := []) (rest := [.int (nI (n 5))]) (n1 := 0) (ci := 2) X dX7_nextWaitingRoom_9 (c_size0 l _ _ _ _ _ _ _) gX7_nextWaitingRoom_Jx4a65c_size_8abf5 rfl rfl (by decide +kernel) ⟨by decide, by decide⟩ (ck_2 (j := 0) (by decide)) rfl rfl (Nat.le_of_ble_eq_true rfl) ⟨by decide, by decide⟩ (fun _ h => h.elim) ?_
      rintro _ _ ⟨rfl, rfl⟩
      refine z_icmp_ge X 57 dX7_nextWaitingRoom_12 (by decide) (fun c_12 => ?_) (fun c_12 => ?_)
      · skip
        rcases hopt : c_nw i x (n 5) with _ | b
        · refine z_lse (ls' := [(0, .ref 1), (1, .null), (2, .int (nI (n 5)))]) (by first | rfl | (rw [hopt]; rfl)) ?_
          refine z_aload_nN X 1 dX7_nextWaitingRoom_57 rfl rfl ?_
          refine z_aret X rfl (Or.inl ⟨_, rfl⟩) (Or.inl rfl) (Nat.le_of_ble_eq_true rfl) (Nat.le_of_ble_eq_true rfl) dX7_nextWaitingRoom_58 ?_
          exact ⟨none, rfl, by rw [hopt]; rfl, rfl⟩
        · refine z_lse (ls' := [(0, .ref 1), (1, .ref (32 * b + 8)), (2, .int (nI (n 5)))]) (by first | rfl | (rw [hopt]; rfl)) ?_
          refine z_aload_n X 1 dX7_nextWaitingRoom_57 rfl rfl ?_
          refine z_aret X rfl (Or.inl ⟨_, rfl⟩) (Or.inr ⟨_, rfl⟩) (Nat.le_of_ble_eq_true rfl) (Nat.le_of_ble_eq_true rfl) dX7_nextWaitingRoom_58 ?_
          exact ⟨some _, rfl, by rw [hopt]; rfl, rfl⟩
      · exact absurd (Int32.le_refl _) c_12
    · intro k hk_4 ih4
      have ih4 : zE g 4 4 [(0, .ref 1), (1, va_rf ((c_nw i x (k + 1)).map (fun b => 32 * b + 8))), (2, .int (nI (k + 1)))] [] (cmm n i x lm y ol od) 0 0 := ih4
      show zE g 4 4 [(0, .ref 1), (1, va_rf ((c_nw i x k).map (fun b => 32 * b + 8))), (2, .int (nI k))] [] (cmm n i x lm y ol od) 0 0
      refine z_iload_n X 2 dX7_nextWaitingRoom_4 rfl rfl ?_
      rcases hopt : c_nw i x k with _ | b
      · refine z_lse (ls' := [(0, .ref 1), (1, .null), (2, .int (nI k))]) (by first | rfl | (rw [hopt]; rfl)) ?_
        refine z_aload_n X 0 dX7_nextWaitingRoom_5 rfl rfl ?_
        refine z_getR (ci := 10) (j := 0) (o' := 2) X dX7_nextWaitingRoom_6 ck_1 rfl (by decide) hlk_10 (Or.inl rfl) (fun _ => rfl) (cr_1_0) ?_
        refine z_callVi (As := []) (rest := [.int (nI k)]) (n1 := 0) (ci := 2) X dX7_nextWaitingRoom_9 (c_size0 l _ _ _ _ _ _ _) gX7_nextWaitingRoom_Jx4a65c_size_8abf5 rfl rfl (by decide +kernel) ⟨by decide, by decide⟩ (ck_2 (j := 0) (by decide)) rfl rfl (Nat.le_of_ble_eq_true rfl) ⟨by decide, by decide⟩ (fun _ h => h.elim) ?_
        rintro _ _ ⟨rfl, rfl⟩
        refine z_icmp_ge X 57 dX7_nextWaitingRoom_12 (by decide) (fun c_12 => ?_) (fun c_12 => ?_)
        · exact absurd c_12 (nI_ge hk_4 (by omega))
        · skip
          refine z_aload_n X 0 dX7_nextWaitingRoom_15 rfl rfl ?_
          refine z_getR (ci := 10) (j := 0) (o' := 2) X dX7_nextWaitingRoom_16 ck_1 rfl (by decide) hlk_10 (Or.inl rfl) (fun _ => rfl) (cr_1_0) ?_
          refine z_iload_n X 2 dX7_nextWaitingRoom_19 rfl rfl ?_
          refine z_callVr (As := [.int (nI k)]) (rest := []) (n1 := 1) (ci := 2) X dX7_nextWaitingRoom_20 (c_get0 l _ _ _ _ _ _ _ k (by omega) (by omega)) gX7_nextWaitingRoom_Jx4a65c_get_915e3 rfl rfl (by decide +kernel) ⟨by decide, by decide⟩ (ck_2 (j := 0) (by decide)) rfl rfl (Nat.le_of_ble_eq_true rfl) ⟨by decide, by decide⟩ (fun _ h => h.elim) ?_
          rintro _ _ ⟨rfl, rfl⟩
          refine z_ckc (ci := 8) X dX7_nextWaitingRoom_23 (by decide +kernel) (ck_8 (by omega)) rfl ?_
          refine z_astore_n (ls' := [(3, .ref (32 * k + 8)), (0, .ref 1), (1, .null), (2, .int (nI k))]) X dX7_nextWaitingRoom_26 rfl (by decide) rfl ?_
          refine z_aload_n X 0 dX7_nextWaitingRoom_27 rfl rfl ?_
          refine z_getI (ci := 8) (j := 12) (x := x 0 k) X dX7_nextWaitingRoom_28 (ck_8 (by omega)) rfl (by decide) hlk_357 (Or.inl rfl) (fun _ => rfl) (ci_8_12) ?_
          refine z_if_eq X 51 dX7_nextWaitingRoom_31 (by decide) (fun c_31 => ?_) (fun c_31 => ?_)
          · skip
            refine z_iinc (ls' := [(2, .int (nI (k + 1))), (3, .ref (32 * k + 8)), (0, .ref 1), (1, .null)]) (v := nI (k + 1)) X 3 dX7_nextWaitingRoom_51 rfl (nI_1 _) (by decide) rfl ?_
            refine z_goto (tgt := 4) X dX7_nextWaitingRoom_54 (by decide) ?_
            refine z_sub (ls' := [(0, .ref 1), (1, .null), (2, .int (nI (k + 1)))]) [2, 3, 0] rfl ?_
            refine z_lse (ls' := [(0, .ref 1), (1, va_rf ((c_nw i x (k + 1)).map (fun b => 32 * b + 8))), (2, .int (nI (k + 1)))]) (by rw [c_nw_n hopt, if_neg (fun e => e c_31)]; rfl) ?_
            exact ih4
          · skip
            refine z_aload_nN X 2 dX7_nextWaitingRoom_34 rfl rfl ?_
            refine z_ifnullN X 49 dX7_nextWaitingRoom_35 (by decide) ?_
            refine z_aload_n X 0 dX7_nextWaitingRoom_49 rfl rfl ?_
            refine z_astore_n (ls' := [(1, .ref (32 * k + 8)), (3, .ref (32 * k + 8)), (0, .ref 1), (2, .int (nI k))]) X dX7_nextWaitingRoom_50 rfl (by decide) rfl ?_
            refine z_iinc (ls' := [(2, .int (nI (k + 1))), (1, .ref (32 * k + 8)), (3, .ref (32 * k + 8)), (0, .ref 1)]) (v := nI (k + 1)) X 3 dX7_nextWaitingRoom_51 rfl (nI_1 _) (by decide) rfl ?_
            refine z_goto (tgt := 4) X dX7_nextWaitingRoom_54 (by decide) ?_
            refine z_sub (ls' := [(0, .ref 1), (1, .ref (32 * k + 8)), (2, .int (nI (k + 1)))]) [3, 1, 0] rfl ?_
            refine z_lse (ls' := [(0, .ref 1), (1, va_rf ((c_nw i x (k + 1)).map (fun b => 32 * b + 8))), (2, .int (nI (k + 1)))]) (by rw [c_nw_n hopt, if_pos c_31]; rfl) ?_
            exact ih4
      · refine z_lse (ls' := [(0, .ref 1), (1, .ref (32 * b + 8)), (2, .int (nI k))]) (by first | rfl | (rw [hopt]; rfl)) ?_
        have hb9 := (c_nw_lt hopt).1
        refine z_aload_n X 0 dX7_nextWaitingRoom_5 rfl rfl ?_
        refine z_getR (ci := 10) (j := 0) (o' := 2) X dX7_nextWaitingRoom_6 ck_1 rfl (by decide) hlk_10 (Or.inl rfl) (fun _ => rfl) (cr_1_0) ?_
        refine z_callVi (As := []) (rest := [.int (nI k)]) (n1 := 0) (ci := 2) X dX7_nextWaitingRoom_9 (c_size0 l _ _ _ _ _ _ _) gX7_nextWaitingRoom_Jx4a65c_size_8abf5 rfl rfl (by decide +kernel) ⟨by decide, by decide⟩ (ck_2 (j := 0) (by decide)) rfl rfl (Nat.le_of_ble_eq_true rfl) ⟨by decide, by decide⟩ (fun _ h => h.elim) ?_
        rintro _ _ ⟨rfl, rfl⟩
        refine z_icmp_ge X 57 dX7_nextWaitingRoom_12 (by decide) (fun c_12 => ?_) (fun c_12 => ?_)
        · exact absurd c_12 (nI_ge hk_4 (by omega))
        · skip
          refine z_aload_n X 0 dX7_nextWaitingRoom_15 rfl rfl ?_
          refine z_getR (ci := 10) (j := 0) (o' := 2) X dX7_nextWaitingRoom_16 ck_1 rfl (by decide) hlk_10 (Or.inl rfl) (fun _ => rfl) (cr_1_0) ?_
          refine z_iload_n X 2 dX7_nextWaitingRoom_19 rfl rfl ?_
          refine z_callVr (As := [.int (nI k)]) (rest := []) (n1 := 1) (ci := 2) X dX7_nextWaitingRoom_20 (c_get0 l _ _ _ _ _ _ _ k (by omega) (by omega)) gX7_nextWaitingRoom_Jx4a65c_get_915e3 rfl rfl (by decide +kernel) ⟨by decide, by decide⟩ (ck_2 (j := 0) (by decide)) rfl rfl (Nat.le_of_ble_eq_true rfl) ⟨by decide, by decide⟩ (fun _ h => h.elim) ?_
          rintro _ _ ⟨rfl, rfl⟩
          refine z_ckc (ci := 8) X dX7_nextWaitingRoom_23 (by decide +kernel) (ck_8 (by omega)) rfl ?_
          refine z_astore_n (ls' := [(3, .ref (32 * k + 8)), (0, .ref 1), (1, .ref (32 * b + 8)), (2, .int (nI k))]) X dX7_nextWaitingRoom_26 rfl (by decide) rfl ?_
          refine z_aload_n X 0 dX7_nextWaitingRoom_27 rfl rfl ?_
          refine z_getI (ci := 8) (j := 12) (x := x 0 k) X dX7_nextWaitingRoom_28 (ck_8 (by omega)) rfl (by decide) hlk_357 (Or.inl rfl) (fun _ => rfl) (ci_8_12) ?_
          refine z_if_eq X 51 dX7_nextWaitingRoom_31 (by decide) (fun c_31 => ?_) (fun c_31 => ?_)
          · skip
            refine z_iinc (ls' := [(2, .int (nI (k + 1))), (3, .ref (32 * k + 8)), (0, .ref 1), (1, .ref (32 * b + 8))]) (v := nI (k + 1)) X 3 dX7_nextWaitingRoom_51 rfl (nI_1 _) (by decide) rfl ?_
            refine z_goto (tgt := 4) X dX7_nextWaitingRoom_54 (by decide) ?_
            refine z_sub (ls' := [(0, .ref 1), (1, .ref (32 * b + 8)), (2, .int (nI (k + 1)))]) [2, 3, 0] rfl ?_
            refine z_lse (ls' := [(0, .ref 1), (1, va_rf ((c_nw i x (k + 1)).map (fun b => 32 * b + 8))), (2, .int (nI (k + 1)))]) (by rw [c_nw_s hopt, if_neg (fun e => e.1 c_31)]; rfl) ?_
            exact ih4
          · skip
            refine z_aload_n X 2 dX7_nextWaitingRoom_34 rfl rfl ?_
            refine z_ifnull X dX7_nextWaitingRoom_35 ?_
            refine z_aload_n X 0 dX7_nextWaitingRoom_38 rfl rfl ?_
            refine z_callVi (As := []) (rest := []) (n1 := 0) (ci := 8) X dX7_nextWaitingRoom_39 (c_X5_excess l n i x lm y ol od k (by omega)) gX7_nextWaitingRoom_X5_excess rfl rfl (by decide +kernel) ⟨by decide, by decide⟩ (ck_8 (by omega)) rfl rfl (Nat.le_of_ble_eq_true rfl) ⟨by decide, by decide⟩ (fun _ h => h.elim) ?_
            rintro _ _ ⟨rfl, rfl⟩
            refine z_aload_n X 2 dX7_nextWaitingRoom_42 rfl rfl ?_
            refine z_callVi (As := []) (rest := [.int (i 110 k - i 106 k)]) (n1 := 0) (ci := 8) X dX7_nextWaitingRoom_43 (c_X5_excess l n i x lm y ol od b (by omega)) gX7_nextWaitingRoom_X5_excess rfl rfl (by decide +kernel) ⟨by decide, by decide⟩ (ck_8 (by omega)) rfl rfl (Nat.le_of_ble_eq_true rfl) ⟨by decide, by decide⟩ (fun _ h => h.elim) ?_
            rintro _ _ ⟨rfl, rfl⟩
            refine z_icmp_le X 51 dX7_nextWaitingRoom_46 (by decide) (fun c_46 => ?_) (fun c_46 => ?_)
            · skip
              refine z_iinc (ls' := [(2, .int (nI (k + 1))), (3, .ref (32 * k + 8)), (0, .ref 1), (1, .ref (32 * b + 8))]) (v := nI (k + 1)) X 3 dX7_nextWaitingRoom_51 rfl (nI_1 _) (by decide) rfl ?_
              refine z_goto (tgt := 4) X dX7_nextWaitingRoom_54 (by decide) ?_
              refine z_sub (ls' := [(0, .ref 1), (1, .ref (32 * b + 8)), (2, .int (nI (k + 1)))]) [2, 3, 0] rfl ?_
              refine z_lse (ls' := [(0, .ref 1), (1, va_rf ((c_nw i x (k + 1)).map (fun b => 32 * b + 8))), (2, .int (nI (k + 1)))]) (by rw [c_nw_s hopt, if_neg (fun e => e.2 c_46)]; rfl) ?_
              exact ih4
            · skip
              refine z_aload_n X 0 dX7_nextWaitingRoom_49 rfl rfl ?_
              refine z_astore_n (ls' := [(1, .ref (32 * k + 8)), (3, .ref (32 * k + 8)), (0, .ref 1), (2, .int (nI k))]) X dX7_nextWaitingRoom_50 rfl (by decide) rfl ?_
              refine z_iinc (ls' := [(2, .int (nI (k + 1))), (1, .ref (32 * k + 8)), (3, .ref (32 * k + 8)), (0, .ref 1)]) (v := nI (k + 1)) X 3 dX7_nextWaitingRoom_51 rfl (nI_1 _) (by decide) rfl ?_
              refine z_goto (tgt := 4) X dX7_nextWaitingRoom_54 (by decide) ?_
              refine z_sub (ls' := [(0, .ref 1), (1, .ref (32 * k + 8)), (2, .int (nI (k + 1)))]) [3, 1, 0] rfl ?_
              refine z_lse (ls' := [(0, .ref 1), (1, va_rf ((c_nw i x (k + 1)).map (fun b => 32 * b + 8))), (2, .int (nI (k + 1)))]) (by rw [c_nw_s hopt, if_pos ⟨c_31, c_46⟩]; rfl) ?_
              exact ih4
  refine z_sub (ls' := [(0, .ref 1), (1, .null), (2, .int 0)]) [2, 1, 0] rfl ?_
  refine z_lse (ls' := [(0, .ref 1), (1, va_rf ((c_nw i x 0).map (fun b => 32 * b + 8))), (2, .int (nI 0))]) (rfl) ?_
  exact hloop4 0 (Nat.zero_le _)

set_option maxRecDepth 100000 in
set_option maxHeartbeats 4000000 in
theorem c_X7_givePower (l : Launch) (n : Nat → Nat) (i x : Nat → Nat → Int32) (lm : Nat → Nat → Int64) (y : Nat → Nat → Nat) (ol : Int64) (od : UInt64) (hW : cW n i y) (hwant : ∀ j, i 111 j = 0 ∨ i 111 j = 1) : zS l yX7_givePower wsX7_givePower 10 177 0 0 [.ref 1] (cmm n i x lm y ol od) (zpi (fun q M1 => q = (c_give i x (n 5)).2.2 ∧ M1 = cmm n (c_give i x (n 5)).1 (c_give i x (n 5)).2.1 lm y ol od)) zno := by
  refine z_intro (cc := cX7_givePower) (maxL := 4) (ret := (some .int)) (by decide +kernel) rfl (Nat.le_of_ble_eq_true rfl) ?_
  have hlk_10 : Cond.fieldLink RX7 10 "ColdStore" "rooms" "Ljava/util/ArrayList;" ∈ wsX7_givePower := by decide +kernel
  have hlk_357 : Cond.fieldLink RX7 357 "ColdStore$Room" "waiting" "Z" ∈ wsX7_givePower := by decide +kernel
  have hlk_364 : Cond.fieldLink RX7 364 "ColdStore$Room" "kilowatts" "I" ∈ wsX7_givePower := by decide +kernel
  have hlk_28 : Cond.fieldLink RX7 28 "ColdStore" "contract" "LColdStore$Contract;" ∈ wsX7_givePower := by decide +kernel
  have hlk_143 : Cond.fieldLink RX7 143 "ColdStore$Contract" "limit" "I" ∈ wsX7_givePower := by decide +kernel
  have hlk_103 : Cond.fieldLink RX7 103 "ColdStore$Room" "cooled" "Z" ∈ wsX7_givePower := by decide +kernel
  have hlk_354 : Cond.fieldLink RX7 354 "ColdStore$Room" "wanting" "Z" ∈ wsX7_givePower := by decide +kernel
  intro g X
  show zE g 4 0 [(0, .ref 1)] [] (cmm n i x lm y ol od) 0 0
  obtain ⟨⟨hn0, hn1, hn2, hn3⟩, ⟨hb5, hb6, hb7, hb8⟩, hp9, hs9, ho9⟩ := hW
  refine z_iconst (v := 0) X dX7_givePower_0 (by decide) ?_
  refine z_istore_n (ls' := [(1, .int 0), (0, .ref 1)]) X dX7_givePower_1 rfl (by decide) rfl ?_
  have hloop2 : ∀ k : Nat, k ≤ n 5 → zE g 4 2 [(0, .ref 1), (1, .int (nI k))] [] (cmm n (c_gp0 i k) (c_gp0X i x k) lm y ol od) 0 0 := by
    refine z_loop (fun k => zE g 4 2 [(0, .ref 1), (1, .int (nI k))] [] (cmm n (c_gp0 i k) (c_gp0X i x k) lm y ol od) 0 0) (n 5) ?_ ?_
    · show zE g 4 2 [(0, .ref 1), (1, .int (nI (n 5)))] [] (cmm n (c_gp0 i (n 5)) (c_gp0X i x (n 5)) lm y ol od) 0 0
      refine z_iload_n X 1 dX7_givePower_2 rfl rfl ?_
      refine z_aload_n X 0 dX7_givePower_3 rfl rfl ?_
      refine z_getR (ci := 10) (j := 0) (o' := 2) X dX7_givePower_4 ck_1 rfl (by decide) hlk_10 (Or.inl rfl) (fun _ => rfl) (cr_1_0) ?_
      refine z_callVi (As := []) (rest := [.int (nI (n 5))]) (n1 := 0) (ci := 2) X dX7_givePower_7 (c_size0 l _ _ _ _ _ _ _) gX7_givePower_Jx4a65c_size_8abf5 rfl rfl (by decide +kernel) ⟨by decide, by decide⟩ (ck_2 (j := 0) (by decide)) rfl rfl (Nat.le_of_ble_eq_true rfl) ⟨by decide, by decide⟩ (fun _ h => h.elim) ?_
      rintro _ _ ⟨rfl, rfl⟩
      refine z_icmp_ge X 44 dX7_givePower_10 (by decide) (fun c_10 => ?_) (fun c_10 => ?_)
      · skip
        refine z_iconst (v := 0) X dX7_givePower_44 (by decide) ?_
        refine z_istore_n (ls' := [(1, .int 0), (0, .ref 1)]) X dX7_givePower_45 rfl (by decide) rfl ?_
        refine z_iconst (v := 0) X dX7_givePower_46 (by decide) ?_
        refine z_istore_n (ls' := [(2, .int 0), (1, .int 0), (0, .ref 1)]) X dX7_givePower_47 rfl (by decide) rfl ?_
        have hloop48 : ∀ k : Nat, k ≤ n 5 → zE g 4 48 [(0, .ref 1), (1, .int ((c_gv (n 5) (c_gp0 i (n 5), c_gp0X i x (n 5), 0) k).2.2)), (2, .int (nI k))] [] (cmm n ((c_gv (n 5) (c_gp0 i (n 5), c_gp0X i x (n 5), 0) k).1) ((c_gv (n 5) (c_gp0 i (n 5), c_gp0X i x (n 5), 0) k).2.1) lm y ol od) (0 + 0) (0 + 0) := by
          refine z_loop (fun k => zE g 4 48 [(0, .ref 1), (1, .int ((c_gv (n 5) (c_gp0 i (n 5), c_gp0X i x (n 5), 0) k).2.2)), (2, .int (nI k))] [] (cmm n ((c_gv (n 5) (c_gp0 i (n 5), c_gp0X i x (n 5), 0) k).1) ((c_gv (n 5) (c_gp0 i (n 5), c_gp0X i x (n 5), 0) k).2.1) lm y ol od) (0 + 0) (0 + 0)) (n 5) ?_ ?_
          · show zE g 4 48 [(0, .ref 1), (1, .int ((c_gv (n 5) (c_gp0 i (n 5), c_gp0X i x (n 5), 0) (n 5)).2.2)), (2, .int (nI (n 5)))] [] (cmm n ((c_gv (n 5) (c_gp0 i (n 5), c_gp0X i x (n 5), 0) (n 5)).1) ((c_gv (n 5) (c_gp0 i (n 5), c_gp0X i x (n 5), 0) (n 5)).2.1) lm y ol od) (0 + 0) (0 + 0)
            refine z_iload_n X 2 dX7_givePower_48 rfl rfl ?_
            refine z_aload_n X 0 dX7_givePower_49 rfl rfl ?_
            refine z_getR (ci := 10) (j := 0) (o' := 2) X dX7_givePower_50 ck_1 rfl (by decide) hlk_10 (Or.inl rfl) (fun _ => rfl) (cr_1_0) ?_
            refine z_callVi (As := []) (rest := [.int (nI (n 5))]) (n1 := 0) (ci := 2) X dX7_givePower_53 (c_size0 l _ _ _ _ _ _ _) gX7_givePower_Jx4a65c_size_8abf5 rfl rfl (by decide +kernel) ⟨by decide, by decide⟩ (ck_2 (j := 0) (by decide)) rfl rfl (Nat.le_of_ble_eq_true rfl) ⟨by decide, by decide⟩ (fun _ h => h.elim) ?_
            rintro _ _ ⟨rfl, rfl⟩
            refine z_icmp_ge X 110 dX7_givePower_56 (by decide) (fun c_56 => ?_) (fun c_56 => ?_)
            · skip
              refine z_iload_n X 1 dX7_givePower_110 rfl rfl ?_
              refine z_iret X rfl rfl (Nat.le_of_ble_eq_true rfl) (Nat.le_of_ble_eq_true rfl) dX7_givePower_111 ?_
              exact ⟨_, rfl, rfl, rfl⟩
            · exact absurd (Int32.le_refl _) c_56
          · intro k hk_48 ih48
            have ih48 : zE g 4 48 [(0, .ref 1), (1, .int ((c_gv (n 5) (c_gp0 i (n 5), c_gp0X i x (n 5), 0) (k + 1)).2.2)), (2, .int (nI (k + 1)))] [] (cmm n ((c_gv (n 5) (c_gp0 i (n 5), c_gp0X i x (n 5), 0) (k + 1)).1) ((c_gv (n 5) (c_gp0 i (n 5), c_gp0X i x (n 5), 0) (k + 1)).2.1) lm y ol od) (0 + 0) (0 + 0) := ih48
            show zE g 4 48 [(0, .ref 1), (1, .int ((c_gv (n 5) (c_gp0 i (n 5), c_gp0X i x (n 5), 0) k).2.2)), (2, .int (nI k))] [] (cmm n ((c_gv (n 5) (c_gp0 i (n 5), c_gp0X i x (n 5), 0) k).1) ((c_gv (n 5) (c_gp0 i (n 5), c_gp0X i x (n 5), 0) k).2.1) lm y ol od) (0 + 0) (0 + 0)
            refine z_iload_n X 2 dX7_givePower_48 rfl rfl ?_
            refine z_aload_n X 0 dX7_givePower_49 rfl rfl ?_
            refine z_getR (ci := 10) (j := 0) (o' := 2) X dX7_givePower_50 ck_1 rfl (by decide) hlk_10 (Or.inl rfl) (fun _ => rfl) (cr_1_0) ?_
            refine z_callVi (As := []) (rest := [.int (nI k)]) (n1 := 0) (ci := 2) X dX7_givePower_53 (c_size0 l _ _ _ _ _ _ _) gX7_givePower_Jx4a65c_size_8abf5 rfl rfl (by decide +kernel) ⟨by decide, by decide⟩ (ck_2 (j := 0) (by decide)) rfl rfl (Nat.le_of_ble_eq_true rfl) ⟨by decide, by decide⟩ (fun _ h => h.elim) ?_
            rintro _ _ ⟨rfl, rfl⟩
            refine z_icmp_ge X 110 dX7_givePower_56 (by decide) (fun c_56 => ?_) (fun c_56 => ?_)
            · exact absurd c_56 (nI_ge hk_48 (by omega))
            · skip
              refine z_aload_n X 0 dX7_givePower_59 rfl rfl ?_
              refine z_callVq (As := []) (rest := []) (n1 := 0) (ci := 10) X dX7_givePower_60 (c_X7_nextWaitingRoom l n ((c_gv (n 5) (c_gp0 i (n 5), c_gp0X i x (n 5), 0) k).1) ((c_gv (n 5) (c_gp0 i (n 5), c_gp0X i x (n 5), 0) k).2.1) lm y ol od (cW.of ⟨⟨hn0, hn1, hn2, hn3⟩, ⟨hb5, hb6, hb7, hb8⟩, hp9, hs9, ho9⟩ (fun b => c_gv_o (by decide) (by decide) (by decide) b _))) gX7_givePower_X7_nextWaitingRoom rfl rfl (by decide +kernel) ⟨by decide, by decide⟩ ck_1 rfl rfl (Nat.le_of_ble_eq_true rfl) ⟨by decide, by decide⟩ (fun _ h => h.elim) ?_
              rintro _ _ ⟨rfl, rfl⟩
              refine z_astore_nO (ls' := [(3, va_rf ((c_nw ((c_gv (n 5) (c_gp0 i (n 5), c_gp0X i x (n 5), 0) k).1) ((c_gv (n 5) (c_gp0 i (n 5), c_gp0X i x (n 5), 0) k).2.1) (n 5)).map (fun b => 32 * b + 8))), (0, .ref 1), (1, .int ((c_gv (n 5) (c_gp0 i (n 5), c_gp0X i x (n 5), 0) k).2.2)), (2, .int (nI k))]) X dX7_givePower_63 rfl (by decide) rfl ?_
              rcases hop : c_nw ((c_gv (n 5) (c_gp0 i (n 5), c_gp0X i x (n 5), 0) k).1) ((c_gv (n 5) (c_gp0 i (n 5), c_gp0X i x (n 5), 0) k).2.1) (n 5) with _ | b
              · refine z_lse (ls' := [(3, .null), (0, .ref 1), (1, .int ((c_gv (n 5) (c_gp0 i (n 5), c_gp0X i x (n 5), 0) k).2.2)), (2, .int (nI k))]) (by first | rfl | (rw [hop]; rfl)) ?_
                refine z_aload_nN X 0 dX7_givePower_64 rfl rfl ?_
                refine z_ifnonnullN X dX7_givePower_65 ?_
                refine z_goto (tgt := 110) X dX7_givePower_68 (by decide) ?_
                have hst := c_gv_n (nr := n 5) (s := (c_gp0 i (n 5), c_gp0X i x (n 5), 0)) (k := k) hop (n 5) (by omega)
                refine z_iload_n X 2 dX7_givePower_110 rfl rfl ?_
                refine z_iret X rfl rfl (Nat.le_of_ble_eq_true rfl) (Nat.le_of_ble_eq_true rfl) dX7_givePower_111 ?_
                exact ⟨_, rfl, by unfold c_give; rw [hst], by unfold c_give; rw [hst]⟩
              · refine z_lse (ls' := [(3, .ref (32 * b + 8)), (0, .ref 1), (1, .int ((c_gv (n 5) (c_gp0 i (n 5), c_gp0X i x (n 5), 0) k).2.2)), (2, .int (nI k))]) (by first | rfl | (rw [hop]; rfl)) ?_
                have hb9 := (c_nw_lt hop).1
                refine z_aload_n X 0 dX7_givePower_64 rfl rfl ?_
                refine z_ifnonnull X 71 dX7_givePower_65 (by decide) ?_
                refine z_aload_n X 0 dX7_givePower_71 rfl rfl ?_
                refine z_iconst (v := 0) X dX7_givePower_72 (by decide) ?_
                refine z_putI (ci := 8) (j := 12) X dX7_givePower_73 (ck_8 (by omega)) rfl (by decide) hlk_357 (Or.inl rfl) (Or.inl rfl) (fun _ => rfl) (rfl) rfl ?_
                obtain ⟨x_1, hx_1⟩ : ∃ q, q = zup ((c_gv (n 5) (c_gp0 i (n 5), c_gp0X i x (n 5), 0) k).2.1) 0 b 0 := ⟨_, rfl⟩
                refine z_mem (M' := cmm n ((c_gv (n 5) (c_gp0 i (n 5), c_gp0X i x (n 5), 0) k).1) x_1 lm y ol od) (by rw [hx_1]; exact cw_x 8 12 0) ?_
                refine z_iload_n X 2 dX7_givePower_76 rfl rfl ?_
                refine z_aload_n X 0 dX7_givePower_77 rfl rfl ?_
                refine z_getI (ci := 8) (j := 3) (x := ((c_gv (n 5) (c_gp0 i (n 5), c_gp0X i x (n 5), 0) k).1) 104 b) X dX7_givePower_78 (ck_8 (by omega)) rfl (by decide) hlk_364 (Or.inl rfl) (fun _ => rfl) (ci_8_3) ?_
                refine z_iadd X dX7_givePower_81 ?_
                refine z_aload_n X 1 dX7_givePower_82 rfl rfl ?_
                refine z_getR (ci := 10) (j := 4) (o' := 4) X dX7_givePower_83 ck_1 rfl (by decide) hlk_28 (Or.inl rfl) (fun _ => rfl) (cr_1_4) ?_
                refine z_getI (ci := 3) (j := 5) (x := ((c_gv (n 5) (c_gp0 i (n 5), c_gp0X i x (n 5), 0) k).1) 1 23) X dX7_givePower_86 ck_4 rfl (by decide) hlk_143 (Or.inl rfl) (fun _ => rfl) (ci_4_5) ?_
                refine z_icmp_gt X 104 dX7_givePower_89 (by decide) (fun c_89 => ?_) (fun c_89 => ?_)
                · skip
                  have hgv : c_gv (n 5) (c_gp0 i (n 5), c_gp0X i x (n 5), 0) (k + 1) = _ := (c_gv1_s (s := c_gv (n 5) (c_gp0 i (n 5), c_gp0X i x (n 5), 0) k) hop).trans (if_pos c_89)
                  refine z_iinc (ls' := [(2, .int (nI (k + 1))), (3, .ref (32 * b + 8)), (0, .ref 1), (1, .int ((c_gv (n 5) (c_gp0 i (n 5), c_gp0X i x (n 5), 0) k).2.2))]) (v := nI (k + 1)) X 3 dX7_givePower_104 rfl (nI_1 _) (by decide) rfl ?_
                  refine z_goto (tgt := 48) X dX7_givePower_107 (by decide) ?_
                  refine z_sub (ls' := [(0, .ref 1), (1, .int ((c_gv (n 5) (c_gp0 i (n 5), c_gp0X i x (n 5), 0) k).2.2)), (2, .int (nI (k + 1)))]) [2, 3, 0] rfl ?_
                  refine z_lse (ls' := [(0, .ref 1), (1, .int ((c_gv (n 5) (c_gp0 i (n 5), c_gp0X i x (n 5), 0) (k + 1)).2.2)), (2, .int (nI (k + 1)))]) (by rw [hgv]) ?_
                  refine z_mem (M' := cmm n ((c_gv (n 5) (c_gp0 i (n 5), c_gp0X i x (n 5), 0) (k + 1)).1) ((c_gv (n 5) (c_gp0 i (n 5), c_gp0X i x (n 5), 0) (k + 1)).2.1) lm y ol od) (by rw [hx_1]; rw [hgv]) ?_
                  exact ih48
                · skip
                  refine z_aload_n X 0 dX7_givePower_92 rfl rfl ?_
                  refine z_iconst (v := 1) X dX7_givePower_93 (by decide) ?_
                  refine z_putI (ci := 8) (j := 13) X dX7_givePower_94 (ck_8 (by omega)) rfl (by decide) hlk_103 (Or.inl rfl) (Or.inl rfl) (fun _ => rfl) (rfl) rfl ?_
                  obtain ⟨i_2, hi_2⟩ : ∃ q, q = zup ((c_gv (n 5) (c_gp0 i (n 5), c_gp0X i x (n 5), 0) k).1) 112 b 1 := ⟨_, rfl⟩
                  refine z_mem (M' := cmm n i_2 x_1 lm y ol od) (by rw [hi_2]; exact cw_i 8 13 112) ?_
                  refine z_iload_n X 2 dX7_givePower_97 rfl rfl ?_
                  refine z_aload_n X 0 dX7_givePower_98 rfl rfl ?_
                  refine z_getI (ci := 8) (j := 3) (x := ((c_gv (n 5) (c_gp0 i (n 5), c_gp0X i x (n 5), 0) k).1) 104 b) X dX7_givePower_99 (ck_8 (by omega)) rfl (by decide) hlk_364 (Or.inl rfl) (fun _ => rfl) (by rw [ci_8_3]; rw [hi_2, zup_n (by omega)]) ?_
                  refine z_iadd X dX7_givePower_102 ?_
                  refine z_istore_n (ls' := [(1, .int (((c_gv (n 5) (c_gp0 i (n 5), c_gp0X i x (n 5), 0) k).2.2) + (((c_gv (n 5) (c_gp0 i (n 5), c_gp0X i x (n 5), 0) k).1) 104 b))), (3, .ref (32 * b + 8)), (0, .ref 1), (2, .int (nI k))]) X dX7_givePower_103 rfl (by decide) rfl ?_
                  have hgv : c_gv (n 5) (c_gp0 i (n 5), c_gp0X i x (n 5), 0) (k + 1) = _ := (c_gv1_s (s := c_gv (n 5) (c_gp0 i (n 5), c_gp0X i x (n 5), 0) k) hop).trans (if_neg c_89)
                  refine z_iinc (ls' := [(2, .int (nI (k + 1))), (1, .int (((c_gv (n 5) (c_gp0 i (n 5), c_gp0X i x (n 5), 0) k).2.2) + (((c_gv (n 5) (c_gp0 i (n 5), c_gp0X i x (n 5), 0) k).1) 104 b))), (3, .ref (32 * b + 8)), (0, .ref 1)]) (v := nI (k + 1)) X 3 dX7_givePower_104 rfl (nI_1 _) (by decide) rfl ?_
                  refine z_goto (tgt := 48) X dX7_givePower_107 (by decide) ?_
                  refine z_sub (ls' := [(0, .ref 1), (1, .int (((c_gv (n 5) (c_gp0 i (n 5), c_gp0X i x (n 5), 0) k).2.2) + (((c_gv (n 5) (c_gp0 i (n 5), c_gp0X i x (n 5), 0) k).1) 104 b))), (2, .int (nI (k + 1)))]) [3, 1, 0] rfl ?_
                  refine z_lse (ls' := [(0, .ref 1), (1, .int ((c_gv (n 5) (c_gp0 i (n 5), c_gp0X i x (n 5), 0) (k + 1)).2.2)), (2, .int (nI (k + 1)))]) (by rw [hgv]) ?_
                  refine z_mem (M' := cmm n ((c_gv (n 5) (c_gp0 i (n 5), c_gp0X i x (n 5), 0) (k + 1)).1) ((c_gv (n 5) (c_gp0 i (n 5), c_gp0X i x (n 5), 0) (k + 1)).2.1) lm y ol od) (by rw [hi_2]; rw [hx_1]; rw [hgv]) ?_
                  exact ih48
        refine z_sub (ls' := [(0, .ref 1), (1, .int 0), (2, .int 0)]) [2, 1, 0] rfl ?_
        refine z_lse (ls' := [(0, .ref 1), (1, .int ((c_gv (n 5) (c_gp0 i (n 5), c_gp0X i x (n 5), 0) 0).2.2)), (2, .int (nI 0))]) (rfl) ?_
        refine z_mem (M' := cmm n ((c_gv (n 5) (c_gp0 i (n 5), c_gp0X i x (n 5), 0) 0).1) ((c_gv (n 5) (c_gp0 i (n 5), c_gp0X i x (n 5), 0) 0).2.1) lm y ol od) (rfl) ?_
        exact hloop48 0 (Nat.zero_le _)
      · exact absurd (Int32.le_refl _) c_10
    · intro k hk_2 ih2
      have ih2 : zE g 4 2 [(0, .ref 1), (1, .int (nI (k + 1)))] [] (cmm n (c_gp0 i (k + 1)) (c_gp0X i x (k + 1)) lm y ol od) 0 0 := ih2
      show zE g 4 2 [(0, .ref 1), (1, .int (nI k))] [] (cmm n (c_gp0 i k) (c_gp0X i x k) lm y ol od) 0 0
      refine z_iload_n X 1 dX7_givePower_2 rfl rfl ?_
      refine z_aload_n X 0 dX7_givePower_3 rfl rfl ?_
      refine z_getR (ci := 10) (j := 0) (o' := 2) X dX7_givePower_4 ck_1 rfl (by decide) hlk_10 (Or.inl rfl) (fun _ => rfl) (cr_1_0) ?_
      refine z_callVi (As := []) (rest := [.int (nI k)]) (n1 := 0) (ci := 2) X dX7_givePower_7 (c_size0 l _ _ _ _ _ _ _) gX7_givePower_Jx4a65c_size_8abf5 rfl rfl (by decide +kernel) ⟨by decide, by decide⟩ (ck_2 (j := 0) (by decide)) rfl rfl (Nat.le_of_ble_eq_true rfl) ⟨by decide, by decide⟩ (fun _ h => h.elim) ?_
      rintro _ _ ⟨rfl, rfl⟩
      refine z_icmp_ge X 44 dX7_givePower_10 (by decide) (fun c_10 => ?_) (fun c_10 => ?_)
      · exact absurd c_10 (nI_ge hk_2 (by omega))
      · skip
        refine z_aload_n X 0 dX7_givePower_13 rfl rfl ?_
        refine z_getR (ci := 10) (j := 0) (o' := 2) X dX7_givePower_14 ck_1 rfl (by decide) hlk_10 (Or.inl rfl) (fun _ => rfl) (cr_1_0) ?_
        refine z_iload_n X 1 dX7_givePower_17 rfl rfl ?_
        refine z_callVr (As := [.int (nI k)]) (rest := []) (n1 := 1) (ci := 2) X dX7_givePower_18 (c_get0 l _ _ _ _ _ _ _ k (by omega) (by omega)) gX7_givePower_Jx4a65c_get_915e3 rfl rfl (by decide +kernel) ⟨by decide, by decide⟩ (ck_2 (j := 0) (by decide)) rfl rfl (Nat.le_of_ble_eq_true rfl) ⟨by decide, by decide⟩ (fun _ h => h.elim) ?_
        rintro _ _ ⟨rfl, rfl⟩
        refine z_ckc (ci := 8) X dX7_givePower_21 (by decide +kernel) (ck_8 (by omega)) rfl ?_
        refine z_astore_n (ls' := [(2, .ref (32 * k + 8)), (0, .ref 1), (1, .int (nI k))]) X dX7_givePower_24 rfl (by decide) rfl ?_
        refine z_aload_n X 0 dX7_givePower_25 rfl rfl ?_
        refine z_iconst (v := 0) X dX7_givePower_26 (by decide) ?_
        refine z_putI (ci := 8) (j := 13) X dX7_givePower_27 (ck_8 (by omega)) rfl (by decide) hlk_103 (Or.inl rfl) (Or.inl rfl) (fun _ => rfl) (rfl) rfl ?_
        obtain ⟨i_3, hi_3⟩ : ∃ q, q = zup (c_gp0 i k) 112 k 0 := ⟨_, rfl⟩
        refine z_mem (M' := cmm n i_3 (c_gp0X i x k) lm y ol od) (by rw [hi_3]; exact cw_i 8 13 112) ?_
        refine z_aload_n X 0 dX7_givePower_30 rfl rfl ?_
        refine z_aload_n X 0 dX7_givePower_31 rfl rfl ?_
        refine z_getI (ci := 8) (j := 11) (x := (c_gp0 i k) 111 k) X dX7_givePower_32 (ck_8 (by omega)) rfl (by decide) hlk_354 (Or.inl rfl) (fun _ => rfl) (by rw [ci_8_11]; rw [hi_3, zup_n (by omega)]) ?_
        refine z_putI (ci := 8) (j := 12) X dX7_givePower_35 (ck_8 (by omega)) rfl (by decide) hlk_357 (Or.inl rfl) (Or.inl rfl) (fun _ => rfl) (by rw [c_gp0_o (by decide)]; rcases hwant k with e | e <;> (rw [e]; rfl)) (by rw [c_gp0_o (by decide)]; rcases hwant k with e | e <;> (rw [e]; rfl)) ?_
        obtain ⟨x_4, hx_4⟩ : ∃ q, q = zup (c_gp0X i x k) 0 k ((c_gp0 i k) 111 k) := ⟨_, rfl⟩
        refine z_mem (M' := cmm n i_3 x_4 lm y ol od) (by rw [hx_4]; exact cw_x 8 12 0) ?_
        refine z_iinc (ls' := [(1, .int (nI (k + 1))), (2, .ref (32 * k + 8)), (0, .ref 1)]) (v := nI (k + 1)) X 2 dX7_givePower_38 rfl (nI_1 _) (by decide) rfl ?_
        refine z_goto (tgt := 2) X dX7_givePower_41 (by decide) ?_
        refine z_sub (ls' := [(0, .ref 1), (1, .int (nI (k + 1)))]) [2, 0] rfl ?_
        refine z_lse (ls' := [(0, .ref 1), (1, .int (nI (k + 1)))]) (rfl) ?_
        refine z_mem (M' := cmm n (c_gp0 i (k + 1)) (c_gp0X i x (k + 1)) lm y ol od) (by rw [hi_3]; rw [hx_4]; rw [show c_gp0 i k 111 k = i 111 k from c_gp0_o (by decide) k]; rfl) ?_
        exact ih2
  refine z_sub (ls' := [(0, .ref 1), (1, .int 0)]) [1, 0] rfl ?_
  refine z_lse (ls' := [(0, .ref 1), (1, .int (nI 0))]) (rfl) ?_
  refine z_mem (M' := cmm n (c_gp0 i 0) (c_gp0X i x 0) lm y ol od) (by rfl) ?_
  exact hloop2 0 (Nat.zero_le _)
