/-! PART 47: calls of the class that look for a pallet -/
abbrev c_lt (i : Nat → Nat → Int32) (p q : Nat) : Prop := i 133 p < i 133 q ∨ i 133 p = i 133 q ∧ nI p < nI q
/-- nothing yet, or p is ahead of it -/
abbrev c_bt (i : Nat → Nat → Int32) (p : Nat) (b : Option Nat) : Prop := ∀ q, b = some q → c_lt i p q
def c_sn (i : Nat → Nat → Int32) : Nat → Option Nat
  | 0 => none
  | k + 1 => match c_sn i k with
    | none => if i 134 k = 114 then some k else none
    | some b => if i 134 k = 114 ∧ c_lt i k b then some k else some b
theorem c_sn_lt {i : Nat → Nat → Int32} : ∀ {k b : Nat}, c_sn i k = some b → b < k ∧ i 134 b = 114
  | 0, _, h => nomatch h
  | k + 1, b, h => by
    unfold c_sn at h
    cases hk : c_sn i k with
    | none =>
      rw [hk] at h
      simp only at h
      split at h
      · rename_i h1; cases h; exact ⟨by omega, h1⟩
      · cases h
    | some c =>
      rw [hk] at h
      simp only at h
      have := c_sn_lt hk
      split at h
      · rename_i h1; cases h; exact ⟨by omega, h1.1⟩
      · cases h; exact ⟨by omega, this.2⟩
theorem c_sn_n {i : Nat → Nat → Int32} {k : Nat} (h : c_sn i k = none) : c_sn i (k + 1) = if i 134 k = 114 then some k else none := by
  show (match c_sn i k with
    | none => if i 134 k = 114 then some k else none
    | some b => if i 134 k = 114 ∧ c_lt i k b then some k else some b) = _
  rw [h]
theorem c_sn_s {i : Nat → Nat → Int32} {k b : Nat} (h : c_sn i k = some b) : c_sn i (k + 1) = if i 134 k = 114 ∧ c_lt i k b then some k else some b := by
  show (match c_sn i k with
    | none => if i 134 k = 114 then some k else none
    | some b => if i 134 k = 114 ∧ c_lt i k b then some k else some b) = _
  rw [h]
/-- p is behind the given one -/
abbrev c_bh (i : Nat → Nat → Int32) (G : Option Nat) (p : Nat) : Prop := ∀ g, G = some g → c_lt i g p
def c_nx (i : Nat → Nat → Int32) (o : Nat) (G : Nat → Bool) : Nat → Option Nat
  | 0 => none
  | k + 1 => match c_nx i o G k with
    | none => if G k = true ∧ m_isC i o k then some k else none
    | some b => if (G k = true ∧ m_isC i o k) ∧ c_lt i k b then some k else some b
theorem c_nx_lt {i : Nat → Nat → Int32} {o : Nat} {G : Nat → Bool} : ∀ {k b : Nat}, c_nx i o G k = some b → b < k ∧ G b = true ∧ m_isC i o b
  | 0, _, h => nomatch h
  | k + 1, b, h => by
    unfold c_nx at h
    cases hk : c_nx i o G k with
    | none =>
      rw [hk] at h
      simp only at h
      split at h
      · rename_i h1; cases h; exact ⟨by omega, h1⟩
      · cases h
    | some c =>
      rw [hk] at h
      simp only at h
      have := c_nx_lt hk
      split at h
      · rename_i h1; cases h; exact ⟨by omega, h1.1⟩
      · cases h; exact ⟨by omega, this.2⟩
theorem c_nx_n {i : Nat → Nat → Int32} {o : Nat} {G : Nat → Bool} {k : Nat} (h : c_nx i o G k = none) : c_nx i o G (k + 1) = if G k = true ∧ m_isC i o k then some k else none := by
  show (match c_nx i o G k with
    | none => if G k = true ∧ m_isC i o k then some k else none
    | some b => if (G k = true ∧ m_isC i o k) ∧ c_lt i k b then some k else some b) = _
  rw [h]
theorem c_nx_s {i : Nat → Nat → Int32} {o : Nat} {G : Nat → Bool} {k b : Nat} (h : c_nx i o G k = some b) : c_nx i o G (k + 1) = if (G k = true ∧ m_isC i o k) ∧ c_lt i k b then some k else some b := by
  show (match c_nx i o G k with
    | none => if G k = true ∧ m_isC i o k then some k else none
    | some b => if (G k = true ∧ m_isC i o k) ∧ c_lt i k b then some k else some b) = _
  rw [h]
set_option maxRecDepth 100000 in
set_option maxHeartbeats 4000000 in
theorem c_X7_forecast (l : Launch) (hl0 : l.stackTraces = false) (n : Nat → Nat) (i x : Nat → Nat → Int32) (lm : Nat → Nat → Int64) (y : Nat → Nat → Nat) (ol : Int64) (od : UInt64) (hW : cW n i y) (p : Int32) (t : Int32) : zS l yX7_forecast wsX7_forecast 10 175 4 40 [.ref 1, .int p, .int t] (cmm n i x lm y ol od) (zpi (fun v9 M1 => (cl p < n 7 ∧ p = nI (cl p)) ∧ (i 134 (cl p) = 114) ∧ (zin t 0 960) ∧ v9 = (if 0 < i 133 (cl p) - t * (if i 110 (y 1 (y 0 (cl p))) < i 129 (cl (i 131 (cl p))) then 10 else if i 128 (cl (i 131 (cl p))) < i 110 (y 1 (y 0 (cl p))) then 1 + (i 110 (y 1 (y 0 (cl p))) - i 128 (cl (i 131 (cl p)))) / 20 else 1) then i 133 (cl p) - t * (if i 110 (y 1 (y 0 (cl p))) < i 129 (cl (i 131 (cl p))) then 10 else if i 128 (cl (i 131 (cl p))) < i 110 (y 1 (y 0 (cl p))) then 1 + (i 110 (y 1 (y 0 (cl p))) - i 128 (cl (i 131 (cl p)))) / 20 else 1) else 0) ∧ M1 = cmm n i x lm y ol od)) (fun E => (E = "java/lang/IndexOutOfBoundsException" ∧ ¬ (cl p < n 7 ∧ p = nI (cl p))) ∨ (E = "java/util/NoSuchElementException" ∧ (cl p < n 7 ∧ p = nI (cl p)) ∧ ¬ (i 134 (cl p) = 114)) ∨ (E = "java/lang/IllegalArgumentException" ∧ (cl p < n 7 ∧ p = nI (cl p)) ∧ (i 134 (cl p) = 114) ∧ ¬ (zin t 0 960))) := by
  refine z_intro (cc := cX7_forecast) (maxL := 5) (ret := (some .int)) (by decide +kernel) rfl (Nat.le_of_ble_eq_true rfl) ?_
  have hlk_221 : Cond.fieldLink RX7 221 "ColdStore$Pallet" "kind" "LColdStore$Kind;" ∈ wsX7_forecast := by decide +kernel
  have hlk_191 : Cond.fieldLink RX7 191 "ColdStore$Pallet" "stay" "LColdStore$Stay;" ∈ wsX7_forecast := by decide +kernel
  have hlk_195 : Cond.fieldLink RX7 195 "ColdStore$Stay" "room" "LColdStore$Room;" ∈ wsX7_forecast := by decide +kernel
  have hlk_100 : Cond.fieldLink RX7 100 "ColdStore$Room" "degrees" "I" ∈ wsX7_forecast := by decide +kernel
  have hlk_212 : Cond.fieldLink RX7 212 "ColdStore$Pallet" "lifeLeft" "I" ∈ wsX7_forecast := by decide +kernel
  intro g X
  show zE g 5 0 [(0, .ref 1), (1, .int p), (2, .int t)] [] (cmm n i x lm y ol od) 0 0
  obtain ⟨⟨hn0, hn1, hn2, hn3⟩, ⟨hb5, hb6, hb7, hb8⟩, hp9, hs9, ho9⟩ := hW
  refine z_aload_n X 0 dX7_forecast_0 rfl rfl ?_
  refine z_iload_n X 1 dX7_forecast_1 rfl rfl ?_
  refine z_callVr (As := [.int p]) (rest := []) (n1 := 1) (ci := 10) X dX7_forecast_2 (c_X7_findPallet l hl0 n i x lm y ol od ⟨by omega, by omega⟩ p) gX7_forecast_X7_findPallet rfl rfl (by decide +kernel) ⟨by decide, by decide⟩ ck_1 rfl rfl (Nat.le_of_ble_eq_true rfl) ⟨by decide, by decide⟩ (fun E h => ⟨Or.inl (⟨h.1, find_no (by omega) h.2⟩), rfl⟩) ?_
  rintro _ _ ⟨rfl, rfl, hf0, hg0⟩
  refine z_astore_n (ls' := [(3, .ref (32 * (cl p) + 11)), (0, .ref 1), (1, .int p), (2, .int t)]) X dX7_forecast_5 rfl (by decide) rfl ?_
  refine z_aload_n X 0 dX7_forecast_6 rfl rfl ?_
  refine z_callSv (As := [.ref (32 * (cl p) + 11)]) (rest := []) (n1 := 1) X dX7_forecast_7 (c_X7_requireInRoom l hl0 n i x lm y ol od (⟨⟨hn0, hn1, hn2, hn3⟩, ⟨hb5, hb6, hb7, hb8⟩, hp9, hs9, ho9⟩) (cl p) (by omega)) gX7_forecast_X7_requireInRoom rfl rfl (by decide +kernel) ⟨by decide, by decide⟩ rfl (Nat.le_of_ble_eq_true rfl) ⟨by decide, by decide⟩ (fun E h => ⟨Or.inr (Or.inl (⟨h.1, ⟨hf0, hg0⟩, h.2⟩)), rfl⟩) ?_
  rintro _ ⟨rfl, hz1⟩
  refine z_iload_n X 3 dX7_forecast_10 rfl rfl ?_
  refine z_iconst (v := 0) X dX7_forecast_11 (by decide) ?_
  refine z_sipush (v := 960) X dX7_forecast_12 (by decide) ?_
  refine z_callSv (As := [.int t, .int 0, .int 960]) (rest := []) (n1 := 3) X dX7_forecast_15 (c_X7_requireRange l hl0 (cmm n i x lm y ol od) t 0 960) gX7_forecast_X7_requireRange rfl rfl (by decide +kernel) ⟨by decide, by decide⟩ rfl (Nat.le_of_ble_eq_true rfl) ⟨by decide, by decide⟩ (fun E h => ⟨Or.inr (Or.inr (⟨h.1, ⟨hf0, hg0⟩, hz1, h.2⟩)), rfl⟩) ?_
  rintro _ ⟨rfl, hz2⟩
  refine z_iload_n X 3 dX7_forecast_18 rfl rfl ?_
  refine z_aload_n X 0 dX7_forecast_19 rfl rfl ?_
  refine z_getR (ci := 7) (j := 1) (o' := 32 * (cl (i 131 (cl p))) + 10) X dX7_forecast_20 (ck_11 (by omega)) rfl (by decide) hlk_221 (Or.inl rfl) (fun _ => rfl) (cr_11_1) ?_
  refine z_aload_n X 0 dX7_forecast_23 rfl rfl ?_
  refine z_getR (ci := 7) (j := 2) (o' := 32 * (y 0 (cl p)) + 12) X dX7_forecast_24 (ck_11 (by omega)) rfl (by decide) hlk_191 (Or.inl rfl) (fun _ => rfl) (cr_11_2) ?_
  refine z_getR (ci := 9) (j := 0) (o' := 32 * (y 1 (y 0 (cl p))) + 8) X dX7_forecast_27 (ck_12 (by have := (hp9 (cl p) (by omega)).2.1; omega)) rfl (by decide) hlk_195 (Or.inl rfl) (fun _ => rfl) (cr_12_0) ?_
  refine z_getI (ci := 8) (j := 10) (x := i 110 (y 1 (y 0 (cl p)))) X dX7_forecast_30 (ck_8 (by have := (hp9 (cl p) (by omega)).2.1; have := (hs9 (y 0 (cl p)) (by omega)).1; omega)) rfl (by decide) hlk_100 (Or.inl rfl) (fun _ => rfl) (ci_8_10) ?_
  refine z_callVi (As := [.int (i 110 (y 1 (y 0 (cl p))))]) (rest := [.int t]) (n1 := 1) (ci := 4) X dX7_forecast_33 (c_X1_lossAt l n i x lm y ol od (cl (i 131 (cl p))) (by have := (hp9 (cl p) (by omega)).1.1; omega) (i 110 (y 1 (y 0 (cl p))))) gX7_forecast_X1_lossAt rfl rfl (by decide +kernel) ⟨by decide, by decide⟩ (ck_10 (by have := (hp9 (cl p) (by omega)).1.1; omega)) rfl rfl (Nat.le_of_ble_eq_true rfl) ⟨by decide, by decide⟩ (fun _ h => h.elim) ?_
  rintro _ _ ⟨rfl, rfl⟩
  refine z_imul X dX7_forecast_36 ?_
  refine z_istore (ls' := [(4, .int (t * (if (i 110 (y 1 (y 0 (cl p)))) < i 129 (cl (i 131 (cl p))) then 10 else if i 128 (cl (i 131 (cl p))) < (i 110 (y 1 (y 0 (cl p)))) then 1 + ((i 110 (y 1 (y 0 (cl p)))) - i 128 (cl (i 131 (cl p)))) / 20 else 1))), (3, .ref (32 * (cl p) + 11)), (0, .ref 1), (1, .int p), (2, .int t)]) X dX7_forecast_37 (by decide) rfl ?_
  refine z_iconst (v := 0) X dX7_forecast_39 (by decide) ?_
  refine z_aload_n X 1 dX7_forecast_40 rfl rfl ?_
  refine z_getI (ci := 7) (j := 5) (x := i 133 (cl p)) X dX7_forecast_41 (ck_11 (by omega)) rfl (by decide) hlk_212 (Or.inl rfl) (fun _ => rfl) (ci_11_5) ?_
  refine z_iload X 0 dX7_forecast_44 rfl ?_
  refine z_isub X dX7_forecast_46 ?_
  refine z_mmax X dX7_forecast_47 (by decide +kernel) (by decide +kernel) (by decide +kernel) (by decide +kernel) (by decide) (Nat.le_of_ble_eq_true rfl) (Nat.le_of_ble_eq_true rfl) (Nat.le_of_ble_eq_true rfl) ?_
  refine z_iret X rfl rfl (Nat.le_of_ble_eq_true rfl) (Nat.le_of_ble_eq_true rfl) dX7_forecast_50 ?_
  exact ⟨_, rfl, ⟨hf0, hg0⟩, hz1, hz2, rfl, rfl⟩

set_option maxRecDepth 100000 in
set_option maxHeartbeats 4000000 in
theorem c_X7_soonest (l : Launch) (hl0 : l.stackTraces = false) (n : Nat → Nat) (i x : Nat → Nat → Int32) (lm : Nat → Nat → Int64) (y : Nat → Nat → Nat) (ol : Int64) (od : UInt64) (hW : cW n i y) : zS l yX7_soonest wsX7_soonest 9 154 4 40 [.ref 1] (cmm n i x lm y ol od) (zpi (fun v9 M1 => (c_sn i (n 7) ≠ none) ∧ v9 = nI ((c_sn i (n 7)).getD 0) ∧ M1 = cmm n i x lm y ol od)) (fun E => (E = "java/util/NoSuchElementException" ∧ ¬ (c_sn i (n 7) ≠ none))) := by
  refine z_intro (cc := cX7_soonest) (maxL := 4) (ret := (some .int)) (by decide +kernel) rfl (Nat.le_of_ble_eq_true rfl) ?_
  have hlk_19 : Cond.fieldLink RX7 19 "ColdStore" "pallets" "Ljava/util/ArrayList;" ∈ wsX7_soonest := by decide +kernel
  have hlk_248 : Cond.fieldLink RX7 248 "ColdStore$Pallet" "number" "I" ∈ wsX7_soonest := by decide +kernel
  intro g X
  show zE g 4 0 [(0, .ref 1)] [] (cmm n i x lm y ol od) 0 0
  obtain ⟨⟨hn0, hn1, hn2, hn3⟩, ⟨hb5, hb6, hb7, hb8⟩, hp9, hs9, ho9⟩ := hW
  refine z_null X dX7_soonest_0 ?_
  refine z_astore_nN (ls' := [(1, .null), (0, .ref 1)]) X dX7_soonest_1 rfl (by decide) rfl ?_
  refine z_iconst (v := 0) X dX7_soonest_2 (by decide) ?_
  refine z_istore_n (ls' := [(2, .int 0), (1, .null), (0, .ref 1)]) X dX7_soonest_3 rfl (by decide) rfl ?_
  have hloop4 : ∀ k : Nat, k ≤ n 7 → zE g 4 4 [(0, .ref 1), (1, va_rf ((c_sn i k).map (fun b => 32 * b + 11))), (2, .int (nI k))] [] (cmm n i x lm y ol od) 0 0 := by
    refine z_loop (fun k => zE g 4 4 [(0, .ref 1), (1, va_rf ((c_sn i k).map (fun b => 32 * b + 11))), (2, .int (nI k))] [] (cmm n i x lm y ol od) 0 0) (n 7) ?_ ?_
    · show zE g 4 4 [(0, .ref 1), (1, va_rf ((c_sn i (n 7)).map (fun b => 32 * b + 11))), (2, .int (nI (n 7)))] [] (cmm n i x lm y ol od) 0 0
      refine z_iload_n X 2 dX7_soonest_4 rfl rfl ?_
      refine z_aload_n X 0 dX7_soonest_5 rfl rfl ?_
      refine z_getR (ci := 10) (j := 2) (o' := 66) X dX7_soonest_6 ck_1 rfl (by decide) hlk_19 (Or.inl rfl) (fun _ => rfl) (cr_1_2) ?_
      refine z_callVi (As := []) (rest := [.int (nI (n 7))]) (n1 := 0) (ci := 2) X dX7_soonest_9 (c_size2 l _ _ _ _ _ _ _) gX7_soonest_Jx4a65c_size_8abf5 rfl rfl (by decide +kernel) ⟨by decide, by decide⟩ (ck_2 (j := 2) (by decide)) rfl rfl (Nat.le_of_ble_eq_true rfl) ⟨by decide, by decide⟩ (fun _ h => h.elim) ?_
      rintro _ _ ⟨rfl, rfl⟩
      refine z_icmp_ge X 54 dX7_soonest_12 (by decide) (fun c_12 => ?_) (fun c_12 => ?_)
      · skip
        rcases hopt : c_sn i (n 7) with _ | b
        · refine z_lse (ls' := [(0, .ref 1), (1, .null), (2, .int (nI (n 7)))]) (by first | rfl | (rw [hopt]; rfl)) ?_
          refine z_aload_nN X 1 dX7_soonest_54 rfl rfl ?_
          refine z_ifnonnullN X dX7_soonest_55 ?_
          exact z_throwS X hl0 (cls := "java/util/NoSuchElementException") (text := "no pallet is in a room") (ik := 110) (is := 246) (ic := 114) (by decide +kernel) (by decide +kernel) (by decide +kernel) rfl dX7_soonest_58 dX7_soonest_61 dX7_soonest_62 dX7_soonest_64 dX7_soonest_67 (by decide) (by decide) ⟨by decide, by decide⟩ rfl (⟨rfl, fun h9 => h9 hopt⟩)
        · refine z_lse (ls' := [(0, .ref 1), (1, .ref (32 * b + 11)), (2, .int (nI (n 7)))]) (by first | rfl | (rw [hopt]; rfl)) ?_
          have hb9 := c_sn_lt hopt
          refine z_aload_n X 1 dX7_soonest_54 rfl rfl ?_
          refine z_ifnonnull X 68 dX7_soonest_55 (by decide) ?_
          refine z_aload_n X 1 dX7_soonest_68 rfl rfl ?_
          refine z_getI (ci := 7) (j := 0) (x := nI b) X dX7_soonest_69 (ck_11 (by omega)) rfl (by decide) hlk_248 (Or.inl rfl) (fun _ => rfl) (ci_11_0) ?_
          refine z_iret X rfl rfl (Nat.le_of_ble_eq_true rfl) (Nat.le_of_ble_eq_true rfl) dX7_soonest_72 ?_
          exact ⟨_, rfl, (by rw [hopt]; exact fun e => nomatch e), by rw [hopt]; rfl, rfl⟩
      · exact absurd (Int32.le_refl _) c_12
    · intro k hk_4 ih4
      have ih4 : zE g 4 4 [(0, .ref 1), (1, va_rf ((c_sn i (k + 1)).map (fun b => 32 * b + 11))), (2, .int (nI (k + 1)))] [] (cmm n i x lm y ol od) 0 0 := ih4
      show zE g 4 4 [(0, .ref 1), (1, va_rf ((c_sn i k).map (fun b => 32 * b + 11))), (2, .int (nI k))] [] (cmm n i x lm y ol od) 0 0
      refine z_iload_n X 2 dX7_soonest_4 rfl rfl ?_
      rcases hopt : c_sn i k with _ | b
      · refine z_lse (ls' := [(0, .ref 1), (1, .null), (2, .int (nI k))]) (by first | rfl | (rw [hopt]; rfl)) ?_
        refine z_aload_n X 0 dX7_soonest_5 rfl rfl ?_
        refine z_getR (ci := 10) (j := 2) (o' := 66) X dX7_soonest_6 ck_1 rfl (by decide) hlk_19 (Or.inl rfl) (fun _ => rfl) (cr_1_2) ?_
        refine z_callVi (As := []) (rest := [.int (nI k)]) (n1 := 0) (ci := 2) X dX7_soonest_9 (c_size2 l _ _ _ _ _ _ _) gX7_soonest_Jx4a65c_size_8abf5 rfl rfl (by decide +kernel) ⟨by decide, by decide⟩ (ck_2 (j := 2) (by decide)) rfl rfl (Nat.le_of_ble_eq_true rfl) ⟨by decide, by decide⟩ (fun _ h => h.elim) ?_
        rintro _ _ ⟨rfl, rfl⟩
        refine z_icmp_ge X 54 dX7_soonest_12 (by decide) (fun c_12 => ?_) (fun c_12 => ?_)
        · exact absurd c_12 (nI_ge hk_4 (by omega))
        · skip
          refine z_aload_n X 0 dX7_soonest_15 rfl rfl ?_
          refine z_getR (ci := 10) (j := 2) (o' := 66) X dX7_soonest_16 ck_1 rfl (by decide) hlk_19 (Or.inl rfl) (fun _ => rfl) (cr_1_2) ?_
          refine z_iload_n X 2 dX7_soonest_19 rfl rfl ?_
          refine z_callVr (As := [.int (nI k)]) (rest := []) (n1 := 1) (ci := 2) X dX7_soonest_20 (c_get2 l _ _ _ _ _ _ _ k (by omega) (by omega)) gX7_soonest_Jx4a65c_get_915e3 rfl rfl (by decide +kernel) ⟨by decide, by decide⟩ (ck_2 (j := 2) (by decide)) rfl rfl (Nat.le_of_ble_eq_true rfl) ⟨by decide, by decide⟩ (fun _ h => h.elim) ?_
          rintro _ _ ⟨rfl, rfl⟩
          refine z_ckc (ci := 7) X dX7_soonest_23 (by decide +kernel) (ck_11 (by omega)) rfl ?_
          refine z_astore_n (ls' := [(3, .ref (32 * k + 11)), (0, .ref 1), (1, .null), (2, .int (nI k))]) X dX7_soonest_26 rfl (by decide) rfl ?_
          refine z_aload_n X 0 dX7_soonest_27 rfl rfl ?_
          refine z_callVi (As := []) (rest := []) (n1 := 0) (ci := 7) X dX7_soonest_28 (c_X4_isInRoom l n i x lm y ol od (⟨⟨hn0, hn1, hn2, hn3⟩, ⟨hb5, hb6, hb7, hb8⟩, hp9, hs9, ho9⟩) k (by omega)) gX7_soonest_X4_isInRoom rfl rfl (by decide +kernel) ⟨by decide, by decide⟩ (ck_11 (by omega)) rfl rfl (Nat.le_of_ble_eq_true rfl) ⟨by decide, by decide⟩ (fun _ h => h.elim) ?_
          rintro _ _ ⟨rfl, rfl⟩
          refine z_if_eq X 48 dX7_soonest_31 (by decide) (fun c_31 => ?_) (fun c_31 => ?_)
          · skip
            refine z_iinc (ls' := [(2, .int (nI (k + 1))), (3, .ref (32 * k + 11)), (0, .ref 1), (1, .null)]) (v := nI (k + 1)) X 3 dX7_soonest_48 rfl (nI_1 _) (by decide) rfl ?_
            refine z_goto (tgt := 4) X dX7_soonest_51 (by decide) ?_
            refine z_sub (ls' := [(0, .ref 1), (1, .null), (2, .int (nI (k + 1)))]) [2, 3, 0] rfl ?_
            refine z_lse (ls' := [(0, .ref 1), (1, va_rf ((c_sn i (k + 1)).map (fun b => 32 * b + 11))), (2, .int (nI (k + 1)))]) (by rw [c_sn_n hopt, if_neg (zb_0.mp c_31)]; rfl) ?_
            exact ih4
          · skip
            refine z_aload_nN X 2 dX7_soonest_34 rfl rfl ?_
            refine z_ifnullN X 46 dX7_soonest_35 (by decide) ?_
            refine z_aload_n X 0 dX7_soonest_46 rfl rfl ?_
            refine z_astore_n (ls' := [(1, .ref (32 * k + 11)), (3, .ref (32 * k + 11)), (0, .ref 1), (2, .int (nI k))]) X dX7_soonest_47 rfl (by decide) rfl ?_
            refine z_iinc (ls' := [(2, .int (nI (k + 1))), (1, .ref (32 * k + 11)), (3, .ref (32 * k + 11)), (0, .ref 1)]) (v := nI (k + 1)) X 3 dX7_soonest_48 rfl (nI_1 _) (by decide) rfl ?_
            refine z_goto (tgt := 4) X dX7_soonest_51 (by decide) ?_
            refine z_sub (ls' := [(0, .ref 1), (1, .ref (32 * k + 11)), (2, .int (nI (k + 1)))]) [3, 1, 0] rfl ?_
            refine z_lse (ls' := [(0, .ref 1), (1, va_rf ((c_sn i (k + 1)).map (fun b => 32 * b + 11))), (2, .int (nI (k + 1)))]) (by rw [c_sn_n hopt, if_pos (zb_n0.mp c_31)]; rfl) ?_
            exact ih4
      · refine z_lse (ls' := [(0, .ref 1), (1, .ref (32 * b + 11)), (2, .int (nI k))]) (by first | rfl | (rw [hopt]; rfl)) ?_
        have hb9 := c_sn_lt hopt
        refine z_aload_n X 0 dX7_soonest_5 rfl rfl ?_
        refine z_getR (ci := 10) (j := 2) (o' := 66) X dX7_soonest_6 ck_1 rfl (by decide) hlk_19 (Or.inl rfl) (fun _ => rfl) (cr_1_2) ?_
        refine z_callVi (As := []) (rest := [.int (nI k)]) (n1 := 0) (ci := 2) X dX7_soonest_9 (c_size2 l _ _ _ _ _ _ _) gX7_soonest_Jx4a65c_size_8abf5 rfl rfl (by decide +kernel) ⟨by decide, by decide⟩ (ck_2 (j := 2) (by decide)) rfl rfl (Nat.le_of_ble_eq_true rfl) ⟨by decide, by decide⟩ (fun _ h => h.elim) ?_
        rintro _ _ ⟨rfl, rfl⟩
        refine z_icmp_ge X 54 dX7_soonest_12 (by decide) (fun c_12 => ?_) (fun c_12 => ?_)
        · exact absurd c_12 (nI_ge hk_4 (by omega))
        · skip
          refine z_aload_n X 0 dX7_soonest_15 rfl rfl ?_
          refine z_getR (ci := 10) (j := 2) (o' := 66) X dX7_soonest_16 ck_1 rfl (by decide) hlk_19 (Or.inl rfl) (fun _ => rfl) (cr_1_2) ?_
          refine z_iload_n X 2 dX7_soonest_19 rfl rfl ?_
          refine z_callVr (As := [.int (nI k)]) (rest := []) (n1 := 1) (ci := 2) X dX7_soonest_20 (c_get2 l _ _ _ _ _ _ _ k (by omega) (by omega)) gX7_soonest_Jx4a65c_get_915e3 rfl rfl (by decide +kernel) ⟨by decide, by decide⟩ (ck_2 (j := 2) (by decide)) rfl rfl (Nat.le_of_ble_eq_true rfl) ⟨by decide, by decide⟩ (fun _ h => h.elim) ?_
          rintro _ _ ⟨rfl, rfl⟩
          refine z_ckc (ci := 7) X dX7_soonest_23 (by decide +kernel) (ck_11 (by omega)) rfl ?_
          refine z_astore_n (ls' := [(3, .ref (32 * k + 11)), (0, .ref 1), (1, .ref (32 * b + 11)), (2, .int (nI k))]) X dX7_soonest_26 rfl (by decide) rfl ?_
          refine z_aload_n X 0 dX7_soonest_27 rfl rfl ?_
          refine z_callVi (As := []) (rest := []) (n1 := 0) (ci := 7) X dX7_soonest_28 (c_X4_isInRoom l n i x lm y ol od (⟨⟨hn0, hn1, hn2, hn3⟩, ⟨hb5, hb6, hb7, hb8⟩, hp9, hs9, ho9⟩) k (by omega)) gX7_soonest_X4_isInRoom rfl rfl (by decide +kernel) ⟨by decide, by decide⟩ (ck_11 (by omega)) rfl rfl (Nat.le_of_ble_eq_true rfl) ⟨by decide, by decide⟩ (fun _ h => h.elim) ?_
          rintro _ _ ⟨rfl, rfl⟩
          refine z_if_eq X 48 dX7_soonest_31 (by decide) (fun c_31 => ?_) (fun c_31 => ?_)
          · skip
            refine z_iinc (ls' := [(2, .int (nI (k + 1))), (3, .ref (32 * k + 11)), (0, .ref 1), (1, .ref (32 * b + 11))]) (v := nI (k + 1)) X 3 dX7_soonest_48 rfl (nI_1 _) (by decide) rfl ?_
            refine z_goto (tgt := 4) X dX7_soonest_51 (by decide) ?_
            refine z_sub (ls' := [(0, .ref 1), (1, .ref (32 * b + 11)), (2, .int (nI (k + 1)))]) [2, 3, 0] rfl ?_
            refine z_lse (ls' := [(0, .ref 1), (1, va_rf ((c_sn i (k + 1)).map (fun b => 32 * b + 11))), (2, .int (nI (k + 1)))]) (by rw [c_sn_s hopt, if_neg (fun e => zb_0.mp c_31 e.1)]; rfl) ?_
            exact ih4
          · skip
            refine z_aload_n X 2 dX7_soonest_34 rfl rfl ?_
            refine z_ifnull X dX7_soonest_35 ?_
            refine z_aload_n X 0 dX7_soonest_38 rfl rfl ?_
            refine z_aload_n X 2 dX7_soonest_39 rfl rfl ?_
            refine z_callVi (As := [.ref (32 * b + 11)]) (rest := []) (n1 := 1) (ci := 7) X dX7_soonest_40 (c_X4_isAheadOf l n i x lm y ol od (⟨⟨hn0, hn1, hn2, hn3⟩, ⟨hb5, hb6, hb7, hb8⟩, hp9, hs9, ho9⟩) k b (by omega) (by omega)) gX7_soonest_X4_isAheadOf rfl rfl (by decide +kernel) ⟨by decide, by decide⟩ (ck_11 (by omega)) rfl rfl (Nat.le_of_ble_eq_true rfl) ⟨by decide, by decide⟩ (fun _ h => h.elim) ?_
            rintro _ _ ⟨rfl, rfl⟩
            refine z_if_eq X 48 dX7_soonest_43 (by decide) (fun c_43 => ?_) (fun c_43 => ?_)
            · skip
              refine z_iinc (ls' := [(2, .int (nI (k + 1))), (3, .ref (32 * k + 11)), (0, .ref 1), (1, .ref (32 * b + 11))]) (v := nI (k + 1)) X 3 dX7_soonest_48 rfl (nI_1 _) (by decide) rfl ?_
              refine z_goto (tgt := 4) X dX7_soonest_51 (by decide) ?_
              refine z_sub (ls' := [(0, .ref 1), (1, .ref (32 * b + 11)), (2, .int (nI (k + 1)))]) [2, 3, 0] rfl ?_
              refine z_lse (ls' := [(0, .ref 1), (1, va_rf ((c_sn i (k + 1)).map (fun b => 32 * b + 11))), (2, .int (nI (k + 1)))]) (by rw [c_sn_s hopt, if_neg (fun e => zb_0.mp c_43 e.2)]; rfl) ?_
              exact ih4
            · skip
              refine z_aload_n X 0 dX7_soonest_46 rfl rfl ?_
              refine z_astore_n (ls' := [(1, .ref (32 * k + 11)), (3, .ref (32 * k + 11)), (0, .ref 1), (2, .int (nI k))]) X dX7_soonest_47 rfl (by decide) rfl ?_
              refine z_iinc (ls' := [(2, .int (nI (k + 1))), (1, .ref (32 * k + 11)), (3, .ref (32 * k + 11)), (0, .ref 1)]) (v := nI (k + 1)) X 3 dX7_soonest_48 rfl (nI_1 _) (by decide) rfl ?_
              refine z_goto (tgt := 4) X dX7_soonest_51 (by decide) ?_
              refine z_sub (ls' := [(0, .ref 1), (1, .ref (32 * k + 11)), (2, .int (nI (k + 1)))]) [3, 1, 0] rfl ?_
              refine z_lse (ls' := [(0, .ref 1), (1, va_rf ((c_sn i (k + 1)).map (fun b => 32 * b + 11))), (2, .int (nI (k + 1)))]) (by rw [c_sn_s hopt, if_pos ⟨zb_n0.mp c_31, zb_n0.mp c_43⟩]; rfl) ?_
              exact ih4
  refine z_sub (ls' := [(0, .ref 1), (1, .null), (2, .int 0)]) [2, 1, 0] rfl ?_
  refine z_lse (ls' := [(0, .ref 1), (1, va_rf ((c_sn i 0).map (fun b => 32 * b + 11))), (2, .int (nI 0))]) (rfl) ?_
  exact hloop4 0 (Nat.zero_le _)

set_option maxRecDepth 100000 in
set_option maxHeartbeats 4000000 in
theorem c_X7_lostShare (l : Launch) (hl0 : l.stackTraces = false) (n : Nat → Nat) (i x : Nat → Nat → Int32) (lm : Nat → Nat → Int64) (y : Nat → Nat → Nat) (ol : Int64) (od : UInt64) (hW : cW n i y) : zS l yX7_lostShare wsX7_lostShare 9 154 4 40 [.ref 1] (cmm n i x lm y ol od) (zpf (fun v9 M1 => (n 7 ≠ 0) ∧ v9 = FP.fdiv (FP.i2f (m_lost i (n 7))) (FP.i2f (nI (n 7))) ∧ M1 = cmm n i x lm y ol od)) (fun E => (E = "java/lang/ArithmeticException" ∧ ¬ (n 7 ≠ 0))) := by
  refine z_intro (cc := cX7_lostShare) (maxL := 4) (ret := (some .float)) (by decide +kernel) rfl (Nat.le_of_ble_eq_true rfl) ?_
  have hlk_19 : Cond.fieldLink RX7 19 "ColdStore" "pallets" "Ljava/util/ArrayList;" ∈ wsX7_lostShare := by decide +kernel
  have hlk_215 : Cond.fieldLink RX7 215 "ColdStore$Pallet" "status" "C" ∈ wsX7_lostShare := by decide +kernel
  have hlk_212 : Cond.fieldLink RX7 212 "ColdStore$Pallet" "lifeLeft" "I" ∈ wsX7_lostShare := by decide +kernel
  intro g X
  show zE g 4 0 [(0, .ref 1)] [] (cmm n i x lm y ol od) 0 0
  obtain ⟨⟨hn0, hn1, hn2, hn3⟩, ⟨hb5, hb6, hb7, hb8⟩, hp9, hs9, ho9⟩ := hW
  refine z_aload_n X 0 dX7_lostShare_0 rfl rfl ?_
  refine z_getR (ci := 10) (j := 2) (o' := 66) X dX7_lostShare_1 ck_1 rfl (by decide) hlk_19 (Or.inl rfl) (fun _ => rfl) (cr_1_2) ?_
  refine z_callVi (As := []) (rest := []) (n1 := 0) (ci := 2) X dX7_lostShare_4 (c_isEmpty2 l n i x lm y ol od (by omega)) gX7_lostShare_Jx4a65c_isEmpty_aae02 rfl rfl (by decide +kernel) ⟨by decide, by decide⟩ (ck_2 (j := 2) (by decide)) rfl rfl (Nat.le_of_ble_eq_true rfl) ⟨by decide, by decide⟩ (fun _ h => h.elim) ?_
  rintro _ _ ⟨rfl, rfl⟩
  refine z_if_eq X 20 dX7_lostShare_7 (by decide) (fun c_7 => ?_) (fun c_7 => ?_)
  · skip
    refine z_iconst (v := 0) X dX7_lostShare_20 (by decide) ?_
    refine z_istore_n (ls' := [(1, .int 0), (0, .ref 1)]) X dX7_lostShare_21 rfl (by decide) rfl ?_
    refine z_iconst (v := 0) X dX7_lostShare_22 (by decide) ?_
    refine z_istore_n (ls' := [(2, .int 0), (1, .int 0), (0, .ref 1)]) X dX7_lostShare_23 rfl (by decide) rfl ?_
    have hloop24 : ∀ k : Nat, k ≤ n 7 → zE g 4 24 [(0, .ref 1), (1, .int (m_lost i k)), (2, .int (nI k))] [] (cmm n i x lm y ol od) (0 + 0) (0 + 0) := by
      refine z_loop (fun k => zE g 4 24 [(0, .ref 1), (1, .int (m_lost i k)), (2, .int (nI k))] [] (cmm n i x lm y ol od) (0 + 0) (0 + 0)) (n 7) ?_ ?_
      · show zE g 4 24 [(0, .ref 1), (1, .int (m_lost i (n 7))), (2, .int (nI (n 7)))] [] (cmm n i x lm y ol od) (0 + 0) (0 + 0)
        refine z_iload_n X 2 dX7_lostShare_24 rfl rfl ?_
        refine z_aload_n X 0 dX7_lostShare_25 rfl rfl ?_
        refine z_getR (ci := 10) (j := 2) (o' := 66) X dX7_lostShare_26 ck_1 rfl (by decide) hlk_19 (Or.inl rfl) (fun _ => rfl) (cr_1_2) ?_
        refine z_callVi (As := []) (rest := [.int (nI (n 7))]) (n1 := 0) (ci := 2) X dX7_lostShare_29 (c_size2 l _ _ _ _ _ _ _) gX7_lostShare_Jx4a65c_size_8abf5 rfl rfl (by decide +kernel) ⟨by decide, by decide⟩ (ck_2 (j := 2) (by decide)) rfl rfl (Nat.le_of_ble_eq_true rfl) ⟨by decide, by decide⟩ (fun _ h => h.elim) ?_
        rintro _ _ ⟨rfl, rfl⟩
        refine z_icmp_ge X 72 dX7_lostShare_32 (by decide) (fun c_32 => ?_) (fun c_32 => ?_)
        · skip
          refine z_iload_n X 1 dX7_lostShare_72 rfl rfl ?_
          refine z_i2f X dX7_lostShare_73 ?_
          refine z_aload_n X 0 dX7_lostShare_74 rfl rfl ?_
          refine z_getR (ci := 10) (j := 2) (o' := 66) X dX7_lostShare_75 ck_1 rfl (by decide) hlk_19 (Or.inl rfl) (fun _ => rfl) (cr_1_2) ?_
          refine z_callVi (As := []) (rest := [.float (FP.i2f (m_lost i (n 7)))]) (n1 := 0) (ci := 2) X dX7_lostShare_78 (c_size2 l _ _ _ _ _ _ _) gX7_lostShare_Jx4a65c_size_8abf5 rfl rfl (by decide +kernel) ⟨by decide, by decide⟩ (ck_2 (j := 2) (by decide)) rfl rfl (Nat.le_of_ble_eq_true rfl) ⟨by decide, by decide⟩ (fun _ h => h.elim) ?_
          rintro _ _ ⟨rfl, rfl⟩
          refine z_i2f X dX7_lostShare_81 ?_
          refine z_fdiv X dX7_lostShare_82 (zf_share _ (fun e => zb_0.mp c_7 (nI_z (by omega) e))) ?_
          refine z_fret X rfl (Nat.le_of_ble_eq_true rfl) (Nat.le_of_ble_eq_true rfl) dX7_lostShare_83 ?_
          exact ⟨_, rfl, (zb_0.mp c_7), rfl, rfl⟩
        · exact absurd (Int32.le_refl _) c_32
      · intro k hk_24 ih24
        have ih24 : zE g 4 24 [(0, .ref 1), (1, .int (m_lost i (k + 1))), (2, .int (nI (k + 1)))] [] (cmm n i x lm y ol od) (0 + 0) (0 + 0) := ih24
        show zE g 4 24 [(0, .ref 1), (1, .int (m_lost i k)), (2, .int (nI k))] [] (cmm n i x lm y ol od) (0 + 0) (0 + 0)
        refine z_iload_n X 2 dX7_lostShare_24 rfl rfl ?_
        refine z_aload_n X 0 dX7_lostShare_25 rfl rfl ?_
        refine z_getR (ci := 10) (j := 2) (o' := 66) X dX7_lostShare_26 ck_1 rfl (by decide) hlk_19 (Or.inl rfl) (fun _ => rfl) (cr_1_2) ?_
        refine z_callVi (As := []) (rest := [.int (nI k)]) (n1 := 0) (ci := 2) X dX7_lostShare_29 (c_size2 l _ _ _ _ _ _ _) gX7_lostShare_Jx4a65c_size_8abf5 rfl rfl (by decide +kernel) ⟨by decide, by decide⟩ (ck_2 (j := 2) (by decide)) rfl rfl (Nat.le_of_ble_eq_true rfl) ⟨by decide, by decide⟩ (fun _ h => h.elim) ?_
        rintro _ _ ⟨rfl, rfl⟩
        refine z_icmp_ge X 72 dX7_lostShare_32 (by decide) (fun c_32 => ?_) (fun c_32 => ?_)
        · exact absurd c_32 (nI_ge hk_24 (by omega))
        · skip
          refine z_aload_n X 0 dX7_lostShare_35 rfl rfl ?_
          refine z_getR (ci := 10) (j := 2) (o' := 66) X dX7_lostShare_36 ck_1 rfl (by decide) hlk_19 (Or.inl rfl) (fun _ => rfl) (cr_1_2) ?_
          refine z_iload_n X 2 dX7_lostShare_39 rfl rfl ?_
          refine z_callVr (As := [.int (nI k)]) (rest := []) (n1 := 1) (ci := 2) X dX7_lostShare_40 (c_get2 l _ _ _ _ _ _ _ k (by omega) (by omega)) gX7_lostShare_Jx4a65c_get_915e3 rfl rfl (by decide +kernel) ⟨by decide, by decide⟩ (ck_2 (j := 2) (by decide)) rfl rfl (Nat.le_of_ble_eq_true rfl) ⟨by decide, by decide⟩ (fun _ h => h.elim) ?_
          rintro _ _ ⟨rfl, rfl⟩
          refine z_ckc (ci := 7) X dX7_lostShare_43 (by decide +kernel) (ck_11 (by omega)) rfl ?_
          refine z_astore_n (ls' := [(3, .ref (32 * k + 11)), (0, .ref 1), (1, .int (m_lost i k)), (2, .int (nI k))]) X dX7_lostShare_46 rfl (by decide) rfl ?_
          refine z_aload_n X 0 dX7_lostShare_47 rfl rfl ?_
          refine z_getI (ci := 7) (j := 3) (x := i 134 k) X dX7_lostShare_48 (ck_11 (by omega)) rfl (by decide) hlk_215 (Or.inl rfl) (fun _ => rfl) (ci_11_3) ?_
          refine z_bipush (v := 120) X dX7_lostShare_51 (by decide) ?_
          refine z_icmp_eq X 63 dX7_lostShare_53 (by decide) (fun c_53 => ?_) (fun c_53 => ?_)
          · skip
            refine z_iinc (ls' := [(1, .int ((m_lost i k) + 1)), (3, .ref (32 * k + 11)), (0, .ref 1), (2, .int (nI k))]) (v := (m_lost i k) + 1) X 2 dX7_lostShare_63 rfl (rfl) (by decide) rfl ?_
            refine z_iinc (ls' := [(2, .int (nI (k + 1))), (1, .int ((m_lost i k) + 1)), (3, .ref (32 * k + 11)), (0, .ref 1)]) (v := nI (k + 1)) X 3 dX7_lostShare_66 rfl (nI_1 _) (by decide) rfl ?_
            refine z_goto (tgt := 24) X dX7_lostShare_69 (by decide) ?_
            refine z_sub (ls' := [(0, .ref 1), (1, .int ((m_lost i k) + 1)), (2, .int (nI (k + 1)))]) [3, 1, 0] rfl ?_
            refine z_lse (ls' := [(0, .ref 1), (1, .int (m_lost i (k + 1))), (2, .int (nI (k + 1)))]) (by rw [show m_lost i (k + 1) = m_lost i k + 1 from congrArg (fun q => m_lost i k + q) (zb_t (by first | exact Or.inl c_53 | exact Or.inr c_60))]) ?_
            exact ih24
          · skip
            refine z_aload_n X 0 dX7_lostShare_56 rfl rfl ?_
            refine z_getI (ci := 7) (j := 5) (x := i 133 k) X dX7_lostShare_57 (ck_11 (by omega)) rfl (by decide) hlk_212 (Or.inl rfl) (fun _ => rfl) (ci_11_5) ?_
            refine z_if_ne X 66 dX7_lostShare_60 (by decide) (fun c_60 => ?_) (fun c_60 => ?_)
            · skip
              refine z_iinc (ls' := [(2, .int (nI (k + 1))), (3, .ref (32 * k + 11)), (0, .ref 1), (1, .int (m_lost i k))]) (v := nI (k + 1)) X 3 dX7_lostShare_66 rfl (nI_1 _) (by decide) rfl ?_
              refine z_goto (tgt := 24) X dX7_lostShare_69 (by decide) ?_
              refine z_sub (ls' := [(0, .ref 1), (1, .int (m_lost i k)), (2, .int (nI (k + 1)))]) [2, 3, 0] rfl ?_
              refine z_lse (ls' := [(0, .ref 1), (1, .int (m_lost i (k + 1))), (2, .int (nI (k + 1)))]) (by rw [show m_lost i (k + 1) = m_lost i k from (congrArg (fun q => m_lost i k + q) (zb_f (fun e => e.elim c_53 c_60))).trans (Int32.add_zero _)]) ?_
              exact ih24
            · skip
              refine z_iinc (ls' := [(1, .int ((m_lost i k) + 1)), (3, .ref (32 * k + 11)), (0, .ref 1), (2, .int (nI k))]) (v := (m_lost i k) + 1) X 2 dX7_lostShare_63 rfl (rfl) (by decide) rfl ?_
              refine z_iinc (ls' := [(2, .int (nI (k + 1))), (1, .int ((m_lost i k) + 1)), (3, .ref (32 * k + 11)), (0, .ref 1)]) (v := nI (k + 1)) X 3 dX7_lostShare_66 rfl (nI_1 _) (by decide) rfl ?_
              refine z_goto (tgt := 24) X dX7_lostShare_69 (by decide) ?_
              refine z_sub (ls' := [(0, .ref 1), (1, .int ((m_lost i k) + 1)), (2, .int (nI (k + 1)))]) [3, 1, 0] rfl ?_
              refine z_lse (ls' := [(0, .ref 1), (1, .int (m_lost i (k + 1))), (2, .int (nI (k + 1)))]) (by rw [show m_lost i (k + 1) = m_lost i k + 1 from congrArg (fun q => m_lost i k + q) (zb_t (by first | exact Or.inl c_53 | exact Or.inr c_60))]) ?_
              exact ih24
    refine z_sub (ls' := [(0, .ref 1), (1, .int 0), (2, .int 0)]) [2, 1, 0] rfl ?_
    refine z_lse (ls' := [(0, .ref 1), (1, .int (m_lost i 0)), (2, .int (nI 0))]) (rfl) ?_
    exact hloop24 0 (Nat.zero_le _)
  · skip
    exact z_throwS X hl0 (cls := "java/lang/ArithmeticException") (text := "there are no pallets") (ik := 118) (is := 252) (ic := 120) (by decide +kernel) (by decide +kernel) (by decide +kernel) rfl dX7_lostShare_10 dX7_lostShare_13 dX7_lostShare_14 dX7_lostShare_16 dX7_lostShare_19 (by decide) (by decide) ⟨by decide, by decide⟩ rfl (⟨rfl, fun h9 => h9 (zb_n0.mp c_7)⟩)
