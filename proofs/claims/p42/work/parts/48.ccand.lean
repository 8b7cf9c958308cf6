/-! PART 48: candidates of the class -/
section ZO
variable {g : zCtx} {l0 : Launch} {cc : ByteArray} {nL : Nat} {ret : Option FieldType} {own nm : String} {Ts : List Cond} {fr lo mc ms : Nat} {M00 : zMem} {post : Option Value → zMem → Prop} {xp : String → Prop} {tab : List ExceptionTableEntry}
variable {pc : Nat} {ls ls' : List (Nat × Value)} {st rest : List Value} {M : zMem} {k n : Nat}
theorem z_astore_nO (X : zCx g l0 cc nL ret own nm Ts fr lo mc ms M00 post xp tab) {i : Nat} {f : Fin 4} {o : Option Nat} (d : decode cc pc = .ok (.astore_n f, 1)) (hi : (f : Nat) = i) (hn9 : i < nL) (hls : (i, va_rf o) :: zfl i ls = ls')
    (kk : zE g nL (pc + 1) ls' rest M k n) : zE g nL pc ls (va_rf o :: rest) M k n := by
  cases o with
  | none => exact z_astore_nN X d hi hn9 hls kk
  | some o => exact z_astore_n X d hi hn9 hls kk
theorem z_astoreO (X : zCx g l0 cc nL ret own nm Ts fr lo mc ms M00 post xp tab) {i : Nat} {o : Option Nat} (d : decode cc pc = .ok (.astore i, 2)) (hn9 : i < nL) (hls : (i, va_rf o) :: zfl i ls = ls')
    (kk : zE g nL (pc + 2) ls' rest M k n) : zE g nL pc ls (va_rf o :: rest) M k n := by
  cases o with
  | none => exact z_astoreN X d hn9 hls kk
  | some o => exact z_astore X d hn9 hls kk
end ZO
def c_it (i : Nat → Nat → Int32) (o np : Nat) : Nat → Option Nat
  | 0 => c_nx i o (fun _ => true) np
  | k + 1 => match c_it i o np k with
    | none => none
    | some g => c_nx i o (fun p => decide (c_lt i g p)) np
theorem c_it_s {i : Nat → Nat → Int32} {o np k g : Nat} (h : c_it i o np k = some g) : c_it i o np (k + 1) = c_nx i o (fun p => decide (c_lt i g p)) np := by
  show (match c_it i o np k with
    | none => none
    | some g => c_nx i o (fun p => decide (c_lt i g p)) np) = _
  rw [h]
theorem c_it_n {i : Nat → Nat → Int32} {o np k : Nat} (h : c_it i o np k = none) : ∀ m, k ≤ m → c_it i o np m = none
  | 0, hm => by rw [← h, show k = 0 by omega]
  | m + 1, hm => by
    rcases Nat.lt_or_ge m k with q | q
    · rw [show m + 1 = k by omega]; exact h
    · have := c_it_n h m q
      show (match c_it i o np m with
        | none => none
        | some g => c_nx i o (fun p => decide (c_lt i g p)) np) = _
      rw [this]
theorem c_it_lt {i : Nat → Nat → Int32} {o np : Nat} : ∀ {k b : Nat}, c_it i o np k = some b → b < np ∧ m_isC i o b
  | 0, b, h => (c_nx_lt h).imp id (fun q => q.2)
  | k + 1, b, h => by
    cases hk : c_it i o np k with
    | none => rw [c_it_n hk (k + 1) (by omega)] at h; cases h
    | some g => rw [c_it_s hk] at h; exact (c_nx_lt h).imp id (fun q => q.2)
/-- the candidate at the place v -/
def c_at (i : Nat → Nat → Int32) (o np : Nat) (v : Int32) : Option Nat := if v < 0 ∨ m_cnt i o np ≤ v then none else c_it i o np (cl v)
set_option maxRecDepth 100000 in
set_option maxHeartbeats 4000000 in
theorem c_next0 (l : Launch) (n : Nat → Nat) (i x : Nat → Nat → Int32) (lm : Nat → Nat → Int64) (y : Nat → Nat → Nat) (ol : Int64) (od : UInt64) (hW : cW n i y) (o : Nat) (ho : o < n 8) : zS l yX7_nextCandidate wsX7_nextCandidate 9 154 0 0 [.ref 1, .ref (32 * o + 13), .null] (cmm n i x lm y ol od) (zpq (fun q M1 => q = (c_nx i o (fun _ => true) (n 7)).map (fun b => 32 * b + 11) ∧ M1 = cmm n i x lm y ol od)) zno := by
  refine z_intro (cc := cX7_nextCandidate) (maxL := 7) (ret := (some (.object "ColdStore$Pallet"))) (by decide +kernel) rfl (Nat.le_of_ble_eq_true rfl) ?_
  have hlk_19 : Cond.fieldLink RX7 19 "ColdStore" "pallets" "Ljava/util/ArrayList;" ∈ wsX7_nextCandidate := by decide +kernel
  intro g X
  show zE g 7 0 [(0, .ref 1), (1, .ref (32 * o + 13)), (2, .null)] [] (cmm n i x lm y ol od) 0 0
  obtain ⟨⟨hn0, hn1, hn2, hn3⟩, ⟨hb5, hb6, hb7, hb8⟩, hp9, hs9, ho9⟩ := hW
  refine z_null X dX7_nextCandidate_0 ?_
  refine z_astore_nN (ls' := [(3, .null), (0, .ref 1), (1, .ref (32 * o + 13)), (2, .null)]) X dX7_nextCandidate_1 rfl (by decide) rfl ?_
  refine z_iconst (v := 0) X dX7_nextCandidate_2 (by decide) ?_
  refine z_istore (ls' := [(4, .int 0), (3, .null), (0, .ref 1), (1, .ref (32 * o + 13)), (2, .null)]) X dX7_nextCandidate_3 (by decide) rfl ?_
  have hloop5 : ∀ k : Nat, k ≤ n 7 → zE g 7 5 [(0, .ref 1), (1, .ref (32 * o + 13)), (2, .null), (3, va_rf ((c_nx i o (fun _ => true) k).map (fun b => 32 * b + 11))), (4, .int (nI k))] [] (cmm n i x lm y ol od) 0 0 := by
    refine z_loop (fun k => zE g 7 5 [(0, .ref 1), (1, .ref (32 * o + 13)), (2, .null), (3, va_rf ((c_nx i o (fun _ => true) k).map (fun b => 32 * b + 11))), (4, .int (nI k))] [] (cmm n i x lm y ol od) 0 0) (n 7) ?_ ?_
    · show zE g 7 5 [(0, .ref 1), (1, .ref (32 * o + 13)), (2, .null), (3, va_rf ((c_nx i o (fun _ => true) (n 7)).map (fun b => 32 * b + 11))), (4, .int (nI (n 7)))] [] (cmm n i x lm y ol od) 0 0
      refine z_iload X 4 dX7_nextCandidate_5 rfl ?_
      refine z_aload_n X 0 dX7_nextCandidate_7 rfl rfl ?_
      refine z_getR (ci := 10) (j := 2) (o' := 66) X dX7_nextCandidate_8 ck_1 rfl (by decide) hlk_19 (Or.inl rfl) (fun _ => rfl) (cr_1_2) ?_
      refine z_callVi (As := []) (rest := [.int (nI (n 7))]) (n1 := 0) (ci := 2) X dX7_nextCandidate_11 (c_size2 l _ _ _ _ _ _ _) gX7_nextCandidate_Jx4a65c_size_8abf5 rfl rfl (by decide +kernel) ⟨by decide, by decide⟩ (ck_2 (j := 2) (by decide)) rfl rfl (Nat.le_of_ble_eq_true rfl) ⟨by decide, by decide⟩ (fun _ h => h.elim) ?_
      rintro _ _ ⟨rfl, rfl⟩
      refine z_icmp_ge X 87 dX7_nextCandidate_14 (by decide) (fun c_14 => ?_) (fun c_14 => ?_)
      · skip
        rcases hopt : c_nx i o (fun _ => true) (n 7) with _ | b
        · refine z_lse (ls' := [(0, .ref 1), (1, .ref (32 * o + 13)), (2, .null), (3, .null), (4, .int (nI (n 7)))]) (by first | rfl | (rw [hopt]; rfl)) ?_
          refine z_aload_nN X 3 dX7_nextCandidate_87 rfl rfl ?_
          refine z_aret X rfl (Or.inl ⟨_, rfl⟩) (Or.inl rfl) (Nat.le_of_ble_eq_true rfl) (Nat.le_of_ble_eq_true rfl) dX7_nextCandidate_88 ?_
          exact ⟨none, rfl, by rw [hopt]; rfl, rfl⟩
        · refine z_lse (ls' := [(0, .ref 1), (1, .ref (32 * o + 13)), (2, .null), (3, .ref (32 * b + 11)), (4, .int (nI (n 7)))]) (by first | rfl | (rw [hopt]; rfl)) ?_
          refine z_aload_n X 3 dX7_nextCandidate_87 rfl rfl ?_
          refine z_aret X rfl (Or.inl ⟨_, rfl⟩) (Or.inr ⟨_, rfl⟩) (Nat.le_of_ble_eq_true rfl) (Nat.le_of_ble_eq_true rfl) dX7_nextCandidate_88 ?_
          exact ⟨some _, rfl, by rw [hopt]; rfl, rfl⟩
      · exact absurd (Int32.le_refl _) c_14
    · intro k hk_5 ih5
      have ih5 : zE g 7 5 [(0, .ref 1), (1, .ref (32 * o + 13)), (2, .null), (3, va_rf ((c_nx i o (fun _ => true) (k + 1)).map (fun b => 32 * b + 11))), (4, .int (nI (k + 1)))] [] (cmm n i x lm y ol od) 0 0 := ih5
      show zE g 7 5 [(0, .ref 1), (1, .ref (32 * o + 13)), (2, .null), (3, va_rf ((c_nx i o (fun _ => true) k).map (fun b => 32 * b + 11))), (4, .int (nI k))] [] (cmm n i x lm y ol od) 0 0
      refine z_iload X 4 dX7_nextCandidate_5 rfl ?_
      rcases hopt : c_nx i o (fun _ => true) k with _ | b
      · refine z_lse (ls' := [(0, .ref 1), (1, .ref (32 * o + 13)), (2, .null), (3, .null), (4, .int (nI k))]) (by first | rfl | (rw [hopt]; rfl)) ?_
        refine z_aload_n X 0 dX7_nextCandidate_7 rfl rfl ?_
        refine z_getR (ci := 10) (j := 2) (o' := 66) X dX7_nextCandidate_8 ck_1 rfl (by decide) hlk_19 (Or.inl rfl) (fun _ => rfl) (cr_1_2) ?_
        refine z_callVi (As := []) (rest := [.int (nI k)]) (n1 := 0) (ci := 2) X dX7_nextCandidate_11 (c_size2 l _ _ _ _ _ _ _) gX7_nextCandidate_Jx4a65c_size_8abf5 rfl rfl (by decide +kernel) ⟨by decide, by decide⟩ (ck_2 (j := 2) (by decide)) rfl rfl (Nat.le_of_ble_eq_true rfl) ⟨by decide, by decide⟩ (fun _ h => h.elim) ?_
        rintro _ _ ⟨rfl, rfl⟩
        refine z_icmp_ge X 87 dX7_nextCandidate_14 (by decide) (fun c_14 => ?_) (fun c_14 => ?_)
        · exact absurd c_14 (nI_ge hk_5 (by omega))
        · skip
          refine z_aload_n X 0 dX7_nextCandidate_17 rfl rfl ?_
          refine z_getR (ci := 10) (j := 2) (o' := 66) X dX7_nextCandidate_18 ck_1 rfl (by decide) hlk_19 (Or.inl rfl) (fun _ => rfl) (cr_1_2) ?_
          refine z_iload X 4 dX7_nextCandidate_21 rfl ?_
          refine z_callVr (As := [.int (nI k)]) (rest := []) (n1 := 1) (ci := 2) X dX7_nextCandidate_23 (c_get2 l _ _ _ _ _ _ _ k (by omega) (by omega)) gX7_nextCandidate_Jx4a65c_get_915e3 rfl rfl (by decide +kernel) ⟨by decide, by decide⟩ (ck_2 (j := 2) (by decide)) rfl rfl (Nat.le_of_ble_eq_true rfl) ⟨by decide, by decide⟩ (fun _ h => h.elim) ?_
          rintro _ _ ⟨rfl, rfl⟩
          refine z_ckc (ci := 7) X dX7_nextCandidate_26 (by decide +kernel) (ck_11 (by omega)) rfl ?_
          refine z_astore (ls' := [(5, .ref (32 * k + 11)), (0, .ref 1), (1, .ref (32 * o + 13)), (2, .null), (3, .null), (4, .int (nI k))]) X dX7_nextCandidate_29 (by decide) rfl ?_
          refine z_aload_nN X 3 dX7_nextCandidate_31 rfl rfl ?_
          refine z_ifnullN X 44 dX7_nextCandidate_32 (by decide) ?_
          refine z_iconst (v := 1) X dX7_nextCandidate_44 (by decide) ?_
          refine z_goto (tgt := 49) X dX7_nextCandidate_45 (by decide) ?_
          refine z_istore (ls' := [(6, .int 1), (5, .ref (32 * k + 11)), (0, .ref 1), (1, .ref (32 * o + 13)), (2, .null), (3, .null), (4, .int (nI k))]) X dX7_nextCandidate_49 (by decide) rfl ?_
          refine z_iload X 0 dX7_nextCandidate_51 rfl ?_
          refine z_if_eq X 81 dX7_nextCandidate_53 (by decide) (fun c_53 => ?_) (fun c_53 => ?_)
          · exact absurd c_53 (by decide)
          · skip
            refine z_aload_n X 3 dX7_nextCandidate_56 rfl rfl ?_
            refine z_aload X 1 dX7_nextCandidate_57 rfl ?_
            refine z_callVi (As := [.ref (32 * k + 11)]) (rest := []) (n1 := 1) (ci := 6) X dX7_nextCandidate_59 (c_X3_accepts l n i x lm y ol od (⟨⟨hn0, hn1, hn2, hn3⟩, ⟨hb5, hb6, hb7, hb8⟩, hp9, hs9, ho9⟩) o k (by omega) (by omega)) gX7_nextCandidate_X3_accepts rfl rfl (by decide +kernel) ⟨by decide, by decide⟩ (ck_13 (by omega)) rfl rfl (Nat.le_of_ble_eq_true rfl) ⟨by decide, by decide⟩ (fun _ h => h.elim) ?_
            rintro _ _ ⟨rfl, rfl⟩
            refine z_if_eq X 81 dX7_nextCandidate_62 (by decide) (fun c_62 => ?_) (fun c_62 => ?_)
            · skip
              refine z_iinc (ls' := [(4, .int (nI (k + 1))), (6, .int 1), (5, .ref (32 * k + 11)), (0, .ref 1), (1, .ref (32 * o + 13)), (2, .null), (3, .null)]) (v := nI (k + 1)) X 6 dX7_nextCandidate_81 rfl (nI_1 _) (by decide) rfl ?_
              refine z_goto (tgt := 5) X dX7_nextCandidate_84 (by decide) ?_
              refine z_sub (ls' := [(0, .ref 1), (1, .ref (32 * o + 13)), (2, .null), (3, .null), (4, .int (nI (k + 1)))]) [3, 4, 5, 6, 0] rfl ?_
              refine z_lse (ls' := [(0, .ref 1), (1, .ref (32 * o + 13)), (2, .null), (3, va_rf ((c_nx i o (fun _ => true) (k + 1)).map (fun b => 32 * b + 11))), (4, .int (nI (k + 1)))]) (by rw [c_nx_n hopt, if_neg (fun e => zb_0.mp c_62 e.2)]; rfl) ?_
              exact ih5
            · skip
              refine z_aload_nN X 5 dX7_nextCandidate_65 rfl rfl ?_
              refine z_ifnullN X 78 dX7_nextCandidate_66 (by decide) ?_
              refine z_aload X 1 dX7_nextCandidate_78 rfl ?_
              refine z_astore_n (ls' := [(3, .ref (32 * k + 11)), (6, .int 1), (5, .ref (32 * k + 11)), (0, .ref 1), (1, .ref (32 * o + 13)), (2, .null), (4, .int (nI k))]) X dX7_nextCandidate_80 rfl (by decide) rfl ?_
              refine z_iinc (ls' := [(4, .int (nI (k + 1))), (3, .ref (32 * k + 11)), (6, .int 1), (5, .ref (32 * k + 11)), (0, .ref 1), (1, .ref (32 * o + 13)), (2, .null)]) (v := nI (k + 1)) X 6 dX7_nextCandidate_81 rfl (nI_1 _) (by decide) rfl ?_
              refine z_goto (tgt := 5) X dX7_nextCandidate_84 (by decide) ?_
              refine z_sub (ls' := [(0, .ref 1), (1, .ref (32 * o + 13)), (2, .null), (3, .ref (32 * k + 11)), (4, .int (nI (k + 1)))]) [4, 5, 6, 1, 0] rfl ?_
              refine z_lse (ls' := [(0, .ref 1), (1, .ref (32 * o + 13)), (2, .null), (3, va_rf ((c_nx i o (fun _ => true) (k + 1)).map (fun b => 32 * b + 11))), (4, .int (nI (k + 1)))]) (by rw [c_nx_n hopt, if_pos ⟨rfl, zb_n0.mp c_62⟩]; rfl) ?_
              exact ih5
      · refine z_lse (ls' := [(0, .ref 1), (1, .ref (32 * o + 13)), (2, .null), (3, .ref (32 * b + 11)), (4, .int (nI k))]) (by first | rfl | (rw [hopt]; rfl)) ?_
        have hb9 := (c_nx_lt hopt).1
        refine z_aload_n X 0 dX7_nextCandidate_7 rfl rfl ?_
        refine z_getR (ci := 10) (j := 2) (o' := 66) X dX7_nextCandidate_8 ck_1 rfl (by decide) hlk_19 (Or.inl rfl) (fun _ => rfl) (cr_1_2) ?_
        refine z_callVi (As := []) (rest := [.int (nI k)]) (n1 := 0) (ci := 2) X dX7_nextCandidate_11 (c_size2 l _ _ _ _ _ _ _) gX7_nextCandidate_Jx4a65c_size_8abf5 rfl rfl (by decide +kernel) ⟨by decide, by decide⟩ (ck_2 (j := 2) (by decide)) rfl rfl (Nat.le_of_ble_eq_true rfl) ⟨by decide, by decide⟩ (fun _ h => h.elim) ?_
        rintro _ _ ⟨rfl, rfl⟩
        refine z_icmp_ge X 87 dX7_nextCandidate_14 (by decide) (fun c_14 => ?_) (fun c_14 => ?_)
        · exact absurd c_14 (nI_ge hk_5 (by omega))
        · skip
          refine z_aload_n X 0 dX7_nextCandidate_17 rfl rfl ?_
          refine z_getR (ci := 10) (j := 2) (o' := 66) X dX7_nextCandidate_18 ck_1 rfl (by decide) hlk_19 (Or.inl rfl) (fun _ => rfl) (cr_1_2) ?_
          refine z_iload X 4 dX7_nextCandidate_21 rfl ?_
          refine z_callVr (As := [.int (nI k)]) (rest := []) (n1 := 1) (ci := 2) X dX7_nextCandidate_23 (c_get2 l _ _ _ _ _ _ _ k (by omega) (by omega)) gX7_nextCandidate_Jx4a65c_get_915e3 rfl rfl (by decide +kernel) ⟨by decide, by decide⟩ (ck_2 (j := 2) (by decide)) rfl rfl (Nat.le_of_ble_eq_true rfl) ⟨by decide, by decide⟩ (fun _ h => h.elim) ?_
          rintro _ _ ⟨rfl, rfl⟩
          refine z_ckc (ci := 7) X dX7_nextCandidate_26 (by decide +kernel) (ck_11 (by omega)) rfl ?_
          refine z_astore (ls' := [(5, .ref (32 * k + 11)), (0, .ref 1), (1, .ref (32 * o + 13)), (2, .null), (3, .ref (32 * b + 11)), (4, .int (nI k))]) X dX7_nextCandidate_29 (by decide) rfl ?_
          refine z_aload_nN X 3 dX7_nextCandidate_31 rfl rfl ?_
          refine z_ifnullN X 44 dX7_nextCandidate_32 (by decide) ?_
          refine z_iconst (v := 1) X dX7_nextCandidate_44 (by decide) ?_
          refine z_goto (tgt := 49) X dX7_nextCandidate_45 (by decide) ?_
          refine z_istore (ls' := [(6, .int 1), (5, .ref (32 * k + 11)), (0, .ref 1), (1, .ref (32 * o + 13)), (2, .null), (3, .ref (32 * b + 11)), (4, .int (nI k))]) X dX7_nextCandidate_49 (by decide) rfl ?_
          refine z_iload X 0 dX7_nextCandidate_51 rfl ?_
          refine z_if_eq X 81 dX7_nextCandidate_53 (by decide) (fun c_53 => ?_) (fun c_53 => ?_)
          · exact absurd c_53 (by decide)
          · skip
            refine z_aload_n X 3 dX7_nextCandidate_56 rfl rfl ?_
            refine z_aload X 1 dX7_nextCandidate_57 rfl ?_
            refine z_callVi (As := [.ref (32 * k + 11)]) (rest := []) (n1 := 1) (ci := 6) X dX7_nextCandidate_59 (c_X3_accepts l n i x lm y ol od (⟨⟨hn0, hn1, hn2, hn3⟩, ⟨hb5, hb6, hb7, hb8⟩, hp9, hs9, ho9⟩) o k (by omega) (by omega)) gX7_nextCandidate_X3_accepts rfl rfl (by decide +kernel) ⟨by decide, by decide⟩ (ck_13 (by omega)) rfl rfl (Nat.le_of_ble_eq_true rfl) ⟨by decide, by decide⟩ (fun _ h => h.elim) ?_
            rintro _ _ ⟨rfl, rfl⟩
            refine z_if_eq X 81 dX7_nextCandidate_62 (by decide) (fun c_62 => ?_) (fun c_62 => ?_)
            · skip
              refine z_iinc (ls' := [(4, .int (nI (k + 1))), (6, .int 1), (5, .ref (32 * k + 11)), (0, .ref 1), (1, .ref (32 * o + 13)), (2, .null), (3, .ref (32 * b + 11))]) (v := nI (k + 1)) X 6 dX7_nextCandidate_81 rfl (nI_1 _) (by decide) rfl ?_
              refine z_goto (tgt := 5) X dX7_nextCandidate_84 (by decide) ?_
              refine z_sub (ls' := [(0, .ref 1), (1, .ref (32 * o + 13)), (2, .null), (3, .ref (32 * b + 11)), (4, .int (nI (k + 1)))]) [3, 4, 5, 6, 0] rfl ?_
              refine z_lse (ls' := [(0, .ref 1), (1, .ref (32 * o + 13)), (2, .null), (3, va_rf ((c_nx i o (fun _ => true) (k + 1)).map (fun b => 32 * b + 11))), (4, .int (nI (k + 1)))]) (by rw [c_nx_s hopt, if_neg (fun e => zb_0.mp c_62 e.1.2)]; rfl) ?_
              exact ih5
            · skip
              refine z_aload_n X 5 dX7_nextCandidate_65 rfl rfl ?_
              refine z_ifnull X dX7_nextCandidate_66 ?_
              refine z_aload X 1 dX7_nextCandidate_69 rfl ?_
              refine z_aload_n X 5 dX7_nextCandidate_71 rfl rfl ?_
              refine z_callVi (As := [.ref (32 * b + 11)]) (rest := []) (n1 := 1) (ci := 7) X dX7_nextCandidate_72 (c_X4_isAheadOf l n i x lm y ol od (⟨⟨hn0, hn1, hn2, hn3⟩, ⟨hb5, hb6, hb7, hb8⟩, hp9, hs9, ho9⟩) k b (by omega) (by omega)) gX7_nextCandidate_X4_isAheadOf rfl rfl (by decide +kernel) ⟨by decide, by decide⟩ (ck_11 (by omega)) rfl rfl (Nat.le_of_ble_eq_true rfl) ⟨by decide, by decide⟩ (fun _ h => h.elim) ?_
              rintro _ _ ⟨rfl, rfl⟩
              refine z_if_eq X 81 dX7_nextCandidate_75 (by decide) (fun c_75 => ?_) (fun c_75 => ?_)
              · skip
                refine z_iinc (ls' := [(4, .int (nI (k + 1))), (6, .int 1), (5, .ref (32 * k + 11)), (0, .ref 1), (1, .ref (32 * o + 13)), (2, .null), (3, .ref (32 * b + 11))]) (v := nI (k + 1)) X 6 dX7_nextCandidate_81 rfl (nI_1 _) (by decide) rfl ?_
                refine z_goto (tgt := 5) X dX7_nextCandidate_84 (by decide) ?_
                refine z_sub (ls' := [(0, .ref 1), (1, .ref (32 * o + 13)), (2, .null), (3, .ref (32 * b + 11)), (4, .int (nI (k + 1)))]) [3, 4, 5, 6, 0] rfl ?_
                refine z_lse (ls' := [(0, .ref 1), (1, .ref (32 * o + 13)), (2, .null), (3, va_rf ((c_nx i o (fun _ => true) (k + 1)).map (fun b => 32 * b + 11))), (4, .int (nI (k + 1)))]) (by rw [c_nx_s hopt, if_neg (fun e => zb_0.mp c_75 e.2)]; rfl) ?_
                exact ih5
              · skip
                refine z_aload X 1 dX7_nextCandidate_78 rfl ?_
                refine z_astore_n (ls' := [(3, .ref (32 * k + 11)), (6, .int 1), (5, .ref (32 * k + 11)), (0, .ref 1), (1, .ref (32 * o + 13)), (2, .null), (4, .int (nI k))]) X dX7_nextCandidate_80 rfl (by decide) rfl ?_
                refine z_iinc (ls' := [(4, .int (nI (k + 1))), (3, .ref (32 * k + 11)), (6, .int 1), (5, .ref (32 * k + 11)), (0, .ref 1), (1, .ref (32 * o + 13)), (2, .null)]) (v := nI (k + 1)) X 6 dX7_nextCandidate_81 rfl (nI_1 _) (by decide) rfl ?_
                refine z_goto (tgt := 5) X dX7_nextCandidate_84 (by decide) ?_
                refine z_sub (ls' := [(0, .ref 1), (1, .ref (32 * o + 13)), (2, .null), (3, .ref (32 * k + 11)), (4, .int (nI (k + 1)))]) [4, 5, 6, 1, 0] rfl ?_
                refine z_lse (ls' := [(0, .ref 1), (1, .ref (32 * o + 13)), (2, .null), (3, va_rf ((c_nx i o (fun _ => true) (k + 1)).map (fun b => 32 * b + 11))), (4, .int (nI (k + 1)))]) (by rw [c_nx_s hopt, if_pos ⟨⟨rfl, zb_n0.mp c_62⟩, zb_n0.mp c_75⟩]; rfl) ?_
                exact ih5
  refine z_sub (ls' := [(0, .ref 1), (1, .ref (32 * o + 13)), (2, .null), (3, .null), (4, .int 0)]) [2, 3, 4, 1, 0] rfl ?_
  refine z_lse (ls' := [(0, .ref 1), (1, .ref (32 * o + 13)), (2, .null), (3, va_rf ((c_nx i o (fun _ => true) 0).map (fun b => 32 * b + 11))), (4, .int (nI 0))]) (rfl) ?_
  exact hloop5 0 (Nat.zero_le _)

set_option maxRecDepth 100000 in
set_option maxHeartbeats 4000000 in
theorem c_nextG (l : Launch) (n : Nat → Nat) (i x : Nat → Nat → Int32) (lm : Nat → Nat → Int64) (y : Nat → Nat → Nat) (ol : Int64) (od : UInt64) (hW : cW n i y) (o : Nat) (ho : o < n 8) (g9 : Nat) (hg : g9 < n 7) : zS l yX7_nextCandidate wsX7_nextCandidate 9 154 0 0 [.ref 1, .ref (32 * o + 13), .ref (32 * g9 + 11)] (cmm n i x lm y ol od) (zpq (fun q M1 => q = (c_nx i o (fun p => decide (c_lt i g9 p)) (n 7)).map (fun b => 32 * b + 11) ∧ M1 = cmm n i x lm y ol od)) zno := by
  refine z_intro (cc := cX7_nextCandidate) (maxL := 7) (ret := (some (.object "ColdStore$Pallet"))) (by decide +kernel) rfl (Nat.le_of_ble_eq_true rfl) ?_
  have hlk_19 : Cond.fieldLink RX7 19 "ColdStore" "pallets" "Ljava/util/ArrayList;" ∈ wsX7_nextCandidate := by decide +kernel
  intro g X
  show zE g 7 0 [(0, .ref 1), (1, .ref (32 * o + 13)), (2, .ref (32 * g9 + 11))] [] (cmm n i x lm y ol od) 0 0
  obtain ⟨⟨hn0, hn1, hn2, hn3⟩, ⟨hb5, hb6, hb7, hb8⟩, hp9, hs9, ho9⟩ := hW
  refine z_null X dX7_nextCandidate_0 ?_
  refine z_astore_nN (ls' := [(3, .null), (0, .ref 1), (1, .ref (32 * o + 13)), (2, .ref (32 * g9 + 11))]) X dX7_nextCandidate_1 rfl (by decide) rfl ?_
  refine z_iconst (v := 0) X dX7_nextCandidate_2 (by decide) ?_
  refine z_istore (ls' := [(4, .int 0), (3, .null), (0, .ref 1), (1, .ref (32 * o + 13)), (2, .ref (32 * g9 + 11))]) X dX7_nextCandidate_3 (by decide) rfl ?_
  have hloop5 : ∀ k : Nat, k ≤ n 7 → zE g 7 5 [(0, .ref 1), (1, .ref (32 * o + 13)), (2, .ref (32 * g9 + 11)), (3, va_rf ((c_nx i o (fun p => decide (c_lt i g9 p)) k).map (fun b => 32 * b + 11))), (4, .int (nI k))] [] (cmm n i x lm y ol od) 0 0 := by
    refine z_loop (fun k => zE g 7 5 [(0, .ref 1), (1, .ref (32 * o + 13)), (2, .ref (32 * g9 + 11)), (3, va_rf ((c_nx i o (fun p => decide (c_lt i g9 p)) k).map (fun b => 32 * b + 11))), (4, .int (nI k))] [] (cmm n i x lm y ol od) 0 0) (n 7) ?_ ?_
    · show zE g 7 5 [(0, .ref 1), (1, .ref (32 * o + 13)), (2, .ref (32 * g9 + 11)), (3, va_rf ((c_nx i o (fun p => decide (c_lt i g9 p)) (n 7)).map (fun b => 32 * b + 11))), (4, .int (nI (n 7)))] [] (cmm n i x lm y ol od) 0 0
      refine z_iload X 4 dX7_nextCandidate_5 rfl ?_
      refine z_aload_n X 0 dX7_nextCandidate_7 rfl rfl ?_
      refine z_getR (ci := 10) (j := 2) (o' := 66) X dX7_nextCandidate_8 ck_1 rfl (by decide) hlk_19 (Or.inl rfl) (fun _ => rfl) (cr_1_2) ?_
      refine z_callVi (As := []) (rest := [.int (nI (n 7))]) (n1 := 0) (ci := 2) X dX7_nextCandidate_11 (c_size2 l _ _ _ _ _ _ _) gX7_nextCandidate_Jx4a65c_size_8abf5 rfl rfl (by decide +kernel) ⟨by decide, by decide⟩ (ck_2 (j := 2) (by decide)) rfl rfl (Nat.le_of_ble_eq_true rfl) ⟨by decide, by decide⟩ (fun _ h => h.elim) ?_
      rintro _ _ ⟨rfl, rfl⟩
      refine z_icmp_ge X 87 dX7_nextCandidate_14 (by decide) (fun c_14 => ?_) (fun c_14 => ?_)
      · skip
        rcases hopt : c_nx i o (fun p => decide (c_lt i g9 p)) (n 7) with _ | b
        · refine z_lse (ls' := [(0, .ref 1), (1, .ref (32 * o + 13)), (2, .ref (32 * g9 + 11)), (3, .null), (4, .int (nI (n 7)))]) (by first | rfl | (rw [hopt]; rfl)) ?_
          refine z_aload_nN X 3 dX7_nextCandidate_87 rfl rfl ?_
          refine z_aret X rfl (Or.inl ⟨_, rfl⟩) (Or.inl rfl) (Nat.le_of_ble_eq_true rfl) (Nat.le_of_ble_eq_true rfl) dX7_nextCandidate_88 ?_
          exact ⟨none, rfl, by rw [hopt]; rfl, rfl⟩
        · refine z_lse (ls' := [(0, .ref 1), (1, .ref (32 * o + 13)), (2, .ref (32 * g9 + 11)), (3, .ref (32 * b + 11)), (4, .int (nI (n 7)))]) (by first | rfl | (rw [hopt]; rfl)) ?_
          refine z_aload_n X 3 dX7_nextCandidate_87 rfl rfl ?_
          refine z_aret X rfl (Or.inl ⟨_, rfl⟩) (Or.inr ⟨_, rfl⟩) (Nat.le_of_ble_eq_true rfl) (Nat.le_of_ble_eq_true rfl) dX7_nextCandidate_88 ?_
          exact ⟨some _, rfl, by rw [hopt]; rfl, rfl⟩
      · exact absurd (Int32.le_refl _) c_14
    · intro k hk_5 ih5
      have ih5 : zE g 7 5 [(0, .ref 1), (1, .ref (32 * o + 13)), (2, .ref (32 * g9 + 11)), (3, va_rf ((c_nx i o (fun p => decide (c_lt i g9 p)) (k + 1)).map (fun b => 32 * b + 11))), (4, .int (nI (k + 1)))] [] (cmm n i x lm y ol od) 0 0 := ih5
      show zE g 7 5 [(0, .ref 1), (1, .ref (32 * o + 13)), (2, .ref (32 * g9 + 11)), (3, va_rf ((c_nx i o (fun p => decide (c_lt i g9 p)) k).map (fun b => 32 * b + 11))), (4, .int (nI k))] [] (cmm n i x lm y ol od) 0 0
      refine z_iload X 4 dX7_nextCandidate_5 rfl ?_
      rcases hopt : c_nx i o (fun p => decide (c_lt i g9 p)) k with _ | b
      · refine z_lse (ls' := [(0, .ref 1), (1, .ref (32 * o + 13)), (2, .ref (32 * g9 + 11)), (3, .null), (4, .int (nI k))]) (by first | rfl | (rw [hopt]; rfl)) ?_
        refine z_aload_n X 0 dX7_nextCandidate_7 rfl rfl ?_
        refine z_getR (ci := 10) (j := 2) (o' := 66) X dX7_nextCandidate_8 ck_1 rfl (by decide) hlk_19 (Or.inl rfl) (fun _ => rfl) (cr_1_2) ?_
        refine z_callVi (As := []) (rest := [.int (nI k)]) (n1 := 0) (ci := 2) X dX7_nextCandidate_11 (c_size2 l _ _ _ _ _ _ _) gX7_nextCandidate_Jx4a65c_size_8abf5 rfl rfl (by decide +kernel) ⟨by decide, by decide⟩ (ck_2 (j := 2) (by decide)) rfl rfl (Nat.le_of_ble_eq_true rfl) ⟨by decide, by decide⟩ (fun _ h => h.elim) ?_
        rintro _ _ ⟨rfl, rfl⟩
        refine z_icmp_ge X 87 dX7_nextCandidate_14 (by decide) (fun c_14 => ?_) (fun c_14 => ?_)
        · exact absurd c_14 (nI_ge hk_5 (by omega))
        · skip
          refine z_aload_n X 0 dX7_nextCandidate_17 rfl rfl ?_
          refine z_getR (ci := 10) (j := 2) (o' := 66) X dX7_nextCandidate_18 ck_1 rfl (by decide) hlk_19 (Or.inl rfl) (fun _ => rfl) (cr_1_2) ?_
          refine z_iload X 4 dX7_nextCandidate_21 rfl ?_
          refine z_callVr (As := [.int (nI k)]) (rest := []) (n1 := 1) (ci := 2) X dX7_nextCandidate_23 (c_get2 l _ _ _ _ _ _ _ k (by omega) (by omega)) gX7_nextCandidate_Jx4a65c_get_915e3 rfl rfl (by decide +kernel) ⟨by decide, by decide⟩ (ck_2 (j := 2) (by decide)) rfl rfl (Nat.le_of_ble_eq_true rfl) ⟨by decide, by decide⟩ (fun _ h => h.elim) ?_
          rintro _ _ ⟨rfl, rfl⟩
          refine z_ckc (ci := 7) X dX7_nextCandidate_26 (by decide +kernel) (ck_11 (by omega)) rfl ?_
          refine z_astore (ls' := [(5, .ref (32 * k + 11)), (0, .ref 1), (1, .ref (32 * o + 13)), (2, .ref (32 * g9 + 11)), (3, .null), (4, .int (nI k))]) X dX7_nextCandidate_29 (by decide) rfl ?_
          refine z_aload_n X 3 dX7_nextCandidate_31 rfl rfl ?_
          refine z_ifnull X dX7_nextCandidate_32 ?_
          refine z_aload_n X 3 dX7_nextCandidate_35 rfl rfl ?_
          refine z_aload X 0 dX7_nextCandidate_36 rfl ?_
          refine z_callVi (As := [.ref (32 * k + 11)]) (rest := []) (n1 := 1) (ci := 7) X dX7_nextCandidate_38 (c_X4_isAheadOf l n i x lm y ol od (⟨⟨hn0, hn1, hn2, hn3⟩, ⟨hb5, hb6, hb7, hb8⟩, hp9, hs9, ho9⟩) g9 k (by omega) (by omega)) gX7_nextCandidate_X4_isAheadOf rfl rfl (by decide +kernel) ⟨by decide, by decide⟩ (ck_11 (by omega)) rfl rfl (Nat.le_of_ble_eq_true rfl) ⟨by decide, by decide⟩ (fun _ h => h.elim) ?_
          rintro _ _ ⟨rfl, rfl⟩
          refine z_if_eq X 48 dX7_nextCandidate_41 (by decide) (fun c_41 => ?_) (fun c_41 => ?_)
          · skip
            refine z_iconst (v := 0) X dX7_nextCandidate_48 (by decide) ?_
            refine z_istore (ls' := [(6, .int 0), (5, .ref (32 * k + 11)), (0, .ref 1), (1, .ref (32 * o + 13)), (2, .ref (32 * g9 + 11)), (3, .null), (4, .int (nI k))]) X dX7_nextCandidate_49 (by decide) rfl ?_
            refine z_iload X 0 dX7_nextCandidate_51 rfl ?_
            refine z_if_eq X 81 dX7_nextCandidate_53 (by decide) (fun c_53 => ?_) (fun c_53 => ?_)
            · skip
              refine z_iinc (ls' := [(4, .int (nI (k + 1))), (6, .int 0), (5, .ref (32 * k + 11)), (0, .ref 1), (1, .ref (32 * o + 13)), (2, .ref (32 * g9 + 11)), (3, .null)]) (v := nI (k + 1)) X 6 dX7_nextCandidate_81 rfl (nI_1 _) (by decide) rfl ?_
              refine z_goto (tgt := 5) X dX7_nextCandidate_84 (by decide) ?_
              refine z_sub (ls' := [(0, .ref 1), (1, .ref (32 * o + 13)), (2, .ref (32 * g9 + 11)), (3, .null), (4, .int (nI (k + 1)))]) [3, 4, 5, 6, 0] rfl ?_
              refine z_lse (ls' := [(0, .ref 1), (1, .ref (32 * o + 13)), (2, .ref (32 * g9 + 11)), (3, va_rf ((c_nx i o (fun p => decide (c_lt i g9 p)) (k + 1)).map (fun b => 32 * b + 11))), (4, .int (nI (k + 1)))]) (by rw [c_nx_n hopt, if_neg (fun e => zb_0.mp c_41 (of_decide_eq_true e.1))]; rfl) ?_
              exact ih5
            · exact absurd c_53 (by decide)
          · skip
            refine z_iconst (v := 1) X dX7_nextCandidate_44 (by decide) ?_
            refine z_goto (tgt := 49) X dX7_nextCandidate_45 (by decide) ?_
            refine z_istore (ls' := [(6, .int 1), (5, .ref (32 * k + 11)), (0, .ref 1), (1, .ref (32 * o + 13)), (2, .ref (32 * g9 + 11)), (3, .null), (4, .int (nI k))]) X dX7_nextCandidate_49 (by decide) rfl ?_
            refine z_iload X 0 dX7_nextCandidate_51 rfl ?_
            refine z_if_eq X 81 dX7_nextCandidate_53 (by decide) (fun c_53 => ?_) (fun c_53 => ?_)
            · exact absurd c_53 (by decide)
            · skip
              refine z_aload_n X 3 dX7_nextCandidate_56 rfl rfl ?_
              refine z_aload X 1 dX7_nextCandidate_57 rfl ?_
              refine z_callVi (As := [.ref (32 * k + 11)]) (rest := []) (n1 := 1) (ci := 6) X dX7_nextCandidate_59 (c_X3_accepts l n i x lm y ol od (⟨⟨hn0, hn1, hn2, hn3⟩, ⟨hb5, hb6, hb7, hb8⟩, hp9, hs9, ho9⟩) o k (by omega) (by omega)) gX7_nextCandidate_X3_accepts rfl rfl (by decide +kernel) ⟨by decide, by decide⟩ (ck_13 (by omega)) rfl rfl (Nat.le_of_ble_eq_true rfl) ⟨by decide, by decide⟩ (fun _ h => h.elim) ?_
              rintro _ _ ⟨rfl, rfl⟩
              refine z_if_eq X 81 dX7_nextCandidate_62 (by decide) (fun c_62 => ?_) (fun c_62 => ?_)
              · skip
                refine z_iinc (ls' := [(4, .int (nI (k + 1))), (6, .int 1), (5, .ref (32 * k + 11)), (0, .ref 1), (1, .ref (32 * o + 13)), (2, .ref (32 * g9 + 11)), (3, .null)]) (v := nI (k + 1)) X 6 dX7_nextCandidate_81 rfl (nI_1 _) (by decide) rfl ?_
                refine z_goto (tgt := 5) X dX7_nextCandidate_84 (by decide) ?_
                refine z_sub (ls' := [(0, .ref 1), (1, .ref (32 * o + 13)), (2, .ref (32 * g9 + 11)), (3, .null), (4, .int (nI (k + 1)))]) [3, 4, 5, 6, 0] rfl ?_
                refine z_lse (ls' := [(0, .ref 1), (1, .ref (32 * o + 13)), (2, .ref (32 * g9 + 11)), (3, va_rf ((c_nx i o (fun p => decide (c_lt i g9 p)) (k + 1)).map (fun b => 32 * b + 11))), (4, .int (nI (k + 1)))]) (by rw [c_nx_n hopt, if_neg (fun e => zb_0.mp c_62 e.2)]; rfl) ?_
                exact ih5
              · skip
                refine z_aload_nN X 5 dX7_nextCandidate_65 rfl rfl ?_
                refine z_ifnullN X 78 dX7_nextCandidate_66 (by decide) ?_
                refine z_aload X 1 dX7_nextCandidate_78 rfl ?_
                refine z_astore_n (ls' := [(3, .ref (32 * k + 11)), (6, .int 1), (5, .ref (32 * k + 11)), (0, .ref 1), (1, .ref (32 * o + 13)), (2, .ref (32 * g9 + 11)), (4, .int (nI k))]) X dX7_nextCandidate_80 rfl (by decide) rfl ?_
                refine z_iinc (ls' := [(4, .int (nI (k + 1))), (3, .ref (32 * k + 11)), (6, .int 1), (5, .ref (32 * k + 11)), (0, .ref 1), (1, .ref (32 * o + 13)), (2, .ref (32 * g9 + 11))]) (v := nI (k + 1)) X 6 dX7_nextCandidate_81 rfl (nI_1 _) (by decide) rfl ?_
                refine z_goto (tgt := 5) X dX7_nextCandidate_84 (by decide) ?_
                refine z_sub (ls' := [(0, .ref 1), (1, .ref (32 * o + 13)), (2, .ref (32 * g9 + 11)), (3, .ref (32 * k + 11)), (4, .int (nI (k + 1)))]) [4, 5, 6, 1, 0] rfl ?_
                refine z_lse (ls' := [(0, .ref 1), (1, .ref (32 * o + 13)), (2, .ref (32 * g9 + 11)), (3, va_rf ((c_nx i o (fun p => decide (c_lt i g9 p)) (k + 1)).map (fun b => 32 * b + 11))), (4, .int (nI (k + 1)))]) (by rw [c_nx_n hopt, if_pos ⟨(decide_eq_true (zb_n0.mp c_41)), zb_n0.mp c_62⟩]; rfl) ?_
                exact ih5
      · refine z_lse (ls' := [(0, .ref 1), (1, .ref (32 * o + 13)), (2, .ref (32 * g9 + 11)), (3, .ref (32 * b + 11)), (4, .int (nI k))]) (by first | rfl | (rw [hopt]; rfl)) ?_
        have hb9 := (c_nx_lt hopt).1
        refine z_aload_n X 0 dX7_nextCandidate_7 rfl rfl ?_
        refine z_getR (ci := 10) (j := 2) (o' := 66) X dX7_nextCandidate_8 ck_1 rfl (by decide) hlk_19 (Or.inl rfl) (fun _ => rfl) (cr_1_2) ?_
        refine z_callVi (As := []) (rest := [.int (nI k)]) (n1 := 0) (ci := 2) X dX7_nextCandidate_11 (c_size2 l _ _ _ _ _ _ _) gX7_nextCandidate_Jx4a65c_size_8abf5 rfl rfl (by decide +kernel) ⟨by decide, by decide⟩ (ck_2 (j := 2) (by decide)) rfl rfl (Nat.le_of_ble_eq_true rfl) ⟨by decide, by decide⟩ (fun _ h => h.elim) ?_
        rintro _ _ ⟨rfl, rfl⟩
        refine z_icmp_ge X 87 dX7_nextCandidate_14 (by decide) (fun c_14 => ?_) (fun c_14 => ?_)
        · exact absurd c_14 (nI_ge hk_5 (by omega))
        · skip
          refine z_aload_n X 0 dX7_nextCandidate_17 rfl rfl ?_
          refine z_getR (ci := 10) (j := 2) (o' := 66) X dX7_nextCandidate_18 ck_1 rfl (by decide) hlk_19 (Or.inl rfl) (fun _ => rfl) (cr_1_2) ?_
          refine z_iload X 4 dX7_nextCandidate_21 rfl ?_
          refine z_callVr (As := [.int (nI k)]) (rest := []) (n1 := 1) (ci := 2) X dX7_nextCandidate_23 (c_get2 l _ _ _ _ _ _ _ k (by omega) (by omega)) gX7_nextCandidate_Jx4a65c_get_915e3 rfl rfl (by decide +kernel) ⟨by decide, by decide⟩ (ck_2 (j := 2) (by decide)) rfl rfl (Nat.le_of_ble_eq_true rfl) ⟨by decide, by decide⟩ (fun _ h => h.elim) ?_
          rintro _ _ ⟨rfl, rfl⟩
          refine z_ckc (ci := 7) X dX7_nextCandidate_26 (by decide +kernel) (ck_11 (by omega)) rfl ?_
          refine z_astore (ls' := [(5, .ref (32 * k + 11)), (0, .ref 1), (1, .ref (32 * o + 13)), (2, .ref (32 * g9 + 11)), (3, .ref (32 * b + 11)), (4, .int (nI k))]) X dX7_nextCandidate_29 (by decide) rfl ?_
          refine z_aload_n X 3 dX7_nextCandidate_31 rfl rfl ?_
          refine z_ifnull X dX7_nextCandidate_32 ?_
          refine z_aload_n X 3 dX7_nextCandidate_35 rfl rfl ?_
          refine z_aload X 0 dX7_nextCandidate_36 rfl ?_
          refine z_callVi (As := [.ref (32 * k + 11)]) (rest := []) (n1 := 1) (ci := 7) X dX7_nextCandidate_38 (c_X4_isAheadOf l n i x lm y ol od (⟨⟨hn0, hn1, hn2, hn3⟩, ⟨hb5, hb6, hb7, hb8⟩, hp9, hs9, ho9⟩) g9 k (by omega) (by omega)) gX7_nextCandidate_X4_isAheadOf rfl rfl (by decide +kernel) ⟨by decide, by decide⟩ (ck_11 (by omega)) rfl rfl (Nat.le_of_ble_eq_true rfl) ⟨by decide, by decide⟩ (fun _ h => h.elim) ?_
          rintro _ _ ⟨rfl, rfl⟩
          refine z_if_eq X 48 dX7_nextCandidate_41 (by decide) (fun c_41 => ?_) (fun c_41 => ?_)
          · skip
            refine z_iconst (v := 0) X dX7_nextCandidate_48 (by decide) ?_
            refine z_istore (ls' := [(6, .int 0), (5, .ref (32 * k + 11)), (0, .ref 1), (1, .ref (32 * o + 13)), (2, .ref (32 * g9 + 11)), (3, .ref (32 * b + 11)), (4, .int (nI k))]) X dX7_nextCandidate_49 (by decide) rfl ?_
            refine z_iload X 0 dX7_nextCandidate_51 rfl ?_
            refine z_if_eq X 81 dX7_nextCandidate_53 (by decide) (fun c_53 => ?_) (fun c_53 => ?_)
            · skip
              refine z_iinc (ls' := [(4, .int (nI (k + 1))), (6, .int 0), (5, .ref (32 * k + 11)), (0, .ref 1), (1, .ref (32 * o + 13)), (2, .ref (32 * g9 + 11)), (3, .ref (32 * b + 11))]) (v := nI (k + 1)) X 6 dX7_nextCandidate_81 rfl (nI_1 _) (by decide) rfl ?_
              refine z_goto (tgt := 5) X dX7_nextCandidate_84 (by decide) ?_
              refine z_sub (ls' := [(0, .ref 1), (1, .ref (32 * o + 13)), (2, .ref (32 * g9 + 11)), (3, .ref (32 * b + 11)), (4, .int (nI (k + 1)))]) [3, 4, 5, 6, 0] rfl ?_
              refine z_lse (ls' := [(0, .ref 1), (1, .ref (32 * o + 13)), (2, .ref (32 * g9 + 11)), (3, va_rf ((c_nx i o (fun p => decide (c_lt i g9 p)) (k + 1)).map (fun b => 32 * b + 11))), (4, .int (nI (k + 1)))]) (by rw [c_nx_s hopt, if_neg (fun e => zb_0.mp c_41 (of_decide_eq_true e.1.1))]; rfl) ?_
              exact ih5
            · exact absurd c_53 (by decide)
          · skip
            refine z_iconst (v := 1) X dX7_nextCandidate_44 (by decide) ?_
            refine z_goto (tgt := 49) X dX7_nextCandidate_45 (by decide) ?_
            refine z_istore (ls' := [(6, .int 1), (5, .ref (32 * k + 11)), (0, .ref 1), (1, .ref (32 * o + 13)), (2, .ref (32 * g9 + 11)), (3, .ref (32 * b + 11)), (4, .int (nI k))]) X dX7_nextCandidate_49 (by decide) rfl ?_
            refine z_iload X 0 dX7_nextCandidate_51 rfl ?_
            refine z_if_eq X 81 dX7_nextCandidate_53 (by decide) (fun c_53 => ?_) (fun c_53 => ?_)
            · exact absurd c_53 (by decide)
            · skip
              refine z_aload_n X 3 dX7_nextCandidate_56 rfl rfl ?_
              refine z_aload X 1 dX7_nextCandidate_57 rfl ?_
              refine z_callVi (As := [.ref (32 * k + 11)]) (rest := []) (n1 := 1) (ci := 6) X dX7_nextCandidate_59 (c_X3_accepts l n i x lm y ol od (⟨⟨hn0, hn1, hn2, hn3⟩, ⟨hb5, hb6, hb7, hb8⟩, hp9, hs9, ho9⟩) o k (by omega) (by omega)) gX7_nextCandidate_X3_accepts rfl rfl (by decide +kernel) ⟨by decide, by decide⟩ (ck_13 (by omega)) rfl rfl (Nat.le_of_ble_eq_true rfl) ⟨by decide, by decide⟩ (fun _ h => h.elim) ?_
              rintro _ _ ⟨rfl, rfl⟩
              refine z_if_eq X 81 dX7_nextCandidate_62 (by decide) (fun c_62 => ?_) (fun c_62 => ?_)
              · skip
                refine z_iinc (ls' := [(4, .int (nI (k + 1))), (6, .int 1), (5, .ref (32 * k + 11)), (0, .ref 1), (1, .ref (32 * o + 13)), (2, .ref (32 * g9 + 11)), (3, .ref (32 * b + 11))]) (v := nI (k + 1)) X 6 dX7_nextCandidate_81 rfl (nI_1 _) (by decide) rfl ?_
                refine z_goto (tgt := 5) X dX7_nextCandidate_84 (by decide) ?_
                refine z_sub (ls' := [(0, .ref 1), (1, .ref (32 * o + 13)), (2, .ref (32 * g9 + 11)), (3, .ref (32 * b + 11)), (4, .int (nI (k + 1)))]) [3, 4, 5, 6, 0] rfl ?_
                refine z_lse (ls' := [(0, .ref 1), (1, .ref (32 * o + 13)), (2, .ref (32 * g9 + 11)), (3, va_rf ((c_nx i o (fun p => decide (c_lt i g9 p)) (k + 1)).map (fun b => 32 * b + 11))), (4, .int (nI (k + 1)))]) (by rw [c_nx_s hopt, if_neg (fun e => zb_0.mp c_62 e.1.2)]; rfl) ?_
                exact ih5
              · skip
                refine z_aload_n X 5 dX7_nextCandidate_65 rfl rfl ?_
                refine z_ifnull X dX7_nextCandidate_66 ?_
                refine z_aload X 1 dX7_nextCandidate_69 rfl ?_
                refine z_aload_n X 5 dX7_nextCandidate_71 rfl rfl ?_
                refine z_callVi (As := [.ref (32 * b + 11)]) (rest := []) (n1 := 1) (ci := 7) X dX7_nextCandidate_72 (c_X4_isAheadOf l n i x lm y ol od (⟨⟨hn0, hn1, hn2, hn3⟩, ⟨hb5, hb6, hb7, hb8⟩, hp9, hs9, ho9⟩) k b (by omega) (by omega)) gX7_nextCandidate_X4_isAheadOf rfl rfl (by decide +kernel) ⟨by decide, by decide⟩ (ck_11 (by omega)) rfl rfl (Nat.le_of_ble_eq_true rfl) ⟨by decide, by decide⟩ (fun _ h => h.elim) ?_
                rintro _ _ ⟨rfl, rfl⟩
                refine z_if_eq X 81 dX7_nextCandidate_75 (by decide) (fun c_75 => ?_) (fun c_75 => ?_)
                · skip
                  refine z_iinc (ls' := [(4, .int (nI (k + 1))), (6, .int 1), (5, .ref (32 * k + 11)), (0, .ref 1), (1, .ref (32 * o + 13)), (2, .ref (32 * g9 + 11)), (3, .ref (32 * b + 11))]) (v := nI (k + 1)) X 6 dX7_nextCandidate_81 rfl (nI_1 _) (by decide) rfl ?_
                  refine z_goto (tgt := 5) X dX7_nextCandidate_84 (by decide) ?_
                  refine z_sub (ls' := [(0, .ref 1), (1, .ref (32 * o + 13)), (2, .ref (32 * g9 + 11)), (3, .ref (32 * b + 11)), (4, .int (nI (k + 1)))]) [3, 4, 5, 6, 0] rfl ?_
                  refine z_lse (ls' := [(0, .ref 1), (1, .ref (32 * o + 13)), (2, .ref (32 * g9 + 11)), (3, va_rf ((c_nx i o (fun p => decide (c_lt i g9 p)) (k + 1)).map (fun b => 32 * b + 11))), (4, .int (nI (k + 1)))]) (by rw [c_nx_s hopt, if_neg (fun e => zb_0.mp c_75 e.2)]; rfl) ?_
                  exact ih5
                · skip
                  refine z_aload X 1 dX7_nextCandidate_78 rfl ?_
                  refine z_astore_n (ls' := [(3, .ref (32 * k + 11)), (6, .int 1), (5, .ref (32 * k + 11)), (0, .ref 1), (1, .ref (32 * o + 13)), (2, .ref (32 * g9 + 11)), (4, .int (nI k))]) X dX7_nextCandidate_80 rfl (by decide) rfl ?_
                  refine z_iinc (ls' := [(4, .int (nI (k + 1))), (3, .ref (32 * k + 11)), (6, .int 1), (5, .ref (32 * k + 11)), (0, .ref 1), (1, .ref (32 * o + 13)), (2, .ref (32 * g9 + 11))]) (v := nI (k + 1)) X 6 dX7_nextCandidate_81 rfl (nI_1 _) (by decide) rfl ?_
                  refine z_goto (tgt := 5) X dX7_nextCandidate_84 (by decide) ?_
                  refine z_sub (ls' := [(0, .ref 1), (1, .ref (32 * o + 13)), (2, .ref (32 * g9 + 11)), (3, .ref (32 * k + 11)), (4, .int (nI (k + 1)))]) [4, 5, 6, 1, 0] rfl ?_
                  refine z_lse (ls' := [(0, .ref 1), (1, .ref (32 * o + 13)), (2, .ref (32 * g9 + 11)), (3, va_rf ((c_nx i o (fun p => decide (c_lt i g9 p)) (k + 1)).map (fun b => 32 * b + 11))), (4, .int (nI (k + 1)))]) (by rw [c_nx_s hopt, if_pos ⟨⟨(decide_eq_true (zb_n0.mp c_41)), zb_n0.mp c_62⟩, zb_n0.mp c_75⟩]; rfl) ?_
                  exact ih5
  refine z_sub (ls' := [(0, .ref 1), (1, .ref (32 * o + 13)), (2, .ref (32 * g9 + 11)), (3, .null), (4, .int 0)]) [2, 3, 4, 1, 0] rfl ?_
  refine z_lse (ls' := [(0, .ref 1), (1, .ref (32 * o + 13)), (2, .ref (32 * g9 + 11)), (3, va_rf ((c_nx i o (fun p => decide (c_lt i g9 p)) 0).map (fun b => 32 * b + 11))), (4, .int (nI 0))]) (rfl) ?_
  exact hloop5 0 (Nat.zero_le _)

set_option maxRecDepth 100000 in
set_option maxHeartbeats 4000000 in
theorem c_X7_findCandidate (l : Launch) (n : Nat → Nat) (i x : Nat → Nat → Int32) (lm : Nat → Nat → Int64) (y : Nat → Nat → Nat) (ol : Int64) (od : UInt64) (hW : cW n i y) (o : Nat) (ho : o < n 8) (a : Nat) (ha : a ≤ 30) : zS l yX7_findCandidate wsX7_findCandidate 10 180 0 0 [.ref 1, .ref (32 * o + 13), .int (nI a)] (cmm n i x lm y ol od) (zpq (fun q M1 => q = (c_it i o (n 7) a).map (fun b => 32 * b + 11) ∧ M1 = cmm n i x lm y ol od)) zno := by
  refine z_intro (cc := cX7_findCandidate) (maxL := 5) (ret := (some (.object "ColdStore$Pallet"))) (by decide +kernel) rfl (Nat.le_of_ble_eq_true rfl) ?_
  intro g X
  show zE g 5 0 [(0, .ref 1), (1, .ref (32 * o + 13)), (2, .int (nI a))] [] (cmm n i x lm y ol od) 0 0
  obtain ⟨⟨hn0, hn1, hn2, hn3⟩, ⟨hb5, hb6, hb7, hb8⟩, hp9, hs9, ho9⟩ := hW
  refine z_aload_n X 0 dX7_findCandidate_0 rfl rfl ?_
  refine z_aload_n X 1 dX7_findCandidate_1 rfl rfl ?_
  refine z_null X dX7_findCandidate_2 ?_
  refine z_callVq (As := [.ref (32 * o + 13), .null]) (rest := []) (n1 := 2) (ci := 10) X dX7_findCandidate_3 (c_next0 l n i x lm y ol od (⟨⟨hn0, hn1, hn2, hn3⟩, ⟨hb5, hb6, hb7, hb8⟩, hp9, hs9, ho9⟩) o (by omega)) gX7_findCandidate_X7_nextCandidate rfl rfl (by decide +kernel) ⟨by decide, by decide⟩ ck_1 rfl rfl (Nat.le_of_ble_eq_true rfl) ⟨by decide, by decide⟩ (fun _ h => h.elim) ?_
  rintro _ _ ⟨rfl, rfl⟩
  refine z_astore_nO (ls' := [(3, va_rf ((c_nx i o (fun _ => true) (n 7)).map (fun b => 32 * b + 11))), (0, .ref 1), (1, .ref (32 * o + 13)), (2, .int (nI a))]) X dX7_findCandidate_6 rfl (by decide) rfl ?_
  refine z_iconst (v := 0) X dX7_findCandidate_7 (by decide) ?_
  refine z_istore (ls' := [(4, .int 0), (3, va_rf ((c_nx i o (fun _ => true) (n 7)).map (fun b => 32 * b + 11))), (0, .ref 1), (1, .ref (32 * o + 13)), (2, .int (nI a))]) X dX7_findCandidate_8 (by decide) (by generalize c_nx i o (fun _ => true) (n 7) = w9; cases w9 <;> rfl) ?_
  have hloop10 : ∀ k : Nat, k ≤ a → zE g 5 10 [(0, .ref 1), (1, .ref (32 * o + 13)), (2, .int (nI a)), (3, va_rf ((c_it i o (n 7) k).map (fun b => 32 * b + 11))), (4, .int (nI k))] [] (cmm n i x lm y ol od) (0 + 0) (0 + 0) := by
    refine z_loop (fun k => zE g 5 10 [(0, .ref 1), (1, .ref (32 * o + 13)), (2, .int (nI a)), (3, va_rf ((c_it i o (n 7) k).map (fun b => 32 * b + 11))), (4, .int (nI k))] [] (cmm n i x lm y ol od) (0 + 0) (0 + 0)) a ?_ ?_
    · show zE g 5 10 [(0, .ref 1), (1, .ref (32 * o + 13)), (2, .int (nI a)), (3, va_rf ((c_it i o (n 7) a).map (fun b => 32 * b + 11))), (4, .int (nI a))] [] (cmm n i x lm y ol od) (0 + 0) (0 + 0)
      refine z_iload X 4 dX7_findCandidate_10 rfl ?_
      refine z_iload_n X 2 dX7_findCandidate_12 rfl rfl ?_
      refine z_icmp_ge X 33 dX7_findCandidate_13 (by decide) (fun c_13 => ?_) (fun c_13 => ?_)
      · skip
        rcases hop : c_it i o (n 7) a with _ | b
        · refine z_lse (ls' := [(0, .ref 1), (1, .ref (32 * o + 13)), (2, .int (nI a)), (3, .null), (4, .int (nI a))]) (by first | rfl | (rw [hop]; rfl)) ?_
          refine z_aload_nN X 3 dX7_findCandidate_33 rfl rfl ?_
          refine z_aret X rfl (Or.inl ⟨_, rfl⟩) (Or.inl rfl) (Nat.le_of_ble_eq_true rfl) (Nat.le_of_ble_eq_true rfl) dX7_findCandidate_34 ?_
          exact ⟨none, rfl, by rw [hop]; rfl, rfl⟩
        · refine z_lse (ls' := [(0, .ref 1), (1, .ref (32 * o + 13)), (2, .int (nI a)), (3, .ref (32 * b + 11)), (4, .int (nI a))]) (by first | rfl | (rw [hop]; rfl)) ?_
          refine z_aload_n X 3 dX7_findCandidate_33 rfl rfl ?_
          refine z_aret X rfl (Or.inl ⟨_, rfl⟩) (Or.inr ⟨_, rfl⟩) (Nat.le_of_ble_eq_true rfl) (Nat.le_of_ble_eq_true rfl) dX7_findCandidate_34 ?_
          exact ⟨some _, rfl, by rw [hop]; rfl, rfl⟩
      · exact absurd (Int32.le_refl _) c_13
    · intro k hk_10 ih10
      have ih10 : zE g 5 10 [(0, .ref 1), (1, .ref (32 * o + 13)), (2, .int (nI a)), (3, va_rf ((c_it i o (n 7) (k + 1)).map (fun b => 32 * b + 11))), (4, .int (nI (k + 1)))] [] (cmm n i x lm y ol od) (0 + 0) (0 + 0) := ih10
      show zE g 5 10 [(0, .ref 1), (1, .ref (32 * o + 13)), (2, .int (nI a)), (3, va_rf ((c_it i o (n 7) k).map (fun b => 32 * b + 11))), (4, .int (nI k))] [] (cmm n i x lm y ol od) (0 + 0) (0 + 0)
      refine z_iload X 4 dX7_findCandidate_10 rfl ?_
      rcases hopt : c_it i o (n 7) k with _ | b
      · refine z_lse (ls' := [(0, .ref 1), (1, .ref (32 * o + 13)), (2, .int (nI a)), (3, .null), (4, .int (nI k))]) (by first | rfl | (rw [hopt]; rfl)) ?_
        refine z_iload_n X 2 dX7_findCandidate_12 rfl rfl ?_
        refine z_icmp_ge X 33 dX7_findCandidate_13 (by decide) (fun c_13 => ?_) (fun c_13 => ?_)
        · exact absurd c_13 (nI_ge hk_10 (by omega))
        · skip
          refine z_aload_nN X 3 dX7_findCandidate_16 rfl rfl ?_
          refine z_ifnullN X 33 dX7_findCandidate_17 (by decide) ?_
          refine z_aload_nN X 3 dX7_findCandidate_33 rfl rfl ?_
          refine z_aret X rfl (Or.inl ⟨_, rfl⟩) (Or.inl rfl) (Nat.le_of_ble_eq_true rfl) (Nat.le_of_ble_eq_true rfl) dX7_findCandidate_34 ?_
          exact ⟨none, rfl, by rw [c_it_n hopt a (by omega)]; rfl, rfl⟩
      · refine z_lse (ls' := [(0, .ref 1), (1, .ref (32 * o + 13)), (2, .int (nI a)), (3, .ref (32 * b + 11)), (4, .int (nI k))]) (by first | rfl | (rw [hopt]; rfl)) ?_
        have hb9 := (c_it_lt hopt).1
        refine z_iload_n X 2 dX7_findCandidate_12 rfl rfl ?_
        refine z_icmp_ge X 33 dX7_findCandidate_13 (by decide) (fun c_13 => ?_) (fun c_13 => ?_)
        · exact absurd c_13 (nI_ge hk_10 (by omega))
        · skip
          refine z_aload_n X 3 dX7_findCandidate_16 rfl rfl ?_
          refine z_ifnull X dX7_findCandidate_17 ?_
          refine z_aload_n X 0 dX7_findCandidate_20 rfl rfl ?_
          refine z_aload_n X 1 dX7_findCandidate_21 rfl rfl ?_
          refine z_aload_n X 3 dX7_findCandidate_22 rfl rfl ?_
          refine z_callVq (As := [.ref (32 * o + 13), .ref (32 * b + 11)]) (rest := []) (n1 := 2) (ci := 10) X dX7_findCandidate_23 (c_nextG l n i x lm y ol od (⟨⟨hn0, hn1, hn2, hn3⟩, ⟨hb5, hb6, hb7, hb8⟩, hp9, hs9, ho9⟩) o (by omega) b (by omega)) gX7_findCandidate_X7_nextCandidate rfl rfl (by decide +kernel) ⟨by decide, by decide⟩ ck_1 rfl rfl (Nat.le_of_ble_eq_true rfl) ⟨by decide, by decide⟩ (fun _ h => h.elim) ?_
          rintro _ _ ⟨rfl, rfl⟩
          refine z_astore_nO (ls' := [(3, va_rf ((c_nx i o (fun p => decide (c_lt i b p)) (n 7)).map (fun b => 32 * b + 11))), (0, .ref 1), (1, .ref (32 * o + 13)), (2, .int (nI a)), (4, .int (nI k))]) X dX7_findCandidate_26 rfl (by decide) rfl ?_
          refine z_iinc (ls' := [(4, .int (nI (k + 1))), (3, va_rf ((c_nx i o (fun p => decide (c_lt i b p)) (n 7)).map (fun b => 32 * b + 11))), (0, .ref 1), (1, .ref (32 * o + 13)), (2, .int (nI a))]) (v := nI (k + 1)) X 4 dX7_findCandidate_27 rfl (nI_1 _) (by decide) (by generalize c_nx i o (fun p => decide (c_lt i b p)) (n 7) = w9; cases w9 <;> rfl) ?_
          refine z_goto (tgt := 10) X dX7_findCandidate_30 (by decide) ?_
          refine z_sub (ls' := [(0, .ref 1), (1, .ref (32 * o + 13)), (2, .int (nI a)), (3, va_rf ((c_nx i o (fun p => decide (c_lt i b p)) (n 7)).map (fun b => 32 * b + 11))), (4, .int (nI (k + 1)))]) [2, 3, 4, 1, 0] rfl ?_
          refine z_lse (ls' := [(0, .ref 1), (1, .ref (32 * o + 13)), (2, .int (nI a)), (3, va_rf ((c_it i o (n 7) (k + 1)).map (fun b => 32 * b + 11))), (4, .int (nI (k + 1)))]) (by rw [c_it_s hopt]) ?_
          exact ih10
  refine z_sub (ls' := [(0, .ref 1), (1, .ref (32 * o + 13)), (2, .int (nI a)), (3, va_rf ((c_nx i o (fun _ => true) (n 7)).map (fun b => 32 * b + 11))), (4, .int 0)]) [2, 3, 4, 1, 0] rfl ?_
  refine z_lse (ls' := [(0, .ref 1), (1, .ref (32 * o + 13)), (2, .int (nI a)), (3, va_rf ((c_it i o (n 7) 0).map (fun b => 32 * b + 11))), (4, .int (nI 0))]) (rfl) ?_
  exact hloop10 0 (Nat.zero_le _)

set_option maxRecDepth 100000 in
set_option maxHeartbeats 4000000 in
theorem c_X7_candidateAt (l : Launch) (hl0 : l.stackTraces = false) (n : Nat → Nat) (i x : Nat → Nat → Int32) (lm : Nat → Nat → Int64) (y : Nat → Nat → Nat) (ol : Int64) (od : UInt64) (hW : cW n i y) (o : Int32) (v : Int32) : zS l yX7_candidateAt wsX7_candidateAt 11 204 4 40 [.ref 1, .int o, .int v] (cmm n i x lm y ol od) (zpi (fun v9 M1 => (cl o < n 8 ∧ o = nI (cl o)) ∧ (c_at i (cl o) (n 7) v ≠ none) ∧ v9 = nI ((c_at i (cl o) (n 7) v).getD 0) ∧ M1 = cmm n i x lm y ol od)) (fun E => (E = "java/lang/IndexOutOfBoundsException" ∧ ¬ (cl o < n 8 ∧ o = nI (cl o))) ∨ (E = "java/util/NoSuchElementException" ∧ (cl o < n 8 ∧ o = nI (cl o)) ∧ ¬ (c_at i (cl o) (n 7) v ≠ none))) := by
  refine z_intro (cc := cX7_candidateAt) (maxL := 5) (ret := (some .int)) (by decide +kernel) rfl (Nat.le_of_ble_eq_true rfl) ?_
  have hlk_248 : Cond.fieldLink RX7 248 "ColdStore$Pallet" "number" "I" ∈ wsX7_candidateAt := by decide +kernel
  intro g X
  show zE g 5 0 [(0, .ref 1), (1, .int o), (2, .int v)] [] (cmm n i x lm y ol od) 0 0
  obtain ⟨⟨hn0, hn1, hn2, hn3⟩, ⟨hb5, hb6, hb7, hb8⟩, hp9, hs9, ho9⟩ := hW
  refine z_aload_n X 0 dX7_candidateAt_0 rfl rfl ?_
  refine z_iload_n X 1 dX7_candidateAt_1 rfl rfl ?_
  refine z_callVr (As := [.int o]) (rest := []) (n1 := 1) (ci := 10) X dX7_candidateAt_2 (c_X7_findOrder l hl0 n i x lm y ol od ⟨by omega, by omega⟩ o) gX7_candidateAt_X7_findOrder rfl rfl (by decide +kernel) ⟨by decide, by decide⟩ ck_1 rfl rfl (Nat.le_of_ble_eq_true rfl) ⟨by decide, by decide⟩ (fun E h => ⟨Or.inl (⟨h.1, find_no (by omega) h.2⟩), rfl⟩) ?_
  rintro _ _ ⟨rfl, rfl, hf0, hg0⟩
  refine z_astore_n (ls' := [(3, .ref (32 * (cl o) + 13)), (0, .ref 1), (1, .int o), (2, .int v)]) X dX7_candidateAt_5 rfl (by decide) rfl ?_
  refine z_null X dX7_candidateAt_6 ?_
  refine z_astoreN (ls' := [(4, .null), (3, .ref (32 * (cl o) + 13)), (0, .ref 1), (1, .int o), (2, .int v)]) X dX7_candidateAt_7 (by decide) rfl ?_
  refine z_iload_n X 4 dX7_candidateAt_9 rfl rfl ?_
  refine z_if_lt X 30 dX7_candidateAt_10 (by decide) (fun c_10 => ?_) (fun c_10 => ?_)
  · skip
    refine z_aloadN X 0 dX7_candidateAt_30 rfl ?_
    refine z_ifnonnullN X dX7_candidateAt_32 ?_
    exact z_throwSW X hl0 (cls := "java/util/NoSuchElementException") (text := "there is no such candidate") (ik := 110) (is := 281) (ic := 114) (by decide +kernel) (by decide +kernel) (by decide +kernel) rfl dX7_candidateAt_35 dX7_candidateAt_38 dX7_candidateAt_39 dX7_candidateAt_42 dX7_candidateAt_45 (by decide) (by decide) ⟨by decide, by decide⟩ rfl (Or.inr ⟨rfl, ⟨hf0, hg0⟩, fun h9 => h9 (if_pos (Or.inl c_10))⟩)
  · skip
    obtain ⟨a9, ha9, rfl⟩ := nI_of c_10
    have hcl : cl (nI a9) = a9 := nI_clamp ha9
    refine z_iload_n X 4 dX7_candidateAt_13 rfl rfl ?_
    refine z_aload_n X 2 dX7_candidateAt_14 rfl rfl ?_
    refine z_aload_n X 1 dX7_candidateAt_15 rfl rfl ?_
    refine z_callVi (As := [.ref (32 * (cl o) + 13)]) (rest := [.int (nI a9)]) (n1 := 1) (ci := 10) X dX7_candidateAt_16 (c_X7_countCandidates l n i x lm y ol od (⟨⟨hn0, hn1, hn2, hn3⟩, ⟨hb5, hb6, hb7, hb8⟩, hp9, hs9, ho9⟩) (cl o) (by omega)) gX7_candidateAt_X7_countCandidates rfl rfl (by decide +kernel) ⟨by decide, by decide⟩ ck_1 rfl rfl (Nat.le_of_ble_eq_true rfl) ⟨by decide, by decide⟩ (fun _ h => h.elim) ?_
    rintro _ _ ⟨rfl, rfl⟩
    refine z_icmp_ge X 30 dX7_candidateAt_19 (by decide) (fun c_19 => ?_) (fun c_19 => ?_)
    · skip
      refine z_aloadN X 0 dX7_candidateAt_30 rfl ?_
      refine z_ifnonnullN X dX7_candidateAt_32 ?_
      exact z_throwSW X hl0 (cls := "java/util/NoSuchElementException") (text := "there is no such candidate") (ik := 110) (is := 281) (ic := 114) (by decide +kernel) (by decide +kernel) (by decide +kernel) rfl dX7_candidateAt_35 dX7_candidateAt_38 dX7_candidateAt_39 dX7_candidateAt_42 dX7_candidateAt_45 (by decide) (by decide) ⟨by decide, by decide⟩ rfl (Or.inr ⟨rfl, ⟨hf0, hg0⟩, fun h9 => h9 (if_pos (Or.inr c_19))⟩)
    · skip
      have hlt : a9 < m_cntN i (cl o) (n 7) := by
        rw [m_cnt_N] at c_19
        exact Nat.lt_of_not_le fun q => c_19 (nI_le q ha9)
      have hle9 := m_cntN_le i (cl o) (n 7)
      have hat : c_at i (cl o) (n 7) (nI a9) = c_it i (cl o) (n 7) a9 := by unfold c_at; rw [if_neg (fun e => e.elim c_10 c_19), hcl]
      refine z_aload_n X 2 dX7_candidateAt_22 rfl rfl ?_
      refine z_aload_n X 1 dX7_candidateAt_23 rfl rfl ?_
      refine z_iload_n X 4 dX7_candidateAt_24 rfl rfl ?_
      refine z_callVq (As := [.ref (32 * (cl o) + 13), .int (nI a9)]) (rest := []) (n1 := 2) (ci := 10) X dX7_candidateAt_25 (c_X7_findCandidate l n i x lm y ol od (⟨⟨hn0, hn1, hn2, hn3⟩, ⟨hb5, hb6, hb7, hb8⟩, hp9, hs9, ho9⟩) (cl o) (by omega) a9 (by omega)) gX7_candidateAt_X7_findCandidate rfl rfl (by decide +kernel) ⟨by decide, by decide⟩ ck_1 rfl rfl (Nat.le_of_ble_eq_true rfl) ⟨by decide, by decide⟩ (fun _ h => h.elim) ?_
      rintro _ _ ⟨rfl, rfl⟩
      refine z_astoreO (ls' := [(4, va_rf ((c_it i (cl o) (n 7) a9).map (fun b => 32 * b + 11))), (3, .ref (32 * (cl o) + 13)), (0, .ref 1), (1, .int o), (2, .int (nI a9))]) X dX7_candidateAt_28 (by decide) rfl ?_
      rcases hop : c_it i (cl o) (n 7) a9 with _ | b
      · refine z_lse (ls' := [(4, .null), (3, .ref (32 * (cl o) + 13)), (0, .ref 1), (1, .int o), (2, .int (nI a9))]) (by first | rfl | (rw [hop]; rfl)) ?_
        refine z_aloadN X 0 dX7_candidateAt_30 rfl ?_
        refine z_ifnonnullN X dX7_candidateAt_32 ?_
        exact z_throwSW X hl0 (cls := "java/util/NoSuchElementException") (text := "there is no such candidate") (ik := 110) (is := 281) (ic := 114) (by decide +kernel) (by decide +kernel) (by decide +kernel) rfl dX7_candidateAt_35 dX7_candidateAt_38 dX7_candidateAt_39 dX7_candidateAt_42 dX7_candidateAt_45 (by decide) (by decide) ⟨by decide, by decide⟩ rfl (Or.inr ⟨rfl, ⟨hf0, hg0⟩, fun h9 => h9 (hat.trans hop)⟩)
      · refine z_lse (ls' := [(4, .ref (32 * b + 11)), (3, .ref (32 * (cl o) + 13)), (0, .ref 1), (1, .int o), (2, .int (nI a9))]) (by first | rfl | (rw [hop]; rfl)) ?_
        have hb9 := c_it_lt hop
        refine z_aload X 0 dX7_candidateAt_30 rfl ?_
        refine z_ifnonnull X 46 dX7_candidateAt_32 (by decide) ?_
        refine z_aload X 0 dX7_candidateAt_46 rfl ?_
        refine z_getI (ci := 7) (j := 0) (x := nI b) X dX7_candidateAt_48 (ck_11 (by omega)) rfl (by decide) hlk_248 (Or.inl rfl) (fun _ => rfl) (ci_11_0) ?_
        refine z_iret X rfl rfl (Nat.le_of_ble_eq_true rfl) (Nat.le_of_ble_eq_true rfl) dX7_candidateAt_51 ?_
        exact ⟨_, rfl, ⟨hf0, hg0⟩, (by rw [hat, hop]; exact fun e => nomatch e), by rw [hat, hop]; rfl, rfl⟩
