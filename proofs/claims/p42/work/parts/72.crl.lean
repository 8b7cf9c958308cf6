/-! PART 72: the life that the records tell -/
/-- what a pallet of the kind k loses at d -/
def c_ls (i : Nat → Nat → Int32) (k : Nat) (d : Int32) : Int32 := if d < i 129 k then 10 else if i 128 k < d then 1 + (d - i 128 k) / 20 else 1
/-- a, and the losses of m ticks from s on in the room r -/
def c_ra (i x : Nat → Nat → Int32) (k r s : Nat) (a : Int32) : Nat → Int32
  | 0 => a
  | m + 1 => c_ra i x k r s a m + c_ls i k (x (10 + r) (s + m))
/-- a, and the losses of the stay s1 - 1 up to en, and of the ones before it -/
def c_rl (i x : Nat → Nat → Int32) (y : Nat → Nat → Nat) (k : Nat) : Nat → Nat → Nat → Int32 → Int32
  | 0, _, _, a => a
  | _ + 1, 0, _, a => a
  | f + 1, s + 1, en, a => c_rl i x y k f (y 2 s) (cl (x 4 s)) (c_ra i x k (y 1 s) (cl (x 4 s)) a (en - cl (x 4 s)))
def c_op (s : Nat) : Value := match s with
  | 0 => .null
  | s + 1 => .ref (32 * s + 12)
/-- the tick at which a pallet's last stay ends -/
def c_en (i x : Nat → Nat → Int32) (p tk : Nat) : Nat := if i 134 p = 114 then tk else cl (x 3 p)
def c_rL (i x : Nat → Nat → Int32) (y : Nat → Nat → Nat) (n : Nat → Nat) (p tk : Nat) : Int32 := c_rl i x y (cl (i 131 p)) (n 4) (y 0 p + 1) (c_en i x p tk) 0
def c_rv (i x : Nat → Nat → Int32) (y : Nat → Nat → Nat) (n : Nat → Nat) (p tk : Nat) : Int32 := if 0 < i 127 (cl (i 131 p)) - c_rL i x y n p tk then i 127 (cl (i 131 p)) - c_rL i x y n p tk else 0
set_option maxRecDepth 100000 in
set_option maxHeartbeats 4000000 in
theorem c_X4_recordedLife (l : Launch) (n : Nat → Nat) (i x : Nat → Nat → Int32) (lm : Nat → Nat → Int64) (y : Nat → Nat → Nat) (ol : Int64) (od : UInt64) (hW : cW n i y) (hx4 : ∀ s, s < n 4 → x 4 s = nI (cl (x 4 s)) ∧ cl (x 4 s) ≤ 960) (p : Nat) (hp : p < n 7) (hx3 : x 3 p = nI (cl (x 3 p)) ∧ cl (x 3 p) ≤ 960) (tk : Nat) (htk : tk ≤ 960) : zS l yX4_recordedLife wsX4_recordedLife 1 21 0 0 [.ref (32 * p + 11), .int (nI tk)] (cmm n i x lm y ol od) (zpi (fun q M1 => q = c_rv i x y n p tk ∧ M1 = cmm n i x lm y ol od)) zno := by
  refine z_intro (cc := cX4_recordedLife) (maxL := 6) (ret := (some .int)) (by decide +kernel) rfl (Nat.le_of_ble_eq_true rfl) ?_
  have hlk_22 : Cond.fieldLink RX4 22 "ColdStore$Pallet" "kind" "LColdStore$Kind;" ∈ wsX4_recordedLife := by decide +kernel
  have hlk_35 : Cond.fieldLink RX4 35 "ColdStore$Kind" "fullLife" "I" ∈ wsX4_recordedLife := by decide +kernel
  have hlk_43 : Cond.fieldLink RX4 43 "ColdStore$Stay" "since" "I" ∈ wsX4_recordedLife := by decide +kernel
  have hlk_46 : Cond.fieldLink RX4 46 "ColdStore$Stay" "earlier" "LColdStore$Stay;" ∈ wsX4_recordedLife := by decide +kernel
  have hlk_53 : Cond.fieldLink RX4 53 "ColdStore$Stay" "room" "LColdStore$Room;" ∈ wsX4_recordedLife := by decide +kernel
  have hlk_15 : Cond.fieldLink RX4 15 "ColdStore$Pallet" "leftAt" "I" ∈ wsX4_recordedLife := by decide +kernel
  have hlk_31 : Cond.fieldLink RX4 31 "ColdStore$Pallet" "stay" "LColdStore$Stay;" ∈ wsX4_recordedLife := by decide +kernel
  intro g X
  show zE g 6 0 [(0, .ref (32 * p + 11)), (1, .int (nI tk))] [] (cmm n i x lm y ol od) 0 0
  obtain ⟨⟨hn0, hn1, hn2, hn3⟩, ⟨hb5, hb6, hb7, hb8⟩, hp9, hs9, ho9⟩ := hW
  obtain ⟨R, hRf⟩ : ∃ R, R = c_rL i x y n p tk := ⟨_, rfl⟩
  have hp0 : y 0 p < n 4 := (hp9 p hp).2.1
  have hout : ∀ f s1 en a, s1 ≤ f → s1 ≤ n 4 → en ≤ 960 → c_rl i x y (cl (i 131 p)) f s1 en a = R → zE g 6 24 [(4, c_op s1), (3, .int (nI en)), (2, .int a), (0, .ref (32 * p + 11)), (1, .int (nI tk))] [] (cmm n i x lm y ol od) 0 0 := by
    intro f
    induction f with
    | zero =>
      intro s1 en a h1 h2 h3 hR9
      obtain rfl : s1 = 0 := by omega
      have hR : a = R := hR9
      refine z_lse (ls' := [(4, .null), (3, .int (nI en)), (2, .int a), (0, .ref (32 * p + 11)), (1, .int (nI tk))]) rfl ?_
      refine z_aloadN X 0 dX4_recordedLife_24 rfl ?_
      refine z_ifnullN X 84 dX4_recordedLife_26 (by decide) ?_
      refine z_iconst (v := 0) X dX4_recordedLife_84 (by decide) ?_
      refine z_aload_n X 3 dX4_recordedLife_85 rfl rfl ?_
      refine z_getR (ci := 7) (j := 1) (o' := 32 * (cl (i 131 p)) + 10) X dX4_recordedLife_86 (ck_11 (by omega)) rfl (by decide) hlk_22 (Or.inl rfl) (fun _ => rfl) (cr_11_1) ?_
      refine z_getI (ci := 4) (j := 0) (x := i 127 (cl (i 131 p))) X dX4_recordedLife_89 (ck_10 (by have := (hp9 p (by omega)).1.1; omega)) rfl (by decide) hlk_35 (Or.inl rfl) (fun _ => rfl) (ci_10_0) ?_
      refine z_iload_n X 2 dX4_recordedLife_92 rfl rfl ?_
      refine z_isub X dX4_recordedLife_93 ?_
      refine z_mmax X dX4_recordedLife_94 (by decide +kernel) (by decide +kernel) (by decide +kernel) (by decide +kernel) (by decide) (Nat.le_of_ble_eq_true rfl) (Nat.le_of_ble_eq_true rfl) (Nat.le_of_ble_eq_true rfl) ?_
      refine z_iret X rfl rfl (Nat.le_of_ble_eq_true rfl) (Nat.le_of_ble_eq_true rfl) dX4_recordedLife_97 ?_
      exact ⟨_, rfl, by rw [hR, hRf]; rfl, rfl⟩
    | succ f ih =>
      intro s1 en a h1 h2 h3 hR9
      rcases s1 with _ | s
      · show zE g 6 24 [(4, c_op 0), (3, .int (nI en)), (2, .int a), (0, .ref (32 * p + 11)), (1, .int (nI tk))] [] (cmm n i x lm y ol od) 0 0
        have hR : a = R := hR9
        refine z_lse (ls' := [(4, .null), (3, .int (nI en)), (2, .int a), (0, .ref (32 * p + 11)), (1, .int (nI tk))]) rfl ?_
        refine z_aloadN X 0 dX4_recordedLife_24 rfl ?_
        refine z_ifnullN X 84 dX4_recordedLife_26 (by decide) ?_
        refine z_iconst (v := 0) X dX4_recordedLife_84 (by decide) ?_
        refine z_aload_n X 3 dX4_recordedLife_85 rfl rfl ?_
        refine z_getR (ci := 7) (j := 1) (o' := 32 * (cl (i 131 p)) + 10) X dX4_recordedLife_86 (ck_11 (by omega)) rfl (by decide) hlk_22 (Or.inl rfl) (fun _ => rfl) (cr_11_1) ?_
        refine z_getI (ci := 4) (j := 0) (x := i 127 (cl (i 131 p))) X dX4_recordedLife_89 (ck_10 (by have := (hp9 p (by omega)).1.1; omega)) rfl (by decide) hlk_35 (Or.inl rfl) (fun _ => rfl) (ci_10_0) ?_
        refine z_iload_n X 2 dX4_recordedLife_92 rfl rfl ?_
        refine z_isub X dX4_recordedLife_93 ?_
        refine z_mmax X dX4_recordedLife_94 (by decide +kernel) (by decide +kernel) (by decide +kernel) (by decide +kernel) (by decide) (Nat.le_of_ble_eq_true rfl) (Nat.le_of_ble_eq_true rfl) (Nat.le_of_ble_eq_true rfl) ?_
        refine z_iret X rfl rfl (Nat.le_of_ble_eq_true rfl) (Nat.le_of_ble_eq_true rfl) dX4_recordedLife_97 ?_
        exact ⟨_, rfl, by rw [hR, hRf]; rfl, rfl⟩
      · show zE g 6 24 [(4, c_op (s + 1)), (3, .int (nI en)), (2, .int a), (0, .ref (32 * p + 11)), (1, .int (nI tk))] [] (cmm n i x lm y ol od) 0 0
        have hS := hs9 s (by omega)
        obtain ⟨hX4, hX5⟩ := hx4 s (by omega)
        refine z_lse (ls' := [(4, .ref (32 * s + 12)), (3, .int (nI en)), (2, .int a), (0, .ref (32 * p + 11)), (1, .int (nI tk))]) rfl ?_
        refine z_aload X 0 dX4_recordedLife_24 rfl ?_
        refine z_ifnull X dX4_recordedLife_26 ?_
        refine z_aload X 0 dX4_recordedLife_29 rfl ?_
        refine z_getI (ci := 9) (j := 1) (x := nI (cl (x 4 s))) X dX4_recordedLife_31 (ck_12 (by omega)) rfl (by decide) hlk_43 (Or.inl rfl) (fun _ => rfl) (by rw [ci_12_1]; exact hX4) ?_
        refine z_istore (ls' := [(5, .int (nI (cl (x 4 s)))), (4, .ref (32 * s + 12)), (3, .int (nI en)), (2, .int a), (0, .ref (32 * p + 11)), (1, .int (nI tk))]) X dX4_recordedLife_34 (by decide) rfl ?_
        have hloop36 : ∀ k : Nat, k ≤ (en - cl (x 4 s)) → zE g 6 36 [(5, .int (nI (cl (x 4 s) + k))), (4, .ref (32 * s + 12)), (3, .int (nI en)), (2, .int (c_ra i x (cl (i 131 p)) (y 1 s) (cl (x 4 s)) a k)), (0, .ref (32 * p + 11)), (1, .int (nI tk))] [] (cmm n i x lm y ol od) 0 0 := by
          refine z_loop (fun k => zE g 6 36 [(5, .int (nI (cl (x 4 s) + k))), (4, .ref (32 * s + 12)), (3, .int (nI en)), (2, .int (c_ra i x (cl (i 131 p)) (y 1 s) (cl (x 4 s)) a k)), (0, .ref (32 * p + 11)), (1, .int (nI tk))] [] (cmm n i x lm y ol od) 0 0) (en - cl (x 4 s)) ?_ ?_
          · show zE g 6 36 [(5, .int (nI (cl (x 4 s) + (en - cl (x 4 s))))), (4, .ref (32 * s + 12)), (3, .int (nI en)), (2, .int (c_ra i x (cl (i 131 p)) (y 1 s) (cl (x 4 s)) a (en - cl (x 4 s)))), (0, .ref (32 * p + 11)), (1, .int (nI tk))] [] (cmm n i x lm y ol od) 0 0
            refine z_iload X 0 dX4_recordedLife_36 rfl ?_
            refine z_iload_n X 2 dX4_recordedLife_38 rfl rfl ?_
            refine z_icmp_ge X 68 dX4_recordedLife_39 (by decide) (fun c_39 => ?_) (fun c_39 => ?_)
            · skip
              refine z_aload X 1 dX4_recordedLife_68 rfl ?_
              refine z_getI (ci := 9) (j := 1) (x := nI (cl (x 4 s))) X dX4_recordedLife_70 (ck_12 (by omega)) rfl (by decide) hlk_43 (Or.inl rfl) (fun _ => rfl) (by rw [ci_12_1]; exact hX4) ?_
              refine z_istore_n (ls' := [(3, .int (nI (cl (x 4 s)))), (5, .int (nI (cl (x 4 s) + (en - cl (x 4 s))))), (4, .ref (32 * s + 12)), (2, .int (c_ra i x (cl (i 131 p)) (y 1 s) (cl (x 4 s)) a (en - cl (x 4 s)))), (0, .ref (32 * p + 11)), (1, .int (nI tk))]) X dX4_recordedLife_73 rfl (by decide) rfl ?_
              rcases hy2 : y 2 s with _ | s2
              · skip
                refine z_aload X 2 dX4_recordedLife_74 rfl ?_
                refine z_getN (ci := 9) (j := 2) X dX4_recordedLife_76 (ck_12 (by omega)) rfl (by decide) hlk_46 (Or.inl rfl) (fun _ => rfl) (cr_12_2n hy2) ?_
                refine z_astoreN (ls' := [(4, .null), (3, .int (nI (cl (x 4 s)))), (5, .int (nI (cl (x 4 s) + (en - cl (x 4 s))))), (2, .int (c_ra i x (cl (i 131 p)) (y 1 s) (cl (x 4 s)) a (en - cl (x 4 s)))), (0, .ref (32 * p + 11)), (1, .int (nI tk))]) X dX4_recordedLife_79 (by decide) rfl ?_
                refine z_goto (tgt := 24) X dX4_recordedLife_81 (by decide) ?_
                refine z_sub (ls' := [(4, .null), (3, .int (nI (cl (x 4 s)))), (2, .int (c_ra i x (cl (i 131 p)) (y 1 s) (cl (x 4 s)) a (en - cl (x 4 s)))), (0, .ref (32 * p + 11)), (1, .int (nI tk))]) [0, 1, 3, 4, 5] rfl ?_
                exact ih 0 (cl (x 4 s)) _ (by omega) (by omega) hX5 (by rw [← hR9]; show _ = c_rl i x y (cl (i 131 p)) f (y 2 s) (cl (x 4 s)) _; rw [hy2])
              · skip
                refine z_aload X 2 dX4_recordedLife_74 rfl ?_
                refine z_getR (ci := 9) (j := 2) (o' := 32 * s2 + 12) X dX4_recordedLife_76 (ck_12 (by omega)) rfl (by decide) hlk_46 (Or.inl rfl) (fun _ => rfl) (by rw [cr_12_2 (by omega), hy2]; rfl) ?_
                refine z_astore (ls' := [(4, .ref (32 * s2 + 12)), (3, .int (nI (cl (x 4 s)))), (5, .int (nI (cl (x 4 s) + (en - cl (x 4 s))))), (2, .int (c_ra i x (cl (i 131 p)) (y 1 s) (cl (x 4 s)) a (en - cl (x 4 s)))), (0, .ref (32 * p + 11)), (1, .int (nI tk))]) X dX4_recordedLife_79 (by decide) rfl ?_
                refine z_goto (tgt := 24) X dX4_recordedLife_81 (by decide) ?_
                refine z_sub (ls' := [(4, .ref (32 * s2 + 12)), (3, .int (nI (cl (x 4 s)))), (2, .int (c_ra i x (cl (i 131 p)) (y 1 s) (cl (x 4 s)) a (en - cl (x 4 s)))), (0, .ref (32 * p + 11)), (1, .int (nI tk))]) [0, 1, 3, 4, 5] rfl ?_
                exact ih (s2 + 1) (cl (x 4 s)) _ (by omega) (by omega) hX5 (by rw [← hR9]; show _ = c_rl i x y (cl (i 131 p)) f (y 2 s) (cl (x 4 s)) _; rw [hy2])
            · exact absurd (nI_le (by omega) (by omega)) c_39
          · intro k hk_36 ih36
            have ih36 : zE g 6 36 [(5, .int (nI (cl (x 4 s) + (k + 1)))), (4, .ref (32 * s + 12)), (3, .int (nI en)), (2, .int (c_ra i x (cl (i 131 p)) (y 1 s) (cl (x 4 s)) a (k + 1))), (0, .ref (32 * p + 11)), (1, .int (nI tk))] [] (cmm n i x lm y ol od) 0 0 := ih36
            show zE g 6 36 [(5, .int (nI (cl (x 4 s) + k))), (4, .ref (32 * s + 12)), (3, .int (nI en)), (2, .int (c_ra i x (cl (i 131 p)) (y 1 s) (cl (x 4 s)) a k)), (0, .ref (32 * p + 11)), (1, .int (nI tk))] [] (cmm n i x lm y ol od) 0 0
            refine z_iload X 0 dX4_recordedLife_36 rfl ?_
            refine z_iload_n X 2 dX4_recordedLife_38 rfl rfl ?_
            refine z_icmp_ge X 68 dX4_recordedLife_39 (by decide) (fun c_39 => ?_) (fun c_39 => ?_)
            · exact absurd c_39 (nI_ge (by omega) (by omega))
            · skip
              refine z_iload_n X 3 dX4_recordedLife_42 rfl rfl ?_
              refine z_aload_n X 4 dX4_recordedLife_43 rfl rfl ?_
              refine z_getR (ci := 7) (j := 1) (o' := 32 * (cl (i 131 p)) + 10) X dX4_recordedLife_44 (ck_11 (by omega)) rfl (by decide) hlk_22 (Or.inl rfl) (fun _ => rfl) (cr_11_1) ?_
              refine z_aload X 1 dX4_recordedLife_47 rfl ?_
              refine z_getR (ci := 9) (j := 0) (o' := 32 * (y 1 s) + 8) X dX4_recordedLife_49 (ck_12 (by omega)) rfl (by decide) hlk_53 (Or.inl rfl) (fun _ => rfl) (cr_12_0) ?_
              refine z_iload X 0 dX4_recordedLife_52 rfl ?_
              refine z_callVi (As := [.int (nI (cl (x 4 s) + k))]) (rest := [.ref (32 * (cl (i 131 p)) + 10), .int (c_ra i x (cl (i 131 p)) (y 1 s) (cl (x 4 s)) a k)]) (n1 := 1) (ci := 8) X dX4_recordedLife_54 (c_X5_recordedAt l n i x lm y ol od (y 1 s) (by have := (hs9 s (by omega)).1; omega) (cl (x 4 s) + k) (by omega)) gX4_recordedLife_X5_recordedAt rfl rfl (by decide +kernel) ⟨by decide, by decide⟩ (ck_8 (by have := (hs9 s (by omega)).1; omega)) rfl rfl (Nat.le_of_ble_eq_true rfl) ⟨by decide, by decide⟩ (fun _ h => h.elim) ?_
              rintro _ _ ⟨rfl, rfl⟩
              refine z_callVi (As := [.int (x (10 + (y 1 s)) (cl (x 4 s) + k))]) (rest := [.int (c_ra i x (cl (i 131 p)) (y 1 s) (cl (x 4 s)) a k)]) (n1 := 1) (ci := 4) X dX4_recordedLife_57 (c_X1_lossAt l n i x lm y ol od (cl (i 131 p)) (by have := (hp9 p (by omega)).1.1; omega) (x (10 + (y 1 s)) (cl (x 4 s) + k))) gX4_recordedLife_X1_lossAt rfl rfl (by decide +kernel) ⟨by decide, by decide⟩ (ck_10 (by have := (hp9 p (by omega)).1.1; omega)) rfl rfl (Nat.le_of_ble_eq_true rfl) ⟨by decide, by decide⟩ (fun _ h => h.elim) ?_
              rintro _ _ ⟨rfl, rfl⟩
              refine z_iadd X dX4_recordedLife_60 ?_
              refine z_istore_n (ls' := [(2, .int ((c_ra i x (cl (i 131 p)) (y 1 s) (cl (x 4 s)) a k) + (c_ls i (cl (i 131 p)) (x (10 + (y 1 s)) (cl (x 4 s) + k))))), (5, .int (nI (cl (x 4 s) + k))), (4, .ref (32 * s + 12)), (3, .int (nI en)), (0, .ref (32 * p + 11)), (1, .int (nI tk))]) X dX4_recordedLife_61 rfl (by decide) rfl ?_
              refine z_iinc (ls' := [(5, .int (nI ((cl (x 4 s) + k) + 1))), (2, .int ((c_ra i x (cl (i 131 p)) (y 1 s) (cl (x 4 s)) a k) + (c_ls i (cl (i 131 p)) (x (10 + (y 1 s)) (cl (x 4 s) + k))))), (4, .ref (32 * s + 12)), (3, .int (nI en)), (0, .ref (32 * p + 11)), (1, .int (nI tk))]) (v := nI ((cl (x 4 s) + k) + 1)) X 1 dX4_recordedLife_62 rfl (nI_1 _) (by decide) rfl ?_
              refine z_goto (tgt := 36) X dX4_recordedLife_65 (by decide) ?_
              refine z_sub (ls' := [(5, .int (nI ((cl (x 4 s) + k) + 1))), (4, .ref (32 * s + 12)), (3, .int (nI en)), (2, .int ((c_ra i x (cl (i 131 p)) (y 1 s) (cl (x 4 s)) a k) + (c_ls i (cl (i 131 p)) (x (10 + (y 1 s)) (cl (x 4 s) + k))))), (0, .ref (32 * p + 11)), (1, .int (nI tk))]) [0, 2, 3, 1, 4, 5] rfl ?_
              refine z_lse (ls' := [(5, .int (nI (cl (x 4 s) + (k + 1)))), (4, .ref (32 * s + 12)), (3, .int (nI en)), (2, .int (c_ra i x (cl (i 131 p)) (y 1 s) (cl (x 4 s)) a (k + 1))), (0, .ref (32 * p + 11)), (1, .int (nI tk))]) (rfl) ?_
              exact ih36
        refine z_sub (ls' := [(5, .int (nI (cl (x 4 s)))), (4, .ref (32 * s + 12)), (3, .int (nI en)), (2, .int a), (0, .ref (32 * p + 11)), (1, .int (nI tk))]) [0, 1, 2, 3, 4, 5] rfl ?_
        refine z_lse (ls' := [(5, .int (nI (cl (x 4 s) + 0))), (4, .ref (32 * s + 12)), (3, .int (nI en)), (2, .int (c_ra i x (cl (i 131 p)) (y 1 s) (cl (x 4 s)) a 0)), (0, .ref (32 * p + 11)), (1, .int (nI tk))]) (by rw [Nat.add_zero]; rfl) ?_
        exact hloop36 0 (Nat.zero_le _)
  have hfin : ∀ en, c_en i x p tk = en → zE g 6 24 [(4, .ref (32 * (y 0 p) + 12)), (3, .int (nI en)), (2, .int 0), (0, .ref (32 * p + 11)), (1, .int (nI tk))] [] (cmm n i x lm y ol od) 0 0 := fun en he => hout (n 4) (y 0 p + 1) en 0 (by omega) (by omega) (by rw [← he]; unfold c_en; split <;> omega) (by rw [← he]; exact hRf.symm)
  refine z_iconst (v := 0) X dX4_recordedLife_0 (by decide) ?_
  refine z_istore_n (ls' := [(2, .int 0), (0, .ref (32 * p + 11)), (1, .int (nI tk))]) X dX4_recordedLife_1 rfl (by decide) rfl ?_
  refine z_aload_n X 1 dX4_recordedLife_2 rfl rfl ?_
  refine z_callVi (As := []) (rest := []) (n1 := 0) (ci := 7) X dX4_recordedLife_3 (c_X4_isInRoom l n i x lm y ol od (⟨⟨hn0, hn1, hn2, hn3⟩, ⟨hb5, hb6, hb7, hb8⟩, hp9, hs9, ho9⟩) p (by omega)) gX4_recordedLife_X4_isInRoom rfl rfl (by decide +kernel) ⟨by decide, by decide⟩ (ck_11 (by omega)) rfl rfl (Nat.le_of_ble_eq_true rfl) ⟨by decide, by decide⟩ (fun _ h => h.elim) ?_
  rintro _ _ ⟨rfl, rfl⟩
  refine z_if_eq X 13 dX4_recordedLife_6 (by decide) (fun c_6 => ?_) (fun c_6 => ?_)
  · skip
    refine z_aload_n X 1 dX4_recordedLife_13 rfl rfl ?_
    refine z_getI (ci := 7) (j := 4) (x := nI (cl (x 3 p))) X dX4_recordedLife_14 (ck_11 (by omega)) rfl (by decide) hlk_15 (Or.inl rfl) (fun _ => rfl) (by rw [ci_11_4]; exact hx3.1) ?_
    refine z_istore_n (ls' := [(3, .int (nI (cl (x 3 p)))), (2, .int 0), (0, .ref (32 * p + 11)), (1, .int (nI tk))]) X dX4_recordedLife_17 rfl (by decide) rfl ?_
    refine z_aload_n X 2 dX4_recordedLife_18 rfl rfl ?_
    refine z_getR (ci := 7) (j := 2) (o' := 32 * (y 0 p) + 12) X dX4_recordedLife_19 (ck_11 (by omega)) rfl (by decide) hlk_31 (Or.inl rfl) (fun _ => rfl) (cr_11_2) ?_
    refine z_astore (ls' := [(4, .ref (32 * (y 0 p) + 12)), (3, .int (nI (cl (x 3 p)))), (2, .int 0), (0, .ref (32 * p + 11)), (1, .int (nI tk))]) X dX4_recordedLife_22 (by decide) rfl ?_
    refine z_sub (ls' := [(4, .ref (32 * (y 0 p) + 12)), (3, .int (nI (cl (x 3 p)))), (2, .int 0), (0, .ref (32 * p + 11)), (1, .int (nI tk))]) [0, 1, 2, 3, 4] rfl ?_
    exact hfin (cl (x 3 p)) ((if_neg (fun e => zb_0.mp c_6 e)))
  · skip
    refine z_iload_n X 2 dX4_recordedLife_9 rfl rfl ?_
    refine z_goto (tgt := 17) X dX4_recordedLife_10 (by decide) ?_
    refine z_istore_n (ls' := [(3, .int (nI tk)), (2, .int 0), (0, .ref (32 * p + 11)), (1, .int (nI tk))]) X dX4_recordedLife_17 rfl (by decide) rfl ?_
    refine z_aload_n X 2 dX4_recordedLife_18 rfl rfl ?_
    refine z_getR (ci := 7) (j := 2) (o' := 32 * (y 0 p) + 12) X dX4_recordedLife_19 (ck_11 (by omega)) rfl (by decide) hlk_31 (Or.inl rfl) (fun _ => rfl) (cr_11_2) ?_
    refine z_astore (ls' := [(4, .ref (32 * (y 0 p) + 12)), (3, .int (nI tk)), (2, .int 0), (0, .ref (32 * p + 11)), (1, .int (nI tk))]) X dX4_recordedLife_22 (by decide) rfl ?_
    refine z_sub (ls' := [(4, .ref (32 * (y 0 p) + 12)), (3, .int (nI tk)), (2, .int 0), (0, .ref (32 * p + 11)), (1, .int (nI tk))]) [0, 1, 2, 3, 4] rfl ?_
    exact hfin tk ((if_pos (zb_n0.mp c_6)))

set_option maxRecDepth 100000 in
set_option maxHeartbeats 4000000 in
theorem c_X7_lifeByRecords (l : Launch) (hl0 : l.stackTraces = false) (n : Nat → Nat) (i x : Nat → Nat → Int32) (lm : Nat → Nat → Int64) (y : Nat → Nat → Nat) (ol : Int64) (od : UInt64) (hW : cW n i y) (p : Int32) (tk : Nat) (htk : tk ≤ 960) (hti : i 1 0 = nI tk) (hx4 : ∀ s, s < n 4 → x 4 s = nI (cl (x 4 s)) ∧ cl (x 4 s) ≤ 960) (hx3 : ∀ p, p < n 7 → x 3 p = nI (cl (x 3 p)) ∧ cl (x 3 p) ≤ 960) : zS l yX7_lifeByRecords wsX7_lifeByRecords 10 175 4 40 [.ref 1, .int p] (cmm n i x lm y ol od) (zpi (fun v9 M1 => (cl p < n 7 ∧ p = nI (cl p)) ∧ v9 = c_rv i x y n (cl p) tk ∧ M1 = cmm n i x lm y ol od)) (fun E => (E = "java/lang/IndexOutOfBoundsException" ∧ ¬ (cl p < n 7 ∧ p = nI (cl p)))) := by
  refine z_intro (cc := cX7_lifeByRecords) (maxL := 2) (ret := (some .int)) (by decide +kernel) rfl (Nat.le_of_ble_eq_true rfl) ?_
  have hlk_39 : Cond.fieldLink RX7 39 "ColdStore" "time" "I" ∈ wsX7_lifeByRecords := by decide +kernel
  intro g X
  show zE g 2 0 [(0, .ref 1), (1, .int p)] [] (cmm n i x lm y ol od) 0 0
  obtain ⟨⟨hn0, hn1, hn2, hn3⟩, ⟨hb5, hb6, hb7, hb8⟩, hp9, hs9, ho9⟩ := hW
  refine z_aload_n X 0 dX7_lifeByRecords_0 rfl rfl ?_
  refine z_iload_n X 1 dX7_lifeByRecords_1 rfl rfl ?_
  refine z_callVr (As := [.int p]) (rest := []) (n1 := 1) (ci := 10) X dX7_lifeByRecords_2 (c_X7_findPallet l hl0 n i x lm y ol od ⟨by omega, by omega⟩ p) gX7_lifeByRecords_X7_findPallet rfl rfl (by decide +kernel) ⟨by decide, by decide⟩ ck_1 rfl rfl (Nat.le_of_ble_eq_true rfl) ⟨by decide, by decide⟩ (fun E h => ⟨⟨h.1, find_no (by omega) h.2⟩, rfl⟩) ?_
  rintro _ _ ⟨rfl, rfl, hf0, hg0⟩
  refine z_aload_n X 0 dX7_lifeByRecords_5 rfl rfl ?_
  refine z_getI (ci := 10) (j := 6) (x := nI tk) X dX7_lifeByRecords_6 ck_1 rfl (by decide) hlk_39 (Or.inl rfl) (fun _ => rfl) (by rw [ci_1_6]; exact hti) ?_
  refine z_callVi (As := [.int (nI tk)]) (rest := []) (n1 := 1) (ci := 7) X dX7_lifeByRecords_9 (c_X4_recordedLife l n i x lm y ol od (⟨⟨hn0, hn1, hn2, hn3⟩, ⟨hb5, hb6, hb7, hb8⟩, hp9, hs9, ho9⟩) hx4 (cl p) (by omega) (hx3 (cl p) (by omega)) tk htk) gX7_lifeByRecords_X4_recordedLife rfl rfl (by decide +kernel) ⟨by decide, by decide⟩ (ck_11 (by omega)) rfl rfl (Nat.le_of_ble_eq_true rfl) ⟨by decide, by decide⟩ (fun _ h => h.elim) ?_
  rintro _ _ ⟨rfl, rfl⟩
  refine z_iret X rfl rfl (Nat.le_of_ble_eq_true rfl) (Nat.le_of_ble_eq_true rfl) dX7_lifeByRecords_12 ?_
  exact ⟨_, rfl, ⟨hf0, hg0⟩, rfl, rfl⟩

set_option maxRecDepth 100000 in
set_option maxHeartbeats 4000000 in
theorem c_X7_arePalletsConsistent (l : Launch) (n : Nat → Nat) (i x : Nat → Nat → Int32) (lm : Nat → Nat → Int64) (y : Nat → Nat → Nat) (ol : Int64) (od : UInt64) (hW : cW n i y) (tk : Nat) (htk : tk ≤ 960) (hti : i 1 0 = nI tk) (hx4 : ∀ s, s < n 4 → x 4 s = nI (cl (x 4 s)) ∧ cl (x 4 s) ≤ 960) (hx3 : ∀ p, p < n 7 → x 3 p = nI (cl (x 3 p)) ∧ cl (x 3 p) ≤ 960) (hq : ∀ p, p < n 7 → ¬ i 133 p < 0 ∧ i 133 p ≤ i 127 (cl (i 131 p)) ∧ i 133 p = c_rv i x y n p tk) : zS l yX7_arePalletsConsistent wsX7_arePalletsConsistent 9 154 0 0 [.ref 1] (cmm n i x lm y ol od) (zpi (fun q M1 => q = 1 ∧ M1 = cmm n i x lm y ol od)) zno := by
  refine z_intro (cc := cX7_arePalletsConsistent) (maxL := 4) (ret := (some .boolean)) (by decide +kernel) rfl (Nat.le_of_ble_eq_true rfl) ?_
  have hlk_19 : Cond.fieldLink RX7 19 "ColdStore" "pallets" "Ljava/util/ArrayList;" ∈ wsX7_arePalletsConsistent := by decide +kernel
  have hlk_16 : Cond.fieldLink RX7 16 "ColdStore" "kinds" "Ljava/util/ArrayList;" ∈ wsX7_arePalletsConsistent := by decide +kernel
  have hlk_248 : Cond.fieldLink RX7 248 "ColdStore$Pallet" "number" "I" ∈ wsX7_arePalletsConsistent := by decide +kernel
  have hlk_212 : Cond.fieldLink RX7 212 "ColdStore$Pallet" "lifeLeft" "I" ∈ wsX7_arePalletsConsistent := by decide +kernel
  have hlk_221 : Cond.fieldLink RX7 221 "ColdStore$Pallet" "kind" "LColdStore$Kind;" ∈ wsX7_arePalletsConsistent := by decide +kernel
  have hlk_390 : Cond.fieldLink RX7 390 "ColdStore$Kind" "fullLife" "I" ∈ wsX7_arePalletsConsistent := by decide +kernel
  have hlk_39 : Cond.fieldLink RX7 39 "ColdStore" "time" "I" ∈ wsX7_arePalletsConsistent := by decide +kernel
  intro g X
  show zE g 4 0 [(0, .ref 1)] [] (cmm n i x lm y ol od) 0 0
  obtain ⟨⟨hn0, hn1, hn2, hn3⟩, ⟨hb5, hb6, hb7, hb8⟩, hp9, hs9, ho9⟩ := hW
  refine z_iconst (v := 0) X dX7_arePalletsConsistent_0 (by decide) ?_
  refine z_istore_n (ls' := [(1, .int 0), (0, .ref 1)]) X dX7_arePalletsConsistent_1 rfl (by decide) rfl ?_
  have hloop2 : ∀ k : Nat, k ≤ n 7 → zE g 4 2 [(0, .ref 1), (1, .int (nI k))] [] (cmm n i x lm y ol od) 0 0 := by
    refine z_loop (fun k => zE g 4 2 [(0, .ref 1), (1, .int (nI k))] [] (cmm n i x lm y ol od) 0 0) (n 7) ?_ ?_
    · show zE g 4 2 [(0, .ref 1), (1, .int (nI (n 7)))] [] (cmm n i x lm y ol od) 0 0
      refine z_iload_n X 1 dX7_arePalletsConsistent_2 rfl rfl ?_
      refine z_aload_n X 0 dX7_arePalletsConsistent_3 rfl rfl ?_
      refine z_getR (ci := 10) (j := 2) (o' := 66) X dX7_arePalletsConsistent_4 ck_1 rfl (by decide) hlk_19 (Or.inl rfl) (fun _ => rfl) (cr_1_2) ?_
      refine z_callVi (As := []) (rest := [.int (nI (n 7))]) (n1 := 0) (ci := 2) X dX7_arePalletsConsistent_7 (c_size2 l _ _ _ _ _ _ _) gX7_arePalletsConsistent_Jx4a65c_size_8abf5 rfl rfl (by decide +kernel) ⟨by decide, by decide⟩ (ck_2 (j := 2) (by decide)) rfl rfl (Nat.le_of_ble_eq_true rfl) ⟨by decide, by decide⟩ (fun _ h => h.elim) ?_
      rintro _ _ ⟨rfl, rfl⟩
      refine z_icmp_ge X 87 dX7_arePalletsConsistent_10 (by decide) (fun c_10 => ?_) (fun c_10 => ?_)
      · skip
        refine z_aload_n X 0 dX7_arePalletsConsistent_87 rfl rfl ?_
        refine z_getR (ci := 10) (j := 2) (o' := 66) X dX7_arePalletsConsistent_88 ck_1 rfl (by decide) hlk_19 (Or.inl rfl) (fun _ => rfl) (cr_1_2) ?_
        refine z_callVi (As := []) (rest := []) (n1 := 0) (ci := 2) X dX7_arePalletsConsistent_91 (c_size2 l _ _ _ _ _ _ _) gX7_arePalletsConsistent_Jx4a65c_size_8abf5 rfl rfl (by decide +kernel) ⟨by decide, by decide⟩ (ck_2 (j := 2) (by decide)) rfl rfl (Nat.le_of_ble_eq_true rfl) ⟨by decide, by decide⟩ (fun _ h => h.elim) ?_
        rintro _ _ ⟨rfl, rfl⟩
        refine z_bipush (v := 24) X dX7_arePalletsConsistent_94 (by decide) ?_
        refine z_icmp_gt X 114 dX7_arePalletsConsistent_96 (by decide) (fun c_96 => ?_) (fun c_96 => ?_)
        · exact absurd c_96 (nI_ge_ (b := 24) hb7 (by decide))
        · skip
          refine z_aload_n X 0 dX7_arePalletsConsistent_99 rfl rfl ?_
          refine z_getR (ci := 10) (j := 1) (o' := 34) X dX7_arePalletsConsistent_100 ck_1 rfl (by decide) hlk_16 (Or.inl rfl) (fun _ => rfl) (cr_1_1) ?_
          refine z_callVi (As := []) (rest := []) (n1 := 0) (ci := 2) X dX7_arePalletsConsistent_103 (c_size1 l _ _ _ _ _ _ _) gX7_arePalletsConsistent_Jx4a65c_size_8abf5 rfl rfl (by decide +kernel) ⟨by decide, by decide⟩ (ck_2 (j := 1) (by decide)) rfl rfl (Nat.le_of_ble_eq_true rfl) ⟨by decide, by decide⟩ (fun _ h => h.elim) ?_
          rintro _ _ ⟨rfl, rfl⟩
          refine z_iconst (v := 5) X dX7_arePalletsConsistent_106 (by decide) ?_
          refine z_icmp_gt X 114 dX7_arePalletsConsistent_107 (by decide) (fun c_107 => ?_) (fun c_107 => ?_)
          · exact absurd c_107 (nI_ge_ (b := 5) hb6 (by decide))
          · skip
            refine z_iconst (v := 1) X dX7_arePalletsConsistent_110 (by decide) ?_
            refine z_goto (tgt := 115) X dX7_arePalletsConsistent_111 (by decide) ?_
            refine z_iret X rfl (rfl) (Nat.le_of_ble_eq_true rfl) (Nat.le_of_ble_eq_true rfl) dX7_arePalletsConsistent_115 ?_
            exact ⟨_, rfl, rfl, rfl⟩
      · exact absurd (Int32.le_refl _) c_10
    · intro k hk_2 ih2
      have ih2 : zE g 4 2 [(0, .ref 1), (1, .int (nI (k + 1)))] [] (cmm n i x lm y ol od) 0 0 := ih2
      show zE g 4 2 [(0, .ref 1), (1, .int (nI k))] [] (cmm n i x lm y ol od) 0 0
      refine z_iload_n X 1 dX7_arePalletsConsistent_2 rfl rfl ?_
      refine z_aload_n X 0 dX7_arePalletsConsistent_3 rfl rfl ?_
      refine z_getR (ci := 10) (j := 2) (o' := 66) X dX7_arePalletsConsistent_4 ck_1 rfl (by decide) hlk_19 (Or.inl rfl) (fun _ => rfl) (cr_1_2) ?_
      refine z_callVi (As := []) (rest := [.int (nI k)]) (n1 := 0) (ci := 2) X dX7_arePalletsConsistent_7 (c_size2 l _ _ _ _ _ _ _) gX7_arePalletsConsistent_Jx4a65c_size_8abf5 rfl rfl (by decide +kernel) ⟨by decide, by decide⟩ (ck_2 (j := 2) (by decide)) rfl rfl (Nat.le_of_ble_eq_true rfl) ⟨by decide, by decide⟩ (fun _ h => h.elim) ?_
      rintro _ _ ⟨rfl, rfl⟩
      refine z_icmp_ge X 87 dX7_arePalletsConsistent_10 (by decide) (fun c_10 => ?_) (fun c_10 => ?_)
      · exact absurd c_10 (nI_ge hk_2 (by omega))
      · skip
        refine z_aload_n X 0 dX7_arePalletsConsistent_13 rfl rfl ?_
        refine z_getR (ci := 10) (j := 2) (o' := 66) X dX7_arePalletsConsistent_14 ck_1 rfl (by decide) hlk_19 (Or.inl rfl) (fun _ => rfl) (cr_1_2) ?_
        refine z_iload_n X 1 dX7_arePalletsConsistent_17 rfl rfl ?_
        refine z_callVr (As := [.int (nI k)]) (rest := []) (n1 := 1) (ci := 2) X dX7_arePalletsConsistent_18 (c_get2 l _ _ _ _ _ _ _ k (by omega) (by omega)) gX7_arePalletsConsistent_Jx4a65c_get_915e3 rfl rfl (by decide +kernel) ⟨by decide, by decide⟩ (ck_2 (j := 2) (by decide)) rfl rfl (Nat.le_of_ble_eq_true rfl) ⟨by decide, by decide⟩ (fun _ h => h.elim) ?_
        rintro _ _ ⟨rfl, rfl⟩
        refine z_ckc (ci := 7) X dX7_arePalletsConsistent_21 (by decide +kernel) (ck_11 (by omega)) rfl ?_
        refine z_astore_n (ls' := [(2, .ref (32 * k + 11)), (0, .ref 1), (1, .int (nI k))]) X dX7_arePalletsConsistent_24 rfl (by decide) rfl ?_
        refine z_aload_n X 0 dX7_arePalletsConsistent_25 rfl rfl ?_
        refine z_getI (ci := 7) (j := 0) (x := nI k) X dX7_arePalletsConsistent_26 (ck_11 (by omega)) rfl (by decide) hlk_248 (Or.inl rfl) (fun _ => rfl) (ci_11_0) ?_
        refine z_iload_n X 2 dX7_arePalletsConsistent_29 rfl rfl ?_
        refine z_icmp_ne X 73 dX7_arePalletsConsistent_30 (by decide) (fun c_30 => ?_) (fun c_30 => ?_)
        · exact absurd rfl c_30
        · skip
          refine z_aload_n X 0 dX7_arePalletsConsistent_33 rfl rfl ?_
          refine z_getI (ci := 7) (j := 5) (x := i 133 k) X dX7_arePalletsConsistent_34 (ck_11 (by omega)) rfl (by decide) hlk_212 (Or.inl rfl) (fun _ => rfl) (ci_11_5) ?_
          refine z_if_lt X 73 dX7_arePalletsConsistent_37 (by decide) (fun c_37 => ?_) (fun c_37 => ?_)
          · exact absurd c_37 (hq k (by omega)).1
          · skip
            refine z_aload_n X 0 dX7_arePalletsConsistent_40 rfl rfl ?_
            refine z_getI (ci := 7) (j := 5) (x := i 133 k) X dX7_arePalletsConsistent_41 (ck_11 (by omega)) rfl (by decide) hlk_212 (Or.inl rfl) (fun _ => rfl) (ci_11_5) ?_
            refine z_aload_n X 0 dX7_arePalletsConsistent_44 rfl rfl ?_
            refine z_getR (ci := 7) (j := 1) (o' := 32 * (cl (i 131 k)) + 10) X dX7_arePalletsConsistent_45 (ck_11 (by omega)) rfl (by decide) hlk_221 (Or.inl rfl) (fun _ => rfl) (cr_11_1) ?_
            refine z_getI (ci := 4) (j := 0) (x := i 127 (cl (i 131 k))) X dX7_arePalletsConsistent_48 (ck_10 (by have := (hp9 k (by omega)).1.1; omega)) rfl (by decide) hlk_390 (Or.inl rfl) (fun _ => rfl) (ci_10_0) ?_
            refine z_icmp_gt X 73 dX7_arePalletsConsistent_51 (by decide) (fun c_51 => ?_) (fun c_51 => ?_)
            · exact absurd c_51 (Int32.not_lt.mpr (hq k (by omega)).2.1)
            · skip
              refine z_aload_n X 0 dX7_arePalletsConsistent_54 rfl rfl ?_
              refine z_getI (ci := 7) (j := 5) (x := i 133 k) X dX7_arePalletsConsistent_55 (ck_11 (by omega)) rfl (by decide) hlk_212 (Or.inl rfl) (fun _ => rfl) (ci_11_5) ?_
              refine z_aload_n X 0 dX7_arePalletsConsistent_58 rfl rfl ?_
              refine z_aload_n X 1 dX7_arePalletsConsistent_59 rfl rfl ?_
              refine z_getI (ci := 10) (j := 6) (x := nI tk) X dX7_arePalletsConsistent_60 ck_1 rfl (by decide) hlk_39 (Or.inl rfl) (fun _ => rfl) (by rw [ci_1_6]; exact hti) ?_
              refine z_callVi (As := [.int (nI tk)]) (rest := [.int (i 133 k)]) (n1 := 1) (ci := 7) X dX7_arePalletsConsistent_63 (c_X4_recordedLife l n i x lm y ol od (⟨⟨hn0, hn1, hn2, hn3⟩, ⟨hb5, hb6, hb7, hb8⟩, hp9, hs9, ho9⟩) hx4 k (by omega) (hx3 k (by omega)) tk htk) gX7_arePalletsConsistent_X4_recordedLife rfl rfl (by decide +kernel) ⟨by decide, by decide⟩ (ck_11 (by omega)) rfl rfl (Nat.le_of_ble_eq_true rfl) ⟨by decide, by decide⟩ (fun _ h => h.elim) ?_
              rintro _ _ ⟨rfl, rfl⟩
              refine z_icmp_ne X 73 dX7_arePalletsConsistent_66 (by decide) (fun c_66 => ?_) (fun c_66 => ?_)
              · exact absurd (hq k (by omega)).2.2 c_66
              · skip
                refine z_iconst (v := 1) X dX7_arePalletsConsistent_69 (by decide) ?_
                refine z_goto (tgt := 74) X dX7_arePalletsConsistent_70 (by decide) ?_
                refine z_istore_n (ls' := [(3, .int 1), (2, .ref (32 * k + 11)), (0, .ref 1), (1, .int (nI k))]) X dX7_arePalletsConsistent_74 rfl (by decide) rfl ?_
                refine z_iload_n X 0 dX7_arePalletsConsistent_75 rfl rfl ?_
                refine z_if_ne X 81 dX7_arePalletsConsistent_76 (by decide) (fun c_76 => ?_) (fun c_76 => ?_)
                · skip
                  refine z_iinc (ls' := [(1, .int (nI (k + 1))), (3, .int 1), (2, .ref (32 * k + 11)), (0, .ref 1)]) (v := nI (k + 1)) X 3 dX7_arePalletsConsistent_81 rfl (nI_1 _) (by decide) rfl ?_
                  refine z_goto (tgt := 2) X dX7_arePalletsConsistent_84 (by decide) ?_
                  refine z_sub (ls' := [(0, .ref 1), (1, .int (nI (k + 1)))]) [3, 0] rfl ?_
                  refine z_lse (ls' := [(0, .ref 1), (1, .int (nI (k + 1)))]) (rfl) ?_
                  exact ih2
                · exact absurd c_76 (by decide)
  refine z_sub (ls' := [(0, .ref 1), (1, .int 0)]) [1, 0] rfl ?_
  refine z_lse (ls' := [(0, .ref 1), (1, .int (nI 0))]) (rfl) ?_
  exact hloop2 0 (Nat.zero_le _)

set_option maxRecDepth 100000 in
set_option maxHeartbeats 4000000 in
theorem c_X7_isConsistent (l : Launch) (hl0 : l.stackTraces = false) (n : Nat → Nat) (i x : Nat → Nat → Int32) (lm : Nat → Nat → Int64) (y : Nat → Nat → Nat) (ol : Int64) (od : UInt64) (hW : cW n i y) (tk : Nat) (htk : tk ≤ 960) (hti : i 1 0 = nI tk) (hx4 : ∀ s, s < n 4 → x 4 s = nI (cl (x 4 s)) ∧ cl (x 4 s) ≤ 960) (hx3 : ∀ p, p < n 7 → x 3 p = nI (cl (x 3 p)) ∧ cl (x 3 p) ≤ 960) (h1 : lm 1 26 = c_rc x tk) (h2 : i 1 25 = c_rg x tk) (h3 : i 1 24 ≤ i 1 25) (hr : ∀ j, j < n 5 → i 105 j ≤ i 106 j ∧ -400 ≤ i 110 j ∧ i 116 j ≤ nI tk ∧ ¬ 8 - m_filled i (nI j) (n 7) < 0) (hq : ∀ p, p < n 7 → ¬ i 133 p < 0 ∧ i 133 p ≤ i 127 (cl (i 131 p)) ∧ i 133 p = c_rv i x y n p tk) (hd : ∀ o, o < n 8 → i 140 o = 111 → nI tk < i 139 o) : zS l yX7_isConsistent wsX7_isConsistent 11 201 0 0 [.ref 1] (cmm n i x lm y ol od) (zpi (fun q M1 => q = 1 ∧ M1 = cmm n i x lm y ol od)) zno := by
  refine z_intro (cc := cX7_isConsistent) (maxL := 1) (ret := (some .boolean)) (by decide +kernel) rfl (Nat.le_of_ble_eq_true rfl) ?_
  intro g X
  show zE g 1 0 [(0, .ref 1)] [] (cmm n i x lm y ol od) 0 0
  refine z_aload_n X 0 dX7_isConsistent_0 rfl rfl ?_
  refine z_callVi (As := []) (rest := []) (n1 := 0) (ci := 10) X dX7_isConsistent_1 (c_X7_isMeterConsistent l hl0 n i x lm y ol od hW tk htk hti h1 h2 h3) gX7_isConsistent_X7_isMeterConsistent rfl rfl (by decide +kernel) ⟨by decide, by decide⟩ ck_1 rfl rfl (Nat.le_of_ble_eq_true rfl) ⟨by decide, by decide⟩ (fun _ h => h.elim) ?_
  rintro _ _ ⟨rfl, rfl⟩
  refine z_if_eq X 32 dX7_isConsistent_4 (by decide) (fun c_4 => ?_) (fun c_4 => ?_)
  · exact absurd c_4 (by decide)
  · skip
    refine z_aload_n X 0 dX7_isConsistent_7 rfl rfl ?_
    refine z_callVi (As := []) (rest := []) (n1 := 0) (ci := 10) X dX7_isConsistent_8 (c_X7_areRoomsConsistent l  n i x lm y ol od hW tk htk hti hr) gX7_isConsistent_X7_areRoomsConsistent rfl rfl (by decide +kernel) ⟨by decide, by decide⟩ ck_1 rfl rfl (Nat.le_of_ble_eq_true rfl) ⟨by decide, by decide⟩ (fun _ h => h.elim) ?_
    rintro _ _ ⟨rfl, rfl⟩
    refine z_if_eq X 32 dX7_isConsistent_11 (by decide) (fun c_11 => ?_) (fun c_11 => ?_)
    · exact absurd c_11 (by decide)
    · skip
      refine z_aload_n X 0 dX7_isConsistent_14 rfl rfl ?_
      refine z_callVi (As := []) (rest := []) (n1 := 0) (ci := 10) X dX7_isConsistent_15 (c_X7_arePalletsConsistent l  n i x lm y ol od hW tk htk hti hx4 hx3 hq) gX7_isConsistent_X7_arePalletsConsistent rfl rfl (by decide +kernel) ⟨by decide, by decide⟩ ck_1 rfl rfl (Nat.le_of_ble_eq_true rfl) ⟨by decide, by decide⟩ (fun _ h => h.elim) ?_
      rintro _ _ ⟨rfl, rfl⟩
      refine z_if_eq X 32 dX7_isConsistent_18 (by decide) (fun c_18 => ?_) (fun c_18 => ?_)
      · exact absurd c_18 (by decide)
      · skip
        refine z_aload_n X 0 dX7_isConsistent_21 rfl rfl ?_
        refine z_callVi (As := []) (rest := []) (n1 := 0) (ci := 10) X dX7_isConsistent_22 (c_X7_areOrdersConsistent l  n i x lm y ol od hW tk htk hti hd) gX7_isConsistent_X7_areOrdersConsistent rfl rfl (by decide +kernel) ⟨by decide, by decide⟩ ck_1 rfl rfl (Nat.le_of_ble_eq_true rfl) ⟨by decide, by decide⟩ (fun _ h => h.elim) ?_
        rintro _ _ ⟨rfl, rfl⟩
        refine z_if_eq X 32 dX7_isConsistent_25 (by decide) (fun c_25 => ?_) (fun c_25 => ?_)
        · exact absurd c_25 (by decide)
        · skip
          refine z_iconst (v := 1) X dX7_isConsistent_28 (by decide) ?_
          refine z_goto (tgt := 33) X dX7_isConsistent_29 (by decide) ?_
          refine z_iret X rfl (rfl) (Nat.le_of_ble_eq_true rfl) (Nat.le_of_ble_eq_true rfl) dX7_isConsistent_33 ?_
          exact ⟨_, rfl, rfl, rfl⟩
