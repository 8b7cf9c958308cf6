/-! PART 91: pass of the class, over the model's ints -/
def c_px (n : Nat → Nat) (y : Nat → Nat → Nat) (i x : Nat → Nat → Int32) : Nat → Nat → Nat → Int32
  | 0 => x
  | k + 1 => (c_tick n (m_tkI (n 5) (n 7) (n 8) i k) (c_px n y i x k) y).2.1
theorem pass_CI {n : Nat → Nat} {i x : Nat → Nat → Int32} {lm : Nat → Nat → Int64} {y : Nat → Nat → Nat} {t : Nat} (h : CI n i x lm y t) : ∀ k, t + k ≤ 960 → CI n (m_tkI (n 5) (n 7) (n 8) i k) (c_px n y i x k) (m_tkL (n 5) (n 7) (n 8) i lm k) y (t + k)
  | 0, _ => h
  | k + 1, hk => (tick_CI (pass_CI h k (by omega)) (by omega)).1
theorem CI_hct {n : Nat → Nat} {i x : Nat → Nat → Int32} {lm : Nat → Nat → Int64} {y : Nat → Nat → Nat} {t : Nat} (h : CI n i x lm y t) : ∀ o, o < n 8 → cl (i 137 o) ≤ 8 ∧ i 137 o = nI (cl (i 137 o)) := fun o ho => by
  obtain ⟨c, c1, c2, c3⟩ := (h.2.2.2.2.2.2.2.2.2.1.1 o ho).1
  have e : cl (nI c) = c := nI_clamp (by omega)
  rw [c3, e]
  exact ⟨c2, rfl⟩
set_option maxRecDepth 100000 in
set_option maxHeartbeats 4000000 in
theorem c_X7_passM (l : Launch) (hl0 : l.stackTraces = false) (n : Nat → Nat) (i x : Nat → Nat → Int32) (lm : Nat → Nat → Int64) (y : Nat → Nat → Nat) (ol : Int64) (od : UInt64) (t0 : Nat) (h : CI n i x lm y t0) (u : Int32) : zS l yX7_pass wsX7_pass 13 250 8 1100 [.ref 1, .int u] (cmm n i x lm y ol od) (zpi (fun q M1 => (zin u 1 96 ∧ u ≤ 960 - i 1 0) ∧ q = m_tkS (n 5) (n 7) (n 8) i (cl u) ∧ M1 = cmm n (m_tkI (n 5) (n 7) (n 8) i (cl u)) (c_px n y i x (cl u)) (m_tkL (n 5) (n 7) (n 8) i lm (cl u)) y ol od)) (fun E => (E = "java/lang/IllegalArgumentException" ∧ ¬ zin u 1 96) ∨ (E = "java/lang/IllegalStateException" ∧ zin u 1 96 ∧ ¬ u ≤ 960 - i 1 0)) := by
  refine z_intro (cc := cX7_pass) (maxL := 4) (ret := (some .int)) (by decide +kernel) rfl (Nat.le_of_ble_eq_true rfl) ?_
  have hlk_39 : Cond.fieldLink RX7 39 "ColdStore" "time" "I" ∈ wsX7_pass := by decide +kernel
  intro g X
  show zE g 4 0 [(0, .ref 1), (1, .int u)] [] (cmm n i x lm y ol od) 0 0
  refine z_iload_n X 1 dX7_pass_0 rfl rfl ?_
  refine z_iconst (v := 1) X dX7_pass_1 (by decide) ?_
  refine z_bipush (v := 96) X dX7_pass_2 (by decide) ?_
  refine z_callSv (As := [.int u, .int 1, .int 96]) (rest := []) (n1 := 3) X dX7_pass_4 (c_X7_requireRange l hl0 (cmm n i x lm y ol od) u 1 96) gX7_pass_X7_requireRange rfl rfl (by decide +kernel) ⟨by decide, by decide⟩ rfl (Nat.le_of_ble_eq_true rfl) ⟨by decide, by decide⟩ (fun E h => ⟨Or.inl ⟨h.1, h.2⟩, rfl⟩) ?_
  rintro _ ⟨rfl, hz0⟩
  refine z_iload_n X 1 dX7_pass_7 rfl rfl ?_
  refine z_sipush (v := 960) X dX7_pass_8 (by decide) ?_
  refine z_aload_n X 0 dX7_pass_11 rfl rfl ?_
  refine z_getI (ci := 10) (j := 6) (x := i 1 0) X dX7_pass_12 ck_1 rfl (by decide) hlk_39 (Or.inl rfl) (fun _ => rfl) (ci_1_6) ?_
  refine z_isub X dX7_pass_15 ?_
  refine z_icmp_le X 29 dX7_pass_16 (by decide) (fun c_16 => ?_) (fun c_16 => ?_)
  · skip
    refine z_iconst (v := 0) X dX7_pass_29 (by decide) ?_
    refine z_istore_n (ls' := [(2, .int 0), (0, .ref 1), (1, .int u)]) X dX7_pass_30 rfl (by decide) rfl ?_
    obtain ⟨tn, htn, htn1, rfl⟩ : ∃ j : Nat, j ≤ 96 ∧ 1 ≤ j ∧ u = nI j := zin_pos hz0
    have hcl : cl (nI tn) = tn := nI_clamp (by omega)
    have ht960 := h.2.1.2.1
    have hle : t0 + tn ≤ 960 := p_le (by omega) (by omega) (by rw [← h.2.1.1]; exact c_16)
    refine z_iconst (v := 0) X dX7_pass_31 (by decide) ?_
    refine z_istore_n (ls' := [(3, .int 0), (2, .int 0), (0, .ref 1), (1, .int (nI tn))]) X dX7_pass_32 rfl (by decide) rfl ?_
    have hloop33 : ∀ k : Nat, k ≤ tn → zE g 4 33 [(0, .ref 1), (1, .int (nI tn)), (2, .int (m_tkS (n 5) (n 7) (n 8) i k)), (3, .int (nI k))] [] (cmm n (m_tkI (n 5) (n 7) (n 8) i k) (c_px n y i x k) (m_tkL (n 5) (n 7) (n 8) i lm k) y ol od) (0 + 1) (0 + 6) := by
      refine z_loop (fun k => zE g 4 33 [(0, .ref 1), (1, .int (nI tn)), (2, .int (m_tkS (n 5) (n 7) (n 8) i k)), (3, .int (nI k))] [] (cmm n (m_tkI (n 5) (n 7) (n 8) i k) (c_px n y i x k) (m_tkL (n 5) (n 7) (n 8) i lm k) y ol od) (0 + 1) (0 + 6)) tn ?_ ?_
      · show zE g 4 33 [(0, .ref 1), (1, .int (nI tn)), (2, .int (m_tkS (n 5) (n 7) (n 8) i tn)), (3, .int (nI tn))] [] (cmm n (m_tkI (n 5) (n 7) (n 8) i tn) (c_px n y i x tn) (m_tkL (n 5) (n 7) (n 8) i lm tn) y ol od) (0 + 1) (0 + 6)
        refine z_iload_n X 3 dX7_pass_33 rfl rfl ?_
        refine z_iload_n X 1 dX7_pass_34 rfl rfl ?_
        refine z_icmp_ge X 51 dX7_pass_35 (by decide) (fun c_35 => ?_) (fun c_35 => ?_)
        · skip
          refine z_iload_n X 2 dX7_pass_51 rfl rfl ?_
          refine z_iret X rfl rfl (Nat.le_of_ble_eq_true rfl) (Nat.le_of_ble_eq_true rfl) dX7_pass_52 ?_
          exact ⟨_, rfl, ⟨hz0, c_16⟩, by rw [hcl], by rw [hcl]⟩
        · exact absurd (Int32.le_refl _) c_35
      · intro k hk_33 ih33
        have ih33 : zE g 4 33 [(0, .ref 1), (1, .int (nI tn)), (2, .int (m_tkS (n 5) (n 7) (n 8) i (k + 1))), (3, .int (nI (k + 1)))] [] (cmm n (m_tkI (n 5) (n 7) (n 8) i (k + 1)) (c_px n y i x (k + 1)) (m_tkL (n 5) (n 7) (n 8) i lm (k + 1)) y ol od) (0 + 1) (0 + 6) := ih33
        show zE g 4 33 [(0, .ref 1), (1, .int (nI tn)), (2, .int (m_tkS (n 5) (n 7) (n 8) i k)), (3, .int (nI k))] [] (cmm n (m_tkI (n 5) (n 7) (n 8) i k) (c_px n y i x k) (m_tkL (n 5) (n 7) (n 8) i lm k) y ol od) (0 + 1) (0 + 6)
        refine z_iload_n X 3 dX7_pass_33 rfl rfl ?_
        refine z_iload_n X 1 dX7_pass_34 rfl rfl ?_
        refine z_icmp_ge X 51 dX7_pass_35 (by decide) (fun c_35 => ?_) (fun c_35 => ?_)
        · exact absurd c_35 (nI_ge hk_33 (by omega))
        · skip
          refine z_iload_n X 2 dX7_pass_38 rfl rfl ?_
          refine z_aload_n X 0 dX7_pass_39 rfl rfl ?_
          have hC9 := pass_CI h k (by omega)
          have hT9 := tick_CI hC9 (by omega)
          refine z_callVi (As := []) (rest := [.int (m_tkS (n 5) (n 7) (n 8) i k)]) (n1 := 0) (ci := 10) X dX7_pass_40 (c_X7_passOneTick l n (m_tkI (n 5) (n 7) (n 8) i k) (c_px n y i x k) (m_tkL (n 5) (n 7) (n 8) i lm k) y ol od hC9.1 (CI_hct hC9) hC9.2.2.1.1 (t0 + k) (by omega) hC9.2.1.1) gX7_pass_X7_passOneTick rfl rfl (by decide +kernel) ⟨by decide, by decide⟩ ck_1 rfl rfl (Nat.le_of_ble_eq_true rfl) ⟨by decide, by decide⟩ (fun _ h => h.elim) ?_
          rintro _ _ ⟨rfl, rfl⟩
          refine z_iadd X dX7_pass_43 ?_
          refine z_istore_n (ls' := [(2, .int ((m_tkS (n 5) (n 7) (n 8) i k) + ((c_tick n (m_tkI (n 5) (n 7) (n 8) i k) (c_px n y i x k) y).2.2))), (0, .ref 1), (1, .int (nI tn)), (3, .int (nI k))]) X dX7_pass_44 rfl (by decide) rfl ?_
          refine z_iinc (ls' := [(3, .int (nI (k + 1))), (2, .int ((m_tkS (n 5) (n 7) (n 8) i k) + ((c_tick n (m_tkI (n 5) (n 7) (n 8) i k) (c_px n y i x k) y).2.2))), (0, .ref 1), (1, .int (nI tn))]) (v := nI (k + 1)) X 3 dX7_pass_45 rfl (nI_1 _) (by decide) rfl ?_
          refine z_goto (tgt := 33) X dX7_pass_48 (by decide) ?_
          refine z_sub (ls' := [(0, .ref 1), (1, .int (nI tn)), (2, .int ((m_tkS (n 5) (n 7) (n 8) i k) + ((c_tick n (m_tkI (n 5) (n 7) (n 8) i k) (c_px n y i x k) y).2.2))), (3, .int (nI (k + 1)))]) [2, 3, 1, 0] rfl ?_
          refine z_lse (ls' := [(0, .ref 1), (1, .int (nI tn)), (2, .int (m_tkS (n 5) (n 7) (n 8) i (k + 1))), (3, .int (nI (k + 1)))]) (by rw [hT9.2.2.1]; rfl) ?_
          refine z_mem (M' := cmm n (m_tkI (n 5) (n 7) (n 8) i (k + 1)) (c_px n y i x (k + 1)) (m_tkL (n 5) (n 7) (n 8) i lm (k + 1)) y ol od) (cmm_eV (eT_eV hT9.2.1) hT9.2.2.2) ?_
          exact ih33
    refine z_sub (ls' := [(0, .ref 1), (1, .int (nI tn)), (2, .int 0), (3, .int 0)]) [2, 3, 1, 0] rfl ?_
    refine z_lse (ls' := [(0, .ref 1), (1, .int (nI tn)), (2, .int (m_tkS (n 5) (n 7) (n 8) i 0)), (3, .int (nI 0))]) (rfl) ?_
    refine z_mem (M' := cmm n (m_tkI (n 5) (n 7) (n 8) i 0) (c_px n y i x 0) (m_tkL (n 5) (n 7) (n 8) i lm 0) y ol od) (rfl) ?_
    exact hloop33 0 (Nat.zero_le _)
  · skip
    exact z_throwS X hl0 (cls := "java/lang/IllegalStateException") (text := "the time would be greater than 960") (ik := 50) (is := 52) (ic := 54) (by decide +kernel) (by decide +kernel) (by decide +kernel) rfl dX7_pass_19 dX7_pass_22 dX7_pass_23 dX7_pass_25 dX7_pass_28 (by decide) (by decide) ⟨by decide, by decide⟩ rfl (Or.inr ⟨rfl, hz0, c_16⟩)
