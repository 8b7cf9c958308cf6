/-! PART 53: pass of the class -/
abbrev cTS : Type := (Nat → Nat → Int32) × (Nat → Nat → Int32) × (Nat → Nat → Int64) × Int32
def c_tkS (n : Nat → Nat) (y : Nat → Nat → Nat) (s : cTS) : Nat → cTS
  | 0 => s
  | k + 1 => ((c_tick n (c_tkS n y s k).1 (c_tkS n y s k).2.1 y).1, (c_tick n (c_tkS n y s k).1 (c_tkS n y s k).2.1 y).2.1, c_k3L n (c_tkS n y s k).1 (c_tkS n y s k).2.1 (c_tkS n y s k).2.2.1 (mq (c_tkS n y s k).1) (cl ((c_tkS n y s k).1 1 0)), (c_tkS n y s k).2.2.2 + (c_tick n (c_tkS n y s k).1 (c_tkS n y s k).2.1 y).2.2)
theorem c_k5_a {n : Nat → Nat} {i x : Nat → Nat → Int32} {y : Nat → Nat → Nat} {q : Int32} {tk a b : Nat} (h1 : a ≠ 111 ∧ a ≠ 112 ∧ a ≠ 110 ∧ a ≠ 116 ∧ a ≠ 133 ∧ a ≠ 134 ∧ a ≠ 141 ∧ a ≠ 140) (h2 : a = 1 → b ≠ 24 ∧ b ≠ 25 ∧ b ≠ 0) : c_k5 n i x y q tk a b = i a b := by
  unfold c_k5
  rw [zup_n (fun e => (h2 e.1).2.2 e.2)]
  exact (c_ag_o (by omega) _).trans (c_k3_o (by omega) (by omega) (by omega) (by omega) (fun e => ⟨(h2 e).1, (h2 e).2.1⟩))
theorem c_k5_0 {n : Nat → Nat} {i x : Nat → Nat → Int32} {y : Nat → Nat → Nat} {q : Int32} {tk : Nat} : c_k5 n i x y q tk 1 0 = i 1 0 + 1 := by
  unfold c_k5
  rw [zup_s]
  unfold c_k4
  rw [c_ag_o (by decide), c_k3_o (by decide) (by decide) (by decide) (by decide) (fun _ => by decide)]
theorem c_k1_b {n : Nat → Nat} {i x : Nat → Nat → Int32} {q : Int32} (h : ∀ j, i 111 j = 0 ∨ i 111 j = 1) (j : Nat) : (c_k1 n i x q).1 111 j = 0 ∨ (c_k1 n i x q).1 111 j = 1 := by
  have e : (c_k1 n i x q).1 111 j = c_wsh i x q (n 5) 111 j := (c_gv_a (by decide) _).trans (c_gp0_o (by decide) _)
  rw [e]
  exact c_wsh_b h _ j
theorem c_k5_b {n : Nat → Nat} {i x : Nat → Nat → Int32} {y : Nat → Nat → Nat} {q : Int32} {tk : Nat} (h : ∀ j, i 111 j = 0 ∨ i 111 j = 1) (j : Nat) : c_k5 n i x y q tk 111 j = 0 ∨ c_k5 n i x y q tk 111 j = 1 := by
  unfold c_k5 c_k4
  rw [zup_n (by omega), c_ag_o (by decide)]
  unfold c_k3I c_recI
  rw [zup_n (by omega), zup_n (by omega)]
  unfold c_k2
  rw [c_wm_o (by decide) (by decide)]
  exact c_k1_b h j
theorem c_tick_o {n : Nat → Nat} {i x : Nat → Nat → Int32} {y : Nat → Nat → Nat} {a b : Nat} (h1 : a ≠ 111 ∧ a ≠ 112 ∧ a ≠ 110 ∧ a ≠ 116 ∧ a ≠ 133 ∧ a ≠ 134 ∧ a ≠ 141 ∧ a ≠ 140) (h2 : a = 1 → b ≠ 24 ∧ b ≠ 25 ∧ b ≠ 0) : (c_tick n i x y).1 a b = i a b :=
  (c_due_o (by omega) (by omega) (by omega) _).trans (c_k5_a h1 h2)
theorem c_tick_0 {n : Nat → Nat} {i x : Nat → Nat → Int32} {y : Nat → Nat → Nat} : (c_tick n i x y).1 1 0 = i 1 0 + 1 :=
  (c_due_o (by decide) (by decide) (by decide) _).trans c_k5_0
theorem c_tick_b {n : Nat → Nat} {i x : Nat → Nat → Int32} {y : Nat → Nat → Nat} (h : ∀ j, i 111 j = 0 ∨ i 111 j = 1) (j : Nat) : (c_tick n i x y).1 111 j = 0 ∨ (c_tick n i x y).1 111 j = 1 := by
  have e : (c_tick n i x y).1 111 j = c_k5 n i x y (mq i) (cl (i 1 0)) 111 j := c_due_o (by decide) (by decide) (by decide) _
  rw [e]
  exact c_k5_b h j
theorem c_tkS_o {n : Nat → Nat} {s : cTS} {y : Nat → Nat → Nat} {a b : Nat} (h1 : a ≠ 111 ∧ a ≠ 112 ∧ a ≠ 110 ∧ a ≠ 116 ∧ a ≠ 133 ∧ a ≠ 134 ∧ a ≠ 141 ∧ a ≠ 140) (h2 : a = 1 → b ≠ 24 ∧ b ≠ 25 ∧ b ≠ 0) : ∀ k, (c_tkS n y s k).1 a b = s.1 a b
  | 0 => rfl
  | k + 1 => (c_tick_o h1 h2).trans (c_tkS_o h1 h2 k)
theorem c_tkS_0 {n : Nat → Nat} {s : cTS} {y : Nat → Nat → Nat} {t0 : Nat} (h : s.1 1 0 = nI t0) : ∀ k, (c_tkS n y s k).1 1 0 = nI (t0 + k)
  | 0 => h
  | k + 1 => by
    show (c_tick _ _ _ _).1 1 0 = _
    rw [c_tick_0, c_tkS_0 h k, nI_1]
    rfl
theorem c_tkS_b {n : Nat → Nat} {s : cTS} {y : Nat → Nat → Nat} (h : ∀ j, s.1 111 j = 0 ∨ s.1 111 j = 1) : ∀ k j, (c_tkS n y s k).1 111 j = 0 ∨ (c_tkS n y s k).1 111 j = 1
  | 0, j => h j
  | k + 1, j => c_tick_b (c_tkS_b h k) j
theorem p_le {t0 tn : Nat} (h0 : t0 ≤ 960) (h1 : tn ≤ 96) (h : nI tn ≤ 960 - nI t0) : t0 + tn ≤ 960 := by
  have e : (960 : Int32) - nI t0 = nI (960 - t0) := by
    have h960 : (960 : Int32) = nI (960 - t0) + nI t0 := by rw [nI_add, Nat.sub_add_cancel h0]; rfl
    rw [h960, Int32.add_sub_cancel]
  rw [e] at h
  rcases Nat.lt_or_ge (960 - t0) tn with q | q
  · exact absurd h (nI_ge q (by omega))
  · omega
set_option maxRecDepth 100000 in
set_option maxHeartbeats 4000000 in
theorem c_X7_pass (l : Launch) (hl0 : l.stackTraces = false) (n : Nat → Nat) (i x : Nat → Nat → Int32) (lm : Nat → Nat → Int64) (y : Nat → Nat → Nat) (ol : Int64) (od : UInt64) (hW : cW n i y) (hct : ∀ o, o < n 8 → cl (i 137 o) ≤ 8 ∧ i 137 o = nI (cl (i 137 o))) (hwant : ∀ j, i 111 j = 0 ∨ i 111 j = 1) (t0 : Nat) (ht0 : t0 ≤ 960) (hti : i 1 0 = nI t0) (t : Int32) : zS l yX7_pass wsX7_pass 13 250 8 1100 [.ref 1, .int t] (cmm n i x lm y ol od) (zpi (fun q M1 => (zin t 1 96 ∧ t ≤ 960 - i 1 0) ∧ q = (c_tkS n y (i, x, lm, 0) (cl t)).2.2.2 ∧ M1 = cmm n (c_tkS n y (i, x, lm, 0) (cl t)).1 (c_tkS n y (i, x, lm, 0) (cl t)).2.1 (c_tkS n y (i, x, lm, 0) (cl t)).2.2.1 y ol od)) (fun E => (E = "java/lang/IllegalArgumentException" ∧ ¬ zin t 1 96) ∨ (E = "java/lang/IllegalStateException" ∧ zin t 1 96 ∧ ¬ t ≤ 960 - i 1 0)) := by
  refine z_intro (cc := cX7_pass) (maxL := 4) (ret := (some .int)) (by decide +kernel) rfl (Nat.le_of_ble_eq_true rfl) ?_
  have hlk_39 : Cond.fieldLink RX7 39 "ColdStore" "time" "I" ∈ wsX7_pass := by decide +kernel
  intro g X
  show zE g 4 0 [(0, .ref 1), (1, .int t)] [] (cmm n i x lm y ol od) 0 0
  obtain ⟨⟨hn0, hn1, hn2, hn3⟩, ⟨hb5, hb6, hb7, hb8⟩, hp9, hs9, ho9⟩ := hW
  refine z_iload_n X 1 dX7_pass_0 rfl rfl ?_
  refine z_iconst (v := 1) X dX7_pass_1 (by decide) ?_
  refine z_bipush (v := 96) X dX7_pass_2 (by decide) ?_
  refine z_callSv (As := [.int t, .int 1, .int 96]) (rest := []) (n1 := 3) X dX7_pass_4 (c_X7_requireRange l hl0 (cmm n i x lm y ol od) t 1 96) gX7_pass_X7_requireRange rfl rfl (by decide +kernel) ⟨by decide, by decide⟩ rfl (Nat.le_of_ble_eq_true rfl) ⟨by decide, by decide⟩ (fun E h => ⟨Or.inl ⟨h.1, h.2⟩, rfl⟩) ?_
  rintro _ ⟨rfl, hz0⟩
  refine z_iload_n X 1 dX7_pass_7 rfl rfl ?_
  refine z_sipush (v := 960) X dX7_pass_8 (by decide) ?_
  refine z_aload_n X 0 dX7_pass_11 rfl rfl ?_
  refine z_getI (ci := 10) (j := 6) (x := i 1 0) X dX7_pass_12 ck_1 rfl (by decide) hlk_39 (Or.inl rfl) (fun _ => rfl) (ci_1_6) ?_
  refine z_isub X dX7_pass_15 ?_
  refine z_icmp_le X 29 dX7_pass_16 (by decide) (fun c_16 => ?_) (fun c_16 => ?_)
  · skip
    refine z_iconst (v := 0) X dX7_pass_29 (by decide) ?_
    refine z_istore_n (ls' := [(2, .int 0), (0, .ref 1), (1, .int t)]) X dX7_pass_30 rfl (by decide) rfl ?_
    obtain ⟨tn, htn, htn1, rfl⟩ : ∃ j : Nat, j ≤ 96 ∧ 1 ≤ j ∧ t = nI j := zin_pos hz0
    have hcl : cl (nI tn) = tn := nI_clamp (by omega)
    have hle : t0 + tn ≤ 960 := p_le (by omega) (by omega) (by rw [← hti]; exact c_16)
    refine z_iconst (v := 0) X dX7_pass_31 (by decide) ?_
    refine z_istore_n (ls' := [(3, .int 0), (2, .int 0), (0, .ref 1), (1, .int (nI tn))]) X dX7_pass_32 rfl (by decide) rfl ?_
    have hloop33 : ∀ k : Nat, k ≤ tn → zE g 4 33 [(0, .ref 1), (1, .int (nI tn)), (2, .int ((c_tkS n y (i, x, lm, 0) k).2.2.2)), (3, .int (nI k))] [] (cmm n ((c_tkS n y (i, x, lm, 0) k).1) ((c_tkS n y (i, x, lm, 0) k).2.1) ((c_tkS n y (i, x, lm, 0) k).2.2.1) y ol od) (0 + 1) (0 + 6) := by
      refine z_loop (fun k => zE g 4 33 [(0, .ref 1), (1, .int (nI tn)), (2, .int ((c_tkS n y (i, x, lm, 0) k).2.2.2)), (3, .int (nI k))] [] (cmm n ((c_tkS n y (i, x, lm, 0) k).1) ((c_tkS n y (i, x, lm, 0) k).2.1) ((c_tkS n y (i, x, lm, 0) k).2.2.1) y ol od) (0 + 1) (0 + 6)) tn ?_ ?_
      · show zE g 4 33 [(0, .ref 1), (1, .int (nI tn)), (2, .int ((c_tkS n y (i, x, lm, 0) tn).2.2.2)), (3, .int (nI tn))] [] (cmm n ((c_tkS n y (i, x, lm, 0) tn).1) ((c_tkS n y (i, x, lm, 0) tn).2.1) ((c_tkS n y (i, x, lm, 0) tn).2.2.1) y ol od) (0 + 1) (0 + 6)
        refine z_iload_n X 3 dX7_pass_33 rfl rfl ?_
        refine z_iload_n X 1 dX7_pass_34 rfl rfl ?_
        refine z_icmp_ge X 51 dX7_pass_35 (by decide) (fun c_35 => ?_) (fun c_35 => ?_)
        · skip
          refine z_iload_n X 2 dX7_pass_51 rfl rfl ?_
          refine z_iret X rfl rfl (Nat.le_of_ble_eq_true rfl) (Nat.le_of_ble_eq_true rfl) dX7_pass_52 ?_
          exact ⟨_, rfl, ⟨hz0, c_16⟩, by rw [hcl], by rw [hcl]⟩
        · exact absurd (Int32.le_refl _) c_35
      · intro k hk_33 ih33
        have ih33 : zE g 4 33 [(0, .ref 1), (1, .int (nI tn)), (2, .int ((c_tkS n y (i, x, lm, 0) (k + 1)).2.2.2)), (3, .int (nI (k + 1)))] [] (cmm n ((c_tkS n y (i, x, lm, 0) (k + 1)).1) ((c_tkS n y (i, x, lm, 0) (k + 1)).2.1) ((c_tkS n y (i, x, lm, 0) (k + 1)).2.2.1) y ol od) (0 + 1) (0 + 6) := ih33
        show zE g 4 33 [(0, .ref 1), (1, .int (nI tn)), (2, .int ((c_tkS n y (i, x, lm, 0) k).2.2.2)), (3, .int (nI k))] [] (cmm n ((c_tkS n y (i, x, lm, 0) k).1) ((c_tkS n y (i, x, lm, 0) k).2.1) ((c_tkS n y (i, x, lm, 0) k).2.2.1) y ol od) (0 + 1) (0 + 6)
        refine z_iload_n X 3 dX7_pass_33 rfl rfl ?_
        refine z_iload_n X 1 dX7_pass_34 rfl rfl ?_
        refine z_icmp_ge X 51 dX7_pass_35 (by decide) (fun c_35 => ?_) (fun c_35 => ?_)
        · exact absurd c_35 (nI_ge hk_33 (by omega))
        · skip
          refine z_iload_n X 2 dX7_pass_38 rfl rfl ?_
          refine z_aload_n X 0 dX7_pass_39 rfl rfl ?_
          have hct9 : ∀ o, o < n 8 → cl (((c_tkS n y (i, x, lm, 0) k).1) 137 o) ≤ 8 ∧ ((c_tkS n y (i, x, lm, 0) k).1) 137 o = nI (cl (((c_tkS n y (i, x, lm, 0) k).1) 137 o)) := fun o ho => by rw [c_tkS_o (by decide) (fun e => absurd e (by decide))]; exact hct o ho
          have hti9 : ((c_tkS n y (i, x, lm, 0) k).1) 1 0 = nI (t0 + k) := c_tkS_0 (s := (i, x, lm, 0)) hti k
          have hcl9 : cl (((c_tkS n y (i, x, lm, 0) k).1) 1 0) = t0 + k := by rw [hti9]; exact nI_clamp (by omega)
          refine z_callVi (As := []) (rest := [.int ((c_tkS n y (i, x, lm, 0) k).2.2.2)]) (n1 := 0) (ci := 10) X dX7_pass_40 (c_X7_passOneTick l n ((c_tkS n y (i, x, lm, 0) k).1) ((c_tkS n y (i, x, lm, 0) k).2.1) ((c_tkS n y (i, x, lm, 0) k).2.2.1) y ol od (cW.of ⟨⟨hn0, hn1, hn2, hn3⟩, ⟨hb5, hb6, hb7, hb8⟩, hp9, hs9, ho9⟩ (fun b => ⟨c_tkS_o (by decide) (fun e => absurd e (by decide)) _, c_tkS_o (by decide) (fun e => absurd e (by decide)) _, c_tkS_o (by decide) (fun e => absurd e (by decide)) _⟩)) hct9 (c_tkS_b hwant k) (t0 + k) (by omega) hti9) gX7_pass_X7_passOneTick rfl rfl (by decide +kernel) ⟨by decide, by decide⟩ ck_1 rfl rfl (Nat.le_of_ble_eq_true rfl) ⟨by decide, by decide⟩ (fun _ h => h.elim) ?_
          rintro _ _ ⟨rfl, rfl⟩
          refine z_iadd X dX7_pass_43 ?_
          refine z_istore_n (ls' := [(2, .int (((c_tkS n y (i, x, lm, 0) k).2.2.2) + ((c_tick n ((c_tkS n y (i, x, lm, 0) k).1) ((c_tkS n y (i, x, lm, 0) k).2.1) y).2.2))), (0, .ref 1), (1, .int (nI tn)), (3, .int (nI k))]) X dX7_pass_44 rfl (by decide) rfl ?_
          refine z_iinc (ls' := [(3, .int (nI (k + 1))), (2, .int (((c_tkS n y (i, x, lm, 0) k).2.2.2) + ((c_tick n ((c_tkS n y (i, x, lm, 0) k).1) ((c_tkS n y (i, x, lm, 0) k).2.1) y).2.2))), (0, .ref 1), (1, .int (nI tn))]) (v := nI (k + 1)) X 3 dX7_pass_45 rfl (nI_1 _) (by decide) rfl ?_
          refine z_goto (tgt := 33) X dX7_pass_48 (by decide) ?_
          refine z_sub (ls' := [(0, .ref 1), (1, .int (nI tn)), (2, .int (((c_tkS n y (i, x, lm, 0) k).2.2.2) + ((c_tick n ((c_tkS n y (i, x, lm, 0) k).1) ((c_tkS n y (i, x, lm, 0) k).2.1) y).2.2))), (3, .int (nI (k + 1)))]) [2, 3, 1, 0] rfl ?_
          refine z_lse (ls' := [(0, .ref 1), (1, .int (nI tn)), (2, .int ((c_tkS n y (i, x, lm, 0) (k + 1)).2.2.2)), (3, .int (nI (k + 1)))]) (rfl) ?_
          refine z_mem (M' := cmm n ((c_tkS n y (i, x, lm, 0) (k + 1)).1) ((c_tkS n y (i, x, lm, 0) (k + 1)).2.1) ((c_tkS n y (i, x, lm, 0) (k + 1)).2.2.1) y ol od) (by show _ = cmm n (c_tick _ _ _ _).1 (c_tick _ _ _ _).2.1 (c_k3L _ _ _ _ _ _) y ol od; rw [hcl9]) ?_
          exact ih33
    refine z_sub (ls' := [(0, .ref 1), (1, .int (nI tn)), (2, .int 0), (3, .int 0)]) [2, 3, 1, 0] rfl ?_
    refine z_lse (ls' := [(0, .ref 1), (1, .int (nI tn)), (2, .int ((c_tkS n y (i, x, lm, 0) 0).2.2.2)), (3, .int (nI 0))]) (rfl) ?_
    refine z_mem (M' := cmm n ((c_tkS n y (i, x, lm, 0) 0).1) ((c_tkS n y (i, x, lm, 0) 0).2.1) ((c_tkS n y (i, x, lm, 0) 0).2.2.1) y ol od) (rfl) ?_
    exact hloop33 0 (Nat.zero_le _)
  · skip
    exact z_throwS X hl0 (cls := "java/lang/IllegalStateException") (text := "the time would be greater than 960") (ik := 50) (is := 52) (ic := 54) (by decide +kernel) (by decide +kernel) (by decide +kernel) rfl dX7_pass_19 dX7_pass_22 dX7_pass_23 dX7_pass_25 dX7_pass_28 (by decide) (by decide) ⟨by decide, by decide⟩ rfl (Or.inr ⟨rfl, hz0, c_16⟩)
