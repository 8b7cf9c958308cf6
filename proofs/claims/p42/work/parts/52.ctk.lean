/-! PART 52: a tick of the class -/
def c_wsh (i x : Nat → Nat → Int32) (q : Int32) : Nat → Nat → Nat → Int32
  | 0 => i
  | k + 1 => zup (c_wsh i x q k) 111 k (c_want (c_wsh i x q k) x k q)
theorem c_wsh_o {i x : Nat → Nat → Int32} {q : Int32} {a b : Nat} (h : a ≠ 111) : ∀ k, c_wsh i x q k a b = i a b
  | 0 => rfl
  | k + 1 => (zup_n (by omega)).trans (c_wsh_o h k)
abbrev cIX : Type := (Nat → Nat → Int32) × (Nat → Nat → Int32)
/-- the rooms' temperatures -/
def c_wm (s : cIX) (tk : Nat) : Nat → cIX
  | 0 => s
  | k + 1 => (c_chI (c_wm s tk k).1 k (s.1 1 1), c_chX (c_wm s tk k).1 (c_wm s tk k).2 k (s.1 1 1) tk)
theorem c_wm_o {s : cIX} {tk a b : Nat} (h1 : a ≠ 110) (h2 : a ≠ 116) : ∀ k, (c_wm s tk k).1 a b = s.1 a b
  | 0 => rfl
  | k + 1 => by
    show c_chI _ _ _ a b = _
    unfold c_chI
    rw [zup_n (by omega), zup_n (by omega)]
    exact c_wm_o h1 h2 k
theorem c_wm_x {s : cIX} {tk a b : Nat} (h : a ≠ 5) (h6 : a ≠ 6) (h9 : a < 10) : ∀ k, (c_wm s tk k).2 a b = s.2 a b
  | 0 => rfl
  | k + 1 => by
    show c_chX _ _ _ _ _ a b = _
    unfold c_chX
    rw [zup_n (by omega), zup_n (by omega), zup_n (by omega)]
    exact c_wm_x h h6 h9 k
def c_ag (i : Nat → Nat → Int32) (y : Nat → Nat → Nat) : Nat → Nat → Nat → Int32
  | 0 => i
  | k + 1 => zup (c_ag i y k) 133 k (c_age1 (c_ag i y k) y k)
theorem c_ag_o {i : Nat → Nat → Int32} {y : Nat → Nat → Nat} {a b : Nat} (h : a ≠ 133) : ∀ k, c_ag i y k a b = i a b
  | 0 => rfl
  | k + 1 => (zup_n (by omega)).trans (c_ag_o h k)
/-- behind the rooms: ints, rows, the power used -/
def c_k1 (n : Nat → Nat) (i x : Nat → Nat → Int32) (q : Int32) : cGS := c_give (c_wsh i x q (n 5)) x (n 5)
def c_k2 (n : Nat → Nat) (i x : Nat → Nat → Int32) (q : Int32) (tk : Nat) : cIX := c_wm ((c_k1 n i x q).1, (c_k1 n i x q).2.1) tk (n 5)
def c_pr (i x : Nat → Nat → Int32) (q : Int32) : Int32 := if c_peak i x q then i 1 19 else i 1 18
def c_k3I (n : Nat → Nat) (i x : Nat → Nat → Int32) (q : Int32) (tk : Nat) : Nat → Nat → Int32 := c_recI (c_k2 n i x q tk).1 (c_k1 n i x q).2.2
def c_k3X (n : Nat → Nat) (i x : Nat → Nat → Int32) (q : Int32) (tk : Nat) : Nat → Nat → Int32 := c_recX (c_k2 n i x q tk).2 tk (c_k1 n i x q).2.2 (c_pr (c_k2 n i x q tk).1 (c_k2 n i x q tk).2 q)
def c_k3L (n : Nat → Nat) (i x : Nat → Nat → Int32) (lm : Nat → Nat → Int64) (q : Int32) (tk : Nat) : Nat → Nat → Int64 := zup lm 1 26 (lm 1 26 + (c_k1 n i x q).2.2.toInt64 * (c_pr (c_k2 n i x q tk).1 (c_k2 n i x q tk).2 q).toInt64)
def c_k4 (n : Nat → Nat) (i x : Nat → Nat → Int32) (y : Nat → Nat → Nat) (q : Int32) (tk : Nat) : Nat → Nat → Int32 := c_ag (c_k3I n i x q tk) y (n 7)
def c_k5 (n : Nat → Nat) (i x : Nat → Nat → Int32) (y : Nat → Nat → Nat) (q : Int32) (tk : Nat) : Nat → Nat → Int32 := zup (c_k4 n i x y q tk) 1 0 (c_k4 n i x y q tk 1 0 + 1)
def c_tick (n : Nat → Nat) (i x : Nat → Nat → Int32) (y : Nat → Nat → Nat) : cGS := c_due (n 7) (c_k5 n i x y (mq i) (cl (i 1 0)), c_k3X n i x (mq i) (cl (i 1 0)), 0) (n 8)
theorem c_k1_o {n : Nat → Nat} {i x : Nat → Nat → Int32} {q : Int32} {a b : Nat} (h1 : a ≠ 111) (h2 : a ≠ 112) : (c_k1 n i x q).1 a b = i a b :=
  (c_gv_a h2 _).trans ((c_gp0_o h2 _).trans (c_wsh_o h1 _))
theorem c_k2_o {n : Nat → Nat} {i x : Nat → Nat → Int32} {q : Int32} {tk a b : Nat} (h1 : a ≠ 111) (h2 : a ≠ 112) (h3 : a ≠ 110) (h4 : a ≠ 116) : (c_k2 n i x q tk).1 a b = i a b :=
  (c_wm_o h3 h4 _).trans (c_k1_o h1 h2)
theorem c_k3_o {n : Nat → Nat} {i x : Nat → Nat → Int32} {q : Int32} {tk a b : Nat} (h1 : a ≠ 111) (h2 : a ≠ 112) (h3 : a ≠ 110) (h4 : a ≠ 116) (h5 : a = 1 → b ≠ 24 ∧ b ≠ 25) : c_k3I n i x q tk a b = i a b := by
  unfold c_k3I c_recI
  rw [zup_n (fun e => (h5 e.1).2 e.2), zup_n (fun e => (h5 e.1).1 e.2)]
  exact c_k2_o h1 h2 h3 h4
theorem c_k5_o {n : Nat → Nat} {i x : Nat → Nat → Int32} {y : Nat → Nat → Nat} {q : Int32} {tk a b : Nat} (h1 : a ≠ 111) (h2 : a ≠ 112) (h3 : a ≠ 110) (h4 : a ≠ 116) (h5 : a ≠ 133) (h6 : a ≠ 1) : c_k5 n i x y q tk a b = i a b :=
  (zup_n (by omega)).trans ((c_ag_o h5 _).trans (c_k3_o h1 h2 h3 h4 (fun e => absurd e h6)))
theorem c_want_b {i x : Nat → Nat → Int32} {j : Nat} {q : Int32} (h : i 111 j = 0 ∨ i 111 j = 1) : c_want i x j q = 0 ∨ c_want i x j q = 1 := by
  unfold c_want
  repeat' split
  all_goals first | exact Or.inl rfl | exact Or.inr rfl | exact h
theorem c_wsh_b {i x : Nat → Nat → Int32} {q : Int32} (h : ∀ j, i 111 j = 0 ∨ i 111 j = 1) : ∀ k j, c_wsh i x q k 111 j = 0 ∨ c_wsh i x q k 111 j = 1
  | 0, j => h j
  | k + 1, j => by
    show zup (c_wsh i x q k) 111 k _ 111 j = 0 ∨ zup (c_wsh i x q k) 111 k _ 111 j = 1
    by_cases e : j = k
    · rw [e, zup_s]; exact c_want_b (c_wsh_b h k k)
    · rw [zup_n (by omega)]; exact c_wsh_b h k j
set_option maxRecDepth 100000 in
set_option maxHeartbeats 4000000 in
theorem c_X7_passOneTick (l : Launch) (n : Nat → Nat) (i x : Nat → Nat → Int32) (lm : Nat → Nat → Int64) (y : Nat → Nat → Nat) (ol : Int64) (od : UInt64) (hW : cW n i y) (hct : ∀ o, o < n 8 → cl (i 137 o) ≤ 8 ∧ i 137 o = nI (cl (i 137 o))) (hwant : ∀ j, i 111 j = 0 ∨ i 111 j = 1) (tk : Nat) (htk : tk < 960) (hti : i 1 0 = nI tk) : zS l yX7_passOneTick wsX7_passOneTick 12 227 0 0 [.ref 1] (cmm n i x lm y ol od) (zpi (fun q M1 => q = (c_tick n i x y).2.2 ∧ M1 = cmm n (c_tick n i x y).1 (c_tick n i x y).2.1 (c_k3L n i x lm (mq i) tk) y ol od)) zno := by
  refine z_intro (cc := cX7_passOneTick) (maxL := 4) (ret := (some .int)) (by decide +kernel) rfl (Nat.le_of_ble_eq_true rfl) ?_
  have hlk_39 : Cond.fieldLink RX7 39 "ColdStore" "time" "I" ∈ wsX7_passOneTick := by decide +kernel
  have hlk_10 : Cond.fieldLink RX7 10 "ColdStore" "rooms" "Ljava/util/ArrayList;" ∈ wsX7_passOneTick := by decide +kernel
  have hlk_35 : Cond.fieldLink RX7 35 "ColdStore" "meter" "LColdStore$Meter;" ∈ wsX7_passOneTick := by decide +kernel
  have hlk_28 : Cond.fieldLink RX7 28 "ColdStore" "contract" "LColdStore$Contract;" ∈ wsX7_passOneTick := by decide +kernel
  have hlk_19 : Cond.fieldLink RX7 19 "ColdStore" "pallets" "Ljava/util/ArrayList;" ∈ wsX7_passOneTick := by decide +kernel
  have hlk_43 : Cond.fieldLink RX7 43 "ColdStore" "outside" "I" ∈ wsX7_passOneTick := by decide +kernel
  intro g X
  show zE g 4 0 [(0, .ref 1)] [] (cmm n i x lm y ol od) 0 0
  obtain ⟨⟨hn0, hn1, hn2, hn3⟩, ⟨hb5, hb6, hb7, hb8⟩, hp9, hs9, ho9⟩ := hW
  have hcl : cl (i 1 0) = tk := by rw [hti]; exact nI_clamp (by omega)
  refine z_aload_n X 0 dX7_passOneTick_0 rfl rfl ?_
  refine z_getI (ci := 10) (j := 6) (x := nI tk) X dX7_passOneTick_1 ck_1 rfl (by decide) hlk_39 (Or.inl rfl) (fun _ => rfl) (by rw [ci_1_6]; exact hti) ?_
  refine z_bipush (v := 96) X dX7_passOneTick_4 (by decide) ?_
  refine z_irem X dX7_passOneTick_6 (by decide) ?_
  refine z_top (w := .int (mq i)) (by unfold mq; rw [hti]) ?_
  refine z_istore_n (ls' := [(1, .int (mq i)), (0, .ref 1)]) X dX7_passOneTick_7 rfl (by decide) rfl ?_
  refine z_iconst (v := 0) X dX7_passOneTick_8 (by decide) ?_
  refine z_istore_n (ls' := [(2, .int 0), (1, .int (mq i)), (0, .ref 1)]) X dX7_passOneTick_9 rfl (by decide) rfl ?_
  have hloop10 : ∀ k : Nat, k ≤ n 5 → zE g 4 10 [(0, .ref 1), (1, .int (mq i)), (2, .int (nI k))] [] (cmm n (c_wsh i x (mq i) k) x lm y ol od) 0 0 := by
    refine z_loop (fun k => zE g 4 10 [(0, .ref 1), (1, .int (mq i)), (2, .int (nI k))] [] (cmm n (c_wsh i x (mq i) k) x lm y ol od) 0 0) (n 5) ?_ ?_
    · show zE g 4 10 [(0, .ref 1), (1, .int (mq i)), (2, .int (nI (n 5)))] [] (cmm n (c_wsh i x (mq i) (n 5)) x lm y ol od) 0 0
      refine z_iload_n X 2 dX7_passOneTick_10 rfl rfl ?_
      refine z_aload_n X 0 dX7_passOneTick_11 rfl rfl ?_
      refine z_getR (ci := 10) (j := 0) (o' := 2) X dX7_passOneTick_12 ck_1 rfl (by decide) hlk_10 (Or.inl rfl) (fun _ => rfl) (cr_1_0) ?_
      refine z_callVi (As := []) (rest := [.int (nI (n 5))]) (n1 := 0) (ci := 2) X dX7_passOneTick_15 (c_size0 l _ _ _ _ _ _ _) gX7_passOneTick_Jx4a65c_size_8abf5 rfl rfl (by decide +kernel) ⟨by decide, by decide⟩ (ck_2 (j := 0) (by decide)) rfl rfl (Nat.le_of_ble_eq_true rfl) ⟨by decide, by decide⟩ (fun _ h => h.elim) ?_
      rintro _ _ ⟨rfl, rfl⟩
      refine z_icmp_ge X 46 dX7_passOneTick_18 (by decide) (fun c_18 => ?_) (fun c_18 => ?_)
      · skip
        refine z_aload_n X 0 dX7_passOneTick_46 rfl rfl ?_
        refine z_callVi (As := []) (rest := []) (n1 := 0) (ci := 10) X dX7_passOneTick_47 (c_X7_givePower l n (c_wsh i x (mq i) (n 5)) x lm y ol od (cW.of ⟨⟨hn0, hn1, hn2, hn3⟩, ⟨hb5, hb6, hb7, hb8⟩, hp9, hs9, ho9⟩ (fun b => ⟨c_wsh_o (by decide) _, c_wsh_o (by decide) _, c_wsh_o (by decide) _⟩)) (c_wsh_b hwant _)) gX7_passOneTick_X7_givePower rfl rfl (by decide +kernel) ⟨by decide, by decide⟩ ck_1 rfl rfl (Nat.le_of_ble_eq_true rfl) ⟨by decide, by decide⟩ (fun _ h => h.elim) ?_
        rintro _ _ ⟨rfl, rfl⟩
        refine z_istore_n (ls' := [(2, .int ((c_k1 n i x (mq i)).2.2)), (0, .ref 1), (1, .int (mq i))]) X dX7_passOneTick_50 rfl (by decide) rfl ?_
        refine z_iconst (v := 0) X dX7_passOneTick_51 (by decide) ?_
        refine z_istore_n (ls' := [(3, .int 0), (2, .int ((c_k1 n i x (mq i)).2.2)), (0, .ref 1), (1, .int (mq i))]) X dX7_passOneTick_52 rfl (by decide) rfl ?_
        have hloop53 : ∀ k : Nat, k ≤ n 5 → zE g 4 53 [(0, .ref 1), (1, .int (mq i)), (2, .int ((c_k1 n i x (mq i)).2.2)), (3, .int (nI k))] [] (cmm n ((c_wm ((c_k1 n i x (mq i)).1, (c_k1 n i x (mq i)).2.1) tk k).1) ((c_wm ((c_k1 n i x (mq i)).1, (c_k1 n i x (mq i)).2.1) tk k).2) lm y ol od) ((0 + 0) + 0) ((0 + 0) + 0) := by
          refine z_loop (fun k => zE g 4 53 [(0, .ref 1), (1, .int (mq i)), (2, .int ((c_k1 n i x (mq i)).2.2)), (3, .int (nI k))] [] (cmm n ((c_wm ((c_k1 n i x (mq i)).1, (c_k1 n i x (mq i)).2.1) tk k).1) ((c_wm ((c_k1 n i x (mq i)).1, (c_k1 n i x (mq i)).2.1) tk k).2) lm y ol od) ((0 + 0) + 0) ((0 + 0) + 0)) (n 5) ?_ ?_
          · show zE g 4 53 [(0, .ref 1), (1, .int (mq i)), (2, .int ((c_k1 n i x (mq i)).2.2)), (3, .int (nI (n 5)))] [] (cmm n ((c_wm ((c_k1 n i x (mq i)).1, (c_k1 n i x (mq i)).2.1) tk (n 5)).1) ((c_wm ((c_k1 n i x (mq i)).1, (c_k1 n i x (mq i)).2.1) tk (n 5)).2) lm y ol od) ((0 + 0) + 0) ((0 + 0) + 0)
            refine z_iload_n X 3 dX7_passOneTick_53 rfl rfl ?_
            refine z_aload_n X 0 dX7_passOneTick_54 rfl rfl ?_
            refine z_getR (ci := 10) (j := 0) (o' := 2) X dX7_passOneTick_55 ck_1 rfl (by decide) hlk_10 (Or.inl rfl) (fun _ => rfl) (cr_1_0) ?_
            refine z_callVi (As := []) (rest := [.int (nI (n 5))]) (n1 := 0) (ci := 2) X dX7_passOneTick_58 (c_size0 l _ _ _ _ _ _ _) gX7_passOneTick_Jx4a65c_size_8abf5 rfl rfl (by decide +kernel) ⟨by decide, by decide⟩ (ck_2 (j := 0) (by decide)) rfl rfl (Nat.le_of_ble_eq_true rfl) ⟨by decide, by decide⟩ (fun _ h => h.elim) ?_
            rintro _ _ ⟨rfl, rfl⟩
            refine z_icmp_ge X 92 dX7_passOneTick_61 (by decide) (fun c_61 => ?_) (fun c_61 => ?_)
            · skip
              refine z_mem (M' := cmm n (c_k2 n i x (mq i) tk).1 (c_k2 n i x (mq i) tk).2 lm y ol od) rfl ?_
              refine z_aload_n X 0 dX7_passOneTick_92 rfl rfl ?_
              refine z_getR (ci := 10) (j := 5) (o' := 5) X dX7_passOneTick_93 ck_1 rfl (by decide) hlk_35 (Or.inl rfl) (fun _ => rfl) (cr_1_5) ?_
              refine z_aload_n X 0 dX7_passOneTick_96 rfl rfl ?_
              refine z_getI (ci := 10) (j := 6) (x := nI tk) X dX7_passOneTick_97 ck_1 rfl (by decide) hlk_39 (Or.inl rfl) (fun _ => rfl) (by rw [ci_1_6]; exact (c_k2_o (by decide) (by decide) (by decide) (by decide)).trans hti) ?_
              refine z_iload_n X 2 dX7_passOneTick_100 rfl rfl ?_
              refine z_aload_n X 0 dX7_passOneTick_101 rfl rfl ?_
              refine z_getR (ci := 10) (j := 4) (o' := 4) X dX7_passOneTick_102 ck_1 rfl (by decide) hlk_28 (Or.inl rfl) (fun _ => rfl) (cr_1_4) ?_
              refine z_iload_n X 1 dX7_passOneTick_105 rfl rfl ?_
              refine z_callVi (As := [.int (mq i)]) (rest := [.int ((c_k1 n i x (mq i)).2.2), .int (nI tk), .ref 5]) (n1 := 1) (ci := 3) X dX7_passOneTick_106 (c_X0_priceIn l n ((c_k2 n i x (mq i) tk).1) ((c_k2 n i x (mq i) tk).2) lm y ol od (mq i)) gX7_passOneTick_X0_priceIn rfl rfl (by decide +kernel) ⟨by decide, by decide⟩ ck_4 rfl rfl (Nat.le_of_ble_eq_true rfl) ⟨by decide, by decide⟩ (fun _ h => h.elim) ?_
              rintro _ _ ⟨rfl, rfl⟩
              refine z_callVv (As := [.int (nI tk), .int ((c_k1 n i x (mq i)).2.2), .int (c_pr ((c_k2 n i x (mq i) tk).1) ((c_k2 n i x (mq i) tk).2) (mq i))]) (rest := []) (n1 := 3) (ci := 5) X dX7_passOneTick_109 (c_X2_record l n ((c_k2 n i x (mq i) tk).1) ((c_k2 n i x (mq i) tk).2) lm y ol od tk htk ((c_k1 n i x (mq i)).2.2) (c_pr ((c_k2 n i x (mq i) tk).1) ((c_k2 n i x (mq i) tk).2) (mq i))) gX7_passOneTick_X2_record rfl rfl (by decide +kernel) ⟨by decide, by decide⟩ ck_5 rfl rfl (Nat.le_of_ble_eq_true rfl) ⟨by decide, by decide⟩ (fun _ h => h.elim) ?_
              rintro _ ⟨rfl, rfl⟩
              refine z_iconst (v := 0) X dX7_passOneTick_112 (by decide) ?_
              refine z_istore_n (ls' := [(3, .int 0), (0, .ref 1), (1, .int (mq i)), (2, .int ((c_k1 n i x (mq i)).2.2))]) X dX7_passOneTick_113 rfl (by decide) rfl ?_
              have hloop114 : ∀ k : Nat, k ≤ n 7 → zE g 4 114 [(0, .ref 1), (1, .int (mq i)), (2, .int ((c_k1 n i x (mq i)).2.2)), (3, .int (nI k))] [] (cmm n (c_ag (c_k3I n i x (mq i) tk) y k) (c_k3X n i x (mq i) tk) (c_k3L n i x lm (mq i) tk) y ol od) (((((0 + 0) + 0) + 0) + 0) + 0) (((((0 + 0) + 0) + 0) + 0) + 0) := by
                refine z_loop (fun k => zE g 4 114 [(0, .ref 1), (1, .int (mq i)), (2, .int ((c_k1 n i x (mq i)).2.2)), (3, .int (nI k))] [] (cmm n (c_ag (c_k3I n i x (mq i) tk) y k) (c_k3X n i x (mq i) tk) (c_k3L n i x lm (mq i) tk) y ol od) (((((0 + 0) + 0) + 0) + 0) + 0) (((((0 + 0) + 0) + 0) + 0) + 0)) (n 7) ?_ ?_
                · show zE g 4 114 [(0, .ref 1), (1, .int (mq i)), (2, .int ((c_k1 n i x (mq i)).2.2)), (3, .int (nI (n 7)))] [] (cmm n (c_ag (c_k3I n i x (mq i) tk) y (n 7)) (c_k3X n i x (mq i) tk) (c_k3L n i x lm (mq i) tk) y ol od) (((((0 + 0) + 0) + 0) + 0) + 0) (((((0 + 0) + 0) + 0) + 0) + 0)
                  refine z_iload_n X 3 dX7_passOneTick_114 rfl rfl ?_
                  refine z_aload_n X 0 dX7_passOneTick_115 rfl rfl ?_
                  refine z_getR (ci := 10) (j := 2) (o' := 66) X dX7_passOneTick_116 ck_1 rfl (by decide) hlk_19 (Or.inl rfl) (fun _ => rfl) (cr_1_2) ?_
                  refine z_callVi (As := []) (rest := [.int (nI (n 7))]) (n1 := 0) (ci := 2) X dX7_passOneTick_119 (c_size2 l _ _ _ _ _ _ _) gX7_passOneTick_Jx4a65c_size_8abf5 rfl rfl (by decide +kernel) ⟨by decide, by decide⟩ (ck_2 (j := 2) (by decide)) rfl rfl (Nat.le_of_ble_eq_true rfl) ⟨by decide, by decide⟩ (fun _ h => h.elim) ?_
                  rintro _ _ ⟨rfl, rfl⟩
                  refine z_icmp_ge X 145 dX7_passOneTick_122 (by decide) (fun c_122 => ?_) (fun c_122 => ?_)
                  · skip
                    refine z_aload_n X 0 dX7_passOneTick_145 rfl rfl ?_
                    refine z_dup X dX7_passOneTick_146 rfl ?_
                    refine z_getI (ci := 10) (j := 6) (x := (c_ag (c_k3I n i x (mq i) tk) y (n 7)) 1 0) X dX7_passOneTick_147 ck_1 rfl (by decide) hlk_39 (Or.inl rfl) (fun _ => rfl) (ci_1_6) ?_
                    refine z_iconst (v := 1) X dX7_passOneTick_150 (by decide) ?_
                    refine z_iadd X dX7_passOneTick_151 ?_
                    refine z_putI (ci := 10) (j := 6) X dX7_passOneTick_152 ck_1 rfl (by decide) hlk_39 (Or.inl rfl) (Or.inl rfl) (fun _ => rfl) rfl rfl ?_
                    obtain ⟨i_1, hi_1⟩ : ∃ q, q = zup (c_ag (c_k3I n i x (mq i) tk) y (n 7)) 1 0 (((c_ag (c_k3I n i x (mq i) tk) y (n 7)) 1 0) + 1) := ⟨_, rfl⟩
                    refine z_mem (M' := cmm n i_1 (c_k3X n i x (mq i) tk) (c_k3L n i x lm (mq i) tk) y ol od) (by rw [hi_1]; exact cw_g 1 6 0) ?_
                    refine z_aload_n X 0 dX7_passOneTick_155 rfl rfl ?_
                    refine z_mem (M' := cmm n (c_k5 n i x y (mq i) tk) (c_k3X n i x (mq i) tk) (c_k3L n i x lm (mq i) tk) y ol od) (by rw [hi_1]; rfl) ?_
                    refine z_callVi (As := []) (rest := []) (n1 := 0) (ci := 10) X dX7_passOneTick_156 (c_X7_settleDueOrders l n (c_k5 n i x y (mq i) tk) (c_k3X n i x (mq i) tk) (c_k3L n i x lm (mq i) tk) y ol od (cW.of ⟨⟨hn0, hn1, hn2, hn3⟩, ⟨hb5, hb6, hb7, hb8⟩, hp9, hs9, ho9⟩ (fun b => ⟨c_k5_o (by decide) (by decide) (by decide) (by decide) (by decide) (by decide), c_k5_o (by decide) (by decide) (by decide) (by decide) (by decide) (by decide), c_k5_o (by decide) (by decide) (by decide) (by decide) (by decide) (by decide)⟩)) (fun o ho => by rw [c_k5_o (by decide) (by decide) (by decide) (by decide) (by decide) (by decide)]; exact hct o ho)) gX7_passOneTick_X7_settleDueOrders rfl rfl (by decide +kernel) ⟨by decide, by decide⟩ ck_1 rfl rfl (Nat.le_of_ble_eq_true rfl) ⟨by decide, by decide⟩ (fun _ h => h.elim) ?_
                    rintro _ _ ⟨e8, e9⟩
                    rw [e8, e9]
                    refine z_iret X rfl rfl (Nat.le_of_ble_eq_true rfl) (Nat.le_of_ble_eq_true rfl) dX7_passOneTick_159 ?_
                    exact ⟨_, rfl, by unfold c_tick; rw [hcl], by unfold c_tick; rw [hcl]⟩
                  · exact absurd (Int32.le_refl _) c_122
                · intro k hk_114 ih114
                  have ih114 : zE g 4 114 [(0, .ref 1), (1, .int (mq i)), (2, .int ((c_k1 n i x (mq i)).2.2)), (3, .int (nI (k + 1)))] [] (cmm n (c_ag (c_k3I n i x (mq i) tk) y (k + 1)) (c_k3X n i x (mq i) tk) (c_k3L n i x lm (mq i) tk) y ol od) (((((0 + 0) + 0) + 0) + 0) + 0) (((((0 + 0) + 0) + 0) + 0) + 0) := ih114
                  show zE g 4 114 [(0, .ref 1), (1, .int (mq i)), (2, .int ((c_k1 n i x (mq i)).2.2)), (3, .int (nI k))] [] (cmm n (c_ag (c_k3I n i x (mq i) tk) y k) (c_k3X n i x (mq i) tk) (c_k3L n i x lm (mq i) tk) y ol od) (((((0 + 0) + 0) + 0) + 0) + 0) (((((0 + 0) + 0) + 0) + 0) + 0)
                  refine z_iload_n X 3 dX7_passOneTick_114 rfl rfl ?_
                  refine z_aload_n X 0 dX7_passOneTick_115 rfl rfl ?_
                  refine z_getR (ci := 10) (j := 2) (o' := 66) X dX7_passOneTick_116 ck_1 rfl (by decide) hlk_19 (Or.inl rfl) (fun _ => rfl) (cr_1_2) ?_
                  refine z_callVi (As := []) (rest := [.int (nI k)]) (n1 := 0) (ci := 2) X dX7_passOneTick_119 (c_size2 l _ _ _ _ _ _ _) gX7_passOneTick_Jx4a65c_size_8abf5 rfl rfl (by decide +kernel) ⟨by decide, by decide⟩ (ck_2 (j := 2) (by decide)) rfl rfl (Nat.le_of_ble_eq_true rfl) ⟨by decide, by decide⟩ (fun _ h => h.elim) ?_
                  rintro _ _ ⟨rfl, rfl⟩
                  refine z_icmp_ge X 145 dX7_passOneTick_122 (by decide) (fun c_122 => ?_) (fun c_122 => ?_)
                  · exact absurd c_122 (nI_ge hk_114 (by omega))
                  · skip
                    refine z_aload_n X 0 dX7_passOneTick_125 rfl rfl ?_
                    refine z_getR (ci := 10) (j := 2) (o' := 66) X dX7_passOneTick_126 ck_1 rfl (by decide) hlk_19 (Or.inl rfl) (fun _ => rfl) (cr_1_2) ?_
                    refine z_iload_n X 3 dX7_passOneTick_129 rfl rfl ?_
                    refine z_callVr (As := [.int (nI k)]) (rest := []) (n1 := 1) (ci := 2) X dX7_passOneTick_130 (c_get2 l _ _ _ _ _ _ _ k (by omega) (by omega)) gX7_passOneTick_Jx4a65c_get_915e3 rfl rfl (by decide +kernel) ⟨by decide, by decide⟩ (ck_2 (j := 2) (by decide)) rfl rfl (Nat.le_of_ble_eq_true rfl) ⟨by decide, by decide⟩ (fun _ h => h.elim) ?_
                    rintro _ _ ⟨rfl, rfl⟩
                    refine z_ckc (ci := 7) X dX7_passOneTick_133 (by decide +kernel) (ck_11 (by omega)) rfl ?_
                    refine z_callVv (As := []) (rest := []) (n1 := 0) (ci := 7) X dX7_passOneTick_136 (c_X4_loseLife l n (c_ag (c_k3I n i x (mq i) tk) y k) (c_k3X n i x (mq i) tk) (c_k3L n i x lm (mq i) tk) y ol od (cW.of ⟨⟨hn0, hn1, hn2, hn3⟩, ⟨hb5, hb6, hb7, hb8⟩, hp9, hs9, ho9⟩ (fun b => ⟨(c_ag_o (by decide) _).trans (c_k3_o (by decide) (by decide) (by decide) (by decide) (fun e => absurd e (by decide))), (c_ag_o (by decide) _).trans (c_k3_o (by decide) (by decide) (by decide) (by decide) (fun e => absurd e (by decide))), (c_ag_o (by decide) _).trans (c_k3_o (by decide) (by decide) (by decide) (by decide) (fun e => absurd e (by decide)))⟩)) k (by omega)) gX7_passOneTick_X4_loseLife rfl rfl (by decide +kernel) ⟨by decide, by decide⟩ (ck_11 (by omega)) rfl rfl (Nat.le_of_ble_eq_true rfl) ⟨by decide, by decide⟩ (fun _ h => h.elim) ?_
                    rintro _ ⟨rfl, rfl⟩
                    refine z_iinc (ls' := [(3, .int (nI (k + 1))), (0, .ref 1), (1, .int (mq i)), (2, .int ((c_k1 n i x (mq i)).2.2))]) (v := nI (k + 1)) X 3 dX7_passOneTick_139 rfl (nI_1 _) (by decide) rfl ?_
                    refine z_goto (tgt := 114) X dX7_passOneTick_142 (by decide) ?_
                    refine z_sub (ls' := [(0, .ref 1), (1, .int (mq i)), (2, .int ((c_k1 n i x (mq i)).2.2)), (3, .int (nI (k + 1)))]) [1, 2, 3, 0] rfl ?_
                    refine z_lse (ls' := [(0, .ref 1), (1, .int (mq i)), (2, .int ((c_k1 n i x (mq i)).2.2)), (3, .int (nI (k + 1)))]) (rfl) ?_
                    refine z_mem (M' := cmm n (c_ag (c_k3I n i x (mq i) tk) y (k + 1)) (c_k3X n i x (mq i) tk) (c_k3L n i x lm (mq i) tk) y ol od) (by rfl) ?_
                    exact ih114
              refine z_sub (ls' := [(0, .ref 1), (1, .int (mq i)), (2, .int ((c_k1 n i x (mq i)).2.2)), (3, .int 0)]) [1, 2, 3, 0] rfl ?_
              refine z_lse (ls' := [(0, .ref 1), (1, .int (mq i)), (2, .int ((c_k1 n i x (mq i)).2.2)), (3, .int (nI 0))]) (rfl) ?_
              refine z_mem (M' := cmm n (c_ag (c_k3I n i x (mq i) tk) y 0) (c_k3X n i x (mq i) tk) (c_k3L n i x lm (mq i) tk) y ol od) (rfl) ?_
              exact hloop114 0 (Nat.zero_le _)
            · exact absurd (Int32.le_refl _) c_61
          · intro k hk_53 ih53
            have ih53 : zE g 4 53 [(0, .ref 1), (1, .int (mq i)), (2, .int ((c_k1 n i x (mq i)).2.2)), (3, .int (nI (k + 1)))] [] (cmm n ((c_wm ((c_k1 n i x (mq i)).1, (c_k1 n i x (mq i)).2.1) tk (k + 1)).1) ((c_wm ((c_k1 n i x (mq i)).1, (c_k1 n i x (mq i)).2.1) tk (k + 1)).2) lm y ol od) ((0 + 0) + 0) ((0 + 0) + 0) := ih53
            show zE g 4 53 [(0, .ref 1), (1, .int (mq i)), (2, .int ((c_k1 n i x (mq i)).2.2)), (3, .int (nI k))] [] (cmm n ((c_wm ((c_k1 n i x (mq i)).1, (c_k1 n i x (mq i)).2.1) tk k).1) ((c_wm ((c_k1 n i x (mq i)).1, (c_k1 n i x (mq i)).2.1) tk k).2) lm y ol od) ((0 + 0) + 0) ((0 + 0) + 0)
            refine z_iload_n X 3 dX7_passOneTick_53 rfl rfl ?_
            refine z_aload_n X 0 dX7_passOneTick_54 rfl rfl ?_
            refine z_getR (ci := 10) (j := 0) (o' := 2) X dX7_passOneTick_55 ck_1 rfl (by decide) hlk_10 (Or.inl rfl) (fun _ => rfl) (cr_1_0) ?_
            refine z_callVi (As := []) (rest := [.int (nI k)]) (n1 := 0) (ci := 2) X dX7_passOneTick_58 (c_size0 l _ _ _ _ _ _ _) gX7_passOneTick_Jx4a65c_size_8abf5 rfl rfl (by decide +kernel) ⟨by decide, by decide⟩ (ck_2 (j := 0) (by decide)) rfl rfl (Nat.le_of_ble_eq_true rfl) ⟨by decide, by decide⟩ (fun _ h => h.elim) ?_
            rintro _ _ ⟨rfl, rfl⟩
            refine z_icmp_ge X 92 dX7_passOneTick_61 (by decide) (fun c_61 => ?_) (fun c_61 => ?_)
            · exact absurd c_61 (nI_ge hk_53 (by omega))
            · skip
              refine z_aload_n X 0 dX7_passOneTick_64 rfl rfl ?_
              refine z_getR (ci := 10) (j := 0) (o' := 2) X dX7_passOneTick_65 ck_1 rfl (by decide) hlk_10 (Or.inl rfl) (fun _ => rfl) (cr_1_0) ?_
              refine z_iload_n X 3 dX7_passOneTick_68 rfl rfl ?_
              refine z_callVr (As := [.int (nI k)]) (rest := []) (n1 := 1) (ci := 2) X dX7_passOneTick_69 (c_get0 l _ _ _ _ _ _ _ k (by omega) (by omega)) gX7_passOneTick_Jx4a65c_get_915e3 rfl rfl (by decide +kernel) ⟨by decide, by decide⟩ (ck_2 (j := 0) (by decide)) rfl rfl (Nat.le_of_ble_eq_true rfl) ⟨by decide, by decide⟩ (fun _ h => h.elim) ?_
              rintro _ _ ⟨rfl, rfl⟩
              refine z_ckc (ci := 8) X dX7_passOneTick_72 (by decide +kernel) (ck_8 (by omega)) rfl ?_
              refine z_aload_n X 0 dX7_passOneTick_75 rfl rfl ?_
              refine z_getI (ci := 10) (j := 7) (x := (c_k1 n i x (mq i)).1 1 1) X dX7_passOneTick_76 ck_1 rfl (by decide) hlk_43 (Or.inl rfl) (fun _ => rfl) (by rw [ci_1_7]; exact c_wm_o (by decide) (by decide) _) ?_
              refine z_aload_n X 0 dX7_passOneTick_79 rfl rfl ?_
              refine z_getI (ci := 10) (j := 6) (x := nI tk) X dX7_passOneTick_80 ck_1 rfl (by decide) hlk_39 (Or.inl rfl) (fun _ => rfl) (by rw [ci_1_6]; exact (c_wm_o (by decide) (by decide) _).trans ((c_k1_o (by decide) (by decide)).trans hti)) ?_
              refine z_callVv (As := [.int ((c_k1 n i x (mq i)).1 1 1), .int (nI tk)]) (rest := []) (n1 := 2) (ci := 8) X dX7_passOneTick_83 (c_X5_changeTemperature l n ((c_wm ((c_k1 n i x (mq i)).1, (c_k1 n i x (mq i)).2.1) tk k).1) ((c_wm ((c_k1 n i x (mq i)).1, (c_k1 n i x (mq i)).2.1) tk k).2) lm y ol od k (by omega) ((c_k1 n i x (mq i)).1 1 1) tk htk) gX7_passOneTick_X5_changeTemperature rfl rfl (by decide +kernel) ⟨by decide, by decide⟩ (ck_8 (by omega)) rfl rfl (Nat.le_of_ble_eq_true rfl) ⟨by decide, by decide⟩ (fun _ h => h.elim) ?_
              rintro _ ⟨rfl, rfl⟩
              refine z_iinc (ls' := [(3, .int (nI (k + 1))), (0, .ref 1), (1, .int (mq i)), (2, .int ((c_k1 n i x (mq i)).2.2))]) (v := nI (k + 1)) X 3 dX7_passOneTick_86 rfl (nI_1 _) (by decide) rfl ?_
              refine z_goto (tgt := 53) X dX7_passOneTick_89 (by decide) ?_
              refine z_sub (ls' := [(0, .ref 1), (1, .int (mq i)), (2, .int ((c_k1 n i x (mq i)).2.2)), (3, .int (nI (k + 1)))]) [1, 2, 3, 0] rfl ?_
              refine z_lse (ls' := [(0, .ref 1), (1, .int (mq i)), (2, .int ((c_k1 n i x (mq i)).2.2)), (3, .int (nI (k + 1)))]) (rfl) ?_
              refine z_mem (M' := cmm n ((c_wm ((c_k1 n i x (mq i)).1, (c_k1 n i x (mq i)).2.1) tk (k + 1)).1) ((c_wm ((c_k1 n i x (mq i)).1, (c_k1 n i x (mq i)).2.1) tk (k + 1)).2) lm y ol od) (by rfl) ?_
              exact ih53
        refine z_sub (ls' := [(0, .ref 1), (1, .int (mq i)), (2, .int ((c_k1 n i x (mq i)).2.2)), (3, .int 0)]) [2, 3, 1, 0] rfl ?_
        refine z_lse (ls' := [(0, .ref 1), (1, .int (mq i)), (2, .int ((c_k1 n i x (mq i)).2.2)), (3, .int (nI 0))]) (rfl) ?_
        refine z_mem (M' := cmm n ((c_wm ((c_k1 n i x (mq i)).1, (c_k1 n i x (mq i)).2.1) tk 0).1) ((c_wm ((c_k1 n i x (mq i)).1, (c_k1 n i x (mq i)).2.1) tk 0).2) lm y ol od) (rfl) ?_
        exact hloop53 0 (Nat.zero_le _)
      · exact absurd (Int32.le_refl _) c_18
    · intro k hk_10 ih10
      have ih10 : zE g 4 10 [(0, .ref 1), (1, .int (mq i)), (2, .int (nI (k + 1)))] [] (cmm n (c_wsh i x (mq i) (k + 1)) x lm y ol od) 0 0 := ih10
      show zE g 4 10 [(0, .ref 1), (1, .int (mq i)), (2, .int (nI k))] [] (cmm n (c_wsh i x (mq i) k) x lm y ol od) 0 0
      refine z_iload_n X 2 dX7_passOneTick_10 rfl rfl ?_
      refine z_aload_n X 0 dX7_passOneTick_11 rfl rfl ?_
      refine z_getR (ci := 10) (j := 0) (o' := 2) X dX7_passOneTick_12 ck_1 rfl (by decide) hlk_10 (Or.inl rfl) (fun _ => rfl) (cr_1_0) ?_
      refine z_callVi (As := []) (rest := [.int (nI k)]) (n1 := 0) (ci := 2) X dX7_passOneTick_15 (c_size0 l _ _ _ _ _ _ _) gX7_passOneTick_Jx4a65c_size_8abf5 rfl rfl (by decide +kernel) ⟨by decide, by decide⟩ (ck_2 (j := 0) (by decide)) rfl rfl (Nat.le_of_ble_eq_true rfl) ⟨by decide, by decide⟩ (fun _ h => h.elim) ?_
      rintro _ _ ⟨rfl, rfl⟩
      refine z_icmp_ge X 46 dX7_passOneTick_18 (by decide) (fun c_18 => ?_) (fun c_18 => ?_)
      · exact absurd c_18 (nI_ge hk_10 (by omega))
      · skip
        refine z_aload_n X 0 dX7_passOneTick_21 rfl rfl ?_
        refine z_getR (ci := 10) (j := 0) (o' := 2) X dX7_passOneTick_22 ck_1 rfl (by decide) hlk_10 (Or.inl rfl) (fun _ => rfl) (cr_1_0) ?_
        refine z_iload_n X 2 dX7_passOneTick_25 rfl rfl ?_
        refine z_callVr (As := [.int (nI k)]) (rest := []) (n1 := 1) (ci := 2) X dX7_passOneTick_26 (c_get0 l _ _ _ _ _ _ _ k (by omega) (by omega)) gX7_passOneTick_Jx4a65c_get_915e3 rfl rfl (by decide +kernel) ⟨by decide, by decide⟩ (ck_2 (j := 0) (by decide)) rfl rfl (Nat.le_of_ble_eq_true rfl) ⟨by decide, by decide⟩ (fun _ h => h.elim) ?_
        rintro _ _ ⟨rfl, rfl⟩
        refine z_ckc (ci := 8) X dX7_passOneTick_29 (by decide +kernel) (ck_8 (by omega)) rfl ?_
        refine z_aload_n X 0 dX7_passOneTick_32 rfl rfl ?_
        refine z_getR (ci := 10) (j := 4) (o' := 4) X dX7_passOneTick_33 ck_1 rfl (by decide) hlk_28 (Or.inl rfl) (fun _ => rfl) (cr_1_4) ?_
        refine z_iload_n X 1 dX7_passOneTick_36 rfl rfl ?_
        refine z_callVv (As := [.ref 4, .int (mq i)]) (rest := []) (n1 := 2) (ci := 8) X dX7_passOneTick_37 (c_X5_decide l n (c_wsh i x (mq i) k) x lm y ol od k (by omega) (mq i)) gX7_passOneTick_X5_decide rfl rfl (by decide +kernel) ⟨by decide, by decide⟩ (ck_8 (by omega)) rfl rfl (Nat.le_of_ble_eq_true rfl) ⟨by decide, by decide⟩ (fun _ h => h.elim) ?_
        rintro _ ⟨rfl, rfl⟩
        refine z_iinc (ls' := [(2, .int (nI (k + 1))), (0, .ref 1), (1, .int (mq i))]) (v := nI (k + 1)) X 2 dX7_passOneTick_40 rfl (nI_1 _) (by decide) rfl ?_
        refine z_goto (tgt := 10) X dX7_passOneTick_43 (by decide) ?_
        refine z_sub (ls' := [(0, .ref 1), (1, .int (mq i)), (2, .int (nI (k + 1)))]) [1, 2, 0] rfl ?_
        refine z_lse (ls' := [(0, .ref 1), (1, .int (mq i)), (2, .int (nI (k + 1)))]) (rfl) ?_
        refine z_mem (M' := cmm n (c_wsh i x (mq i) (k + 1)) x lm y ol od) (by rfl) ?_
        exact ih10
  refine z_sub (ls' := [(0, .ref 1), (1, .int (mq i)), (2, .int 0)]) [2, 1, 0] rfl ?_
  refine z_lse (ls' := [(0, .ref 1), (1, .int (mq i)), (2, .int (nI 0))]) (rfl) ?_
  refine z_mem (M' := cmm n (c_wsh i x (mq i) 0) x lm y ol od) (rfl) ?_
  exact hloop10 0 (Nat.zero_le _)
