/-! PART 98h: the law's body -/
/-- the row that the promises are kept in is not made yet; the texts are there -/
def pMs : zMem := (fun o => if o = 1 ∨ o = 2 then 19 else 0, fun _ => 0, fun _ _ => none, fun _ _ => 0, fun _ _ => 0, fun _ _ => 0)
theorem pMs_new : znew pMs 0 20 12 = pM (fun _ => 0) :=
  Prod.ext rfl (Prod.ext rfl (Prod.ext (funext fun _ => funext fun _ => ite_self _) (Prod.ext rfl (Prod.ext (funext fun _ => funext fun _ => ite_self _) (funext fun _ => funext fun _ => ite_self _)))))
/-- the memory that the law begins with -/
def zM0 : zMem := zmg (zmk [(31, 26, 0), (63, 19, 0)] [] []) pMs
theorem m_i0_0 {a b : Nat} (h : a ≠ 1) : m_i0 a b = 0 := by
  unfold m_i0
  rw [zlr_no (fun q hq e => h (by
    have : ∀ q ∈ ([(1, 23, 400), (1, 21, (-1)), (1, 20, (-1)), (1, 19, 10), (1, 18, 10), (1, 1, 250)] : List (Nat × Nat × Int32)), q.1 = 1 := by decide +kernel
    exact e.symm.trans (this q hq)))]
  rfl
theorem m_i0_1 : m_i0 1 0 = 0 ∧ m_i0 1 17 = 0 ∧ m_i0 1 30 = 0 ∧ m_i0 1 35 = 0 ∧ m_i0 1 42 = 0 ∧ zin (m_i0 1 1) (-300) 450 ∧ (m_i0 1 20 = -1 ∧ m_i0 1 21 = -1) ∧ m_i0 1 25 = 0 ∧ m_i0 1 24 ≤ m_i0 1 25 := by decide +kernel
theorem CI_start : CI c_n0 m_i0 c_x0 c_l0 c_y0 0 := by
  obtain ⟨e1, e2, e3, e4, e5, e6, ⟨e7, e8⟩, e9, e10⟩ := m_i0_1
  have hz : ∀ a b, a ≠ 1 → m_i0 a b = 0 := fun a b h => m_i0_0 h
  have nc : narrow .char (.int 0) = .int 0 := rfl
  refine ⟨⟨⟨rfl, rfl, rfl, rfl⟩, ⟨by decide, by decide, by decide, by decide⟩, fun p hp => absurd hp (Nat.not_lt_zero _), fun p hp => absurd hp (Nat.not_lt_zero _), fun p hp => absurd hp (Nat.not_lt_zero _)⟩,
    ⟨e1.trans nI_0.symm, by decide, e2.trans nI_0.symm, e3.trans nI_0.symm, e4.trans nI_0.symm, e5.trans nI_0.symm, e6, Or.inl ⟨e7, rfl, e8⟩⟩,
    ⟨fun j => Or.inl (hz _ _ (by decide)), fun j => Or.inl (hz _ _ (by decide)), fun j => by rw [hz _ _ (by decide)]; exact nc, fun j => by rw [hz _ _ (by decide)]; exact nc, fun j => by rw [hz _ _ (by decide)]; exact nc⟩,
    ⟨fun r hr => absurd hr (Nat.not_lt_zero _), fun r _ => ⟨hz _ _ (by decide), hz _ _ (by decide), hz _ _ (by decide), hz _ _ (by decide), hz _ _ (by decide), rfl⟩⟩,
    fun k hk => absurd hk (Nat.not_lt_zero _), fun p hp => absurd hp (Nat.not_lt_zero _), fun s hs => absurd hs (Nat.not_lt_zero _), fun a b _ => ?_, ⟨rfl, e9, e10⟩, ⟨fun q hq => absurd hq (Nat.not_lt_zero _), fun q _ => hz _ _ (by decide)⟩, fun r hr => absurd hr (Nat.not_lt_zero _)⟩
  show zin (0 : Int32) (-400) 450
  decide +kernel
theorem xSI_start : xSI c_n0 m_i0 c_x0 c_l0 c_y0 0 :=
  ⟨CI_start, fun r hr => absurd hr (Nat.not_lt_zero _), fun o ho => absurd ho (Nat.not_lt_zero _), by decide +kernel⟩
section ZLCA
variable {g : zCtx} {l0 : Launch} {nm : String} {tab : List ExceptionTableEntry}
set_option maxRecDepth 100000 in
set_option maxHeartbeats 4000000 in
theorem z_law (hl0 : l0.stackTraces = false) (X : zLX g l0 nm zM0 (zpi (fun v _ => v = 1)) tab) {L : Nat} {xs : Nat → Int32} (S : zScr g L xs) (hL : L < 2 ^ 30) (ZS : zStg g) : zE g 19 0 [(0, .ref 17)] [] zM0 0 0 := by
  show zE g 19 0 [(0, .ref 17)] [] (zmg (zmk [(31, 26, 0), (63, 19, 0)] [] []) pMs) 0 0
  refine z_newN (ci := 10) X 1 dL_law_0 rfl (by decide +kernel) (by decide +kernel) (by decide +kernel) rfl (by decide) (by decide) ⟨by decide, by decide⟩ ?_
  refine z_mem (M' := zmg (zmk [(1, 11, 0), (31, 26, 0), (63, 19, 0)] [] []) pMs) ((zg_newC (by decide)).trans (by rw [zmk_new (by decide) (by decide)])) ?_
  refine z_dup X dL_law_3 rfl ?_
  refine z_callIvM (As := []) (rest := [.ref 1]) (n1 := 0) X dL_law_4 (zC_v (c_X7_init l0) (zCok_mk (by decide) (by decide)) (fun C' e => by rw [e]; exact zCok_mk (by decide) (by decide)) rfl) gL_law_X7_init rfl (by decide +kernel) (by decide +kernel) (by decide +kernel) rfl rfl (by decide +kernel) ⟨by decide, by decide⟩ rfl (Nat.le_of_ble_eq_true rfl) ⟨by decide, by decide⟩ ?_
  rintro _ ⟨C9, rfl, rfl⟩
  refine z_astore_n (ls' := [(1, .ref 1), (0, .ref 17)]) X dL_law_7 rfl (by decide) rfl ?_
  refine z_iconst (v := 0) X dL_law_8 (by decide) ?_
  refine z_istore_n (ls' := [(2, .int 0), (1, .ref 1), (0, .ref 17)]) X dL_law_9 rfl (by decide) rfl ?_
  refine z_iconst (v := 0) X dL_law_10 (by decide) ?_
  refine z_istore_n (ls' := [(3, .int 0), (2, .int 0), (1, .ref 1), (0, .ref 17)]) X dL_law_11 rfl (by decide) rfl ?_
  refine z_iconst (v := 0) X dL_law_12 (by decide) ?_
  refine z_istore (ls' := [(4, .int 0), (3, .int 0), (2, .int 0), (1, .ref 1), (0, .ref 17)]) X dL_law_13 (by decide) rfl ?_
  refine z_bipush (v := 12) X dL_law_15 (by decide) ?_
  refine z_newa (t := 0) (N := 12) X 16 dL_law_17 rfl (by decide) (by decide +kernel) (by decide) rfl (by decide) rfl (by decide) (by decide) ⟨by decide, by decide⟩ ?_
  refine z_mem (M' := zmg (zmk [(7, 20, 960), (6, 20, 960), (5, 6, 0), (4, 4, 0), (98, 3, 0), (66, 3, 0), (34, 3, 0), (2, 3, 0), (1, 11, 0), (31, 26, 0), (63, 19, 0)] [(1, 5, 5), (5, 1, 7), (5, 0, 6), (1, 4, 4), (1, 3, 98), (98, 1, 31), (1, 2, 66), (66, 1, 31), (1, 1, 34), (34, 1, 31), (1, 0, 2), (2, 1, 31)] [(1, 7, 250), (1, 6, 0), (5, 3, 0), (5, 2, 0), (4, 5, 400), (4, 4, 0), (4, 3, (-1)), (4, 2, 0), (4, 1, 10), (4, 0, 10), (98, 0, 0), (66, 0, 0), (34, 0, 0), (2, 0, 0)]) (pM (fun _ => 0))) ((zg_newM (o := 0)).trans (by rw [pMs_new])) ?_
  refine z_astore (ls' := [(5, .ref 16), (4, .int 0), (3, .int 0), (2, .int 0), (1, .ref 1), (0, .ref 17)]) X dL_law_19 (by decide) rfl ?_
  refine z_aload_n X 5 dL_law_21 rfl rfl ?_
  refine z_iconst (v := 0) X dL_law_22 (by decide) ?_
  refine z_ste (st' := [.int (nI 0), .ref 17]) (by rw [nI_0]) ?_
  refine z_at X S hL (k9 := 0) (by decide) dL_law_23 gL_law_L_at ⟨by decide, by decide⟩ (Nat.le_of_ble_eq_true rfl) ⟨by decide, by decide⟩ (fun v9 => ?_)
  refine z_bipush (v := 58) X dL_law_26 (by decide) ?_
  refine z_callSiN (As := [.int v9, .int 58]) (rest := []) (n1 := 2) X dL_law_28 (c_some58 l0 (zmg (zmk [(7, 20, 960), (6, 20, 960), (5, 6, 0), (4, 4, 0), (98, 3, 0), (66, 3, 0), (34, 3, 0), (2, 3, 0), (1, 11, 0), (31, 26, 0), (63, 19, 0)] [(1, 5, 5), (5, 1, 7), (5, 0, 6), (1, 4, 4), (1, 3, 98), (98, 1, 31), (1, 2, 66), (66, 1, 31), (1, 1, 34), (34, 1, 31), (1, 0, 2), (2, 1, 31)] [(1, 7, 250), (1, 6, 0), (5, 3, 0), (5, 2, 0), (4, 5, 400), (4, 4, 0), (4, 3, (-1)), (4, 2, 0), (4, 1, 10), (4, 0, 10), (98, 0, 0), (66, 0, 0), (34, 0, 0), (2, 0, 0)]) (pM (fun _ => 0))) v9) gL_law_L_some rfl rfl (by decide +kernel) ⟨by decide, by decide⟩ rfl (Nat.le_of_ble_eq_true rfl) ⟨by decide, by decide⟩ ?_
  rintro _ _ ⟨⟨j9, j1, rfl⟩, rfl⟩
  refine z_istore (ls' := [(6, .int (nI j9)), (5, .ref 16), (4, .int 0), (3, .int 0), (2, .int 0), (1, .ref 1), (0, .ref 17)]) X dL_law_31 (by decide) rfl ?_
  refine z_iconst (v := 0) X dL_law_33 (by decide) ?_
  refine z_istore (ls' := [(7, .int 0), (6, .int (nI j9)), (5, .ref 16), (4, .int 0), (3, .int 0), (2, .int 0), (1, .ref 1), (0, .ref 17)]) X dL_law_34 (by decide) rfl ?_
  refine z_memq (zg_zq c_start (zCok_mk (by decide) (by decide))) ?_
  refine z_sub (ls' := [(0, .ref 17), (1, .ref 1), (2, .int 0), (3, .int 0), (4, .int 0), (5, .ref 16), (6, .int (nI j9)), (7, .int 0)]) [7, 6, 5, 4, 3, 2, 1, 0] rfl ?_
  have h9 := zl_loop hl0 X S hL ZS j1 j9 0 (Nat.zero_add _) c_n0 m_i0 c_x0 c_l0 c_y0 0 (fun _ => 0) xSI_start (fun o ho => absurd ho (Nat.not_lt_zero _))
  have e9 : zlB c_n0 j9 0 = [(0, .ref 17), (1, .ref 1), (2, .int 0), (3, .int 0), (4, .int 0), (5, .ref 16), (6, .int (nI j9)), (7, .int 0)] := by
    show ([(0, .ref 17), (1, .ref 1), (2, .int (nI 0)), (3, .int (nI 0)), (4, .int (nI 0)), (5, .ref 16), (6, .int (nI j9)), (7, .int (nI 0))] : List (Nat × Value)) = _
    rw [nI_0]
  rw [e9] at h9
  exact h9 _ _ (by decide) (by decide)
end ZLCA
