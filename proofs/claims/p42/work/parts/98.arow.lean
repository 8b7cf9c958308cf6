/-! PART 98a: rows for the law: the script's places, the texts, remainders -/
/-- the script of L ints at the name 17; the texts at the names 48 and 80 -/
def zso (i : Nat) : Nat := 32 * (i + 1) + 16
def zStg (g : zCtx) : Prop := match g with
  | (_, _, _, _, s, _, _, _, _, _, _, ad0, M0, _) => ∃ aK aV : Nat → Nat, xU aK aV (zA ad0 M0 s.heap.size) s s.heap ∧ (∀ i, i < 2 → zc M0 (zso i) ≠ 0 ∧ ad0 (zso i) = aK i) ∧ vk_R RL 224 "aon" (aK 0) s ∧ vk_R RL 235 "ocp" (aK 1) s
section ZLA
variable {g : zCtx} {l0 : Launch} {cc : ByteArray} {nL : Nat} {ret : Option FieldType} {own nm : String} {Ts : List Cond} {fr lo mc ms : Nat} {M00 : zMem} {post : Option Value → zMem → Prop} {xp : String → Prop} {tab : List ExceptionTableEntry}
variable {pc : Nat} {ls ls' : List (Nat × Value)} {st rest : List Value} {M : zMem} {k n : Nat}
theorem z_at (X : zCx g l0 cc nL ret own nm Ts fr lo mc ms M00 post xp tab) {L : Nat} {xs : Nat → Int32} (S : zScr g L xs) (hL9 : L < 2 ^ 30) {index k9 : Nat} (hk9 : k9 < 2 ^ 30) (d : decode cc pc = .ok (.invokestatic index, 3)) (hT9 : GoodIn Ts (va_wsS own index yL_at wsL_at))
    (hR9 : 0 + 1 ≤ fr ∧ 8 + (2 + 11) + 0 ≤ lo) (hcat : (rest.map fun v => v.category).sum ≤ 8) (hk : k ≤ mc ∧ n ≤ ms) (kk : ∀ v : Int32, zE g nL (pc + 3) ls (.int v :: rest) M k n) : zE g nL pc ls (.int (nI k9) :: .ref 17 :: rest) M k n := by
  obtain ⟨p, l, e, R, s, m, args, below, meth, c, D, ad0, M0, Q⟩ := g
  obtain ⟨h0, hx, hb, hml, hrt, hown, hnm, hts, hR, hM0, hQ, hlk, htab, hks⟩ := X
  intro ad H locs lss hr hz hS hl hL hT
  subst h0; subst hR
  have e17 : ad 17 = ad0 17 := (hz.1 17 S.1).1
  have hrs : zls M rest := fun w hw => hT w (List.mem_cons_of_mem _ (List.mem_cons_of_mem _ hw))
  have hXH : va_X (ad0 17) L xs s H := S.2.1.kept (hS.2.1 _ S.2.2.1 S.2.2.2)
  have hbH : ad0 17 < H.size := Nat.lt_of_lt_of_le S.2.2.1 hS.1
  have hA : ∀ q, xHA H q → zA ad0 M0 s.heap.size q := fun q h9 => Or.inr (Nat.le_trans hS.1 h9)
  show W p l e _ s m args below meth c H locs k n Q (F0 m pc lss (.int (nI k9) :: .ref (ad 17) :: rest.map (zph ad)))
  rw [e17]
  refine va_calli (va_runS (As := [.ref (ad0 17), .int (nI k9)]) (rest := rest.map (zph ad)) ⟨hx, hb, hml, hown, hts⟩ (w_at l (ad0 17) L xs k9 hk9 hL9 H) (va_cwS 2 hts hT9 rfl rfl rfl (by decide +kernel) hR9) ⟨fun a9 U g9 mk z => ⟨z.1, z.2.1, va_X.moved (u := U) (U := U.calling g9 mk a9) (Vm.Alike.refl U.vm) z.2.2.1, z.2.2.2⟩, fun U hU hW => ⟨rfl, hU, va_X.moved hW.alike hXH, hbH⟩⟩ rfl rfl hl.1 rfl (lv_room (by rw [zcats]; exact hcat)) d hk) hS (fun q _ h9 => hA q h9) hA (fun r u t H1 locs1 ht hvm hw hB hz1 hk1 hS1 => ?_)
  rw [show H1 = H from ht.symm.trans hB] at hS1 ⊢
  exact kk r ad H locs1 lss hr hz hS1 hl hL (zls_c zlv_int hrs)
theorem z_ch (X : zCx g l0 cc nL ret own nm Ts fr lo mc ms M00 post xp tab) (S : zStg g) {index i k9 : Nat} (hi : i < 2) (hk9 : k9 < 3) (d : decode cc pc = .ok (.invokevirtual index, 3)) (hT9 : GoodIn Ts (wsV own index RJ0 yJ0_charAt_5068e wsJ0_charAt_5068e))
    (hR9 : 3 + 1 ≤ fr ∧ 8 + (2 + 11) + 64 ≤ lo) (hcat : (rest.map fun v => v.category).sum ≤ 8) (hk : k ≤ mc ∧ n ≤ ms) (kk : zE g nL (pc + 3) ls (.int (xch i k9) :: rest) M k n) : zE g nL pc ls (.int (nI k9) :: .ref (zso i) :: rest) M k n := by
  obtain ⟨p, l, e, R, s, m, args, below, meth, c, D, ad0, M0, Q⟩ := g
  obtain ⟨h0, hx, hb, hml, hrt, hown, hnm, hts, hR, hM0, hQ, hlk, htab, hks⟩ := X
  obtain ⟨aK, aV, hU, ha, -, -⟩ := S
  intro ad H locs lss hr hz hS hl hL hT
  subst h0; subst hR
  have e17 : ad (zso i) = aK i := (hz.1 _ (ha i hi).1).1.trans (ha i hi).2
  have hrs : zls M rest := fun w hw => hT w (List.mem_cons_of_mem _ (List.mem_cons_of_mem _ hw))
  have hA : ∀ q, xHA H q → zA ad0 M0 s.heap.size q := fun q h9 => Or.inr (Nat.le_trans hS.1 h9)
  have hUH : xU aK aV (xHA H) s H := (hU.kept hS.2.1).narrow hA
  show W p l e _ s m args below meth c H locs k n Q (F0 m pc lss (.int (nI k9) :: .ref (ad (zso i)) :: rest.map (zph ad)))
  rw [e17]
  refine va_calli (va_runV (As := [.int (nI k9)]) (rest := rest.map (zph ad)) ⟨hx, hb, hml, hown, hts⟩ (w_chr l aK aV i k9 hi hk9 H) (cwV 1 hts hT9 rfl rfl rfl (by decide +kernel) hR9) ⟨xPU.blind, vk_recv hU.1 hi hS, fun U hU9 hW => ⟨rfl, hU9, xU.moved hW.alike hUH⟩⟩ rfl rfl hl.1 rfl (lv_room (by rw [zcats]; exact hcat)) d hk) hS (fun q _ h9 => hA q h9) hA (fun r u t H1 locs1 ht hvm hw hB hz1 hk1 hS1 => ?_)
  rw [show H1 = H from ht.symm.trans hB] at hS1 ⊢
  rw [hw]
  exact kk ad H locs1 lss hr hz hS1 hl hL (zls_c zlv_int hrs)
theorem z_ldc0 (X : zCx g l0 cc nL ret RL nm Ts fr lo mc ms M00 post xp tab) (S : zStg g) (d : decode cc pc = .ok (.ldc 224, 2)) (kk : zE g nL (pc + 2) ls (.ref (zso 0) :: st) M k n) : zE g nL pc ls st M k n := by
  obtain ⟨p, l, e, R, s, m, args, below, meth, c, D, ad0, M0, Q⟩ := g
  obtain ⟨h0, hx, hb, hml, hrt, hown, hnm, hts, hR, hM0, hQ, hlk, htab, hks⟩ := X
  obtain ⟨aK, aV, hU, ha, hv, -⟩ := S
  intro ad H locs lss hr hz hS hl hL hT
  obtain ⟨h1, h2⟩ := ha 0 (by decide)
  have h3 := hz.1 _ h1
  refine va_ldcS hx hb hown hv d ?_
  rw [show aK 0 = ad (zso 0) from (h3.1.trans h2).symm]
  exact kk ad H locs lss hr hz hS hl hL (zls_c (zlv_ref (by rw [h3.2]; exact h1)) hT)
theorem z_ldc1 (X : zCx g l0 cc nL ret RL nm Ts fr lo mc ms M00 post xp tab) (S : zStg g) (d : decode cc pc = .ok (.ldc 235, 2)) (kk : zE g nL (pc + 2) ls (.ref (zso 1) :: st) M k n) : zE g nL pc ls st M k n := by
  obtain ⟨p, l, e, R, s, m, args, below, meth, c, D, ad0, M0, Q⟩ := g
  obtain ⟨h0, hx, hb, hml, hrt, hown, hnm, hts, hR, hM0, hQ, hlk, htab, hks⟩ := X
  obtain ⟨aK, aV, hU, ha, -, hv⟩ := S
  intro ad H locs lss hr hz hS hl hL hT
  obtain ⟨h1, h2⟩ := ha 1 (by decide)
  have h3 := hz.1 _ h1
  refine va_ldcS hx hb hown hv d ?_
  rw [show aK 1 = ad (zso 1) from (h3.1.trans h2).symm]
  exact kk ad H locs lss hr hz hS hl hL (zls_c (zlv_ref (by rw [h3.2]; exact h1)) hT)
end ZLA
/-! remainders -/
theorem xr_div {a b : Nat} (ha : a < 2 ^ 30) (hb : 0 < b) (hb2 : b < 2 ^ 30) : nI a / nI b = nI (a / b) := by
  refine Int32.toInt_inj.mp ?_
  have hne : ¬ nI b = -1 := nI_nm hb2
  rw [Int32.toInt_div_of_ne_right _ _ hne, nI_toInt (by omega), nI_toInt (by omega), nI_toInt (Nat.lt_of_le_of_lt (Nat.div_le_self a b) (by omega)), Int.tdiv_eq_ediv_of_nonneg (Int.natCast_nonneg a)]
  rfl
theorem xr_rem {a b : Nat} (ha : a < 2 ^ 30) (hb : 0 < b) (hb2 : b < 2 ^ 30) : nI a - nI a / nI b * nI b = nI (a % b) := by
  have hm : nI (a / b) * nI b = nI (a / b * b) := (Int32.ofNat_mul _ _).symm
  have h1 := Nat.div_add_mod a b
  have h2 : a / b * b ≤ a := Nat.div_mul_le_self a b
  rw [xr_div ha hb hb2, hm, nI_sb h2]
  congr 1
  rw [Nat.mul_comm] at h1
  omega
theorem xr_max {x : Int32} (h : ¬ x < 0) : ¬ (if (1 : Int32) < x then x else 1) = 0 := by
  intro e
  split at e
  · next c => rw [e] at c; exact absurd c (by decide)
  · exact absurd e (by decide)
theorem xr_some58 (v : Int32) : (v - v / 58 * 58).toInt = v.toInt - v.toInt.tdiv 58 * 58 ∧ -58 < v.toInt - v.toInt.tdiv 58 * 58 ∧ v.toInt - v.toInt.tdiv 58 * 58 < 58 := by
  have hK : (58 : Int32).toInt = 58 := by decide +kernel
  have h1 := v.le_toInt
  have h2 := v.toInt_lt
  have hd : (v / 58).toInt = v.toInt.tdiv 58 := by rw [Int32.toInt_div_of_ne_right v 58 (by decide +kernel), hK]
  have hq : -58 < v.toInt - v.toInt.tdiv 58 * 58 ∧ v.toInt - v.toInt.tdiv 58 * 58 < 58 ∧ -2147483648 ≤ v.toInt.tdiv 58 * 58 ∧ v.toInt.tdiv 58 * 58 < 2147483648 ∧ -2147483648 ≤ v.toInt - v.toInt.tdiv 58 * 58 ∧ v.toInt - v.toInt.tdiv 58 * 58 < 2147483648 := by
    rcases zf_lt v.toInt 0 with c | c
    · have e : v.toInt.tdiv 58 = -((-v.toInt) / 58) := by
        have e1 : v.toInt = -(-v.toInt) := by omega
        rw [e1, Int.neg_tdiv, Int.tdiv_eq_ediv_of_nonneg (by omega)]
        omega
      rw [e]
      omega
    · rw [Int.tdiv_eq_ediv_of_nonneg c]
      omega
  have hm : (v / 58 * 58).toInt = v.toInt.tdiv 58 * 58 := by
    rw [Int32.toInt_mul, hd, hK]
    exact Int.bmod_eq_of_le (by omega) (by omega)
  refine ⟨?_, hq.1, hq.2.1⟩
  rw [Int32.toInt_sub, hm]
  exact Int.bmod_eq_of_le (by omega) (by omega)
set_option maxHeartbeats 4000000 in
set_option maxRecDepth 100000 in
theorem c_some58 (l : Launch) (M : zMem) (v : Int32) : zS l yL_some wsL_some 0 0 0 0 [.int v, .int 58] M (zpi (fun r M1 => (∃ j : Nat, j < 58 ∧ r = nI j) ∧ M1 = M)) zno := by
  refine z_intro (cc := cL_some) (maxL := 3) (ret := (some .int)) (by decide +kernel) rfl (Nat.le_of_ble_eq_true rfl) ?_
  intro g X
  show zE g 3 0 [(0, .int v), (1, .int 58)] [] M 0 0
  obtain ⟨h1, h2, h3⟩ := xr_some58 v
  have hK : (58 : Int32).toInt = 58 := by decide +kernel
  refine z_iload_n X 0 dL_some_0 rfl rfl ?_
  refine z_iload_n X 1 dL_some_1 rfl rfl ?_
  refine z_irem X dL_some_2 (by decide +kernel) ?_
  refine z_nm (fun r er => ?_)
  rw [← er] at h1
  refine z_istore_n (ls' := [(2, .int r), (0, .int v), (1, .int 58)]) X dL_some_3 rfl (by decide) rfl ?_
  refine z_iload_n X 0 dL_some_4 rfl rfl ?_
  refine z_if_ge X 14 dL_some_5 (by decide) (fun c => ?_) (fun c => ?_)
  · refine z_iload_n X 0 dL_some_14 rfl rfl ?_
    refine z_iret X rfl rfl (Nat.le_refl _) (Nat.le_refl _) dL_some_15 ?_
    refine ⟨_, rfl, ?_, rfl⟩
    obtain ⟨j, j1, rfl⟩ := nI_of (Int32.not_lt.mpr c)
    exact ⟨j, by rw [nI_toInt j1] at h1; omega, rfl⟩
  · refine z_iload_n X 0 dL_some_8 rfl rfl ?_
    refine z_iload_n X 2 dL_some_9 rfl rfl ?_
    refine z_iadd X dL_some_10 ?_
    refine z_goto (tgt := 15) X dL_some_11 (by decide) ?_
    refine z_iret X rfl rfl (Nat.le_refl _) (Nat.le_refl _) dL_some_15 ?_
    refine ⟨_, rfl, ?_, rfl⟩
    have c9 : r.toInt < 0 := by
      have := Int32.not_le.mp c
      rw [Int32.lt_iff_toInt_lt, z_0] at this
      exact this
    have hs : (r + 58).toInt = r.toInt + 58 := by
      rw [Int32.toInt_add, hK]
      exact Int.bmod_eq_of_le (by omega) (by omega)
    have hn : ¬ r + 58 < 0 := by
      intro e
      rw [Int32.lt_iff_toInt_lt, z_0, hs] at e
      omega
    obtain ⟨j, j1, j2⟩ := nI_of hn
    refine ⟨j, ?_, j2⟩
    rw [j2, nI_toInt j1] at hs
    omega
theorem xr_some100000000 (v : Int32) : (v - v / 100000000 * 100000000).toInt = v.toInt - v.toInt.tdiv 100000000 * 100000000 ∧ -100000000 < v.toInt - v.toInt.tdiv 100000000 * 100000000 ∧ v.toInt - v.toInt.tdiv 100000000 * 100000000 < 100000000 := by
  have hK : (100000000 : Int32).toInt = 100000000 := by decide +kernel
  have h1 := v.le_toInt
  have h2 := v.toInt_lt
  have hd : (v / 100000000).toInt = v.toInt.tdiv 100000000 := by rw [Int32.toInt_div_of_ne_right v 100000000 (by decide +kernel), hK]
  have hq : -100000000 < v.toInt - v.toInt.tdiv 100000000 * 100000000 ∧ v.toInt - v.toInt.tdiv 100000000 * 100000000 < 100000000 ∧ -2147483648 ≤ v.toInt.tdiv 100000000 * 100000000 ∧ v.toInt.tdiv 100000000 * 100000000 < 2147483648 ∧ -2147483648 ≤ v.toInt - v.toInt.tdiv 100000000 * 100000000 ∧ v.toInt - v.toInt.tdiv 100000000 * 100000000 < 2147483648 := by
    rcases zf_lt v.toInt 0 with c | c
    · have e : v.toInt.tdiv 100000000 = -((-v.toInt) / 100000000) := by
        have e1 : v.toInt = -(-v.toInt) := by omega
        rw [e1, Int.neg_tdiv, Int.tdiv_eq_ediv_of_nonneg (by omega)]
        omega
      rw [e]
      omega
    · rw [Int.tdiv_eq_ediv_of_nonneg c]
      omega
  have hm : (v / 100000000 * 100000000).toInt = v.toInt.tdiv 100000000 * 100000000 := by
    rw [Int32.toInt_mul, hd, hK]
    exact Int.bmod_eq_of_le (by omega) (by omega)
  refine ⟨?_, hq.1, hq.2.1⟩
  rw [Int32.toInt_sub, hm]
  exact Int.bmod_eq_of_le (by omega) (by omega)
set_option maxHeartbeats 4000000 in
set_option maxRecDepth 100000 in
theorem c_some100000000 (l : Launch) (M : zMem) (v : Int32) : zS l yL_some wsL_some 0 0 0 0 [.int v, .int 100000000] M (zpi (fun r M1 => (∃ j : Nat, j < 100000000 ∧ r = nI j) ∧ M1 = M)) zno := by
  refine z_intro (cc := cL_some) (maxL := 3) (ret := (some .int)) (by decide +kernel) rfl (Nat.le_of_ble_eq_true rfl) ?_
  intro g X
  show zE g 3 0 [(0, .int v), (1, .int 100000000)] [] M 0 0
  obtain ⟨h1, h2, h3⟩ := xr_some100000000 v
  have hK : (100000000 : Int32).toInt = 100000000 := by decide +kernel
  refine z_iload_n X 0 dL_some_0 rfl rfl ?_
  refine z_iload_n X 1 dL_some_1 rfl rfl ?_
  refine z_irem X dL_some_2 (by decide +kernel) ?_
  refine z_nm (fun r er => ?_)
  rw [← er] at h1
  refine z_istore_n (ls' := [(2, .int r), (0, .int v), (1, .int 100000000)]) X dL_some_3 rfl (by decide) rfl ?_
  refine z_iload_n X 0 dL_some_4 rfl rfl ?_
  refine z_if_ge X 14 dL_some_5 (by decide) (fun c => ?_) (fun c => ?_)
  · refine z_iload_n X 0 dL_some_14 rfl rfl ?_
    refine z_iret X rfl rfl (Nat.le_refl _) (Nat.le_refl _) dL_some_15 ?_
    refine ⟨_, rfl, ?_, rfl⟩
    obtain ⟨j, j1, rfl⟩ := nI_of (Int32.not_lt.mpr c)
    exact ⟨j, by rw [nI_toInt j1] at h1; omega, rfl⟩
  · refine z_iload_n X 0 dL_some_8 rfl rfl ?_
    refine z_iload_n X 2 dL_some_9 rfl rfl ?_
    refine z_iadd X dL_some_10 ?_
    refine z_goto (tgt := 15) X dL_some_11 (by decide) ?_
    refine z_iret X rfl rfl (Nat.le_refl _) (Nat.le_refl _) dL_some_15 ?_
    refine ⟨_, rfl, ?_, rfl⟩
    have c9 : r.toInt < 0 := by
      have := Int32.not_le.mp c
      rw [Int32.lt_iff_toInt_lt, z_0] at this
      exact this
    have hs : (r + 100000000).toInt = r.toInt + 100000000 := by
      rw [Int32.toInt_add, hK]
      exact Int.bmod_eq_of_le (by omega) (by omega)
    have hn : ¬ r + 100000000 < 0 := by
      intro e
      rw [Int32.lt_iff_toInt_lt, z_0, hs] at e
      omega
    obtain ⟨j, j1, j2⟩ := nI_of hn
    refine ⟨j, ?_, j2⟩
    rw [j2, nI_toInt j1] at hs
    omega
