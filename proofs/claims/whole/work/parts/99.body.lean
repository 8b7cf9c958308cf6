/-! PART 99a: the law's body -/
/-- the memory that the law begins with -/
def zM0 : zMem := zmg (zmk [(31, 26, 0), (63, 19, 0)] [] []) (zmk [] [] [])
theorem m_i0_0 {a b : Nat} (h : a ≠ 1) : m_i0 a b = 0 := by
  unfold m_i0
  rw [zlr_no (fun q hq e => h (by
    have : ∀ q ∈ ([(1, 23, 400), (1, 21, (-1)), (1, 20, (-1)), (1, 19, 10), (1, 18, 10), (1, 1, 250)] : List (Nat × Nat × Int32)), q.1 = 1 := by decide +kernel
    exact e.symm.trans (this q hq)))]
  rfl
theorem m_i0_1 : m_i0 1 0 = 0 ∧ m_i0 1 17 = 0 ∧ m_i0 1 30 = 0 ∧ m_i0 1 35 = 0 ∧ m_i0 1 42 = 0 ∧ zin (m_i0 1 1) (-300) 450 ∧ (m_i0 1 20 = -1 ∧ m_i0 1 21 = -1) ∧ m_i0 1 25 = 0 ∧ m_i0 1 24 ≤ m_i0 1 25 := by decide +kernel
theorem CI_start : CI c_n0 m_i0 c_x0 c_l0 c_y0 0 := by
  obtain ⟨e1, e2, e3, e4, e5, e6, ⟨e7, e8⟩, e9, e10⟩ := m_i0_1
  have hz : ∀ a b, a ≠ 1 → m_i0 a b = 0 := fun a b h => m_i0_0 h
  have nc : narrow .char (.int 0) = .int 0 := rfl
  refine ⟨⟨⟨rfl, rfl, rfl, rfl⟩, ⟨by decide, by decide, by decide, by decide⟩, fun p hp => absurd hp (Nat.not_lt_zero _), fun p hp => absurd hp (Nat.not_lt_zero _), fun p hp => absurd hp (Nat.not_lt_zero _)⟩,
    ⟨e1.trans nI_0.symm, by decide, e2.trans nI_0.symm, e3.trans nI_0.symm, e4.trans nI_0.symm, e5.trans nI_0.symm, e6, Or.inl ⟨e7, rfl, e8⟩⟩,
    ⟨fun j => Or.inl (hz _ _ (by decide)), fun j => Or.inl (hz _ _ (by decide)), fun j => by rw [hz _ _ (by decide)]; exact nc, fun j => by rw [hz _ _ (by decide)]; exact nc, fun j => by rw [hz _ _ (by decide)]; exact nc⟩,
    ⟨fun r hr => absurd hr (Nat.not_lt_zero _), fun r _ => ⟨hz _ _ (by decide), hz _ _ (by decide), hz _ _ (by decide), hz _ _ (by decide), hz _ _ (by decide), rfl⟩⟩,
    fun k hk => absurd hk (Nat.not_lt_zero _), fun p hp => absurd hp (Nat.not_lt_zero _), fun s hs => absurd hs (Nat.not_lt_zero _), fun a b _ => ?_, ⟨rfl, e9, e10⟩, ⟨fun q hq => absurd hq (Nat.not_lt_zero _), fun q _ => hz _ _ (by decide)⟩, fun r hr => absurd hr (Nat.not_lt_zero _)⟩
  show zin (0 : Int32) (-400) 450
  decide +kernel
theorem znib (s : Int32) : ∃ q : Nat, q < 64 ∧ s &&& 63 = nI q := by
  refine ⟨s.toUInt32.toNat % 64, Nat.mod_lt _ (by decide), ?_⟩
  have e : (s &&& 63).toUInt32 = (nI (s.toUInt32.toNat % 64)).toUInt32 := by
    refine UInt32.toNat_inj.mp ?_
    have h1 : (s &&& 63).toUInt32 = s.toUInt32 &&& 63 := rfl
    have h2 : (nI (s.toUInt32.toNat % 64)).toUInt32 = UInt32.ofNat (s.toUInt32.toNat % 64) := rfl
    rw [h1, h2, UInt32.toNat_and, UInt32.toNat_ofNat_of_lt' (Nat.lt_of_lt_of_le (Nat.mod_lt _ (by decide)) (by decide))]
    show s.toUInt32.toNat &&& (2 ^ 6 - 1) = _
    rw [Nat.and_two_pow_sub_one_eq_mod]
  exact congrArg UInt32.toInt32 e
theorem zgt5 {L j : Nat} (hL : L ≤ 2560) (hj : j ≤ 512) : Int32.ofNat L - 5 < nI (5 * j) ↔ L < 5 * j + 5 := by
  have e1 : (nI L).toInt = (L : Int) := nI_toInt (by omega)
  have e2 : (nI (5 * j)).toInt = ((5 * j : Nat) : Int) := nI_toInt (by omega)
  have e3 : (5 : Int32).toInt = 5 := by decide
  have e4 : (nI L - 5).toInt = (L : Int) - 5 := by rw [i_sub (by omega), e1, e3]
  rw [Int32.lt_iff_toInt_lt]
  show (nI L - 5).toInt < (nI (5 * j)).toInt ↔ _
  rw [e4, e2]
  omega
theorem zhb {L j : Nat} (hL : L ≤ 2560) (h : 5 * j + 5 ≤ L) : ∀ i : Int, 1 ≤ i → i ≤ 4 → vp_in (nI (5 * j) + Int32.ofInt i) L := by
  intro i h1 h4
  have key : ∀ a : Nat, a ≤ 4 → vp_in (nI (5 * j) + nI a) L := fun a ha => by
    rw [nI_add]
    exact nI_in (by omega) (by omega)
  have hi : i = 1 ∨ i = 2 ∨ i = 3 ∨ i = 4 := by omega
  rcases hi with rfl | rfl | rfl | rfl
  · exact key 1 (by decide)
  · exact key 2 (by decide)
  · exact key 3 (by decide)
  · exact key 4 (by decide)
section ZLB
variable {g : zCtx} {l0 : Launch} {nm : String} {M00 : zMem} {post : Option Value → zMem → Prop} {tab : List ExceptionTableEntry} {L : Nat} {xs : Nat → Int32}
set_option maxRecDepth 100000 in
set_option maxHeartbeats 4000000 in
/-- one call of the script -/
theorem z_round {ix : Int32} {k nn : Nat} {n : Nat → Nat} {i x : Nat → Nat → Int32} {lm : Nat → Nat → Int64} {y : Nat → Nat → Nat} {t : Nat} {ol : Int64} {od : UInt64} (hl0 : l0.stackTraces = false) (X : zCx g l0 cL_law 9 (some .boolean) RL nm wsL_law 19 10812 603072 7215210 M00 post zno tab) (S : zScr g L xs) (hb : ∀ i : Int, 1 ≤ i → i ≤ 4 → vp_in (ix + Int32.ofInt i) L) (h : CI n i x lm y t) (hk : k + 8 ≤ 603072 ∧ nn + 1100 ≤ 7215210) (K : zKK g ix (k + 8) (nn + 1100)) : ∀ q : Nat, q < 64 → zE g 9 44 (lB ix) [.int (nI q)] (zmg (cmm n i x lm y ol od) (zmm i lm)) k nn := by
  intro q hq
  by_cases h39 : 39 ≤ q
  · refine z_wide (a := 8) (b := 1100) ?_
    refine z_tableOut (tgt := 2357) X dL_law_44 (Or.inr ?_) (by decide) (K _ _ _ _ _ _ _ _ h)
    rw [nI_toInt (by omega)]
    omega
  have h38 : q < 39 := Nat.not_le.mp h39
  clear h39 hq
  match q, h38 with
  | 0, _ => exact z_tableIn (off := 172) (tgt := 216) X dL_law_44 (by decide +kernel) (by decide +kernel) (by decide +kernel) (by decide) (k_now hl0 X S hb h hk K)
  | 1, _ => exact z_tableIn (off := 185) (tgt := 229) X dL_law_44 (by decide +kernel) (by decide +kernel) (by decide +kernel) (by decide) (k_pass hl0 X S hb h hk K)
  | 2, _ => exact z_tableIn (off := 241) (tgt := 285) X dL_law_44 (by decide +kernel) (by decide +kernel) (by decide +kernel) (by decide) (k_setOutside hl0 X S hb h hk K)
  | 3, _ => exact z_tableIn (off := 297) (tgt := 341) X dL_law_44 (by decide +kernel) (by decide +kernel) (by decide +kernel) (by decide) (k_addRoom hl0 X S hb h hk K)
  | 4, _ => exact z_tableIn (off := 377) (tgt := 421) X dL_law_44 (by decide +kernel) (by decide +kernel) (by decide +kernel) (by decide) (k_setLimits hl0 X S hb h hk K)
  | 5, _ => exact z_tableIn (off := 457) (tgt := 501) X dL_law_44 (by decide +kernel) (by decide +kernel) (by decide +kernel) (by decide) (k_setMode hl0 X S hb h hk K)
  | 6, _ => exact z_tableIn (off := 527) (tgt := 571) X dL_law_44 (by decide +kernel) (by decide +kernel) (by decide +kernel) (by decide) (k_setLead hl0 X S hb h hk K)
  | 7, _ => exact z_tableIn (off := 607) (tgt := 651) X dL_law_44 (by decide +kernel) (by decide +kernel) (by decide +kernel) (by decide) (k_temperature hl0 X S hb h hk K)
  | 8, _ => exact z_tableIn (off := 663) (tgt := 707) X dL_law_44 (by decide +kernel) (by decide +kernel) (by decide +kernel) (by decide) (k_isCooled hl0 X S hb h hk K)
  | 9, _ => exact z_tableIn (off := 726) (tgt := 770) X dL_law_44 (by decide +kernel) (by decide +kernel) (by decide +kernel) (by decide) (k_warmest hl0 X S hb h hk K)
  | 10, _ => exact z_tableIn (off := 782) (tgt := 826) X dL_law_44 (by decide +kernel) (by decide +kernel) (by decide +kernel) (by decide) (k_meanTemperature hl0 X S hb h hk K)
  | 11, _ => exact z_tableIn (off := 859) (tgt := 903) X dL_law_44 (by decide +kernel) (by decide +kernel) (by decide +kernel) (by decide) (k_freeSpace hl0 X S hb h hk K)
  | 12, _ => exact z_tableIn (off := 915) (tgt := 959) X dL_law_44 (by decide +kernel) (by decide +kernel) (by decide +kernel) (by decide) (k_setPrices hl0 X S hb h hk K)
  | 13, _ => exact z_tableIn (off := 1007) (tgt := 1051) X dL_law_44 (by decide +kernel) (by decide +kernel) (by decide +kernel) (by decide) (k_setCharge hl0 X S hb h hk K)
  | 14, _ => exact z_tableIn (off := 1063) (tgt := 1107) X dL_law_44 (by decide +kernel) (by decide +kernel) (by decide +kernel) (by decide) (k_setPowerLimit hl0 X S hb h hk K)
  | 15, _ => exact z_tableIn (off := 1119) (tgt := 1163) X dL_law_44 (by decide +kernel) (by decide +kernel) (by decide +kernel) (by decide) (k_power hl0 X S hb h hk K)
  | 16, _ => exact z_tableIn (off := 1132) (tgt := 1176) X dL_law_44 (by decide +kernel) (by decide +kernel) (by decide +kernel) (by decide) (k_greatestPower hl0 X S hb h hk K)
  | 17, _ => exact z_tableIn (off := 1145) (tgt := 1189) X dL_law_44 (by decide +kernel) (by decide +kernel) (by decide +kernel) (by decide) (k_bill hl0 X S hb h hk K)
  | 18, _ => exact z_tableIn (off := 1159) (tgt := 1203) X dL_law_44 (by decide +kernel) (by decide +kernel) (by decide +kernel) (by decide) (k_billByRecords hl0 X S hb h hk K)
  | 19, _ => exact z_tableIn (off := 1173) (tgt := 1217) X dL_law_44 (by decide +kernel) (by decide +kernel) (by decide +kernel) (by decide) (k_addKind hl0 X S hb h hk K)
  | 20, _ => exact z_tableIn (off := 1253) (tgt := 1297) X dL_law_44 (by decide +kernel) (by decide +kernel) (by decide +kernel) (by decide) (k_addPallet hl0 X S hb h hk K)
  | 21, _ => exact z_tableIn (off := 1321) (tgt := 1365) X dL_law_44 (by decide +kernel) (by decide +kernel) (by decide +kernel) (by decide) (k_movePallet hl0 X S hb h hk K)
  | 22, _ => exact z_tableIn (off := 1389) (tgt := 1433) X dL_law_44 (by decide +kernel) (by decide +kernel) (by decide +kernel) (by decide) (k_scrap hl0 X S hb h hk K)
  | 23, _ => exact z_tableIn (off := 1445) (tgt := 1489) X dL_law_44 (by decide +kernel) (by decide +kernel) (by decide +kernel) (by decide) (k_pallets hl0 X S hb h hk K)
  | 24, _ => exact z_tableIn (off := 1458) (tgt := 1502) X dL_law_44 (by decide +kernel) (by decide +kernel) (by decide +kernel) (by decide) (k_state hl0 X S hb h hk K)
  | 25, _ => exact z_tableIn (off := 1514) (tgt := 1558) X dL_law_44 (by decide +kernel) (by decide +kernel) (by decide +kernel) (by decide) (k_roomOf hl0 X S hb h hk K)
  | 26, _ => exact z_tableIn (off := 1570) (tgt := 1614) X dL_law_44 (by decide +kernel) (by decide +kernel) (by decide +kernel) (by decide) (k_life hl0 X S hb h hk K)
  | 27, _ => exact z_tableIn (off := 1626) (tgt := 1670) X dL_law_44 (by decide +kernel) (by decide +kernel) (by decide +kernel) (by decide) (k_lifeByRecords hl0 X S hb h hk K)
  | 28, _ => exact z_tableIn (off := 1682) (tgt := 1726) X dL_law_44 (by decide +kernel) (by decide +kernel) (by decide +kernel) (by decide) (k_forecast hl0 X S hb h hk K)
  | 29, _ => exact z_tableIn (off := 1750) (tgt := 1794) X dL_law_44 (by decide +kernel) (by decide +kernel) (by decide +kernel) (by decide) (k_soonest hl0 X S hb h hk K)
  | 30, _ => exact z_tableIn (off := 1794) (tgt := 1838) X dL_law_44 (by decide +kernel) (by decide +kernel) (by decide +kernel) (by decide) (k_lostShare hl0 X S hb h hk K)
  | 31, _ => exact z_tableIn (off := 1860) (tgt := 1904) X dL_law_44 (by decide +kernel) (by decide +kernel) (by decide +kernel) (by decide) (k_order hl0 X S hb h hk K)
  | 32, _ => exact z_tableIn (off := 1952) (tgt := 1996) X dL_law_44 (by decide +kernel) (by decide +kernel) (by decide +kernel) (by decide) (k_cancel hl0 X S hb h hk K)
  | 33, _ => exact z_tableIn (off := 2008) (tgt := 2052) X dL_law_44 (by decide +kernel) (by decide +kernel) (by decide +kernel) (by decide) (k_candidates hl0 X S hb h hk K)
  | 34, _ => exact z_tableIn (off := 2064) (tgt := 2108) X dL_law_44 (by decide +kernel) (by decide +kernel) (by decide +kernel) (by decide) (k_candidateAt hl0 X S hb h hk K)
  | 35, _ => exact z_tableIn (off := 2132) (tgt := 2176) X dL_law_44 (by decide +kernel) (by decide +kernel) (by decide +kernel) (by decide) (k_ship hl0 X S hb h hk K)
  | 36, _ => exact z_tableIn (off := 2188) (tgt := 2232) X dL_law_44 (by decide +kernel) (by decide +kernel) (by decide +kernel) (by decide) (k_orderState hl0 X S hb h hk K)
  | 37, _ => exact z_tableIn (off := 2244) (tgt := 2288) X dL_law_44 (by decide +kernel) (by decide +kernel) (by decide +kernel) (by decide) (k_leastShipped hl0 X S hb h hk K)
  | 38, _ => exact z_tableIn (off := 2300) (tgt := 2344) X dL_law_44 (by decide +kernel) (by decide +kernel) (by decide +kernel) (by decide) (k_isConsistent hl0 X S hb h hk K)
  | q + 39, h9 => exact absurd h9 (by omega)
set_option maxRecDepth 100000 in
set_option maxHeartbeats 4000000 in
/-- the calls of the script, from the j-th on -/
theorem z_calls (hl0 : l0.stackTraces = false) (X : zCx g l0 cL_law 9 (some .boolean) RL nm wsL_law 19 10812 603072 7215210 M00 (zpi (fun v _ => v = 1)) zno tab) (S : zScr g L xs) (hL : L ≤ 2560) : ∀ (r j : Nat), L < 5 * (j + r) + 5 → j ≤ 512 → ∀ (n : Nat → Nat) (i x : Nat → Nat → Int32) (lm : Nat → Nat → Int64) (y : Nat → Nat → Nat) (t : Nat) (ol : Int64) (od : UInt64) (k nn : Nat), CI n i x lm y t → k + 8 * r ≤ 603072 → nn + 1100 * r ≤ 7215210 → zE g 9 28 (lB (nI (5 * j))) [] (zmg (cmm n i x lm y ol od) (zmm i lm)) k nn := by
  intro r
  induction r with
  | zero =>
    intro j h1 h2 n i x lm y t ol od k nn h k1 k2
    refine z_iload X 0 dL_law_28 rfl ?_
    refine z_aload_n X 5 dL_law_30 rfl rfl ?_
    refine z_slen X S dL_law_31 rfl ?_
    refine z_iconst (v := 5) X dL_law_32 (by decide) ?_
    refine z_isub X dL_law_33 ?_
    refine z_icmp_gt (tgt := 2363) X dL_law_34 (by decide) (fun _ => ?_) (fun c => absurd ((zgt5 hL h2).mpr (by omega)) c)
    refine z_iconst (v := 1) X dL_law_2363 (by decide) ?_
    exact z_iret X rfl narrow_b1 (by omega) (by omega) dL_law_2364 ⟨1, rfl, rfl⟩
  | succ r ih =>
    intro j h1 h2 n i x lm y t ol od k nn h k1 k2
    refine z_iload X 0 dL_law_28 rfl ?_
    refine z_aload_n X 5 dL_law_30 rfl rfl ?_
    refine z_slen X S dL_law_31 rfl ?_
    refine z_iconst (v := 5) X dL_law_32 (by decide) ?_
    refine z_isub X dL_law_33 ?_
    refine z_icmp_gt (tgt := 2363) X dL_law_34 (by decide) (fun _ => ?_) (fun c => ?_)
    · refine z_iconst (v := 1) X dL_law_2363 (by decide) ?_
      exact z_iret X rfl narrow_b1 (by omega) (by omega) dL_law_2364 ⟨1, rfl, rfl⟩
    have hlt : 5 * j + 5 ≤ L := Nat.not_lt.mp (fun q => c ((zgt5 hL h2).mpr q))
    refine z_aload_n X 5 dL_law_37 rfl rfl ?_
    refine z_iload X 0 dL_law_38 rfl ?_
    refine z_sld X S dL_law_40 (nI_in (by omega) (by omega)) rfl ?_
    refine z_bipush (v := 63) X dL_law_41 (by decide) ?_
    refine z_iand X dL_law_43 ?_
    obtain ⟨q, hq, e⟩ := znib (xs (nI (5 * j)).toNatClampNeg)
    rw [e]
    refine z_round hl0 X S (zhb hL hlt) h ⟨by omega, by omega⟩ ?_ q hq
    intro n' i' x' lm' y' t' ol' od' h'
    refine z_iinc (v := nI (5 * (j + 1))) (ls' := lB (nI (5 * (j + 1)))) X 0 dL_law_2357 rfl ((nI_add (5 * j) 5).trans (by rw [show 5 * j + 5 = 5 * (j + 1) by omega])) (by decide) rfl ?_
    refine z_goto (tgt := 28) X dL_law_2360 (by decide) ?_
    exact ih (j + 1) (by omega) (by omega) n' i' x' lm' y' t' ol' od' _ _ h' (by omega) (by omega)
set_option maxRecDepth 100000 in
set_option maxHeartbeats 4000000 in
theorem z_law (hl0 : l0.stackTraces = false) (X : zCx g l0 cL_law 9 (some .boolean) RL nm wsL_law 19 10812 603072 7215210 zM0 (zpi (fun v _ => v = 1)) zno tab) (S : zScr g L xs) (hL : L ≤ 2560) : zE g 9 0 [(0, .ref 17)] [] zM0 0 0 := by
  show zE g 9 0 [(0, .ref 17)] [] (zmg (zmk [(31, 26, 0), (63, 19, 0)] [] []) (zmk [] [] [])) 0 0
  refine z_newN (ci := 10) X 1 dL_law_0 rfl (by decide +kernel) (by decide +kernel) (by decide +kernel) rfl (by decide) (by decide) ⟨by decide, by decide⟩ ?_
  refine z_mem (M' := zmg (zmk [(1, 11, 0), (31, 26, 0), (63, 19, 0)] [] []) (zmk [] [] [])) ((zg_newC (by decide)).trans (by rw [zmk_new (by decide) (by decide)])) ?_
  refine z_dup X dL_law_3 rfl ?_
  refine z_callIvM (As := []) (rest := [.ref 1]) (n1 := 0) X dL_law_4 (zC_v (c_X7_init l0) (zCok_mk (by decide) (by decide)) (fun C' e => by rw [e]; exact zCok_mk (by decide) (by decide)) rfl) gL_law_X7_init rfl (by decide +kernel) (by decide +kernel) (by decide +kernel) rfl rfl (by decide +kernel) ⟨by decide, by decide⟩ rfl (Nat.le_of_ble_eq_true rfl) ⟨by decide, by decide⟩ ?_
  rintro _ ⟨C9, rfl, rfl⟩
  refine z_astore_n (ls' := [(1, .ref 1), (0, .ref 17)]) X dL_law_7 rfl (by decide) rfl ?_
  refine z_newN (ci := 11) X 48 dL_law_8 rfl (by decide +kernel) (by decide +kernel) (by decide +kernel) rfl (by decide) (by decide) ⟨by decide, by decide⟩ ?_
  refine z_mem (M' := zmg (zmk [(7, 20, 960), (6, 20, 960), (5, 6, 0), (4, 4, 0), (98, 3, 0), (66, 3, 0), (34, 3, 0), (2, 3, 0), (1, 11, 0), (31, 26, 0), (63, 19, 0)] [(1, 5, 5), (5, 1, 7), (5, 0, 6), (1, 4, 4), (1, 3, 98), (98, 1, 31), (1, 2, 66), (66, 1, 31), (1, 1, 34), (34, 1, 31), (1, 0, 2), (2, 1, 31)] [(1, 7, 250), (1, 6, 0), (5, 3, 0), (5, 2, 0), (4, 5, 400), (4, 4, 0), (4, 3, (-1)), (4, 2, 0), (4, 1, 10), (4, 0, 10), (98, 0, 0), (66, 0, 0), (34, 0, 0), (2, 0, 0)]) (zmk [(1, 12, 0)] [] [])) ((zg_newM (o := 1)).trans (by rw [zmk_new (by decide) (by decide)])) ?_
  refine z_dup X dL_law_11 rfl ?_
  refine z_callIvM (As := []) (rest := [.ref 48]) (n1 := 0) X dL_law_12 (zM_v (av' := [.ref 48]) (c_X8_init l0) (zCok_mk (by decide) (by decide)) (by decide) (by decide) rfl) gL_law_X8_init rfl (by decide +kernel) (by decide +kernel) (by decide +kernel) rfl rfl (by decide +kernel) ⟨by decide, by decide⟩ rfl (Nat.le_of_ble_eq_true rfl) ⟨by decide, by decide⟩ ?_
  rintro _ ⟨M9, rfl, rfl⟩
  refine z_astore_n (ls' := [(2, .ref 48), (1, .ref 1), (0, .ref 17)]) X dL_law_15 rfl (by decide) rfl ?_
  refine z_iconst (v := 1) X dL_law_16 (by decide) ?_
  refine z_newa (t := 1) (N := 1) X 14 dL_law_17 rfl (by decide) (by decide +kernel) (by decide) rfl (by decide) rfl (by decide) (by decide) ⟨by decide, by decide⟩ ?_
  refine z_mem (M' := zmg (zmk ((14, 21, 1) :: [(7, 20, 960), (6, 20, 960), (5, 6, 0), (4, 4, 0), (98, 3, 0), (66, 3, 0), (34, 3, 0), (2, 3, 0), (1, 11, 0), (31, 26, 0), (63, 19, 0)]) [(1, 5, 5), (5, 1, 7), (5, 0, 6), (1, 4, 4), (1, 3, 98), (98, 1, 31), (1, 2, 66), (66, 1, 31), (1, 1, 34), (34, 1, 31), (1, 0, 2), (2, 1, 31)] [(1, 7, 250), (1, 6, 0), (5, 3, 0), (5, 2, 0), (4, 5, 400), (4, 4, 0), (4, 3, (-1)), (4, 2, 0), (4, 1, 10), (4, 0, 10), (98, 0, 0), (66, 0, 0), (34, 0, 0), (2, 0, 0)]) (zmm m_i0 (fun _ _ => 0))) ((zg_newC (by decide)).trans (by rw [zmk_new (by decide) (by decide)])) ?_
  refine z_astore_n (ls' := [(3, .ref 14), (2, .ref 48), (1, .ref 1), (0, .ref 17)]) X dL_law_19 rfl (by decide) rfl ?_
  refine z_iconst (v := 1) X dL_law_20 (by decide) ?_
  refine z_newa (t := 4) (N := 1) X 15 dL_law_21 rfl (by decide) (by decide +kernel) (by decide) rfl (by decide) rfl (by decide) (by decide) ⟨by decide, by decide⟩ ?_
  refine z_mem (M' := zmg (zmk ((15, 24, 1) :: (14, 21, 1) :: [(7, 20, 960), (6, 20, 960), (5, 6, 0), (4, 4, 0), (98, 3, 0), (66, 3, 0), (34, 3, 0), (2, 3, 0), (1, 11, 0), (31, 26, 0), (63, 19, 0)]) [(1, 5, 5), (5, 1, 7), (5, 0, 6), (1, 4, 4), (1, 3, 98), (98, 1, 31), (1, 2, 66), (66, 1, 31), (1, 1, 34), (34, 1, 31), (1, 0, 2), (2, 1, 31)] [(1, 7, 250), (1, 6, 0), (5, 3, 0), (5, 2, 0), (4, 5, 400), (4, 4, 0), (4, 3, (-1)), (4, 2, 0), (4, 1, 10), (4, 0, 10), (98, 0, 0), (66, 0, 0), (34, 0, 0), (2, 0, 0)]) (zmm m_i0 (fun _ _ => 0))) ((zg_newC (by decide)).trans (by rw [zmk_new (by decide) (by decide)])) ?_
  refine z_astore (ls' := [(4, .ref 15), (3, .ref 14), (2, .ref 48), (1, .ref 1), (0, .ref 17)]) X dL_law_23 (by decide) rfl ?_
  refine z_iconst (v := 0) X dL_law_25 (by decide) ?_
  refine z_istore (ls' := lB 0) X dL_law_26 (by decide) rfl ?_
  refine z_memq (zg_zq c_start (zCok_mk (by decide) (by decide))) ?_
  have h9 := z_calls hl0 X S hL 512 0 (by omega) (by decide) c_n0 m_i0 c_x0 c_l0 c_y0 0 0 0 54 2614 CI_start (by decide) (by decide)
  exact h9
end ZLB
