/-! PART 94v: what the answers are where the thing is there -/
theorem xv_c {p : Nat} (h : p < 2 ^ 30) : cl (nI p) = p := nI_clamp (by omega)
theorem xv_i {p N : Nat} (hp : p < N) (hN : N < 2 ^ 30) : cl (nI p) < N ∧ nI p = nI (cl (nI p)) := by
  rw [xv_c (by omega)]; exact ⟨hp, rfl⟩
/-- a number that is out of range -/
theorem xv_o {p N : Nat} (hp : N ≤ p) (h : p < 2 ^ 30) : ¬ (cl (nI p) < N ∧ nI p = nI (cl (nI p))) := by
  rw [xv_c h]; exact fun e => absurd e.1 (by omega)
theorem xv_m {N : Nat} (hN : N < 2 ^ 30) : ¬ (cl (-1) < N ∧ (-1 : Int32) = nI (cl (-1))) := by
  intro e
  have h1 : cl (-1) = 0 := by decide
  rw [h1] at e
  exact absurd e.2 (by decide)
section XV
variable {n : Nat → Nat} {i x : Nat → Nat → Int32} {lm : Nat → Nat → Int64} {y : Nat → Nat → Nat} {t : Nat}
theorem v_of0 (h : xSI n i x lm y t) {r : Nat} (hr : r < n 5) : a_of0 n i x y (nI r) = i 110 r := by
  have h4 := h.1.1.2.1.1
  unfold a_of0
  rw [if_pos (xv_i hr (by omega)), xv_c (by omega)]
theorem v_of2 (h : xSI n i x lm y t) {r : Nat} (hr : r < n 5) : a_of2 n i x y (nI r) = if ¬ i 116 r = 0 then x 5 r else -1002 := by
  have h4 := h.1.1.2.1.1
  unfold a_of2
  rw [if_pos (xv_i hr (by omega)), xv_c (by omega)]
theorem v_of3 (h : xSI n i x lm y t) {r : Nat} (hr : r < n 5) : a_of3 n i x y (nI r) = nI (8 - flN i r (n 7)) := by
  have h4 := h.1.1.2.1.1
  unfold a_of3
  rw [if_pos (xv_i hr (by omega)), xv_c (by omega), m_filled_N, show (8 : Int32) = nI 8 by decide, nI_sb (h.1.2.2.2.2.2.2.2.2.2.2 r hr)]
theorem v_mean (h : xSI n i x lm y t) {r : Nat} (hr : r < n 5) (c : ¬ i 116 r = 0) : a_mean n i x y (nI r) = FP.ddiv (FP.i2d (x 6 r)) (FP.i2d (i 116 r)) := by
  have h4 := h.1.1.2.1.1
  unfold a_mean
  rw [if_pos (xv_i hr (by omega)), xv_c (by omega), if_pos c]
theorem v_pal0 (h : xSI n i x lm y t) {p : Nat} (hp : p < n 7) : a_pal0 n i x y (nI p) = i 133 p := by
  have h4 := h.1.1.2.1.2.2.1
  unfold a_pal0
  rw [if_pos (xv_i hp (by omega)), xv_c (by omega)]
theorem v_pal1 (h : xSI n i x lm y t) {p : Nat} (hp : p < n 7) : a_pal1 n i x y (nI p) = i 133 p := by
  have h4 := h.1.1.2.1.2.2.1
  unfold a_pal1
  rw [if_pos (xv_i hp (by omega)), xv_c (by omega)]
theorem v_pal2 (h : xSI n i x lm y t) {p : Nat} (hp : p < n 7) : a_pal2 n i x y (nI p) = i 134 p := by
  have h4 := h.1.1.2.1.2.2.1
  unfold a_pal2
  rw [if_pos (xv_i hp (by omega)), xv_c (by omega)]
theorem v_pal3 (h : xSI n i x lm y t) {p : Nat} (hp : p < n 7) : a_pal3 n i x y (nI p) = if i 134 p = 114 then i 132 p else -1002 := by
  have h4 := h.1.1.2.1.2.2.1
  unfold a_pal3
  rw [if_pos (xv_i hp (by omega)), xv_c (by omega)]
theorem v_ord2 (h : xSI n i x lm y t) {o : Nat} (ho : o < n 8) : a_ord2 n i x y (nI o) = nI (m_cntN i o (n 7)) := by
  have h4 := h.1.1.2.1.2.2.2
  unfold a_ord2
  rw [if_pos (xv_i ho (by omega)), xv_c (by omega), m_cnt_N]
theorem v_ord3 (h : xSI n i x lm y t) {o : Nat} (ho : o < n 8) : a_ord3 n i x y (nI o) = i 140 o := by
  have h4 := h.1.1.2.1.2.2.2
  unfold a_ord3
  rw [if_pos (xv_i ho (by omega)), xv_c (by omega)]
theorem v_ord4 (h : xSI n i x lm y t) {o : Nat} (ho : o < n 8) (c : i 140 o = 115) : a_ord4 n i x y (nI o) = i 141 o := by
  have h4 := h.1.1.2.1.2.2.2
  unfold a_ord4
  rw [if_pos (xv_i ho (by omega)), xv_c (by omega), if_pos c]
/-- a room's pallets' life is told as a number -/
theorem v_nn (h : xSI n i x lm y t) {p : Nat} (hp : p < n 7) : ¬ i 133 p < 0 := (lI_rv h.1 hp).2.1
theorem v_room (h : xSI n i x lm y t) {p : Nat} (hp : p < n 7) : ¬ i 132 p < 0 := by
  obtain ⟨-, w2, w3⟩ := h.1.1.2.2.1 p hp
  have h1 := (h.1.1.2.2.2.1 _ w2).1
  have h4 := h.1.1.2.1.1
  rw [w3]
  exact nI_nn _ (by omega)
/-! a room's numbers -/
theorem v_400 (h : xSI n i x lm y t) {r : Nat} (hr : r < n 5) : ¬ i 110 r < -400 := (h.1.2.2.2.1.1 r hr).2.2.2.1.1
theorem v_warm (h : xSI n i x lm y t) {r : Nat} (hr : r < n 5) (c : ¬ i 116 r = 0) : ¬ x 5 r < i 110 r := by
  have h5 := (h.1.2.2.2.1.1 r hr).2.2.2.2.2.1
  rw [if_neg c] at h5
  rw [h5]
  exact Int32.not_lt.mpr ((h.2.1 r hr).2.2.2.resolve_left c).1
theorem v_meanle (h : xSI n i x lm y t) {r : Nat} (hr : r < n 5) (c : ¬ i 116 r = 0) : ¬ 0 < Op.cmpValue (FP.dcmp (a_mean n i x y (nI r)) (FP.i2d (x 5 r))) .l := by
  have h5 := (h.1.2.2.2.1.1 r hr).2.2.2.2.2.1
  rw [if_neg c] at h5
  obtain ⟨k, k1, k2, -⟩ := (h.1.2.2.2.1.1 r hr).2.2.2.2.1
  have h9 := h.1.2.1.2.1
  have hk : (i 116 r).toInt = (k : Int) := by rw [k2, nI_toInt (by omega)]
  have hk0 : k ≠ 0 := fun e => c (by rw [k2, e]; exact nI_0)
  rw [v_mean h hr c, h5]
  refine zf_cmpv (zf_mean_le (by omega) ?_) (fun _ => rfl)
  exact ((h.2.1 r hr).2.2.2.resolve_left c).2
/-! forecasts -/
theorem v_lossN (h : xSI n i x lm y t) {p : Nat} (hp : p < n 7) : ∃ L : Nat, L ≤ 40 ∧ c_ls i (cl (i 131 p)) (i 110 (y 1 (y 0 p))) = nI L := by
  obtain ⟨w1, w2, -⟩ := h.1.1.2.2.1 p hp
  have h1 := (h.1.1.2.2.2.1 _ w2).1
  obtain ⟨e, l⟩ := c_ls_N (i := i) (k := cl (i 131 p)) (h.1.2.2.2.1.1 _ h1).2.2.2.1 (h.1.2.2.2.2.1 _ w1.1).2
  exact ⟨_, l, e⟩
theorem v_fore (h : xSI n i x lm y t) {p u : Nat} (hp : p < n 7) (hin : i 134 p = 114) (hu : u ≤ 5) : ∃ c L : Nat, c ≤ 9999 ∧ L ≤ 40 ∧ i 133 p = nI c ∧ a_fore n i x y (nI p) (nI u) = nI (c - u * L) := by
  have h4 := h.1.1.2.1.2.2.1
  obtain ⟨c, c1, c2⟩ := xn_cw h.1 hp
  obtain ⟨L, l1, l2⟩ := v_lossN h hp
  refine ⟨c, L, c1, l1, c2, ?_⟩
  have hz : zin (nI u) 0 960 := by
    have : ∀ u : Fin 6, zin (nI u.val) 0 960 := by decide
    exact this ⟨u, by omega⟩
  unfold a_fore
  rw [if_pos (xv_i hp (by omega)), xv_c (by omega), if_pos hin, if_pos hz]
  show (if 0 < i 133 p - nI u * c_ls i (cl (i 131 p)) (i 110 (y 1 (y 0 p))) then i 133 p - nI u * c_ls i (cl (i 131 p)) (i 110 (y 1 (y 0 p))) else 0) = _
  have hm : nI u * nI L = nI (u * L) := (Int32.ofNat_mul u L).symm
  have hb : u * L ≤ 5 * 40 := Nat.mul_le_mul hu l1
  rw [l2, c2, hm]
  exact nI_mon (by omega) (by omega)
theorem v_fore0 (h : xSI n i x lm y t) {p : Nat} (hp : p < n 7) (hin : i 134 p = 114) : a_fore n i x y (nI p) 0 = i 133 p := by
  obtain ⟨c, L, -, -, e1, e2⟩ := v_fore h hp hin (u := 0) (by omega)
  rw [show (0 : Int32) = nI 0 from nI_0.symm, e2, e1]
  congr 1
  omega
theorem v_fore5 (h : xSI n i x lm y t) {p : Nat} (hp : p < n 7) (hin : i 134 p = 114) : ¬ i 133 p < a_fore n i x y (nI p) 5 := by
  obtain ⟨c, L, c1, l1, e1, e2⟩ := v_fore h hp hin (u := 5) (by omega)
  rw [show (5 : Int32) = nI 5 by decide, e2, e1]
  exact Int32.not_lt.mpr (nI_le (by omega) (by omega))
/-! the soonest pallet -/
theorem soon_sp (i : Nat → Nat → Int32) : ∀ m, m ≤ 24 → (m_soon i m = -1 ∧ ∀ p, p < m → ¬ i 134 p = 114) ∨ (∃ b, b < m ∧ m_soon i m = nI b ∧ i 134 b = 114 ∧ ∀ p, p < m → i 134 p = 114 → i 133 b ≤ i 133 p)
  | 0, _ => Or.inl ⟨rfl, fun p hp => absurd hp (Nat.not_lt_zero _)⟩
  | m + 1, hm => by
    have hv : m_soon i (m + 1) = if i 134 m = 114 ∧ (m_soon i m = -1 ∨ ¬ i 133 (cl (m_soon i m)) ≤ i 133 m) then nI m else m_soon i m := rfl
    rcases soon_sp i m (by omega) with ⟨h1, h2⟩ | ⟨b, b1, b2, b3, b4⟩
    · by_cases c : i 134 m = 114
      · refine Or.inr ⟨m, by omega, by rw [hv, if_pos ⟨c, Or.inl h1⟩], c, fun p hp hin => ?_⟩
        rcases Nat.lt_or_ge p m with q | q
        · exact absurd hin (h2 p q)
        · rw [show p = m by omega]; exact Int32.le_refl _
      · refine Or.inl ⟨by rw [hv, if_neg (fun e => c e.1)]; exact h1, fun p hp hin => ?_⟩
        rcases Nat.lt_or_ge p m with q | q
        · exact h2 p q hin
        · rw [show p = m by omega] at hin; exact c hin
    · have hb : cl (nI b) = b := xv_c (by omega)
      have hne : ¬ nI b = -1 := nI_nm (by omega)
      rw [b2, hb] at hv
      by_cases c : i 134 m = 114 ∧ ¬ i 133 b ≤ i 133 m
      · refine Or.inr ⟨m, by omega, by rw [hv, if_pos ⟨c.1, Or.inr c.2⟩], c.1, fun p hp hin => ?_⟩
        have hle : i 133 m ≤ i 133 b := by
          have := Int32.not_le.mp c.2
          rw [Int32.lt_iff_toInt_lt] at this
          rw [Int32.le_iff_toInt_le]; omega
        rcases Nat.lt_or_ge p m with q | q
        · exact Int32.le_trans hle (b4 p q hin)
        · rw [show p = m by omega]; exact Int32.le_refl _
      · refine Or.inr ⟨b, by omega, by rw [hv, if_neg (fun e => c ⟨e.1, e.2.resolve_left hne⟩)], b3, fun p hp hin => ?_⟩
        rcases Nat.lt_or_ge p m with q | q
        · exact b4 p q hin
        · rw [show p = m by omega] at hin ⊢
          exact Classical.not_not.mp fun e => c ⟨hin, e⟩
theorem v_soon (h : xSI n i x lm y t) : (a_soon n i x y = -1001 ∧ ∀ p, p < n 7 → ¬ i 134 p = 114) ∨ (∃ b, b < n 7 ∧ a_soon n i x y = nI b ∧ i 134 b = 114 ∧ ∀ p, p < n 7 → i 134 p = 114 → i 133 b ≤ i 133 p) := by
  have h4 := h.1.1.2.1.2.2.1
  have hs := s_soon h.1
  unfold a_soon
  by_cases c : c_sn i (n 7) ≠ none
  · obtain ⟨s1, s2⟩ := hs.1 c
    rw [if_pos c, s2]
    rcases soon_sp i (n 7) h4 with ⟨k1, -⟩ | k
    · exact absurd k1 s1
    · exact Or.inr k
  · have s1 := hs.2 c
    rw [if_neg c]
    rcases soon_sp i (n 7) h4 with k | ⟨b, b1, b2, -⟩
    · exact Or.inl ⟨rfl, k.2⟩
    · rw [s1] at b2
      exact absurd b2.symm (nI_nm (by omega))
/-! counts -/
def inN (i : Nat → Nat → Int32) (p : Nat) : Nat := zcnt (fun q => i 134 q = 114) p
theorem inN_t {p : Nat} (c : i 134 p = 114) : inN i (p + 1) = inN i p + 1 := by
  show zcnt _ p + (if i 134 p = 114 then 1 else 0) = _
  rw [if_pos c]; rfl
theorem inN_f {p : Nat} (c : ¬ i 134 p = 114) : inN i (p + 1) = inN i p := by
  show zcnt _ p + (if i 134 p = 114 then 1 else 0) = _
  rw [if_neg c]; rfl
theorem inN_le : ∀ p, inN i p ≤ p
  | 0 => Nat.le_refl _
  | p + 1 => by
    have := inN_le p
    by_cases c : i 134 p = 114
    · rw [inN_t c]; omega
    · rw [inN_f c]; omega
theorem inN_0 : ∀ m, (inN i m = 0 ↔ ∀ p, p < m → ¬ i 134 p = 114)
  | 0 => ⟨fun _ p hp => absurd hp (Nat.not_lt_zero _), fun _ => rfl⟩
  | m + 1 => by
    have ih := inN_0 m
    by_cases c : i 134 m = 114
    · rw [inN_t c]
      exact ⟨fun e => by omega, fun e => absurd c (e m (by omega))⟩
    · rw [inN_f c, ih]
      refine ⟨fun e p hp => ?_, fun e p hp => e p (by omega)⟩
      rcases Nat.lt_or_ge p m with q | q
      · exact e p q
      · rw [show p = m by omega]; exact c
/-- the pallets in the first rooms -/
def spN (i : Nat → Nat → Int32) (np : Nat) : Nat → Nat
  | 0 => 0
  | r + 1 => spN i np r + flN i r np
theorem spN_s {np : Nat} {k : Nat} (hk : k < 2 ^ 30) (c : i 134 np = 114 → i 132 np = nI k) : ∀ R, R < 2 ^ 30 → spN i (np + 1) R = spN i np R + (if i 134 np = 114 ∧ k < R then 1 else 0)
  | 0, _ => by rw [if_neg (fun e => Nat.not_lt_zero _ e.2)]; rfl
  | R + 1, hR => by
    have ih := spN_s hk c R (by omega)
    have hf : flN i R (np + 1) = flN i R np + (if i 134 np = 114 ∧ i 132 np = nI R then 1 else 0) := rfl
    show spN i (np + 1) R + flN i R (np + 1) = spN i np R + flN i R np + _
    rw [ih, hf]
    by_cases a : i 134 np = 114
    · have e := c a
      by_cases b : k = R
      · subst b
        rw [if_neg (show ¬ (i 134 np = 114 ∧ k < k) from fun z => Nat.lt_irrefl _ z.2), if_pos ⟨a, e⟩, if_pos ⟨a, Nat.lt_succ_self _⟩]
        omega
      · rw [if_neg (show ¬ (i 134 np = 114 ∧ i 132 np = nI R) from fun z => b (nI_inj2 hk (by omega) (e.symm.trans z.2)))]
        by_cases d : k < R
        · rw [if_pos ⟨a, d⟩, if_pos ⟨a, by omega⟩]; omega
        · rw [if_neg (fun z => d z.2), if_neg (fun z => absurd z.2 (by omega))]; omega
    · rw [if_neg (fun z => a z.1), if_neg (fun z => a z.1), if_neg (fun z => a z.1)]; omega
theorem spN_0 : ∀ R, spN i 0 R = 0
  | 0 => rfl
  | R + 1 => by show spN i 0 R + 0 = 0; rw [spN_0 R]
theorem spN_in {R : Nat} (hR : R < 2 ^ 30) : ∀ np, (∀ p, p < np → i 134 p = 114 → ∃ k, k < R ∧ i 132 p = nI k) → spN i np R = inN i np
  | 0, _ => spN_0 R
  | np + 1, h => by
    have ih := spN_in hR np (fun p hp => h p (by omega))
    by_cases a : i 134 np = 114
    · obtain ⟨k, k1, k2⟩ := h np (by omega) a
      rw [spN_s (by omega) (fun _ => k2) R hR, if_pos ⟨a, k1⟩, ih, inN_t a]
    · rw [spN_s (k := 0) (by omega) (fun e => absurd e a) R hR, if_neg (fun z => a z.1), ih, inN_f a]; rfl
theorem v_sp (h : xSI n i x lm y t) : spN i (n 7) (n 5) = inN i (n 7) := by
  have h4 := h.1.1.2.1.1
  refine spN_in (by omega) (n 7) (fun p hp _ => ?_)
  obtain ⟨-, w2, w3⟩ := h.1.1.2.2.1 p hp
  exact ⟨_, (h.1.1.2.2.2.1 _ w2).1, w3⟩
theorem spN_le (h : xSI n i x lm y t) : ∀ R, R ≤ n 5 → spN i (n 7) R ≤ 8 * R
  | 0, _ => Nat.le_refl _
  | R + 1, hR => by
    have h1 := spN_le h R (by omega)
    have h2 := h.1.2.2.2.2.2.2.2.2.2.2 R (by omega)
    show spN i (n 7) R + flN i R (n 7) ≤ 8 * (R + 1)
    omega
def xsp (n : Nat → Nat) (i x : Nat → Nat → Int32) (y : Nat → Nat → Nat) : Nat → Int32
  | 0 => 0
  | r + 1 => xsp n i x y r + a_of3 n i x y (nI r)
theorem v_xsp (h : xSI n i x lm y t) : ∀ R, R ≤ n 5 → xsp n i x y R = nI (8 * R - spN i (n 7) R)
  | 0, _ => nI_0.symm
  | R + 1, hR => by
    have h1 := spN_le h R (by omega)
    have h2 := h.1.2.2.2.2.2.2.2.2.2.2 R (by omega)
    show xsp n i x y R + a_of3 n i x y (nI R) = nI (8 * (R + 1) - (spN i (n 7) R + flN i R (n 7)))
    rw [v_xsp h R (by omega), v_of3 h (by omega), nI_add]
    congr 1
    omega
theorem v_all (h : xSI n i x lm y t) : nI (inN i (n 7)) + xsp n i x y (n 5) = 8 * nI (n 5) := by
  have h4 := h.1.1.2.1.1
  have h1 := spN_le h (n 5) (Nat.le_refl _)
  have h2 := v_sp h
  rw [v_xsp h (n 5) (Nat.le_refl _), nI_add]
  have h3 : ∀ R : Fin 5, (8 : Int32) * nI R.val = nI (8 * R.val) := by decide
  rw [h3 ⟨n 5, by omega⟩]
  congr 1
  show inN i (n 7) + (8 * n 5 - spN i (n 7) (n 5)) = 8 * n 5
  omega
/-! candidates -/
theorem v_cand (h : xSI n i x lm y t) {o j : Nat} (ho : o < n 8) (hj : j < m_cntN i o (n 7)) : ∃ b, c_it i o (n 7) j = some b ∧ b < n 7 ∧ m_isC i o b ∧ a_ordA n i x y (nI o) (10 + nI j) = nI b := by
  have h4 := h.1.1.2.1.2.2.1
  have h8 := h.1.1.2.1.2.2.2
  have hc := m_cntN_le i o (n 7)
  obtain ⟨b, b1, b2, b3, -⟩ := c_it_m (i := i) (o := o) h4 j hj
  refine ⟨b, b1, b2, b3, ?_⟩
  have e1 : (10 : Int32) + nI j - 10 = nI j := by rw [Int32.add_comm, Int32.add_sub_cancel]
  have e2 : c_at i o (n 7) (nI j) = some b := by
    unfold c_at
    rw [if_neg, xv_c (by omega)]
    · exact b1
    · rintro (e | e)
      · exact nI_nn j (by omega) e
      · rw [m_cnt_N, nI_leI (by omega) (by omega)] at e
        omega
  unfold a_ordA
  rw [if_pos (xv_i ho (by omega)), xv_c (by omega), e1, e2, if_pos (fun e => nomatch e)]
  rfl
/-- the life of the candidate before -/
def bfI (i : Nat → Nat → Int32) (o np : Nat) : Nat → Int32
  | 0 => -1
  | j + 1 => i 133 ((c_it i o np j).getD 0)
theorem v_bf (h : xSI n i x lm y t) {o j b : Nat} (hb : c_it i o (n 7) j = some b) (hl : b < n 7) : ¬ i 133 b < bfI i o (n 7) j := by
  cases j with
  | zero =>
    intro e
    have h1 := v_nn h hl
    rw [Int32.lt_iff_toInt_lt] at h1 e
    rw [p_0] at h1
    rw [show (bfI i o (n 7) 0).toInt = -1 by show (-1 : Int32).toInt = -1; decide] at e
    omega
  | succ j =>
    intro e
    cases hk : c_it i o (n 7) j with
    | none =>
      have := c_it_n hk (j + 1) (by omega)
      rw [this] at hb; cases hb
    | some g =>
      rw [c_it_s hk] at hb
      have h1 := (c_nx_lt hb).2.1
      have h2 : c_lt i g b := of_decide_eq_true h1
      have h3 : bfI i o (n 7) (j + 1) = i 133 g := by
        show i 133 ((c_it i o (n 7) j).getD 0) = _
        rw [hk]; rfl
      rw [h3] at e
      rcases h2 with q | q
      · rw [Int32.lt_iff_toInt_lt] at q e; omega
      · rw [q.1] at e; exact absurd e Int32.lt_irrefl
end XV
section XW
variable {n : Nat → Nat} {i x : Nat → Nat → Int32} {lm : Nat → Nat → Int64} {y : Nat → Nat → Nat} {t : Nat}
theorem v_soon_in (h : xSI n i x lm y t) {p : Nat} (hp : p < n 7) (hin : i 134 p = 114) : ¬ a_soon n i x y < 0 ∧ a_pal0 n i x y (a_soon n i x y) ≤ i 133 p := by
  have h4 := h.1.1.2.1.2.2.1
  rcases v_soon h with ⟨-, k⟩ | ⟨b, b1, b2, b3, b4⟩
  · exact absurd hin (k p hp)
  · rw [b2]
    exact ⟨nI_nn b (by omega), by rw [v_pal0 h b1]; exact b4 p hp hin⟩
theorem v_tick (h : xSI n i x lm y t) {r : Nat} (hr : r < n 5) (c : ¬ a_of2 n i x y (nI r) = -1002) : ¬ i 116 r = 0 := by
  intro e
  rw [v_of2 h hr, if_neg (fun z => z e)] at c
  exact c rfl
theorem v_ne {j : Nat} (hj : j < 2 ^ 29) : ¬ (10 + nI j) = 0 ∧ ¬ (10 + nI j) = 1 ∧ ¬ (10 + nI j) = 2 ∧ ¬ (10 + nI j) = 3 ∧ ¬ (10 + nI j) = 4 := by
  have e : (10 : Int32) + nI j = nI (10 + j) := nI_add 10 j
  rw [e]
  refine ⟨fun z => ?_, fun z => ?_, fun z => ?_, fun z => ?_, fun z => ?_⟩
  · have := nI_inj2 (a := 10 + j) (b := 0) (by omega) (by omega) z; omega
  · have := nI_inj2 (a := 10 + j) (b := 1) (by omega) (by omega) z; omega
  · have := nI_inj2 (a := 10 + j) (b := 2) (by omega) (by omega) z; omega
  · have := nI_inj2 (a := 10 + j) (b := 3) (by omega) (by omega) z; omega
  · have := nI_inj2 (a := 10 + j) (b := 4) (by omega) (by omega) z; omega
theorem v_bfs (h : xSI n i x lm y t) {o j : Nat} (ho : o < n 8) (hj : j < m_cntN i o (n 7)) : a_pal0 n i x y (a_ordA n i x y (nI o) (10 + nI j)) = bfI i o (n 7) (j + 1) := by
  obtain ⟨b, b1, b2, b3, b4⟩ := v_cand h ho hj
  rw [b4, v_pal0 h b2]
  show i 133 b = i 133 ((c_it i o (n 7) j).getD 0)
  rw [b1]; rfl
theorem v_s0 (h : xSI n i x lm y t) (c : a_soon n i x y = -1001) : nI (inN i (n 7)) = 0 := by
  have h4 := h.1.1.2.1.2.2.1
  rcases v_soon h with ⟨-, k⟩ | ⟨b, b1, b2, b3, b4⟩
  · rw [(inN_0 (n 7)).mpr k]; exact nI_0
  · rw [b2] at c
    exact absurd (show nI b < 0 by rw [c]; decide) (nI_nn b (by omega))
theorem v_s1 (h : xSI n i x lm y t) (c : ¬ a_soon n i x y = -1001) : ¬ nI (inN i (n 7)) = 0 := by
  have h4 := h.1.1.2.1.2.2.1
  have h9 := inN_le (i := i) (n 7)
  rcases v_soon h with ⟨k, -⟩ | ⟨b, b1, b2, b3, b4⟩
  · exact absurd k c
  · exact nI_ne0 (Nat.pos_of_ne_zero (fun e => (inN_0 (n 7)).mp e b b1 b3)) (by omega)
end XW
