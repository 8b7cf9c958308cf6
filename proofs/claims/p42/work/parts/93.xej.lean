/-! PART 93a: limits, powers, sums, what was shipped: behind each call -/
section XEJ
variable {n : Nat → Nat} {i x : Nat → Nat → Int32} {lm : Nat → Nat → Int64} {y : Nat → Nat → Nat} {t : Nat}
theorem xEI_43 (h : xEI n i x) {v : Int32} : xEI n (zup i 1 43 v) x := xEI_of h rfl rfl (fun a b ha => zup_n (by omega)) (fun b hb => zup_n (by omega)) (fun _ => rfl)
theorem xEI_lim (h : xEI n i x) {r : Nat} {a b : Int32} (ha : zin a (-300) 300) : xEI n (zup (zup i 105 r a) 106 r b) x := by
  have e : ∀ p s, p ≠ 105 → p ≠ 106 → zup (zup i 105 r a) 106 r b p s = i p s := fun p s e1 e2 => by rw [zup_n (by omega), zup_n (by omega)]
  refine ⟨fun q hq => ?_, fun o ho => ?_, ?_⟩
  · obtain ⟨k1, k2, k3, k4⟩ := h.1 q hq
    rw [e 107 q (by decide) (by decide), e 104 q (by decide) (by decide), e 116 q (by decide) (by decide), e 110 q (by decide) (by decide), e 114 q (by decide) (by decide)]
    refine ⟨?_, k2, k3, k4⟩
    rw [zup_n (by omega)]
    by_cases c : q = r
    · rw [c, zup_s]; exact ha
    · rw [zup_n (by omega)]; exact k1
  · rw [e 140 o (by decide) (by decide), e 141 o (by decide) (by decide), e 138 o (by decide) (by decide)]
    exact h.2.1 o ho
  · rw [e 1 18 (by decide) (by decide), e 1 22 (by decide) (by decide), e 1 23 (by decide) (by decide), e 1 24 (by decide) (by decide)]
    exact h.2.2
theorem xEI_lead (h : xEI n i x) {r : Nat} {a b : Int32} (ha : zin a 0 16) : xEI n (zup (zup i 107 r a) 108 r b) x := by
  have e : ∀ p s, p ≠ 107 → p ≠ 108 → zup (zup i 107 r a) 108 r b p s = i p s := fun p s e1 e2 => by rw [zup_n (by omega), zup_n (by omega)]
  refine ⟨fun q hq => ?_, fun o ho => ?_, ?_⟩
  · obtain ⟨k1, k2, k3, k4⟩ := h.1 q hq
    rw [e 105 q (by decide) (by decide), e 104 q (by decide) (by decide), e 116 q (by decide) (by decide), e 110 q (by decide) (by decide), e 114 q (by decide) (by decide)]
    refine ⟨k1, ?_, k3, k4⟩
    rw [zup_n (by omega)]
    by_cases c : q = r
    · rw [c, zup_s]; exact ha
    · rw [zup_n (by omega)]; exact k2
  · rw [e 140 o (by decide) (by decide), e 141 o (by decide) (by decide), e 138 o (by decide) (by decide)]
    exact h.2.1 o ho
  · rw [e 1 18 (by decide) (by decide), e 1 22 (by decide) (by decide), e 1 23 (by decide) (by decide), e 1 24 (by decide) (by decide)]
    exact h.2.2
theorem xEI_1 (h : xEI n i x) {i' x' : Nat → Nat → Int32} (e : ∀ a b, a ≠ 1 → i' a b = i a b) (e6 : ∀ r, x' 6 r = x 6 r) (e1 : zin (i' 1 18) 0 1000 ∧ zin (i' 1 22) 0 1000 ∧ zin (i' 1 23) 0 400 ∧ zin (i' 1 24) 0 400) : xEI n i' x' := by
  refine ⟨fun q hq => ?_, fun o ho => ?_, e1⟩
  · rw [e 105 q (by decide), e 107 q (by decide), e 104 q (by decide), e 116 q (by decide), e 110 q (by decide), e 114 q (by decide), e6]
    exact h.1 q hq
  · rw [e 140 o (by decide), e 141 o (by decide), e 138 o (by decide)]
    exact h.2.1 o ho
theorem xEI_pr (h : xEI n i x) {a b f g w : Int32} (ha : zin a 0 1000) : xEI n (zup (zup (zup (zup (zup i 1 43 0) 1 18 a) 1 19 b) 1 20 f) 1 21 g) (zup x 7 0 w) :=
  xEI_1 h (fun p q e => by rw [zup_n (by omega), zup_n (by omega), zup_n (by omega), zup_n (by omega), zup_n (by omega)]) (fun r => zup_n (by omega))
    ⟨by rw [zup_n (by omega), zup_n (by omega), zup_n (by omega), zup_s]; exact ha, by rw [zup_n (by omega), zup_n (by omega), zup_n (by omega), zup_n (by omega), zup_n (by omega)]; exact h.2.2.2.1, by rw [zup_n (by omega), zup_n (by omega), zup_n (by omega), zup_n (by omega), zup_n (by omega)]; exact h.2.2.2.2.1, by rw [zup_n (by omega), zup_n (by omega), zup_n (by omega), zup_n (by omega), zup_n (by omega)]; exact h.2.2.2.2.2⟩
theorem xEI_ch (h : xEI n i x) {a : Int32} (ha : zin a 0 1000) : xEI n (zup (zup i 1 43 0) 1 22 a) x :=
  xEI_1 h (fun p q e => by rw [zup_n (by omega), zup_n (by omega)]) (fun r => rfl)
    ⟨by rw [zup_n (by omega), zup_n (by omega)]; exact h.2.2.1, by rw [zup_s]; exact ha, by rw [zup_n (by omega), zup_n (by omega)]; exact h.2.2.2.2.1, by rw [zup_n (by omega), zup_n (by omega)]; exact h.2.2.2.2.2⟩
theorem xEI_pl (h : xEI n i x) {a : Int32} (ha : zin a 0 400) : xEI n (zup (zup i 1 43 0) 1 23 a) x :=
  xEI_1 h (fun p q e => by rw [zup_n (by omega), zup_n (by omega)]) (fun r => rfl)
    ⟨by rw [zup_n (by omega), zup_n (by omega)]; exact h.2.2.1, by rw [zup_n (by omega), zup_n (by omega)]; exact h.2.2.2.1, by rw [zup_s]; exact ha, by rw [zup_n (by omega), zup_n (by omega)]; exact h.2.2.2.2.2⟩
theorem xEI_can (h : xEI n i x) {o : Nat} : xEI n (zup i 140 o 99) x := by
  refine ⟨fun q hq => ?_, fun p hp => ?_, ?_⟩
  · rw [zup_n (by omega), zup_n (by omega), zup_n (by omega), zup_n (by omega), zup_n (by omega), zup_n (by omega)]
    exact h.1 q hq
  · rw [zup_n (a := 140) (p := 141) (by omega), zup_n (a := 140) (p := 138) (by omega)]
    by_cases c : p = o
    · rw [c, zup_s]; intro k; exact absurd k (by decide)
    · rw [zup_n (by omega)]; exact h.2.1 p hp
  · rw [zup_n (by omega), zup_n (by omega), zup_n (by omega), zup_n (by omega)]
    exact h.2.2
theorem xEI_room (h : CI n i x lm y t) (e : xEI n i x) {a b c w : Int32} (hc : zin c 1 100) : xEI (nup (nup n 0 (n 0 + 1)) 5 (n 0 + 1)) (zup (zup (zup (zup (zup (zup (zup (zup (zup i 1 43 0) 102 (n 5) a) 103 (n 5) b) 104 (n 5) c) 105 (n 5) 20) 106 (n 5) 50) 109 (n 5) 97) 110 (n 5) (i 1 1)) 1 17 w) (zup (zup (zup (zrow x (n 0)) 0 (n 0) 0) 6 (n 0) 0) 5 (n 0) (-400)) := by
  obtain ⟨i', hi'⟩ : ∃ j, j = zup (zup (zup (zup (zup (zup (zup (zup (zup i 1 43 0) 102 (n 5) a) 103 (n 5) b) 104 (n 5) c) 105 (n 5) 20) 106 (n 5) 50) 109 (n 5) 97) 110 (n 5) (i 1 1)) 1 17 w := ⟨_, rfl⟩
  rw [← hi']
  have w0 := h.1.1.1
  have ee : ∀ p q, ¬ (p = 1 ∧ (q = 17 ∨ q = 43)) → ¬ (q = n 5 ∧ (p = 102 ∨ p = 103 ∨ p = 104 ∨ p = 105 ∨ p = 106 ∨ p = 109 ∨ p = 110)) → i' p q = i p q := fun p q e1 e2 => by
    rw [hi', zup_n (by omega), zup_n (by omega), zup_n (by omega), zup_n (by omega), zup_n (by omega), zup_n (by omega), zup_n (by omega), zup_n (by omega), zup_n (by omega)]
  refine ⟨fun q hq => ?_, fun o ho => ?_, ?_⟩
  · rw [nup_s] at hq
    by_cases cq : q = n 5
    · subst cq
      obtain ⟨f1, f2, f3, f4, f5, f6⟩ := h.2.2.2.1.2 (n 5) (Nat.le_refl _)
      have e105 : i' 105 (n 5) = 20 := by rw [hi', zup_n (by omega), zup_n (by omega), zup_n (by omega), zup_n (by omega), zup_s]
      have e104 : i' 104 (n 5) = c := by rw [hi', zup_n (by omega), zup_n (by omega), zup_n (by omega), zup_n (by omega), zup_n (by omega), zup_s]
      rw [e105, e104, ee 107 _ (by omega) (by omega), ee 116 _ (by omega) (by omega), f1, f5]
      exact ⟨⟨by decide, by decide⟩, ⟨by decide, by decide⟩, hc, Or.inl rfl⟩
    · have hx6 : zup (zup (zup (zrow x (n 0)) 0 (n 0) 0) 6 (n 0) 0) 5 (n 0) (-400) 6 q = x 6 q := by
        rw [zup_n (by omega), zup_n (by omega), zup_n (by omega)]
        exact if_neg (by omega)
      rw [ee 105 q (by omega) (by omega), ee 107 q (by omega) (by omega), ee 104 q (by omega) (by omega), ee 116 q (by omega) (by omega), ee 110 q (by omega) (by omega), ee 114 q (by omega) (by omega), hx6]
      exact e.1 q (by omega)
  · rw [nup_n (by decide), nup_n (by decide)] at ho
    rw [ee 140 o (by omega) (by omega), ee 141 o (by omega) (by omega), ee 138 o (by omega) (by omega)]
    exact e.2.1 o ho
  · rw [ee 1 18 (by omega) (by omega), ee 1 22 (by omega) (by omega), ee 1 23 (by omega) (by omega), ee 1 24 (by omega) (by omega)]
    exact e.2.2
theorem xEI_order (h : CI n i x lm y t) (e : xEI n i x) {kd a b c w : Int32} : xEI (nup (nup n 3 (n 3 + 1)) 8 (n 3 + 1)) (zup (zup (zup (zup (zup (zup (zup i 1 43 0) 136 (n 8) kd) 137 (n 8) a) 138 (n 8) b) 139 (n 8) c) 140 (n 8) 111) 1 42 w) x := by
  obtain ⟨i', hi'⟩ : ∃ j, j = zup (zup (zup (zup (zup (zup (zup i 1 43 0) 136 (n 8) kd) 137 (n 8) a) 138 (n 8) b) 139 (n 8) c) 140 (n 8) 111) 1 42 w := ⟨_, rfl⟩
  rw [← hi']
  have w0 := h.1.1.2.2.2
  have ee : ∀ p q, ¬ (p = 1 ∧ (q = 42 ∨ q = 43)) → ¬ (q = n 8 ∧ (p = 136 ∨ p = 137 ∨ p = 138 ∨ p = 139 ∨ p = 140)) → i' p q = i p q := fun p q e1 e2 => by
    rw [hi', zup_n (by omega), zup_n (by omega), zup_n (by omega), zup_n (by omega), zup_n (by omega), zup_n (by omega), zup_n (by omega)]
  refine ⟨fun q hq => ?_, fun o ho => ?_, ?_⟩
  · rw [nup_n (by decide), nup_n (by decide)] at hq
    rw [ee 105 q (by omega) (by omega), ee 107 q (by omega) (by omega), ee 104 q (by omega) (by omega), ee 116 q (by omega) (by omega), ee 110 q (by omega) (by omega), ee 114 q (by omega) (by omega)]
    exact e.1 q hq
  · rw [nup_s] at ho
    by_cases co : o = n 8
    · subst co
      rw [show i' 140 (n 8) = 111 by rw [hi', zup_n (by omega), zup_s]]
      intro k
      exact absurd k (by decide)
    · rw [ee 140 o (by omega) (by omega), ee 141 o (by omega) (by omega), ee 138 o (by omega) (by omega)]
      exact e.2.1 o (by omega)
  · rw [ee 1 18 (by omega) (by omega), ee 1 22 (by omega) (by omega), ee 1 23 (by omega) (by omega), ee 1 24 (by omega) (by omega)]
    exact e.2.2
theorem xEI_ship (e : xEI n i x) {o : Nat} (h24 : n 7 ≤ 24) (hc : 0 < m_cntN i o (n 7)) {x' : Nat → Nat → Int32} (e6 : ∀ r, x' 6 r = x 6 r) : xEI n (m_ships i o (n 7)) x' := by
  refine ⟨fun q hq => ?_, fun p hp => ?_, ?_⟩
  · rw [m_ships_o (by decide) (by decide) (by decide), m_ships_o (by decide) (by decide) (by decide), m_ships_o (by decide) (by decide) (by decide), m_ships_o (by decide) (by decide) (by decide), m_ships_o (by decide) (by decide) (by decide), m_ships_o (by decide) (by decide) (by decide), e6]
    exact e.1 q hq
  · by_cases c : p = o
    · subst c
      intro _
      exact ships_ok h24 hc
    · have e1 : m_ships i o (n 7) 140 p = i 140 p := by
        unfold m_ships
        rw [zup_n (by omega)]
        exact m_ship_o (by decide) (by decide) _
      have e2 : m_ships i o (n 7) 141 p = i 141 p := by
        unfold m_ships
        rw [zup_n (by omega)]
        exact m_ship_141 c _
      rw [e1, e2, m_ships_o (by decide) (by decide) (by decide)]
      exact e.2.1 p hp
  · rw [m_ships_o (by decide) (by decide) (by decide), m_ships_o (by decide) (by decide) (by decide), m_ships_o (by decide) (by decide) (by decide), m_ships_o (by decide) (by decide) (by decide)]
    exact e.2.2
/-! answers are no codes -/
theorem xn_1000 {v lo hi : Int32} (h : zin v lo hi) (hl : -1000 ≤ lo.toInt) : ¬ v < -1000 := by
  intro e
  have h1 := i_zin h
  rw [Int32.lt_iff_toInt_lt, show (-1000 : Int32).toInt = -1000 by decide] at e
  omega
theorem xn_neg {v : Int32} (h : ¬ v < 0) : ¬ v < -1000 := by
  intro e
  rw [Int32.lt_iff_toInt_lt] at h e
  rw [p_0] at h
  rw [show (-1000 : Int32).toInt = -1000 by decide] at e
  omega
theorem xn_nI {k : Nat} (h : k < 2 ^ 30) : ¬ nI k < -1000 := xn_neg (nI_nn k h)
theorem xn_open (i : Nat → Nat → Int32) : ∀ k, ∃ c, c ≤ k ∧ m_openN i k = nI c
  | 0 => ⟨0, Nat.le_refl _, rfl⟩
  | k + 1 => by
    obtain ⟨c, h1, h2⟩ := xn_open i k
    show ∃ d, d ≤ k + 1 ∧ m_openN i k + zb (i 140 k = 111) = nI d
    by_cases e : i 140 k = 111
    · exact ⟨c + 1, by omega, by rw [h2, zb_t e, nI_1]⟩
    · exact ⟨c, by omega, by rw [h2, zb_f e, Int32.add_zero]⟩
theorem xn_dueS {j : Nat → Nat → Int32} {np : Nat} : ∀ k, ∃ c, c ≤ k ∧ m_dueS j np k = nI c
  | 0 => ⟨0, Nat.le_refl _, rfl⟩
  | k + 1 => by
    obtain ⟨c, h1, h2⟩ := xn_dueS (j := j) (np := np) k
    show ∃ d, d ≤ k + 1 ∧ m_dueS j np k + m_due1S (m_due j np k) np k = nI d
    rw [h2]
    unfold m_due1S
    split
    · split
      · exact ⟨c, by omega, Int32.add_zero _⟩
      · exact ⟨c + 1, by omega, nI_1 _⟩
    · exact ⟨c, by omega, Int32.add_zero _⟩
theorem xn_tkS {nr np no : Nat} (h : no ≤ 12) (i : Nat → Nat → Int32) : ∀ k, ∃ c, c ≤ 12 * k ∧ m_tkS nr np no i k = nI c
  | 0 => ⟨0, Nat.le_refl _, rfl⟩
  | k + 1 => by
    obtain ⟨c, h1, h2⟩ := xn_tkS h i k
    obtain ⟨d, d1, d2⟩ := xn_dueS (j := m_tickB (m_tkI nr np no i k) nr np) (np := np) no
    exact ⟨c + d, by omega, by
      show m_tkS nr np no i k + m_dueS (m_tickB (m_tkI nr np no i k) nr np) np no = _
      rw [h2, d2, nI_add]⟩
theorem xn_cw (h : CI n i x lm y t) {p : Nat} (hp : p < n 7) : ∃ c, c ≤ 9999 ∧ i 133 p = nI c := by
  obtain ⟨-, l2, l3⟩ := lI_rv h hp
  obtain ⟨j, j1, j2⟩ := nI_of l2
  obtain ⟨f1, f2, -⟩ := F_nat (h.2.2.2.2.1 _ (h.1.2.2.1 p hp).1.1).1
  rw [j2, f1] at l3
  exact ⟨j, by rw [nI_leI (by omega) (by omega)] at l3; omega, j2⟩
theorem xn_shipS (h : CI n i x lm y t) {o : Nat} {j : Nat → Nat → Int32} (hj : ∀ p, j 133 p = i 133 p) : ∀ k, k ≤ m_cntN j o (n 7) → ∃ c, c ≤ 9999 * k ∧ m_shipS j o (n 7) k = nI c
  | 0, _ => ⟨0, Nat.le_refl _, rfl⟩
  | k + 1, hk => by
    obtain ⟨c, h1, h2⟩ := xn_shipS h (o := o) hj k (by omega)
    have h24 := h.1.2.1.2.2.1
    have hc := m_ship_cnt (i := j) (o := o) h24 k (by omega)
    obtain ⟨p, p1, p2, -⟩ := m_cand_in (i := m_ship j o (n 7) k) (o := o) h24 (by omega)
    have e : cl (m_cand (m_ship j o (n 7) k) o (n 7) 0) = p := by rw [p2]; exact nI_clamp (by omega)
    obtain ⟨d, d1, d2⟩ := xn_cw h p1
    exact ⟨c + d, by omega, by
      show m_shipS j o (n 7) k + m_ship j o (n 7) k 133 (cl (m_cand (m_ship j o (n 7) k) o (n 7) 0)) = _
      rw [h2, e, m_ship_o (by decide) (by decide), hj, d2, nI_add]⟩
end XEJ
section XEK
variable {n : Nat → Nat} {i x : Nat → Nat → Int32} {lm : Nat → Nat → Int64} {y : Nat → Nat → Nat} {t : Nat}
/-- what a ship leaves: the order is shipped, candidates are fewer, and the sum is no code -/
theorem xn_ship (h : CI n i x lm y t) {o : Nat} (ho : o < n 8) (c2 : i 137 o ≤ m_cnt i o (n 7)) : 0 < m_cntN (zup i 1 43 0) o (n 7) ∧ ¬ (c_ships o (n 7) (cl (i 137 o)) (zup i 1 43 0) x).2.2 < -1000 ∧ (∀ r, (c_ships o (n 7) (cl (i 137 o)) (zup i 1 43 0) x).2.1 6 r = x 6 r) ∧ m_ships (zup i 1 43 0) o (n 7) 140 o = 115 ∧ m_cntN (m_ships (zup i 1 43 0) o (n 7)) o (n 7) < m_cntN i o (n 7) := by
  obtain ⟨c, k1, k2, k3⟩ := (h.2.2.2.2.2.2.2.2.2.1.1 o ho).1
  have hcl : cl (i 137 o) = c := by rw [k3]; exact nI_clamp (by omega)
  have h24 := h.1.2.1.2.2.1
  have e0 : m_cntN (zup i 1 43 0) o (n 7) = m_cntN i o (n 7) := m_cntN_eT (j := i) (fun a b e => e43 (by omega))
  have hle : c ≤ m_cntN (zup i 1 43 0) o (n 7) := by
    rw [e0]
    rw [m_cnt_N, k3] at c2
    have := m_cntN_le i o (n 7)
    exact Nat.le_of_not_lt fun q => nI_ge q (by omega) c2
  refine ⟨by omega, ?_, ?_, ?_, ?_⟩
  · rw [(s_ship h ho c2).1, hcl]
    obtain ⟨d, d1, d2⟩ := xn_shipS h (o := o) (j := zup i 1 43 0) (fun p => e43 (by omega)) c hle
    rw [d2]
    exact xn_nI (by omega)
  · intro r
    exact (c_sh_R (o := o) (np := n 7) (s := ((zup i 1 43 0), x, 0)) (cl (i 137 o))).2 6 r (by decide)
  · exact zup_s
  · have e1 : m_cntN (m_ships (zup i 1 43 0) o (n 7)) o (n 7) = m_cntN (m_ship (zup i 1 43 0) o (n 7) c) o (n 7) := by
      refine m_cntN_eT (fun a b e => ?_)
      show zup (m_ship (zup i 1 43 0) o (n 7) (cl (zup i 1 43 0 137 o))) 140 o 115 a b = _
      rw [zup_n (by omega), e43 (by omega), hcl]
    have := m_ship_cnt (i := zup i 1 43 0) (o := o) h24 c hle
    omega
theorem xn_u {u : Int32} (c : zin u 1 96) : u = nI (cl u) := by
  have h96 : (96 : Int32) = nI 96 := by decide +kernel
  rw [h96] at c
  obtain ⟨j, j1, j2, rfl⟩ := zin_pos c
  have e : cl (nI j) = j := nI_clamp (by omega)
  rw [e]
end XEK
