/-! PART 92e: more that holds between the calls: limits, powers, sums, what was shipped -/
def xEI (n : Nat → Nat) (i x : Nat → Nat → Int32) : Prop :=
  (∀ r, r < n 5 → zin (i 105 r) (-300) 300 ∧ zin (i 107 r) 0 16 ∧ zin (i 104 r) 1 100 ∧ (i 116 r = 0 ∨ (i 110 r ≤ i 114 r ∧ (x 6 r).toInt ≤ (i 116 r).toInt * (i 114 r).toInt))) ∧
  (∀ o, o < n 8 → i 140 o = 115 → ¬ i 141 o < i 138 o) ∧
  (zin (i 1 18) 0 1000 ∧ zin (i 1 22) 0 1000 ∧ zin (i 1 23) 0 400 ∧ zin (i 1 24) 0 400)
theorem xEI_of {n n' : Nat → Nat} {i i' x x' : Nat → Nat → Int32} (h : xEI n i x) (h5 : n' 5 = n 5) (h8 : n' 8 = n 8)
    (e : ∀ a b, (a = 104 ∨ a = 105 ∨ a = 107 ∨ a = 110 ∨ a = 114 ∨ a = 116 ∨ a = 138 ∨ a = 140 ∨ a = 141) → i' a b = i a b) (e1 : ∀ b, (b = 18 ∨ b = 22 ∨ b = 23 ∨ b = 24) → i' 1 b = i 1 b) (e6 : ∀ r, x' 6 r = x 6 r) : xEI n' i' x' := by
  obtain ⟨h1, h2, h3⟩ := h
  refine ⟨fun r hr => ?_, fun o ho => ?_, ?_⟩
  · rw [e 105 r (by omega), e 107 r (by omega), e 104 r (by omega), e 116 r (by omega), e 110 r (by omega), e 114 r (by omega), e6]
    exact h1 r (by omega)
  · rw [e 140 o (by omega), e 141 o (by omega), e 138 o (by omega)]
    exact h2 o (by omega)
  · rw [e1 18 (by omega), e1 22 (by omega), e1 23 (by omega), e1 24 (by omega)]
    exact h3
/-- what a tick does to a room's temperature, its greatest one and its sum -/
theorem tick_rm {n : Nat → Nat} {i x : Nat → Nat → Int32} {lm : Nat → Nat → Int64} {y : Nat → Nat → Nat} {t : Nat} (h : CI n i x lm y t) (ht : t < 960) :
    ∀ r, r < n 5 → ∃ T : Int32, zin T (-400) 450 ∧ m_tickI i (n 5) (n 7) (n 8) 110 r = T ∧ m_tickI i (n 5) (n 7) (n 8) 116 r = i 116 r + 1 ∧ m_tickI i (n 5) (n 7) (n 8) 114 r = (if i 116 r = 0 ∨ ¬ T ≤ i 114 r then T else i 114 r) ∧ (c_tick n i x y).2.1 6 r = x 6 r + T := by
  obtain ⟨hW, ⟨h0, h960, g17, g30, g35, g42, hO, hP⟩, ⟨b111, b112, n109, n134, n140⟩, ⟨hr, hf⟩, hk, hl, hs, hx, ⟨m1, m2, m3⟩, ⟨ho, hof⟩, hfl⟩ := h
  obtain ⟨hn, ⟨hb5, hb6, hb7, hb8⟩, hp9, hs9, ho9⟩ := id hW
  have hq : mq i = nI (t % 96) := mq_nat h960 h0
  have ecl : cl (i 1 0) = t := by rw [h0]; exact nI_clamp (by omega)
  have hw : c_wsh i x (mq i) (n 5) = m_wishes i (n 5) := c_wsh_m (q := t % 96) (by omega) hP hq (fun j hj => (hr j hj).2.2.1) (n 5) (Nat.le_refl _)
  obtain ⟨J, hJd⟩ : ∃ J, J = m_powers (m_wishes i (n 5)) (n 5) := ⟨_, rfl⟩
  have hg : gR (n 5) (c_k1 n i x (mq i)) J := by
    rw [hJd]; unfold c_k1; rw [hw]; exact c_give_m hb5
  have hJ : ∀ a b, a ≠ 111 → a ≠ 112 → a ≠ 113 → ¬ (a = 1 ∧ b = 24) → J a b = i a b := fun a b e1 e2 e3 e4 => by
    rw [hJd]; exact (m_powers_o e2 e3 e4).trans (m_wishes_o e1 _)
  obtain ⟨A, hAd⟩ : ∃ A, A = m_warmI J (n 5) := ⟨_, rfl⟩
  have hA1 : m_tk1 i (n 5) = A := by rw [hAd, hJd]; rfl
  have hA : ∀ a b, a ≠ 110 → a ≠ 114 → a ≠ 116 → A a b = J a b := fun a b e1 e2 e3 => by rw [hAd]; exact m_warmI_o e1 e2 e3 _
  have hk2 : eG (c_k2 n i x (mq i) t).1 A := by rw [hAd]; exact c_wm_m (s := ((c_k1 n i x (mq i)).1, (c_k1 n i x (mq i)).2.1)) hg.1 (n 5)
  have hu : (c_k1 n i x (mq i)).2.2 = A 1 24 := by rw [hg.2.1, hA 1 24 (by decide) (by decide) (by decide)]
  have hk3 : eT (c_k3I n i x (mq i) t) (m_tk2 A) := c_rec_m hk2 hu
  have hT : ∀ r, r < n 5 → zin (m_t J r) (-400) 450 := fun r hr5 => by
    obtain ⟨⟨q1, q2⟩, -, -, q3, -⟩ := hr r hr5
    exact m_t_zin (by rw [hJ 110 r (by decide) (by decide) (by decide) (by omega)]; exact q3) (by rw [hJ 1 1 (by decide) (by decide) (by decide) (by omega)]; exact hO) (by rw [hJ 102 r (by decide) (by decide) (by decide) (by omega)]; exact q1) (by rw [hJ 103 r (by decide) (by decide) (by decide) (by omega)]; exact q2)
  have hA110 : ∀ r, r < n 5 → A 110 r = m_t J r := fun r hr5 => by rw [hAd, (m_warmI_v (n 5)).1, if_pos hr5]
  have hB : ∀ a b, ¬ (a = 1 ∧ b = 25) → m_tk2 A a b = A a b := fun a b e => zup_n e
  have hBi : ∀ a b, a ≠ 1 → a ≠ 110 → a ≠ 111 → a ≠ 112 → a ≠ 113 → a ≠ 114 → a ≠ 116 → m_tk2 A a b = i a b := fun a b e1 e2 e3 e4 e5 e6 e7 => (hB a b (by omega)).trans ((hA a b e2 e6 e7).trans (hJ a b e3 e4 e5 (by omega)))
  have hk4 : eT (c_k4 n i x y (mq i) t) (m_age (m_tk2 A) (n 7)) := c_ag_m2 (nr := n 5) hk3 hb5 (fun p hp => by
      obtain ⟨w1, w2, w3⟩ := hp9 p hp
      have e132 : c_k3I n i x (mq i) t 132 p = i 132 p := c_k3_o (by decide) (by decide) (by decide) (by decide) (by omega)
      have e131 : c_k3I n i x (mq i) t 131 p = i 131 p := c_k3_o (by decide) (by decide) (by decide) (by decide) (by omega)
      have e128 : c_k3I n i x (mq i) t 128 (cl (i 131 p)) = i 128 (cl (i 131 p)) := c_k3_o (by decide) (by decide) (by decide) (by decide) (by omega)
      rw [e131, e132, e128]
      exact ⟨w3, (hs9 _ w2).1, (hk _ w1.1).2⟩) (fun r hr5 => by
      rw [hk3 110 r (by decide) (by decide), hB 110 r (by omega), hA110 r hr5]
      exact hT r hr5) (n 7) (Nat.le_refl _)
  have hk5 : eT (c_k5 n i x y (mq i) t) (m_tk3 (m_tk2 A) (n 7)) := eT_zup hk4 (by rw [hk4 1 0 (by decide) (by decide)])
  have hD : ∀ a b, a ≠ 133 → ¬ (a = 1 ∧ b = 0) → m_tk3 (m_tk2 A) (n 7) a b = m_tk2 A a b := fun a b e1 e2 => (zup_n e2).trans (m_age_o e1 _)
  have hD0 : m_tk3 (m_tk2 A) (n 7) 1 0 = nI (t + 1) := by
    show zup _ 1 0 _ 1 0 = _
    rw [zup_s, m_age_o (by decide), hB 1 0 (by omega), hA 1 0 (by decide) (by decide) (by decide), hJ 1 0 (by decide) (by decide) (by decide) (by omega), h0, nI_1]
  have hct : ∀ o, o < n 8 → ∃ c, 1 ≤ c ∧ c ≤ 8 ∧ m_tk3 (m_tk2 A) (n 7) 137 o = nI c := fun o ho8 => by
    obtain ⟨⟨c, c1, c2, c3⟩, -⟩ := ho o ho8
    exact ⟨c, c1, c2, by rw [hD 137 o (by decide) (by omega), hBi 137 o (by decide) (by decide) (by decide) (by decide) (by decide) (by decide) (by decide)]; exact c3⟩
  obtain ⟨d1, d2, d3⟩ := c_due_m (x := c_k3X n i x (mq i) t) (np := n 7) hb7 hk5 hct (n 8) (Nat.le_refl _)
  have hTk : c_tick n i x y = c_due (n 7) (c_k5 n i x y (mq i) t, c_k3X n i x (mq i) t, 0) (n 8) := by unfold c_tick; rw [ecl]
  rw [← hTk] at d1 d2 d3
  have hE0 : m_due (m_tk3 (m_tk2 A) (n 7)) (n 7) (n 8) = m_tickI i (n 5) (n 7) (n 8) := by rw [← hA1]; rfl
  have hS0 : m_dueS (m_tk3 (m_tk2 A) (n 7)) (n 7) (n 8) = m_tickS i (n 5) (n 7) (n 8) := by rw [← hA1]; rfl
  have hL0 : m_tickL i lm (n 5) = m_tk2L A (m_warmL J lm (n 5)) := by rw [← hA1, hJd]; rfl
  rw [hE0] at d1
  rw [hS0] at d2
  obtain ⟨E, hEd⟩ : ∃ E, E = m_tickI i (n 5) (n 7) (n 8) := ⟨_, rfl⟩
  have hEi : ∀ a b, (a = 1 ∧ b ≠ 24 ∧ b ≠ 25 ∧ b ≠ 0 ∨ a ≠ 1 ∧ a ≠ 110 ∧ a ≠ 111 ∧ a ≠ 112 ∧ a ≠ 113 ∧ a ≠ 114 ∧ a ≠ 116 ∧ a ≠ 133 ∧ a ≠ 134 ∧ a ≠ 140 ∧ a ≠ 141) → E a b = i a b := fun a b e => by rw [hEd]; exact m_tickI_o e
  have hEA : ∀ a b, a ≠ 133 → a ≠ 134 → a ≠ 140 → a ≠ 141 → ¬ (a = 1 ∧ b = 0) → ¬ (a = 1 ∧ b = 25) → E a b = A a b := fun a b e1 e2 e3 e4 e5 e6 => by
    rw [hEd, ← hE0]
    exact (m_due_o e4 e2 e3 _).trans ((hD a b e1 e5).trans (hB a b e6))
  have hE25 : E 1 25 = if A 1 25 < A 1 24 then A 1 24 else A 1 25 := by
    rw [hEd, ← hE0]
    exact (m_due_o (by decide) (by decide) (by decide) _).trans ((hD 1 25 (by decide) (by omega)).trans zup_s)
  have hE00 : E 1 0 = nI (t + 1) := by
    rw [hEd, ← hE0]
    exact (m_due_o (by decide) (by decide) (by decide) _).trans hD0
  have hE133 : ∀ p, p < n 7 → E 133 p = m_age1 (m_tk2 A) p := fun p hp => by
    rw [hEd, ← hE0]
    refine (m_due_o (by decide) (by decide) (by decide) _).trans ((zup_n (by omega)).trans ?_)
    rw [m_age_v, if_pos hp]
  obtain ⟨X, hXd⟩ : ∃ X, X = (c_tick n i x y).2.1 := ⟨_, rfl⟩
  rw [← hEd, ← hXd]
  rw [← hXd] at d3
  rw [← hEd] at d1
  have hX : ∀ a b, a ≠ 3 → X a b = c_k3X n i x (mq i) t a b := d3.2
  have hXx : ∀ a b, (a ≠ 0 ∧ a ≠ 1 ∧ a ≠ 2 ∧ a ≠ 5 ∧ a ≠ 6) → a < 10 → a ≠ 3 → X a b = x a b := fun a b e e9 e3 => (hX a b e3).trans (c_k3X_x e e9)
  have hsh : ∀ p, (E 134 p = i 134 p ∧ X 3 p = x 3 p) ∨ (i 134 p = 114 ∧ E 134 p = 115 ∧ X 3 p = nI (t + 1)) := fun p => by
    have e1 : c_k5 n i x y (mq i) t 134 p = i 134 p := c_k5_o (by decide) (by decide) (by decide) (by decide) (by decide) (by decide)
    have e2 : c_k3X n i x (mq i) t 3 p = x 3 p := c_k3X_x (by omega) (by omega)
    have e3 : c_k5 n i x y (mq i) t 1 0 = nI (t + 1) := (hk5 1 0 (by decide) (by decide)).trans hD0
    have := d3.1 p
    rw [e1, e2, e3, d1 134 p (by decide) (by decide)] at this
    exact this
  have hwm := fun r => c_wm_v (s := ((c_k1 n i x (mq i)).1, (c_k1 n i x (mq i)).2.1)) (tk := t) (r := r) hg.1 (n 5)
  have hk1x : ∀ a b, a ≠ 0 → (c_k1 n i x (mq i)).2.1 a b = x a b := fun a b e => c_give_x e
  have hX6 : ∀ r, X 6 r = if r < n 5 then x 6 r + m_t J r else x 6 r := fun r => by
    rw [hX 6 r (by decide)]
    rw [c_k3X_e (by omega) (by omega)]
    refine (hwm r).1.trans ?_
    show (if r < n 5 then (c_k1 n i x (mq i)).2.1 6 r + m_t J r else (c_k1 n i x (mq i)).2.1 6 r) = _
    rw [hk1x 6 r (by decide)]
  intro r hr5
  have v116 : E 116 r = i 116 r + 1 := by
    rw [hEA 116 r (by decide) (by decide) (by decide) (by decide) (by omega) (by omega), hAd, (m_warmI_v (n 5)).2.1, if_pos hr5, hJ 116 r (by decide) (by decide) (by decide) (by omega)]
  have v114 : E 114 r = if i 116 r = 0 ∨ ¬ m_t J r ≤ i 114 r then m_t J r else i 114 r := by
    rw [hEA 114 r (by decide) (by decide) (by decide) (by decide) (by omega) (by omega), hAd, (m_warmI_v (n 5)).2.2, if_pos hr5, hJ 116 r (by decide) (by decide) (by decide) (by omega), hJ 114 r (by decide) (by decide) (by decide) (by omega)]
  exact ⟨m_t J r, hT r hr5, by rw [hEA 110 r (by decide) (by decide) (by decide) (by decide) (by omega) (by omega), hA110 r hr5], v116, v114, by rw [hX6, if_pos hr5]⟩
theorem p_0 : (0 : Int32).toInt = 0 := by decide
theorem p_16 : (16 : Int32).toInt = 16 := by decide
theorem p_100 : (100 : Int32).toInt = 100 := by decide
theorem p_400 : (400 : Int32).toInt = 400 := by decide
theorem p_1000 : (1000 : Int32).toInt = 1000 := by decide
theorem m_give1_24 {i : Nat → Nat → Int32} {r : Nat} (h0 : zin (i 104 r) 1 100) (h1 : zin (i 1 23) 0 400) (h2 : zin (i 1 24) 0 400) : zin (m_give1 i r 1 24) 0 400 := by
  show zin (zup _ 1 24 _ 1 24) 0 400
  rw [zup_s]
  have a0 := i_zin h0
  have a1 := i_zin h1
  have a2 := i_zin h2
  rw [n_1, p_100] at a0
  rw [p_0, p_400] at a1 a2
  have hs : (i 1 24 + i 104 r).toInt = (i 1 24).toInt + (i 104 r).toInt := i_add (by omega)
  by_cases c : i 1 23 < i 1 24 + i 104 r
  · rw [if_pos c, Int32.add_zero]; exact h2
  · rw [if_neg c]
    refine i_zin2 ?_
    rw [Int32.lt_iff_toInt_lt] at c
    rw [p_0, p_400]
    omega
theorem m_giveN_24 {nr : Nat} (h4 : nr ≤ 4) : ∀ (m : Nat) (i : Nat → Nat → Int32), (∀ r, r < nr → zin (i 104 r) 1 100) → zin (i 1 23) 0 400 → zin (i 1 24) 0 400 → zin (m_giveN nr m i 1 24) 0 400
  | 0, _, _, _, h2 => h2
  | m + 1, i, h0, h1, h2 => by
    unfold m_giveN
    by_cases c : m_next i nr = -1
    · rw [if_pos c]; exact h2
    · rw [if_neg c]
      obtain ⟨b, b1, b2, -, -⟩ := (m_next_or i nr h4).resolve_left c
      have e : cl (m_next i nr) = b := by rw [b2]; exact nI_clamp (by omega)
      rw [e]
      refine m_giveN_24 h4 m _ (fun r hr => ?_) ?_ (m_give1_24 (h0 b b1) h1 h2)
      · show zin (zup (zup (zup i 113 b 1) 112 b _) 1 24 _ 104 r) 1 100
        rw [zup_n (by omega), zup_n (by omega), zup_n (by omega)]
        exact h0 r hr
      · rw [m_give1_k (by decide)]; exact h1
theorem m_powers_24 {i : Nat → Nat → Int32} {nr : Nat} (h4 : nr ≤ 4) (h0 : ∀ r, r < nr → zin (i 104 r) 1 100) (h1 : zin (i 1 23) 0 400) : zin (m_powers i nr 1 24) 0 400 := by
  have e : ∀ k, m_pwc i k 1 24 = 0 := by
    intro k
    induction k with
    | zero => exact zup_s
    | succ k ih =>
      show zup (zup (m_pwc i k) 113 k 0) 112 k 0 1 24 = 0
      rw [zup_n (by omega), zup_n (by omega)]; exact ih
  refine m_giveN_24 h4 nr _ (fun r hr => ?_) ?_ ?_
  · rw [m_pwc_o (by decide) (by decide) (by omega)]; exact h0 r hr
  · rw [m_pwc_o (by decide) (by decide) (by omega)]; exact h1
  · rw [e]; exact ⟨by decide, by decide⟩
theorem m_tickI_24 {i : Nat → Nat → Int32} {nr np no : Nat} : m_tickI i nr np no 1 24 = m_powers (m_wishes i nr) nr 1 24 := by
  refine (m_due_o (by decide) (by decide) (by decide) _).trans ?_
  show zup (m_age (m_tk2 (m_tk1 i nr)) np) 1 0 (m_age (m_tk2 (m_tk1 i nr)) np 1 0 + 1) 1 24 = _
  rw [zup_n (by omega), m_age_o (by decide)]
  show zup (m_tk1 i nr) 1 25 (if m_tk1 i nr 1 25 < m_tk1 i nr 1 24 then m_tk1 i nr 1 24 else m_tk1 i nr 1 25) 1 24 = _
  rw [zup_n (by omega)]
  exact m_warmI_o (by decide) (by decide) (by decide) _
theorem m_ship_141s {j : Nat → Nat → Int32} {o np : Nat} : ∀ k, m_ship j o np k 141 o = j 133 (cl (m_cand j o np 0))
  | 0 => zup_s
  | k + 1 => (zup_n (by omega)).trans (m_ship_141s k)
/-- the least life that was shipped keeps the promise -/
theorem ships_ok {j : Nat → Nat → Int32} {o np : Nat} (h24 : np ≤ 24) (hc : 0 < m_cntN j o np) : ¬ m_ships j o np 141 o < m_ships j o np 138 o := by
  obtain ⟨p, p1, p2, p3⟩ := m_cand_in h24 hc
  have e : cl (m_cand j o np 0) = p := by rw [p2]; exact nI_clamp (by omega)
  have e1 : m_ships j o np 141 o = j 133 p := by
    show zup (m_ship j o np (cl (j 137 o))) 140 o 115 141 o = _
    rw [zup_n (by omega), m_ship_141s, e]
  rw [e1, m_ships_o (by decide) (by decide) (by decide)]
  exact p3.2.2
theorem due1_ok {j : Nat → Nat → Int32} {np o : Nat} (h24 : np ≤ 24) (hc : ∃ c, 1 ≤ c ∧ c ≤ 8 ∧ j 137 o = nI c) {q : Nat} (h : j 140 q = 115 → ¬ j 141 q < j 138 q) : m_due1 j np o 140 q = 115 → ¬ m_due1 j np o 141 q < m_due1 j np o 138 q := by
  rw [m_due1_o (j := j) (a := 138) (by decide) (by decide) (by decide)]
  by_cases e : q = o
  · subst e
    unfold m_due1
    by_cases c1 : j 140 q = 111 ∧ j 139 q = j 1 0
    · rw [if_pos c1]
      by_cases c2 : m_cnt j q np < j 137 q
      · rw [if_pos c2]
        intro k
        rw [zup_s] at k
        exact absurd k (by decide)
      · rw [if_neg c2]
        intro _
        obtain ⟨c, k1, k2, k3⟩ := hc
        have hp : 0 < m_cntN j q np := by
          rcases Nat.eq_zero_or_pos (m_cntN j q np) with z | z
          · rw [m_cnt_N, z, k3] at c2
            exact absurd (nI_lt (a := 0) (b := c) (by omega) (by omega)) c2
          · exact z
        have := ships_ok h24 hp
        rw [m_ships_o (a := 138) (by decide) (by decide) (by decide)] at this
        exact this
    · rw [if_neg c1]; exact h
  · obtain ⟨e1, e2⟩ := m_due1_off (j := j) (np := np) e
    rw [e1, e2]; exact h
theorem due_ok {j : Nat → Nat → Int32} {np no : Nat} (h24 : np ≤ 24) (hc : ∀ o, o < no → ∃ c, 1 ≤ c ∧ c ≤ 8 ∧ j 137 o = nI c) {q : Nat} (h : j 140 q = 115 → ¬ j 141 q < j 138 q) : ∀ k, k ≤ no → m_due j np k 140 q = 115 → ¬ m_due j np k 141 q < m_due j np k 138 q
  | 0, _ => h
  | k + 1, hk => due1_ok h24 (by rw [m_due_o (by decide) (by decide) (by decide)]; exact hc k (by omega)) (due_ok h24 hc h k (by omega))
theorem tick_xEI {n : Nat → Nat} {i x : Nat → Nat → Int32} {lm : Nat → Nat → Int64} {y : Nat → Nat → Nat} {t : Nat} (h : CI n i x lm y t) (e : xEI n i x) (ht : t < 960) : xEI n (m_tickI i (n 5) (n 7) (n 8)) (c_tick n i x y).2.1 := by
  obtain ⟨g1, g2, g3, g4, g5, g6⟩ := e
  refine ⟨fun r hr => ?_, fun o ho => ?_, ?_⟩
  · obtain ⟨T, hT, v110, v116, v114, v6⟩ := tick_rm h ht r hr
    obtain ⟨k1, k2, k3, k4⟩ := g1 r hr
    obtain ⟨-, -, -, -, ⟨c, c1, c2, c3, c5⟩, -, -⟩ := h.2.2.2.1.1 r hr
    have hTr := i_zin hT
    rw [n_400, n_450] at hTr
    have hsum : (x 6 r + T).toInt = (x 6 r).toInt + T.toInt := i_add (by omega)
    have hc1 : (nI (c + 1)).toInt = (c : Int) + 1 := by rw [nI_toInt (by omega)]; omega
    rw [m_tickI_o (a := 105) (by omega), m_tickI_o (a := 107) (by omega), m_tickI_o (a := 104) (by omega), v110, v116, v114, v6, c2, nI_1]
    refine ⟨k1, k2, k3, Or.inr ?_⟩
    rw [hsum, hc1]
    by_cases z : c = 0
    · subst z
      rw [if_pos (Or.inl nI_0)]
      refine ⟨Int32.le_refl _, ?_⟩
      omega
    · have hne : ¬ nI c = 0 := nI_ne0 (by omega) (by omega)
      obtain ⟨l1, l2⟩ := k4.resolve_left (by rw [c2]; exact hne)
      rw [c2, nI_toInt (by omega)] at l2
      by_cases w : T ≤ i 114 r
      · rw [if_neg (fun q => q.elim hne (fun q => q w))]
        refine ⟨w, ?_⟩
        rw [Int32.le_iff_toInt_le] at w
        rw [Int.add_mul, Int.one_mul]
        omega
      · rw [if_pos (Or.inr w)]
        refine ⟨Int32.le_refl _, ?_⟩
        rw [Int32.le_iff_toInt_le] at w
        have := Int.mul_le_mul_of_nonneg_left (a := (i 114 r).toInt) (b := T.toInt) (c := (c : Int)) (by omega) (by omega)
        rw [Int.add_mul, Int.one_mul]
        omega
  · have hct := fun o ho8 => (h.2.2.2.2.2.2.2.2.2.1.1 o ho8).1
    have hB : ∀ a b, a ≠ 1 → a ≠ 110 → a ≠ 111 → a ≠ 112 → a ≠ 113 → a ≠ 114 → a ≠ 116 → a ≠ 133 → m_tickB i (n 5) (n 7) a b = i a b := fun a b e1 e2 e3 e4 e5 e6 e7 e8 => m_tickB_o (by omega)
    refine due_ok (j := m_tickB i (n 5) (n 7)) (np := n 7) (no := n 8) h.1.2.1.2.2.1 (fun o ho8 => ?_) ?_ (n 8) (Nat.le_refl _)
    · rw [hB 137 o (by decide) (by decide) (by decide) (by decide) (by decide) (by decide) (by decide) (by decide)]; exact hct o ho8
    · rw [hB 140 o (by decide) (by decide) (by decide) (by decide) (by decide) (by decide) (by decide) (by decide), hB 141 o (by decide) (by decide) (by decide) (by decide) (by decide) (by decide) (by decide) (by decide), hB 138 o (by decide) (by decide) (by decide) (by decide) (by decide) (by decide) (by decide) (by decide)]
      exact g2 o ho
  · rw [m_tickI_o (a := 1) (b := 18) (by omega), m_tickI_o (a := 1) (b := 22) (by omega), m_tickI_o (a := 1) (b := 23) (by omega), m_tickI_24]
    refine ⟨g3, g4, g5, m_powers_24 h.1.2.1.1 (fun r hr => ?_) ?_⟩
    · rw [m_wishes_o (by decide)]; exact (g1 r hr).2.2.1
    · rw [m_wishes_o (by decide)]; exact g5
theorem pass_xEI {n : Nat → Nat} {i x : Nat → Nat → Int32} {lm : Nat → Nat → Int64} {y : Nat → Nat → Nat} {t : Nat} (h : CI n i x lm y t) (e : xEI n i x) : ∀ k, t + k ≤ 960 → xEI n (m_tkI (n 5) (n 7) (n 8) i k) (c_px n y i x k)
  | 0, _ => e
  | k + 1, hk => tick_xEI (pass_CI h k (by omega)) (pass_xEI h e k (by omega)) (by omega)
def xSI (n : Nat → Nat) (i x : Nat → Nat → Int32) (lm : Nat → Nat → Int64) (y : Nat → Nat → Nat) (t : Nat) : Prop := CI n i x lm y t ∧ xEI n i x
/-- a new state behind a call: dr rooms, dk kinds, dn orders more, the time tm, the promises pr -/
def xgO (n : Nat → Nat) (ol : Int64) (od : UInt64) (dr dk dn : Nat) (tm : Int32) (pr : Nat → Int32) (Z : (Nat → Nat) → (Nat → Nat → Int32) → Prop) (M1 : zMem) : Prop :=
  ∃ (n' : Nat → Nat) (i' x' : Nat → Nat → Int32) (lm' : Nat → Nat → Int64) (y' : Nat → Nat → Nat) (t' : Nat), M1 = cmm n' i' x' lm' y' ol od ∧ xSI n' i' x' lm' y' t' ∧ (n' 5 = n 5 + dr ∧ n' 6 = n 6 + dk ∧ n' 8 = n 8 + dn ∧ i' 1 0 = tm) ∧ (∀ o, o < n' 8 → i' 138 o = pr o) ∧ Z n' i'
def xZT (_ : Nat → Nat) (_ : Nat → Nat → Int32) : Prop := True
theorem xgO_m {n n' : Nat → Nat} {ic i' x' : Nat → Nat → Int32} {lc lm' : Nat → Nat → Int64} {y' : Nat → Nat → Nat} {t' : Nat} {ol : Int64} {od : UInt64} {dr dk dn : Nat} {tm : Int32} {pr : Nat → Int32} {Z : (Nat → Nat) → (Nat → Nat → Int32) → Prop} (he : eV ic i') (hl : lc 1 26 = lm' 1 26) (hc : CI n' i' x' lm' y' t') (hx : xEI n' i' x')
    (hn : n' 5 = n 5 + dr ∧ n' 6 = n 6 + dk ∧ n' 8 = n 8 + dn ∧ i' 1 0 = tm) (hp : ∀ o, o < n' 8 → i' 138 o = pr o) (hZ : Z n' i') : xgO n ol od dr dk dn tm pr Z (cmm n' ic x' lc y' ol od) :=
  ⟨n', i', x', lm', y', t', cmm_eV he hl, ⟨hc, hx⟩, hn, hp, hZ⟩
theorem xi_p {c A B : Prop} [Decidable c] (h : c) (k : A) : if c then A else B := by rw [if_pos h]; exact k
theorem xi_n {c A B : Prop} [Decidable c] (h : ¬ c) (k : B) : if c then A else B := by rw [if_neg h]; exact k
