/-! PART 83: a tick keeps what holds between the calls -/
theorem m_wishes_hi {i : Nat → Nat → Int32} {r : Nat} : ∀ k, k ≤ r → m_wishes i k 111 r = i 111 r
  | 0, _ => rfl
  | k + 1, h => by
    show zup (m_wishes i k) 111 k (m_want (m_wishes i k) k) 111 r = _
    rw [zup_n (by omega)]
    exact m_wishes_hi k (by omega)
theorem m_pwc_112 {i : Nat → Nat → Int32} {r nr : Nat} : ∀ k, k ≤ nr → (r < nr ∧ (m_pwc i k 112 r = 0 ∨ m_pwc i k 112 r = 1)) ∨ m_pwc i k 112 r = i 112 r
  | 0, _ => Or.inr (zup_n (by omega))
  | k + 1, h => by
    show (r < nr ∧ (zup (zup (m_pwc i k) 113 k 0) 112 k 0 112 r = 0 ∨ zup (zup (m_pwc i k) 113 k 0) 112 k 0 112 r = 1)) ∨ zup (zup (m_pwc i k) 113 k 0) 112 k 0 112 r = i 112 r
    by_cases e : r = k
    · rw [e, zup_s]
      exact Or.inl ⟨by omega, Or.inl rfl⟩
    · rw [show zup (zup (m_pwc i k) 113 k 0) 112 k 0 112 r = m_pwc i k 112 r by rw [zup_n (by omega), zup_n (by omega)]]
      exact m_pwc_112 k (by omega)
theorem m_pow_112 {i : Nat → Nat → Int32} {r nr : Nat} (h4 : nr ≤ 4) : (r < nr ∧ (m_powers i nr 112 r = 0 ∨ m_powers i nr 112 r = 1)) ∨ m_powers i nr 112 r = i 112 r := by
  have : ∀ m, (r < nr ∧ (m_giveN nr m (m_pwc i nr) 112 r = 0 ∨ m_giveN nr m (m_pwc i nr) 112 r = 1)) ∨ m_giveN nr m (m_pwc i nr) 112 r = i 112 r := by
    intro m
    induction m with
    | zero => exact m_pwc_112 nr (Nat.le_refl _)
    | succ m ih =>
      rw [m_giveN_s]
      obtain ⟨j, hj⟩ : ∃ j, j = m_giveN nr m (m_pwc i nr) := ⟨_, rfl⟩
      rw [← hj] at ih ⊢
      unfold m_gst
      by_cases c : m_next j nr = -1
      · rw [if_pos c]; exact ih
      · rw [if_neg c]
        obtain ⟨b, hb, e, -⟩ := (m_next_or j nr h4).resolve_left c
        rw [show cl (m_next j nr) = b by rw [e]; exact nI_clamp (by omega)]
        have hv : m_give1 j b 112 r = if r = b then (if j 1 23 < j 1 24 + j 104 b then 0 else 1) else j 112 r := by
          unfold m_give1
          rw [zup_n (by omega)]
          by_cases d : r = b
          · rw [if_pos d, d, zup_s]
          · rw [if_neg d, zup_n (by omega), zup_n (by omega)]
        rw [hv]
        by_cases d : r = b
        · rw [if_pos d]
          refine Or.inl ⟨by omega, ?_⟩
          split
          · exact Or.inl rfl
          · exact Or.inr rfl
        · rw [if_neg d]; exact ih
  exact this nr
theorem m_age_v {j : Nat → Nat → Int32} {p : Nat} : ∀ k, m_age j k 133 p = if p < k then m_age1 j p else j 133 p
  | 0 => (if_neg (Nat.not_lt_zero _)).symm
  | k + 1 => by
    have ih := m_age_v (j := j) (p := p) k
    show zup (m_age j k) 133 k (m_age1 (m_age j k) k) 133 p = _
    by_cases e : p = k
    · subst e
      rw [if_neg (Nat.lt_irrefl _)] at ih
      rw [zup_s, if_pos (Nat.lt_succ_self _)]
      have hl : ∀ d, m_loss (m_age j p) p d = m_loss j p d := fun d => by
        unfold m_loss
        rw [m_age_o (by decide) p, m_age_o (by decide) p, m_age_o (by decide) p]
      unfold m_age1
      rw [ih, hl, m_age_o (by decide) p, m_age_o (by decide) p, m_age_o (by decide) p]
    · rw [zup_n (by omega), ih]
      by_cases c : p < k
      · rw [if_pos c, if_pos (by omega)]
      · rw [if_neg c, if_neg (by omega)]
theorem m_ship_141 {j : Nat → Nat → Int32} {np o q : Nat} (h : ¬ q = o) : ∀ k, m_ship j o np k 141 q = j 141 q
  | 0 => zup_n (by omega)
  | k + 1 => (zup_n (by omega)).trans (m_ship_141 h k)
theorem m_due1_off {j : Nat → Nat → Int32} {np o q : Nat} (h : ¬ q = o) : m_due1 j np o 140 q = j 140 q ∧ m_due1 j np o 141 q = j 141 q := by
  unfold m_due1
  split
  · split
    · exact ⟨zup_n (by omega), zup_n (by omega)⟩
    · unfold m_ships
      exact ⟨(zup_n (by omega)).trans (m_ship_o (by decide) (by decide) _), (zup_n (by omega)).trans (m_ship_141 h _)⟩
  · exact ⟨rfl, rfl⟩
theorem m_due_v {j : Nat → Nat → Int32} {np o : Nat} : ∀ k, (m_due j np k 140 o = j 140 o ∨ m_due j np k 140 o = 115 ∨ m_due j np k 140 o = 109) ∧ (k ≤ o → m_due j np k 140 o = j 140 o ∧ m_due j np k 141 o = j 141 o) ∧ (o < k → m_due j np k 140 o = 111 → j 140 o = 111 ∧ ¬ j 139 o = j 1 0)
  | 0 => ⟨Or.inl rfl, fun _ => ⟨rfl, rfl⟩, fun h => absurd h (Nat.not_lt_zero _)⟩
  | k + 1 => by
    obtain ⟨h1, h2, h3⟩ := m_due_v (j := j) (np := np) (o := o) k
    show (m_due1 (m_due j np k) np k 140 o = j 140 o ∨ m_due1 (m_due j np k) np k 140 o = 115 ∨ m_due1 (m_due j np k) np k 140 o = 109) ∧ (k + 1 ≤ o → m_due1 (m_due j np k) np k 140 o = j 140 o ∧ m_due1 (m_due j np k) np k 141 o = j 141 o) ∧ (o < k + 1 → m_due1 (m_due j np k) np k 140 o = 111 → j 140 o = 111 ∧ ¬ j 139 o = j 1 0)
    by_cases e : o = k
    · subst e
      have e139 : m_due j np o 139 o = j 139 o := m_due_o (by decide) (by decide) (by decide) o
      have e10 : m_due j np o 1 0 = j 1 0 := m_due_o (by decide) (by decide) (by decide) o
      have e140 := (h2 (Nat.le_refl _)).1
      unfold m_due1
      rw [e139, e10, e140]
      by_cases cA : j 140 o = 111 ∧ j 139 o = j 1 0
      · rw [if_pos cA]
        split
        · rw [zup_s]
          exact ⟨Or.inr (Or.inr rfl), fun h => absurd h (by omega), fun _ h => absurd h (by decide)⟩
        · have e : m_ships (m_due j np o) o np 140 o = 115 := zup_s
          rw [e]
          exact ⟨Or.inr (Or.inl rfl), fun h => absurd h (by omega), fun _ h => absurd h (by decide)⟩
      · rw [if_neg cA, e140]
        exact ⟨Or.inl rfl, fun h => absurd h (by omega), fun _ h => ⟨h, fun e => cA ⟨h, e⟩⟩⟩
    · rw [(m_due1_off e).1, (m_due1_off e).2]
      exact ⟨h1, fun h => h2 (by omega), fun h => h3 (by omega)⟩
theorem eT_zup {i j : Nat → Nat → Int32} {a b : Nat} {v w : Int32} (h : eT i j) (e : v = w) : eT (zup i a b v) (zup j a b w) := by
  intro p q hp hq
  subst e
  by_cases c : p = a ∧ q = b
  · rw [c.1, c.2, zup_s, zup_s]
  · rw [zup_n c, zup_n c]; exact h p q hp hq
theorem c_ag_m2 {i j : Nat → Nat → Int32} {y : Nat → Nat → Nat} {np nr : Nat} (h : eT i j) (h4 : nr ≤ 4) (hr : ∀ p, p < np → i 132 p = nI (y 1 (y 0 p)) ∧ y 1 (y 0 p) < nr ∧ zin (i 128 (cl (i 131 p))) (-300) 300) (ht : ∀ r, r < nr → zin (i 110 r) (-400) 450) : ∀ k, k ≤ np → eT (c_ag i y k) (m_age j k)
  | 0, _ => h
  | k + 1, hk => by
    have ih := c_ag_m2 h h4 hr ht k (by omega)
    have ha1 : ∀ {a b}, a ≠ 133 → c_ag i y k a b = i a b := fun e => c_ag_o e k
    obtain ⟨r1, r2, r3⟩ := hr k (by omega)
    have hcl : cl (m_age j k 132 k) = y 1 (y 0 k) := by
      rw [← ih 132 k (by decide) (by decide), ha1 (by decide), r1]
      exact nI_clamp (by omega)
    have hl : c_loss (c_ag i y k) (cl (c_ag i y k 131 k)) (c_ag i y k 110 (y 1 (y 0 k))) = m_loss (m_age j k) k (m_age j k 110 (y 1 (y 0 k))) := by
      rw [c_loss_m (by rw [ha1 (by decide)]; exact ht _ r2) (by rw [ha1 (by decide), ha1 (by decide)]; exact r3)]
      unfold m_loss
      rw [ih 129 _ (by decide) (by decide), ih 128 _ (by decide) (by decide), ih 131 k (by decide) (by decide), ih 110 _ (by decide) (by decide)]
    have e : c_age1 (c_ag i y k) y k = m_age1 (m_age j k) k := by
      unfold c_age1 m_age1
      rw [hl, hcl, ih 134 k (by decide) (by decide), ih 133 k (by decide) (by decide)]
    exact eT_zup ih e
theorem i_l {a b : Int32} (h : -1000000000 ≤ a.toInt + b.toInt ∧ a.toInt + b.toInt ≤ 1000000000) : (a + b).toInt64 = a.toInt64 + b.toInt64 := by
  refine Int64.toInt_inj.mp ?_
  rw [Int32.toInt_toInt64, Int64.toInt_add, Int32.toInt_toInt64, Int32.toInt_toInt64, i_add h]
  exact (Int.bmod_eq_of_le (by omega) (by omega)).symm
theorem c_rc_eq {x x' : Nat → Nat → Int32} : ∀ t, (∀ k, k < t → x' 1 k = x 1 k ∧ x' 2 k = x 2 k) → c_rc x' t = c_rc x t ∧ c_rg x' t = c_rg x t
  | 0, _ => ⟨rfl, rfl⟩
  | t + 1, h => by
    obtain ⟨h1, h2⟩ := c_rc_eq t (fun k hk => h k (by omega))
    obtain ⟨h3, h4⟩ := h t (by omega)
    show (c_rc x' t + (x' 1 t).toInt64 * (x' 2 t).toInt64 = c_rc x t + (x 1 t).toInt64 * (x 2 t).toInt64) ∧ ((if c_rg x' t < x' 1 t then x' 1 t else c_rg x' t) = if c_rg x t < x 1 t then x 1 t else c_rg x t)
    rw [h1, h2, h3, h4]
    exact ⟨rfl, rfl⟩
theorem c_k3X_x {n : Nat → Nat} {i x : Nat → Nat → Int32} {q : Int32} {tk a b : Nat} (h : a ≠ 0 ∧ a ≠ 1 ∧ a ≠ 2 ∧ a ≠ 5 ∧ a ≠ 6) (h9 : a < 10) : c_k3X n i x q tk a b = x a b := by
  unfold c_k3X c_recX
  rw [zup_n (by omega), zup_n (by omega)]
  exact (c_wm_x (by omega) (by omega) h9 _).trans (c_give_x (by omega))
theorem c_k3X_e {n : Nat → Nat} {i x : Nat → Nat → Int32} {q : Int32} {tk a b : Nat} (h1 : a ≠ 1) (h2 : a ≠ 2) : c_k3X n i x q tk a b = (c_k2 n i x q tk).2 a b := by
  unfold c_k3X c_recX
  rw [zup_n (by omega), zup_n (by omega)]
theorem c_k3X_1 {n : Nat → Nat} {i x : Nat → Nat → Int32} {q : Int32} {tk b : Nat} : c_k3X n i x q tk 1 b = (if b = tk then (c_k1 n i x q).2.2 else x 1 b) ∧ c_k3X n i x q tk 2 b = (if b = tk then c_pr (c_k2 n i x q tk).1 (c_k2 n i x q tk).2 q else x 2 b) := by
  unfold c_k3X c_recX
  constructor
  · rw [zup_n (by omega)]
    by_cases e : b = tk
    · rw [if_pos e, e, zup_s]
    · rw [if_neg e, zup_n (by omega)]
      exact (c_wm_x (by omega) (by omega) (by omega) _).trans (c_give_x (by omega))
  · by_cases e : b = tk
    · rw [if_pos e, e, zup_s]
    · rw [if_neg e, zup_n (by omega), zup_n (by omega)]
      exact (c_wm_x (by omega) (by omega) (by omega) _).trans (c_give_x (by omega))
set_option maxHeartbeats 2000000 in
theorem tick_CI {n : Nat → Nat} {i x : Nat → Nat → Int32} {lm : Nat → Nat → Int64} {y : Nat → Nat → Nat} {t : Nat} (h : CI n i x lm y t) (ht : t < 960) :
    CI n (m_tickI i (n 5) (n 7) (n 8)) (c_tick n i x y).2.1 (m_tickL i lm (n 5)) y (t + 1) ∧ eT (c_tick n i x y).1 (m_tickI i (n 5) (n 7) (n 8)) ∧ (c_tick n i x y).2.2 = m_tickS i (n 5) (n 7) (n 8) ∧ c_k3L n i x lm (mq i) t 1 26 = m_tickL i lm (n 5) 1 26 := by
  obtain ⟨hW, ⟨h0, h960, g17, g30, g35, g42, hO, hP⟩, ⟨b111, b112, n109, n134, n140⟩, ⟨hr, hf⟩, hk, hl, hs, hx, ⟨m1, m2, m3⟩, ⟨ho, hof⟩, hfl⟩ := h
  obtain ⟨hn, ⟨hb5, hb6, hb7, hb8⟩, hp9, hs9, ho9⟩ := id hW
  have hq : mq i = nI (t % 96) := mq_nat h960 h0
  have ecl : cl (i 1 0) = t := by rw [h0]; exact nI_clamp (by omega)
  have hw : c_wsh i x (mq i) (n 5) = m_wishes i (n 5) := c_wsh_m (q := t % 96) (by omega) hP hq (fun j hj => (hr j hj).2.2.1) (n 5) (Nat.le_refl _)
  obtain ⟨J, hJd⟩ : ∃ J, J = m_powers (m_wishes i (n 5)) (n 5) := ⟨_, rfl⟩
  have hg : gR (n 5) (c_k1 n i x (mq i)) J := by
    rw [hJd]; unfold c_k1; rw [hw]; exact c_give_m hb5
  have hJ : ∀ a b, a ≠ 111 → a ≠ 112 → a ≠ 113 → ¬ (a = 1 ∧ b = 24) → J a b = i a b := fun a b e1 e2 e3 e4 => by
    rw [hJd]; exact (m_powers_o e2 e3 e4).trans (m_wishes_o e1 _)
  obtain ⟨A, hAd⟩ : ∃ A, A = m_warmI J (n 5) := ⟨_, rfl⟩
  have hA1 : m_tk1 i (n 5) = A := by rw [hAd, hJd]; rfl
  have hA : ∀ a b, a ≠ 110 → a ≠ 114 → a ≠ 116 → A a b = J a b := fun a b e1 e2 e3 => by rw [hAd]; exact m_warmI_o e1 e2 e3 _
  have hk2 : eG (c_k2 n i x (mq i) t).1 A := by rw [hAd]; exact c_wm_m (s := ((c_k1 n i x (mq i)).1, (c_k1 n i x (mq i)).2.1)) hg.1 (n 5)
  have hu : (c_k1 n i x (mq i)).2.2 = A 1 24 := by rw [hg.2.1, hA 1 24 (by decide) (by decide) (by decide)]
  have hk3 : eT (c_k3I n i x (mq i) t) (m_tk2 A) := c_rec_m hk2 hu
  have hT : ∀ r, r < n 5 → zin (m_t J r) (-400) 450 := fun r hr5 => by
    obtain ⟨⟨q1, q2⟩, -, -, q3, -⟩ := hr r hr5
    exact m_t_zin (by rw [hJ 110 r (by decide) (by decide) (by decide) (by omega)]; exact q3) (by rw [hJ 1 1 (by decide) (by decide) (by decide) (by omega)]; exact hO) (by rw [hJ 102 r (by decide) (by decide) (by decide) (by omega)]; exact q1) (by rw [hJ 103 r (by decide) (by decide) (by decide) (by omega)]; exact q2)
  have hA110 : ∀ r, r < n 5 → A 110 r = m_t J r := fun r hr5 => by rw [hAd, (m_warmI_v (n 5)).1, if_pos hr5]
  have hB : ∀ a b, ¬ (a = 1 ∧ b = 25) → m_tk2 A a b = A a b := fun a b e => zup_n e
  have hBi : ∀ a b, a ≠ 1 → a ≠ 110 → a ≠ 111 → a ≠ 112 → a ≠ 113 → a ≠ 114 → a ≠ 116 → m_tk2 A a b = i a b := fun a b e1 e2 e3 e4 e5 e6 e7 => (hB a b (by omega)).trans ((hA a b e2 e6 e7).trans (hJ a b e3 e4 e5 (by omega)))
  have hk4 : eT (c_k4 n i x y (mq i) t) (m_age (m_tk2 A) (n 7)) := c_ag_m2 (nr := n 5) hk3 hb5 (fun p hp => by
      obtain ⟨w1, w2, w3⟩ := hp9 p hp
      have e132 : c_k3I n i x (mq i) t 132 p = i 132 p := c_k3_o (by decide) (by decide) (by decide) (by decide) (by omega)
      have e131 : c_k3I n i x (mq i) t 131 p = i 131 p := c_k3_o (by decide) (by decide) (by decide) (by decide) (by omega)
      have e128 : c_k3I n i x (mq i) t 128 (cl (i 131 p)) = i 128 (cl (i 131 p)) := c_k3_o (by decide) (by decide) (by decide) (by decide) (by omega)
      rw [e131, e132, e128]
      exact ⟨w3, (hs9 _ w2).1, (hk _ w1.1).2⟩) (fun r hr5 => by
      rw [hk3 110 r (by decide) (by decide), hB 110 r (by omega), hA110 r hr5]
      exact hT r hr5) (n 7) (Nat.le_refl _)
  have hk5 : eT (c_k5 n i x y (mq i) t) (m_tk3 (m_tk2 A) (n 7)) := eT_zup hk4 (by rw [hk4 1 0 (by decide) (by decide)])
  have hD : ∀ a b, a ≠ 133 → ¬ (a = 1 ∧ b = 0) → m_tk3 (m_tk2 A) (n 7) a b = m_tk2 A a b := fun a b e1 e2 => (zup_n e2).trans (m_age_o e1 _)
  have hD0 : m_tk3 (m_tk2 A) (n 7) 1 0 = nI (t + 1) := by
    show zup _ 1 0 _ 1 0 = _
    rw [zup_s, m_age_o (by decide), hB 1 0 (by omega), hA 1 0 (by decide) (by decide) (by decide), hJ 1 0 (by decide) (by decide) (by decide) (by omega), h0, nI_1]
  have hct : ∀ o, o < n 8 → ∃ c, 1 ≤ c ∧ c ≤ 8 ∧ m_tk3 (m_tk2 A) (n 7) 137 o = nI c := fun o ho8 => by
    obtain ⟨⟨c, c1, c2, c3⟩, -⟩ := ho o ho8
    exact ⟨c, c1, c2, by rw [hD 137 o (by decide) (by omega), hBi 137 o (by decide) (by decide) (by decide) (by decide) (by decide) (by decide) (by decide)]; exact c3⟩
  obtain ⟨d1, d2, d3⟩ := c_due_m (x := c_k3X n i x (mq i) t) (np := n 7) hb7 hk5 hct (n 8) (Nat.le_refl _)
  have hTk : c_tick n i x y = c_due (n 7) (c_k5 n i x y (mq i) t, c_k3X n i x (mq i) t, 0) (n 8) := by unfold c_tick; rw [ecl]
  rw [← hTk] at d1 d2 d3
  have hE0 : m_due (m_tk3 (m_tk2 A) (n 7)) (n 7) (n 8) = m_tickI i (n 5) (n 7) (n 8) := by rw [← hA1]; rfl
  have hS0 : m_dueS (m_tk3 (m_tk2 A) (n 7)) (n 7) (n 8) = m_tickS i (n 5) (n 7) (n 8) := by rw [← hA1]; rfl
  have hL0 : m_tickL i lm (n 5) = m_tk2L A (m_warmL J lm (n 5)) := by rw [← hA1, hJd]; rfl
  rw [hE0] at d1
  rw [hS0] at d2
  obtain ⟨E, hEd⟩ : ∃ E, E = m_tickI i (n 5) (n 7) (n 8) := ⟨_, rfl⟩
  have hEi : ∀ a b, (a = 1 ∧ b ≠ 24 ∧ b ≠ 25 ∧ b ≠ 0 ∨ a ≠ 1 ∧ a ≠ 110 ∧ a ≠ 111 ∧ a ≠ 112 ∧ a ≠ 113 ∧ a ≠ 114 ∧ a ≠ 116 ∧ a ≠ 133 ∧ a ≠ 134 ∧ a ≠ 140 ∧ a ≠ 141) → E a b = i a b := fun a b e => by rw [hEd]; exact m_tickI_o e
  have hEA : ∀ a b, a ≠ 133 → a ≠ 134 → a ≠ 140 → a ≠ 141 → ¬ (a = 1 ∧ b = 0) → ¬ (a = 1 ∧ b = 25) → E a b = A a b := fun a b e1 e2 e3 e4 e5 e6 => by
    rw [hEd, ← hE0]
    exact (m_due_o e4 e2 e3 _).trans ((hD a b e1 e5).trans (hB a b e6))
  have hE25 : E 1 25 = if A 1 25 < A 1 24 then A 1 24 else A 1 25 := by
    rw [hEd, ← hE0]
    exact (m_due_o (by decide) (by decide) (by decide) _).trans ((hD 1 25 (by decide) (by omega)).trans zup_s)
  have hE00 : E 1 0 = nI (t + 1) := by
    rw [hEd, ← hE0]
    exact (m_due_o (by decide) (by decide) (by decide) _).trans hD0
  have hE133 : ∀ p, p < n 7 → E 133 p = m_age1 (m_tk2 A) p := fun p hp => by
    rw [hEd, ← hE0]
    refine (m_due_o (by decide) (by decide) (by decide) _).trans ((zup_n (by omega)).trans ?_)
    rw [m_age_v, if_pos hp]
  obtain ⟨X, hXd⟩ : ∃ X, X = (c_tick n i x y).2.1 := ⟨_, rfl⟩
  rw [← hEd, ← hXd]
  rw [← hXd] at d3
  rw [← hEd] at d1
  have hX : ∀ a b, a ≠ 3 → X a b = c_k3X n i x (mq i) t a b := d3.2
  have hXx : ∀ a b, (a ≠ 0 ∧ a ≠ 1 ∧ a ≠ 2 ∧ a ≠ 5 ∧ a ≠ 6) → a < 10 → a ≠ 3 → X a b = x a b := fun a b e e9 e3 => (hX a b e3).trans (c_k3X_x e e9)
  have hsh : ∀ p, (E 134 p = i 134 p ∧ X 3 p = x 3 p) ∨ (i 134 p = 114 ∧ E 134 p = 115 ∧ X 3 p = nI (t + 1)) := fun p => by
    have e1 : c_k5 n i x y (mq i) t 134 p = i 134 p := c_k5_o (by decide) (by decide) (by decide) (by decide) (by decide) (by decide)
    have e2 : c_k3X n i x (mq i) t 3 p = x 3 p := c_k3X_x (by omega) (by omega)
    have e3 : c_k5 n i x y (mq i) t 1 0 = nI (t + 1) := (hk5 1 0 (by decide) (by decide)).trans hD0
    have := d3.1 p
    rw [e1, e2, e3, d1 134 p (by decide) (by decide)] at this
    exact this
  have hwm := fun r => c_wm_v (s := ((c_k1 n i x (mq i)).1, (c_k1 n i x (mq i)).2.1)) (tk := t) (r := r) hg.1 (n 5)
  have hk1x : ∀ a b, a ≠ 0 → (c_k1 n i x (mq i)).2.1 a b = x a b := fun a b e => c_give_x e
  have hX6 : ∀ r, X 6 r = if r < n 5 then x 6 r + m_t J r else x 6 r := fun r => by
    rw [hX 6 r (by decide)]
    rw [c_k3X_e (by omega) (by omega)]
    refine (hwm r).1.trans ?_
    show (if r < n 5 then (c_k1 n i x (mq i)).2.1 6 r + m_t J r else (c_k1 n i x (mq i)).2.1 6 r) = _
    rw [hk1x 6 r (by decide)]
  have hX5 : ∀ r, X 5 r = if r < n 5 then (if x 5 r < m_t J r then m_t J r else x 5 r) else x 5 r := fun r => by
    rw [hX 5 r (by decide)]
    rw [c_k3X_e (by omega) (by omega)]
    refine (hwm r).2.1.trans ?_
    show (if r < n 5 then (if (c_k1 n i x (mq i)).2.1 5 r < m_t J r then m_t J r else (c_k1 n i x (mq i)).2.1 5 r) else (c_k1 n i x (mq i)).2.1 5 r) = _
    rw [hk1x 5 r (by decide)]
  have hX10 : ∀ r q, X (10 + r) q = if r < n 5 ∧ q = t then m_t J r else x (10 + r) q := fun r q => by
    rw [hX (10 + r) q (by omega)]
    rw [c_k3X_e (by omega) (by omega)]
    refine ((hwm r).2.2 q).trans ?_
    show (if r < n 5 ∧ q = t then m_t J r else (c_k1 n i x (mq i)).2.1 (10 + r) q) = _
    rw [hk1x (10 + r) q (by omega)]
  have hX1 : ∀ b, X 1 b = (if b = t then A 1 24 else x 1 b) := fun b => by rw [hX 1 b (by decide), c_k3X_1.1, hu]
  have hpr : c_pr (c_k2 n i x (mq i) t).1 (c_k2 n i x (mq i) t).2 (mq i) = if mPeak (m_tk2 A) then A 1 19 else A 1 18 := by
    have e21 : (c_k2 n i x (mq i) t).1 1 21 = i 1 21 := c_k2_o (by decide) (by decide) (by decide) (by decide)
    have e19 : (c_k2 n i x (mq i) t).1 1 19 = A 1 19 := hk2 1 19 (by decide) (by decide) (by omega)
    have e18 : (c_k2 n i x (mq i) t).1 1 18 = A 1 18 := hk2 1 18 (by decide) (by decide) (by omega)
    have e70 : (c_k2 n i x (mq i) t).2 7 0 = x 7 0 := (c_wm_x (by omega) (by omega) (by omega) _).trans (c_give_x (by omega))
    have eB : ∀ b, b ≠ 24 → b ≠ 25 → m_tk2 A 1 b = i 1 b := fun b f1 f2 => (hB 1 b (by omega)).trans ((hA 1 b (by decide) (by decide) (by decide)).trans (hJ 1 b (by decide) (by decide) (by decide) (by omega)))
    have hpk : c_peak (c_k2 n i x (mq i) t).1 (c_k2 n i x (mq i) t).2 (mq i) ↔ mPeak (m_tk2 A) := by
      have e1 : mPeak (m_tk2 A) ↔ mPeak i := by
        unfold mPeak mq
        rw [eB 20 (by decide) (by decide), eB 21 (by decide) (by decide), eB 0 (by decide) (by decide)]
      have e2 : c_peak (c_k2 n i x (mq i) t).1 (c_k2 n i x (mq i) t).2 (mq i) ↔ c_peak i x (mq i) := by
        unfold c_peak
        rw [e21, e70]
      exact e2.trans ((c_peak_m (q := t % 96) (by omega) hP hq).trans e1.symm)
    unfold c_pr
    rw [e19, e18]
    by_cases c : mPeak (m_tk2 A)
    · rw [if_pos c, if_pos (hpk.mpr c)]
    · rw [if_neg c, if_neg (fun e => c (hpk.mp e))]
  have hX2 : ∀ b, X 2 b = (if b = t then (if mPeak (m_tk2 A) then A 1 19 else A 1 18) else x 2 b) := fun b => by rw [hX 2 b (by decide), c_k3X_1.2, hpr]
  have hrc := c_rc_eq (x := x) (x' := X) t (fun k hk9 => by rw [hX1, hX2, if_neg (by omega), if_neg (by omega)]; exact ⟨rfl, rfl⟩)
  have hA25 : A 1 25 = i 1 25 := (hA 1 25 (by decide) (by decide) (by decide)).trans (hJ 1 25 (by decide) (by decide) (by decide) (by omega))
  have hls : ∀ k d, c_ls E k d = c_ls i k d := fun k d => by unfold c_ls; rw [hEi 129 k (by omega), hEi 128 k (by omega)]
  have hX4 : ∀ s, X 4 s = x 4 s := fun s => hXx 4 s (by omega) (by omega) (by omega)
  have hL26 : m_tickL i lm (n 5) 1 26 = lm 1 26 + (A 1 24).toInt64 * (if mPeak (m_tk2 A) then A 1 19 else A 1 18).toInt64 := by
    rw [hL0]
    show zup (m_warmL J lm (n 5)) 1 26 (m_warmL J lm (n 5) 1 26 + _) 1 26 = _
    rw [zup_s, m_warmL_o (by decide)]
  refine ⟨⟨?_, ⟨hE00, by omega, ?_, ?_, ?_, ?_, ?_, ?_⟩, ⟨?_, ?_, ?_, ?_, ?_⟩, ⟨?_, ?_⟩, ?_, ?_, ?_, ?_, ⟨?_, ?_, ?_⟩, ⟨?_, ?_⟩, ?_⟩, d1, d2, ?_⟩
  · exact hW.of (fun b => ⟨hEi 131 b (by omega), hEi 132 b (by omega), hEi 136 b (by omega)⟩)
  · rw [hEi 1 17 (by omega)]; exact g17
  · rw [hEi 1 30 (by omega)]; exact g30
  · rw [hEi 1 35 (by omega)]; exact g35
  · rw [hEi 1 42 (by omega)]; exact g42
  · rw [hEi 1 1 (by omega)]; exact hO
  · unfold cP
    rw [hEi 1 20 (by omega), hEi 1 21 (by omega), hXx 7 0 (by omega) (by omega) (by omega)]
    exact hP
  · intro j
    rw [hEA 111 j (by decide) (by decide) (by decide) (by decide) (by omega) (by omega), hA 111 j (by decide) (by decide) (by decide), hJd, m_powers_o (by decide) (by decide) (by omega), ← hw]
    exact c_wsh_b b111 _ j
  · intro j
    rw [hEA 112 j (by decide) (by decide) (by decide) (by decide) (by omega) (by omega), hA 112 j (by decide) (by decide) (by decide), hJd]
    rcases m_pow_112 (i := m_wishes i (n 5)) (r := j) hb5 with e | e
    · exact e.2
    · rw [e, m_wishes_o (by decide)]; exact b112 j
  · intro j
    rw [hEi 109 j (by omega)]; exact n109 j
  · intro j
    rcases hsh j with ⟨e, -⟩ | ⟨-, e, -⟩
    · rw [e]; exact n134 j
    · rw [e]; rfl
  · intro j
    have h9 := (m_due_v (j := m_tk3 (m_tk2 A) (n 7)) (np := n 7) (o := j) (n 8)).1
    rw [hE0, ← hEd, hD 140 j (by decide) (by omega), hBi 140 j (by decide) (by decide) (by decide) (by decide) (by decide) (by decide) (by decide)] at h9
    rcases h9 with e | e | e
    · rw [e]; exact n140 j
    · rw [e]; rfl
    · rw [e]; rfl
  · intro r hr5
    obtain ⟨q1, q2, q3, q4, ⟨c, c1, c2, c3, c5⟩, q6, q7⟩ := hr r hr5
    have hTr := i_zin (hT r hr5)
    rw [n_400, n_450] at hTr
    have v116 : E 116 r = i 116 r + 1 := by
      rw [hEA 116 r (by decide) (by decide) (by decide) (by decide) (by omega) (by omega), hAd, (m_warmI_v (n 5)).2.1, if_pos hr5, hJ 116 r (by decide) (by decide) (by decide) (by omega)]
    have v114 : E 114 r = if i 116 r = 0 ∨ ¬ m_t J r ≤ i 114 r then m_t J r else i 114 r := by
      rw [hEA 114 r (by decide) (by decide) (by decide) (by decide) (by omega) (by omega), hAd, (m_warmI_v (n 5)).2.2, if_pos hr5, hJ 116 r (by decide) (by decide) (by decide) (by omega), hJ 114 r (by decide) (by decide) (by decide) (by omega)]
    have hsum : (x 6 r + m_t J r).toInt = (x 6 r).toInt + (m_t J r).toInt := i_add (by omega)
    refine ⟨⟨?_, ?_⟩, ?_, ?_, ?_, ⟨c + 1, by omega, ?_, ?_, ?_⟩, ?_, ?_⟩
    · rw [hEi 102 r (by omega)]; exact q1.1
    · rw [hEi 103 r (by omega)]; exact q1.2
    · rw [hEi 105 r (by omega), hEi 106 r (by omega)]; exact q2
    · rw [hEi 109 r (by omega)]; exact q3
    · rw [hEA 110 r (by decide) (by decide) (by decide) (by decide) (by omega) (by omega), hA110 r hr5]; exact hT r hr5
    · rw [v116, c2, nI_1]
    · rw [hX6, if_pos hr5, hsum]; omega
    · rw [hX6, if_pos hr5, hsum]; omega
    · rw [hX5, if_pos hr5, v116, v114, c2, nI_1, if_neg (show ¬ nI (c + 1) = 0 from nI_ne0 (by omega) (by omega)), q6, c2]
      by_cases e0 : nI c = 0
      · rw [if_pos e0, if_pos (Or.inl e0)]
        by_cases e1 : (-400 : Int32) < m_t J r
        · rw [if_pos e1]
        · rw [if_neg e1]
          rw [Int32.lt_iff_toInt_lt, n_400] at e1
          refine Int32.toInt_inj.mp ?_
          rw [n_400]; omega
      · rw [if_neg e0]
        by_cases e1 : i 114 r < m_t J r
        · rw [if_pos e1, if_pos (Or.inr (Int32.not_le.mpr e1))]
        · rw [if_neg e1, if_neg (fun e => e.elim e0 (fun e => e1 (Int32.not_le.mp e)))]
    · rw [hX6, if_pos hr5, hL0]
      show zup (m_warmL J lm (n 5)) 1 26 _ 115 r = _
      rw [zup_n (by omega), m_warmL_v, if_pos hr5, q7]
      exact (i_l (by omega)).symm
  · intro r hr5
    obtain ⟨f1, f2, f3, f4, f5, f6⟩ := hf r hr5
    refine ⟨?_, ?_, ?_, ?_, ?_, ?_⟩
    · rw [hEi 107 r (by omega)]; exact f1
    · rw [hEi 108 r (by omega)]; exact f2
    · rw [hEA 111 r (by decide) (by decide) (by decide) (by decide) (by omega) (by omega), hA 111 r (by decide) (by decide) (by decide), hJd, m_powers_o (by decide) (by decide) (by omega), m_wishes_hi _ hr5]
      exact f3
    · rw [hEA 112 r (by decide) (by decide) (by decide) (by decide) (by omega) (by omega), hA 112 r (by decide) (by decide) (by decide), hJd]
      rcases m_pow_112 (i := m_wishes i (n 5)) (r := r) hb5 with e | e
      · exact absurd e.1 (by omega)
      · rw [e, m_wishes_o (by decide)]; exact f4
    · rw [hEA 116 r (by decide) (by decide) (by decide) (by decide) (by omega) (by omega), hAd, (m_warmI_v (n 5)).2.1, if_neg (by omega), hJ 116 r (by decide) (by decide) (by decide) (by omega)]
      exact f5
    · rw [hL0]
      show zup (m_warmL J lm (n 5)) 1 26 _ 115 r = _
      rw [zup_n (by omega), m_warmL_v, if_neg (by omega)]
      exact f6
  · intro k hk6
    rw [hEi 127 k (by omega), hEi 128 k (by omega)]
    exact hk k hk6
  · intro p hp
    obtain ⟨⟨l1, l2⟩, ⟨l3, l4⟩, l5⟩ := hl p hp
    obtain ⟨w1, w2, w3⟩ := hp9 p hp
    obtain ⟨k1, k2⟩ := hk _ w1.1
    have hr1 := (hs9 _ w2).1
    have e131 : E 131 p = i 131 p := hEi 131 p (by omega)
    have hLN := lI_N hW h960 hp hx k2 hs ⟨l1, l2⟩
    obtain ⟨F1, F2, -⟩ := F_nat k1
    have hcong : ∀ en, en ≤ t → c_rlN E X y (cl (i 131 p)) (n 4) (y 0 p + 1) en = c_rlN i x y (cl (i 131 p)) (n 4) (y 0 p + 1) en := fun en hen =>
      c_rlN_c (T := t) (N := n 4) (hls _) (fun r q hq9 => by rw [hX10, if_neg (by omega)]) (fun s hs4 => ⟨(hs9 s hs4).2, rfl, rfl, hX4 s, (hs s hs4).2.1⟩) (n 4) (y 0 p + 1) en (by omega) hen
    by_cases c : i 134 p = 114
    · have en0 : c_en i x p t = t := if_pos c
      have en1 : c_en E X p (t + 1) = t + 1 := by
        unfold c_en
        rcases hsh p with ⟨e, -⟩ | ⟨-, e, e2⟩
        · rw [if_pos (e.trans c)]
        · rw [if_neg (by rw [e]; decide), e2]; exact nI_clamp (by omega)
      rw [en0] at l1 l5 hLN
      refine ⟨⟨by rw [en1, hX4]; omega, by rw [en1]; omega⟩, ?_, ?_⟩
      · rcases hsh p with ⟨-, e⟩ | ⟨-, -, e⟩
        · rw [e]; exact ⟨l3, l4⟩
        · rw [e]
          have e9 : cl (nI (t + 1)) = t + 1 := nI_clamp (by omega)
          rw [e9]
          exact ⟨rfl, by omega⟩
      · rw [hE133 p hp, en1, e131, hEi 127 _ (by omega)]
        obtain ⟨f, hf4⟩ : ∃ f, n 4 = f + 1 := ⟨n 4 - 1, by omega⟩
        have hT1 : m_tk2 A 110 (cl (m_tk2 A 132 p)) = m_t J (y 1 (y 0 p)) := by
          rw [hBi 132 p (by decide) (by decide) (by decide) (by decide) (by decide) (by decide) (by decide), w3, show cl (nI (y 1 (y 0 p))) = y 1 (y 0 p) from nI_clamp (by omega), hB 110 _ (by omega)]
          exact hA110 _ hr1
        have hLs : m_loss (m_tk2 A) p (m_t J (y 1 (y 0 p))) = c_ls i (cl (i 131 p)) (m_t J (y 1 (y 0 p))) := by
          have e1 := c_loss_m (i := i) (p := p) (hT _ hr1) k2
          refine Eq.trans ?_ e1.symm
          unfold m_loss
          rw [hBi 129 _ (by decide) (by decide) (by decide) (by decide) (by decide) (by decide) (by decide), hBi 128 _ (by decide) (by decide) (by decide) (by decide) (by decide) (by decide) (by decide), hBi 131 p (by decide) (by decide) (by decide) (by decide) (by decide) (by decide) (by decide)]
        obtain ⟨z1, z2⟩ := c_ls_N (i := i) (k := cl (i 131 p)) (hT _ hr1) k2
        have hnew : c_rlN E X y (cl (i 131 p)) (n 4) (y 0 p + 1) (t + 1) = c_rlN i x y (cl (i 131 p)) (n 4) (y 0 p + 1) t + cl (c_ls i (cl (i 131 p)) (m_t J (y 1 (y 0 p)))) := by
          rw [← hcong t (Nat.le_refl _), hf4]
          show c_raN E X (cl (i 131 p)) (y 1 (y 0 p)) (cl (X 4 (y 0 p))) (t + 1 - cl (X 4 (y 0 p))) + c_rlN E X y (cl (i 131 p)) f (y 2 (y 0 p)) (cl (X 4 (y 0 p))) = c_raN E X (cl (i 131 p)) (y 1 (y 0 p)) (cl (X 4 (y 0 p))) (t - cl (X 4 (y 0 p))) + c_rlN E X y (cl (i 131 p)) f (y 2 (y 0 p)) (cl (X 4 (y 0 p))) + _
          rw [hX4, show t + 1 - cl (x 4 (y 0 p)) = (t - cl (x 4 (y 0 p))) + 1 by omega]
          show c_raN E X (cl (i 131 p)) (y 1 (y 0 p)) (cl (x 4 (y 0 p))) (t - cl (x 4 (y 0 p))) + cl (c_ls E (cl (i 131 p)) (X (10 + y 1 (y 0 p)) (cl (x 4 (y 0 p)) + (t - cl (x 4 (y 0 p)))))) + _ = _
          rw [show cl (x 4 (y 0 p)) + (t - cl (x 4 (y 0 p))) = t by omega, hX10, if_pos ⟨hr1, rfl⟩, hls]
          omega
        unfold m_age1
        rw [hT1, hLs, hBi 134 p (by decide) (by decide) (by decide) (by decide) (by decide) (by decide) (by decide), if_pos c, hBi 133 p (by decide) (by decide) (by decide) (by decide) (by decide) (by decide) (by decide), hnew, l5, z1]
        have hcl9 : cl (nI (cl (c_ls i (cl (i 131 p)) (m_t J (y 1 (y 0 p)))))) = cl (c_ls i (cl (i 131 p)) (m_t J (y 1 (y 0 p)))) := nI_clamp (by omega)
        rw [hcl9, nI_mon (by omega) (by omega), Nat.sub_sub]
    · have hs1 : E 134 p = i 134 p ∧ X 3 p = x 3 p := (hsh p).resolve_right (fun e => c e.1)
      have en0 : c_en i x p t = cl (x 3 p) := if_neg c
      have en1 : c_en E X p (t + 1) = cl (x 3 p) := by
        unfold c_en
        rw [hs1.1, if_neg c, hs1.2]
      rw [en0] at l1 l2 l5
      refine ⟨⟨by rw [en1, hX4]; exact l1, by rw [en1]; omega⟩, by rw [hs1.2]; exact ⟨l3, l4⟩, ?_⟩
      rw [hE133 p hp, en1, e131, hEi 127 _ (by omega), hcong _ l2]
      unfold m_age1
      rw [hBi 134 p (by decide) (by decide) (by decide) (by decide) (by decide) (by decide) (by decide), if_neg c, hBi 133 p (by decide) (by decide) (by decide) (by decide) (by decide) (by decide) (by decide)]
      exact l5
  · intro s hs4
    obtain ⟨s1, s2, s3⟩ := hs s hs4
    rw [hX4 s]
    exact ⟨s1, by omega, fun q e => by rw [hX4 q]; exact s3 q e⟩
  · intro a b ha
    obtain ⟨r, rfl⟩ : ∃ r, a = 10 + r := ⟨a - 10, by omega⟩
    rw [hX10]
    split
    · rename_i e; exact hT r e.1
    · exact hx _ _ ha
  · rw [hL26, m1]
    show _ = c_rc X t + (X 1 t).toInt64 * (X 2 t).toInt64
    rw [hrc.1, hX1, hX2, if_pos rfl, if_pos rfl]
  · rw [hE25, hA25]
    show _ = if c_rg X t < X 1 t then X 1 t else c_rg X t
    rw [hrc.2, hX1, if_pos rfl, m2]
  · rw [hE25, hEA 1 24 (by decide) (by decide) (by decide) (by decide) (by omega) (by omega)]
    by_cases e : A 1 25 < A 1 24
    · rw [if_pos e]; exact Int32.le_refl _
    · rw [if_neg e]; exact Int32.not_lt.mp e
  · intro o ho8
    obtain ⟨⟨c, c1, c2, c3⟩, c4⟩ := ho o ho8
    refine ⟨⟨c, c1, c2, by rw [hEi 137 o (by omega)]; exact c3⟩, fun e => ?_⟩
    have h9 := (m_due_v (j := m_tk3 (m_tk2 A) (n 7)) (np := n 7) (o := o) (n 8)).2.2 ho8
    rw [hE0, ← hEd] at h9
    obtain ⟨g1, g2⟩ := h9 e
    rw [hD 140 o (by decide) (by omega), hBi 140 o (by decide) (by decide) (by decide) (by decide) (by decide) (by decide) (by decide)] at g1
    rw [hD 139 o (by decide) (by omega), hBi 139 o (by decide) (by decide) (by decide) (by decide) (by decide) (by decide) (by decide), hD0] at g2
    have h5 := c4 g1
    rw [hEi 139 o (by omega)]
    rw [Int32.lt_iff_toInt_lt, nI_toInt (by omega)] at h5 ⊢
    have h6 : ¬ (i 139 o).toInt = (t + 1 : Nat) := fun e => g2 (Int32.toInt_inj.mp (by rw [e, nI_toInt (by omega)]))
    omega
  · intro o ho8
    have h9 := ((m_due_v (j := m_tk3 (m_tk2 A) (n 7)) (np := n 7) (o := o) (n 8)).2.1 ho8).2
    rw [hE0, ← hEd, hD 141 o (by decide) (by omega), hBi 141 o (by decide) (by decide) (by decide) (by decide) (by decide) (by decide) (by decide)] at h9
    rw [h9]; exact hof o ho8
  · intro r hr5
    refine Nat.le_trans (zcnt_le (n 7) (fun p _ e => ?_)) (hfl r hr5)
    refine ⟨?_, by rw [← hEi 132 p (by omega)]; exact e.2⟩
    rcases hsh p with ⟨e1, -⟩ | ⟨e1, -, -⟩
    · rw [← e1]; exact e.1
    · exact e1
  · rw [hL26]
    show zup lm 1 26 (lm 1 26 + (c_k1 n i x (mq i)).2.2.toInt64 * (c_pr (c_k2 n i x (mq i) t).1 (c_k2 n i x (mq i) t).2 (mq i)).toInt64) 1 26 = _
    rw [zup_s, hu, hpr]
