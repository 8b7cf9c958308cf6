/-! PART 78: what the rooms' part of a tick does, row by row -/
theorem i_div100 {a : Int32} : (a / 100).toInt = a.toInt.tdiv 100 := Int32.toInt_div_of_ne_right a 100 (by decide)
theorem d_bound {D L : Int} (h1 : -1000 ≤ D) (h2 : D ≤ 1000) (h3 : 0 ≤ L) (h4 : L ≤ 50) : -50000 ≤ D * L ∧ D * L ≤ 50000 ∧ (0 ≤ D → 0 ≤ D * L ∧ D * L ≤ D * 50) ∧ (D ≤ 0 → D * L ≤ 0) := by
  have a1 : D * L ≤ 1000 * L := Int.mul_le_mul_of_nonneg_right h2 h3
  have a2 : (-1000) * L ≤ D * L := Int.mul_le_mul_of_nonneg_right h1 h3
  refine ⟨by omega, by omega, fun h => ⟨Int.mul_nonneg h h3, Int.mul_le_mul_of_nonneg_left h4 h⟩, fun h => ?_⟩
  have := Int.mul_le_mul_of_nonneg_right h h3
  omega
theorem tdiv_b {P : Int} : (0 ≤ P → 0 ≤ P.tdiv 100 ∧ P.tdiv 100 * 100 ≤ P) ∧ (P ≤ 0 → P.tdiv 100 ≤ 0 ∧ P ≤ P.tdiv 100 * 100) := by
  refine ⟨fun h => ?_, fun h => ?_⟩
  · rw [Int.tdiv_eq_ediv_of_nonneg h]; omega
  · have e : P.tdiv 100 = -((-P).tdiv 100) := by rw [Int.neg_tdiv, Int.neg_neg]
    rw [e, Int.tdiv_eq_ediv_of_nonneg (by omega)]; omega
theorem n_1 : (1 : Int32).toInt = 1 := by decide
theorem n_50 : (50 : Int32).toInt = 50 := by decide
theorem n_100 : (100 : Int32).toInt = 100 := by decide
theorem m_t_zin {j : Nat → Nat → Int32} {r : Nat} (hT : zin (j 110 r) (-400) 450) (hO : zin (j 1 1) (-300) 450) (hL : zin (j 102 r) 1 50) (hS : zin (j 103 r) 1 100) : zin (m_t j r) (-400) 450 := by
  have b1 := i_zin hT
  have b2 := i_zin hO
  have b3 := i_zin hL
  have b4 := i_zin hS
  rw [n_400, n_450] at b1
  rw [n_300, n_450] at b2
  rw [n_1, n_50] at b3
  rw [n_1, n_100] at b4
  have hD : (j 1 1 - j 110 r).toInt = (j 1 1).toInt - (j 110 r).toInt := i_sub (by omega)
  obtain ⟨c1, c2, c3, c4⟩ := d_bound (D := (j 1 1 - j 110 r).toInt) (L := (j 102 r).toInt) (by omega) (by omega) (by omega) (by omega)
  have hP : ((j 1 1 - j 110 r) * j 102 r).toInt = (j 1 1 - j 110 r).toInt * (j 102 r).toInt := i_mul (by omega)
  obtain ⟨q1, q2⟩ := tdiv_b (P := ((j 1 1 - j 110 r) * j 102 r).toInt)
  have hq : ((j 1 1 - j 110 r) * j 102 r / 100).toInt = ((j 1 1 - j 110 r) * j 102 r).toInt.tdiv 100 := i_div100
  obtain ⟨s, hs, hs1⟩ : ∃ s : Int32, s = (if j 112 r = 0 then 0 else j 103 r) ∧ (0 ≤ s.toInt ∧ s.toInt ≤ 100) := by
    refine ⟨_, rfl, ?_⟩
    split
    · rw [z_0]; omega
    · omega
  have hm : (m_t1 j r).toInt ≤ 450 ∧ m_t1 j r = j 110 r + ((j 1 1 - j 110 r) * j 102 r / 100 - s) := by
    refine ⟨?_, by unfold m_t1; rw [hs]⟩
    unfold m_t1
    rw [← hs]
    have e1 : ((j 1 1 - j 110 r) * j 102 r / 100 - s).toInt = ((j 1 1 - j 110 r) * j 102 r / 100).toInt - s.toInt := i_sub (by omega)
    rw [i_add (by omega), e1]
    omega
  unfold m_t
  by_cases h : (-400) < m_t1 j r
  · rw [if_pos h]
    refine ⟨fun e => Int32.lt_asymm e h, fun e => ?_⟩
    rw [Int32.lt_iff_toInt_lt, n_450] at e
    omega
  · rw [if_neg h]
    exact ⟨by decide, by decide⟩
theorem m_t_own {j k : Nat → Nat → Int32} {r : Nat} (h1 : k 110 r = j 110 r) (h2 : k 1 1 = j 1 1) (h3 : k 102 r = j 102 r) (h4 : k 112 r = j 112 r) (h5 : k 103 r = j 103 r) : m_t k r = m_t j r := by
  unfold m_t m_t1
  rw [h1, h2, h3, h4, h5]
theorem m_warmI_v {j : Nat → Nat → Int32} {r : Nat} : ∀ k, (m_warmI j k 110 r = if r < k then m_t j r else j 110 r) ∧ (m_warmI j k 116 r = if r < k then j 116 r + 1 else j 116 r) ∧ (m_warmI j k 114 r = if r < k then (if j 116 r = 0 ∨ ¬ m_t j r ≤ j 114 r then m_t j r else j 114 r) else j 114 r)
  | 0 => ⟨(if_neg (Nat.not_lt_zero _)).symm, (if_neg (Nat.not_lt_zero _)).symm, (if_neg (Nat.not_lt_zero _)).symm⟩
  | k + 1 => by
    obtain ⟨h1, h2, h3⟩ := m_warmI_v (j := j) (r := r) k
    show (m_warm1 (m_warmI j k) k 110 r = _) ∧ (m_warm1 (m_warmI j k) k 116 r = _) ∧ (m_warm1 (m_warmI j k) k 114 r = _)
    unfold m_warm1
    by_cases e : r = k
    · subst e
      rw [if_neg (Nat.lt_irrefl _)] at h1 h2 h3
      have ht : m_t (m_warmI j r) r = m_t j r := m_t_own h1 (m_warmI_o (by decide) (by decide) (by decide) r) (m_warmI_o (by decide) (by decide) (by decide) r) (m_warmI_o (by decide) (by decide) (by decide) r) (m_warmI_o (by decide) (by decide) (by decide) r)
      rw [ht, h2, h3, if_pos (Nat.lt_succ_self _), if_pos (Nat.lt_succ_self _), if_pos (Nat.lt_succ_self _)]
      refine ⟨?_, zup_s, ?_⟩
      · rw [zup_n (by omega), zup_n (by omega), zup_s]
      · rw [zup_n (by omega), zup_s]
    · have el : (r < k + 1) = (r < k) := propext ⟨fun _ => by omega, fun _ => by omega⟩
      simp only [el]
      refine ⟨?_, ?_, ?_⟩
      · rw [zup_n (by omega), zup_n (by omega), zup_n (by omega), zup_n (by omega)]; exact h1
      · rw [zup_n (by omega), zup_n (by omega), zup_n (by omega), zup_n (by omega)]; exact h2
      · rw [zup_n (by omega), zup_n (by omega), zup_n (by omega), zup_n (by omega)]; exact h3
theorem m_warmL_v {j : Nat → Nat → Int32} {lm : Nat → Nat → Int64} {r : Nat} : ∀ k, m_warmL j lm k 115 r = if r < k then lm 115 r + (m_t j r).toInt64 else lm 115 r
  | 0 => (if_neg (Nat.not_lt_zero _)).symm
  | k + 1 => by
    have h1 := m_warmL_v (j := j) (lm := lm) (r := r) k
    show zup (m_warmL j lm k) 115 k (m_warmL j lm k 115 k + (m_t (m_warmI j k) k).toInt64) 115 r = _
    by_cases e : r = k
    · subst e
      rw [if_neg (Nat.lt_irrefl _)] at h1
      have h2 := (m_warmI_v (j := j) (r := r) r).1
      rw [if_neg (Nat.lt_irrefl _)] at h2
      have ht : m_t (m_warmI j r) r = m_t j r := m_t_own h2 (m_warmI_o (by decide) (by decide) (by decide) r) (m_warmI_o (by decide) (by decide) (by decide) r) (m_warmI_o (by decide) (by decide) (by decide) r) (m_warmI_o (by decide) (by decide) (by decide) r)
      rw [zup_s, h1, ht, if_pos (Nat.lt_succ_self _)]
    · rw [zup_n (by omega), h1]
      by_cases c : r < k
      · rw [if_pos c, if_pos (by omega)]
      · rw [if_neg c, if_neg (by omega)]
theorem m_warmL_o {j : Nat → Nat → Int32} {lm : Nat → Nat → Int64} {a b : Nat} (h : a ≠ 115) : ∀ k, m_warmL j lm k a b = lm a b
  | 0 => rfl
  | k + 1 => (zup_n (by omega)).trans (m_warmL_o h k)
theorem c_wm_v {s : cIX} {j : Nat → Nat → Int32} {tk r : Nat} (h : eG s.1 j) : ∀ k, ((c_wm s tk k).2 6 r = if r < k then s.2 6 r + m_t j r else s.2 6 r) ∧ ((c_wm s tk k).2 5 r = if r < k then (if s.2 5 r < m_t j r then m_t j r else s.2 5 r) else s.2 5 r) ∧ (∀ q, (c_wm s tk k).2 (10 + r) q = if r < k ∧ q = tk then m_t j r else s.2 (10 + r) q)
  | 0 => ⟨(if_neg (Nat.not_lt_zero _)).symm, (if_neg (Nat.not_lt_zero _)).symm, fun q => (if_neg (fun e => Nat.not_lt_zero _ e.1)).symm⟩
  | k + 1 => by
    obtain ⟨h1, h2, h3⟩ := c_wm_v (tk := tk) (r := r) h k
    have e1 : s.1 1 1 = (c_wm s tk k).1 1 1 := (c_wm_o (by decide) (by decide) k).symm
    have ht : ∀ r, ¬ r < k → c_t (c_wm s tk k).1 r (s.1 1 1) = m_t j r := fun r hr => by
      rw [e1, c_t_m, m_t_eG (c_wm_m h k)]
      have h9 := (m_warmI_v (j := j) (r := r) k).1
      rw [if_neg hr] at h9
      exact m_t_own h9 (m_warmI_o (by decide) (by decide) (by decide) k) (m_warmI_o (by decide) (by decide) (by decide) k) (m_warmI_o (by decide) (by decide) (by decide) k) (m_warmI_o (by decide) (by decide) (by decide) k)
    show (c_chX (c_wm s tk k).1 (c_wm s tk k).2 k (s.1 1 1) tk 6 r = _) ∧ (c_chX (c_wm s tk k).1 (c_wm s tk k).2 k (s.1 1 1) tk 5 r = _) ∧ (∀ q, c_chX (c_wm s tk k).1 (c_wm s tk k).2 k (s.1 1 1) tk (10 + r) q = _)
    unfold c_chX
    rw [ht k (Nat.lt_irrefl _)]
    by_cases e : r = k
    · subst e
      rw [if_neg (Nat.lt_irrefl _)] at h1 h2
      rw [h1, h2, if_pos (Nat.lt_succ_self _), if_pos (Nat.lt_succ_self _)]
      refine ⟨?_, zup_s, fun q => ?_⟩
      · rw [zup_n (by omega), zup_s]
      · rw [zup_n (by omega), zup_n (by omega)]
        by_cases d : q = tk
        · rw [d, zup_s, if_pos ⟨Nat.lt_succ_self _, rfl⟩]
        · rw [zup_n (by omega), if_neg (fun e => d e.2), h3 q, if_neg (fun e => d e.2)]
    · have el : (r < k + 1) = (r < k) := propext ⟨fun _ => by omega, fun _ => by omega⟩
      simp only [el]
      refine ⟨?_, ?_, fun q => ?_⟩
      · rw [zup_n (by omega), zup_n (by omega), zup_n (by omega)]; exact h1
      · rw [zup_n (by omega), zup_n (by omega), zup_n (by omega)]; exact h2
      · rw [zup_n (by omega), zup_n (by omega), zup_n (by omega)]; exact h3 q
