/-! PART 26: ships and ticks of the model -/
/-- how many candidates, a number -/
def m_cntN (i : Nat → Nat → Int32) (o : Nat) : Nat → Nat
  | 0 => 0
  | p + 1 => m_cntN i o p + if m_isC i o p then 1 else 0
theorem m_cntN_le (i : Nat → Nat → Int32) (o : Nat) : ∀ n, m_cntN i o n ≤ n
  | 0 => Nat.le_refl _
  | p + 1 => by
    have := m_cntN_le i o p
    unfold m_cntN
    split <;> omega
theorem m_cnt_N (i : Nat → Nat → Int32) (o : Nat) : ∀ n, m_cnt i o n = nI (m_cntN i o n)
  | 0 => rfl
  | p + 1 => by
    unfold m_cnt m_cntN
    rw [m_cnt_N i o p]
    by_cases h : m_isC i o p
    · rw [zb_t h, if_pos h]; exact nI_1 _
    · rw [zb_f h, if_neg h]; exact Int32.add_zero _
theorem m_cntN_off {i j : Nat → Nat → Int32} {o : Nat} : ∀ n, (∀ p, p < n → (m_isC i o p ↔ m_isC j o p)) → m_cntN i o n = m_cntN j o n
  | 0, _ => rfl
  | p + 1, h => by
    unfold m_cntN
    rw [m_cntN_off p (fun q hq => h q (by omega))]
    by_cases hc : m_isC i o p
    · rw [if_pos hc, if_pos ((h p (by omega)).mp hc)]
    · rw [if_neg hc, if_neg (fun k => hc ((h p (by omega)).mpr k))]
theorem m_cntN_dec {i j : Nat → Nat → Int32} {o b : Nat} (hb : m_isC i o b) (hj : ¬ m_isC j o b) (ho : ∀ p, p ≠ b → (m_isC j o p ↔ m_isC i o p)) : ∀ n, b < n → m_cntN j o n + 1 = m_cntN i o n
  | 0, h => absurd h (Nat.not_lt_zero _)
  | p + 1, h => by
    unfold m_cntN
    rcases Nat.lt_or_ge b p with q | q
    · have := m_cntN_dec hb hj ho p q
      by_cases hc : m_isC i o p
      · rw [if_pos hc, if_pos ((ho p (by omega)).mpr hc)]; omega
      · rw [if_neg hc, if_neg (fun k => hc ((ho p (by omega)).mp k))]; omega
    · have e : p = b := by omega
      subst e
      rw [if_neg hj, if_pos hb, m_cntN_off p (fun q hq => ho q (by omega))]
theorem m_cntN_pos {i : Nat → Nat → Int32} {o : Nat} : ∀ n, 0 < m_cntN i o n → ∃ p, p < n ∧ m_isC i o p
  | 0, h => absurd h (Nat.lt_irrefl _)
  | n + 1, h => by
    unfold m_cntN at h
    by_cases hc : m_isC i o n
    · exact ⟨n, by omega, hc⟩
    · rw [if_neg hc] at h
      obtain ⟨p, h1, h2⟩ := m_cntN_pos n h
      exact ⟨p, by omega, h2⟩
/-- p is ahead of q -/
def m_lt (i : Nat → Nat → Int32) (p q : Nat) : Prop := i 133 p < i 133 q ∨ i 133 p = i 133 q ∧ p < q
theorem m_ahead_0 {i : Nat → Nat → Int32} {o p : Nat} (hp : p < 24) : ∀ n, n ≤ 24 → (∀ q, q < n → m_isC i o q → ¬ m_lt i q p) → m_ahead i o p n = 0
  | 0, _, _ => rfl
  | n + 1, hn, h => by
    unfold m_ahead
    rw [m_ahead_0 hp n (by omega) (fun q hq => h q (by omega)), zb_f]
    · rfl
    · rintro ⟨h1, h2⟩
      refine h n (by omega) h1 ?_
      rcases h2 with h2 | ⟨h2, h3⟩
      · exact Or.inl h2
      · refine Or.inr ⟨h2, ?_⟩
        rcases Nat.lt_or_ge n p with q | q
        · exact q
        · exact absurd (nI_le q (by omega)) h3
/-- among the first n there is one that no other is ahead of -/
theorem m_least (i : Nat → Nat → Int32) (o : Nat) : ∀ n, (∃ p, p < n ∧ m_isC i o p) → ∃ p, p < n ∧ m_isC i o p ∧ ∀ q, q < n → m_isC i o q → ¬ m_lt i q p
  | 0, h => by obtain ⟨p, h, -⟩ := h; exact absurd h (Nat.not_lt_zero _)
  | n + 1, h => by
    by_cases hex : ∃ p, p < n ∧ m_isC i o p
    · obtain ⟨p, h1, h2, h3⟩ := m_least i o n hex
      by_cases hc : m_isC i o n ∧ m_lt i n p
      · refine ⟨n, by omega, hc.1, fun q hq hqc hlt => ?_⟩
        rcases Nat.lt_or_ge q n with r | r
        · refine h3 q r hqc ?_
          unfold m_lt at hlt hc ⊢
          rcases hlt with a | ⟨a, a'⟩ <;> rcases hc.2 with b | ⟨b, b'⟩
          · exact Or.inl (Int32.lt_trans a b)
          · exact Or.inl (by rw [← b]; exact a)
          · exact Or.inl (by rw [a]; exact b)
          · omega
        · have : q = n := by omega
          subst this
          unfold m_lt at hlt
          rcases hlt with a | ⟨a, a'⟩
          · exact Int32.lt_irrefl a
          · omega
      · refine ⟨p, by omega, h2, fun q hq hqc hlt => ?_⟩
        rcases Nat.lt_or_ge q n with r | r
        · exact h3 q r hqc hlt
        · have : q = n := by omega
          subst this
          exact hc ⟨hqc, hlt⟩
    · obtain ⟨p, h1, h2⟩ := h
      have e : p = n := by
        rcases Nat.lt_or_ge p n with r | r
        · exact absurd ⟨p, r, h2⟩ hex
        · omega
      subst e
      refine ⟨p, h1, h2, fun q hq hqc hlt => ?_⟩
      rcases Nat.lt_or_ge q p with r | r
      · exact hex ⟨q, r, hqc⟩
      · have : q = p := by omega
        subst this
        rcases hlt with a | ⟨a, a'⟩
        · exact Int32.lt_irrefl a
        · omega
/-- the first candidate, where there is one -/
theorem m_cand_in {i : Nat → Nat → Int32} {o np : Nat} (h24 : np ≤ 24) (h : 0 < m_cntN i o np) : ∃ p, p < np ∧ m_cand i o np 0 = nI p ∧ m_isC i o p := by
  obtain ⟨p, h1, h2, h3⟩ := m_least i o np (m_cntN_pos np h)
  have hh : m_here i o np 0 p = true := decide_eq_true ⟨h2, m_ahead_0 (by omega) np h24 h3⟩
  have hlt : zfst (m_here i o np 0) np < np := by
    rcases Nat.lt_or_ge p (zfst (m_here i o np 0) np) with q | q
    · have := zfst_no _ _ _ q
      rw [hh] at this
      cases this
    · omega
  have hy := of_decide_eq_true (zfst_yes _ _ hlt)
  exact ⟨_, hlt, if_pos hlt, hy.1⟩
def m_ship (i : Nat → Nat → Int32) (o np : Nat) : Nat → Nat → Nat → Int32
  | 0 => zup i 141 o (i 133 (cl (m_cand i o np 0)))
  | k + 1 => zup (m_ship i o np k) 134 (cl (m_cand (m_ship i o np k) o np 0)) 115
def m_shipS (i : Nat → Nat → Int32) (o np : Nat) : Nat → Int32
  | 0 => 0
  | k + 1 => m_shipS i o np k + m_ship i o np k 133 (cl (m_cand (m_ship i o np k) o np 0))
def m_ships (i : Nat → Nat → Int32) (o np : Nat) : Nat → Nat → Int32 := zup (m_ship i o np (cl (i 137 o))) 140 o 115
theorem m_ship_o {i : Nat → Nat → Int32} {o np a b : Nat} (h1 : a ≠ 141) (h2 : a ≠ 134) : ∀ k, m_ship i o np k a b = i a b
  | 0 => zup_n (by omega)
  | k + 1 => (zup_n (by omega)).trans (m_ship_o h1 h2 k)
theorem m_ships_o {i : Nat → Nat → Int32} {o np a b : Nat} (h1 : a ≠ 141) (h2 : a ≠ 134) (h3 : a ≠ 140) : m_ships i o np a b = i a b := (zup_n (by omega)).trans (m_ship_o h1 h2 _)
theorem m_ship_cnt {i : Nat → Nat → Int32} {o np : Nat} (h24 : np ≤ 24) : ∀ k, k ≤ m_cntN i o np → m_cntN (m_ship i o np k) o np + k = m_cntN i o np
  | 0, _ => m_cntN_off np (fun p hp => by
    unfold m_isC
    rw [m_ship, zup_n (by omega), zup_n (by omega), zup_n (by omega), zup_n (by omega), zup_n (by omega)])
  | k + 1, h => by
    have ih := m_ship_cnt (i := i) (o := o) h24 k (by omega)
    obtain ⟨p, h1, h2, h3⟩ := m_cand_in (i := m_ship i o np k) (o := o) h24 (by omega)
    have e : cl (m_cand (m_ship i o np k) o np 0) = p := by rw [h2]; exact nI_clamp (by omega)
    have := m_cntN_dec (i := m_ship i o np k) (j := m_ship i o np (k + 1)) (b := p) h3 (fun hc => by
      have h9 := hc.1
      unfold m_ship at h9
      rw [e, zup_s] at h9
      exact absurd h9 (by decide)) (fun q hq => by
      unfold m_isC
      show (zup _ _ _ _ 134 q = 114 ∧ zup _ _ _ _ 131 q = zup _ _ _ _ 136 o ∧ ¬ zup _ _ _ _ 133 q < zup _ _ _ _ 138 o) ↔ _
      rw [e, zup_n (by omega), zup_n (by omega), zup_n (by omega), zup_n (by omega), zup_n (by omega)]) np h1
    omega
theorem m_ship_in {i : Nat → Nat → Int32} {o np k : Nat} (h24 : np ≤ 24) (h : k < m_cntN i o np) : vp_in (m_cand (m_ship i o np k) o np 0) 24 := by
  have h1 := m_ship_cnt (i := i) (o := o) h24 k (by omega)
  obtain ⟨p, h1, h2, -⟩ := m_cand_in (i := m_ship i o np k) (o := o) h24 (by omega)
  rw [h2]
  exact vp_in_nI (by omega) (by decide)
theorem m_cand_first {i : Nat → Nat → Int32} {o np : Nat} (h24 : np ≤ 24) (h : 0 < m_cntN i o np) : vp_in (m_cand i o np 0) 24 := by
  obtain ⟨p, h1, h2, -⟩ := m_cand_in (i := i) (o := o) h24 h
  rw [h2]
  exact vp_in_nI (by omega) (by decide)
