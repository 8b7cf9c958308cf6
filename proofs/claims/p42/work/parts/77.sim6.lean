/-! PART 77: ships, dues, a tick -/
theorem m_isC_eT {i j : Nat → Nat → Int32} {o p : Nat} (h : ∀ a b, (a = 131 ∨ a = 133 ∨ a = 134 ∨ a = 136 ∨ a = 138) → i a b = j a b) : m_isC i o p ↔ m_isC j o p := by
  unfold m_isC
  rw [h 134 p (by omega), h 131 p (by omega), h 136 o (by omega), h 133 p (by omega), h 138 o (by omega)]
theorem m_cntN_eT {i j : Nat → Nat → Int32} {o n : Nat} (h : ∀ a b, (a = 131 ∨ a = 133 ∨ a = 134 ∨ a = 136 ∨ a = 138) → i a b = j a b) : m_cntN i o n = m_cntN j o n := m_cntN_off n (fun _ _ => m_isC_eT h)
theorem m_cand_eT {i j : Nat → Nat → Int32} {o np : Nat} (h24 : np ≤ 24) (h : ∀ a b, (a = 131 ∨ a = 133 ∨ a = 134 ∨ a = 136 ∨ a = 138) → i a b = j a b) (hc : 0 < m_cntN i o np) : m_cand i o np 0 = m_cand j o np 0 := by
  obtain ⟨b, -, h1, h2, h3⟩ := c_nx_cand h24 hc
  obtain ⟨c, -, k1, k2, k3⟩ := c_nx_cand (i := j) (o := o) h24 (by rw [← m_cntN_eT h]; exact hc)
  rw [h3]
  obtain ⟨d, g1, g2, g3, g4⟩ := c_it_m (i := i) (o := o) h24 0 hc
  have e : m_aheadN j o d np = 0 := by
    rw [← g4]
    exact zcnt_eq np (fun q _ => by rw [m_isC_eT (o := o) (p := q) h, h 133 q (by omega), h 133 d (by omega)])
  have e1 := m_cand_k h24 g2 g3 g4
  have e2 := m_cand_k h24 g2 ((m_isC_eT h).mp g3) e
  rw [← nI_d0] at e1 e2
  rw [← h3, e1, e2]
/-- what ships do to the pallets: those that went have the time t -/
def shR (t : Int32) (i x i' x' : Nat → Nat → Int32) : Prop := (∀ p, (i' 134 p = i 134 p ∧ x' 3 p = x 3 p) ∨ (i 134 p = 114 ∧ i' 134 p = 115 ∧ x' 3 p = t)) ∧ ∀ a b, a ≠ 3 → x' a b = x a b
theorem shR_rf {t : Int32} {i x : Nat → Nat → Int32} : shR t i x i x := ⟨fun _ => Or.inl ⟨rfl, rfl⟩, fun _ _ _ => rfl⟩
theorem shR_tr {t : Int32} {i x i' x' i2 x2 : Nat → Nat → Int32} (h : shR t i x i' x') (k : shR t i' x' i2 x2) : shR t i x i2 x2 := by
  refine ⟨fun p => ?_, fun a b e => (k.2 a b e).trans (h.2 a b e)⟩
  rcases h.1 p with ⟨h1, h2⟩ | ⟨h1, h2, h3⟩ <;> rcases k.1 p with ⟨k1, k2⟩ | ⟨k1, k2, k3⟩
  · exact Or.inl ⟨k1.trans h1, k2.trans h2⟩
  · exact Or.inr ⟨h1.symm.trans k1, k2, k3⟩
  · exact Or.inr ⟨h1, k1.trans h2, k2.trans h3⟩
  · rw [h2] at k1
    exact absurd k1 (by decide)
theorem c_sh1_R {o np k : Nat} {s : cGS} : shR (s.1 1 0) s.1 s.2.1 (c_sh1 o np k s).1 (c_sh1 o np k s).2.1 := by
  cases hk : c_nx s.1 o (fun _ => true) np with
  | none => rw [c_sh1_n hk]; exact shR_rf
  | some b =>
    rw [c_sh1_s hk]
    have h134 : ∀ p, (if k = 0 then zup s.1 141 o (s.1 133 b) else s.1) 134 p = s.1 134 p := fun p => by
      split
      · exact zup_n (by omega)
      · rfl
    refine ⟨fun p => ?_, fun a c e => zup_n (by omega)⟩
    by_cases e : p = b
    · refine Or.inr ⟨?_, ?_, ?_⟩
      · rw [e]; exact (c_nx_lt hk).2.2.1
      · show zup _ 134 b 115 134 p = 115
        rw [e, zup_s]
      · show zup _ 3 b _ 3 p = _
        rw [e, zup_s]
    · refine Or.inl ⟨?_, ?_⟩
      · show zup _ 134 b 115 134 p = _
        rw [zup_n (by omega)]
        exact h134 p
      · show zup _ 3 b _ 3 p = _
        rw [zup_n (by omega)]
theorem c_sh_R {o np : Nat} {s : cGS} : ∀ k, shR (s.1 1 0) s.1 s.2.1 (c_sh o np s k).1 (c_sh o np s k).2.1
  | 0 => shR_rf
  | k + 1 => by
    have h := c_sh1_R (o := o) (np := np) (k := k) (s := c_sh o np s k)
    rw [c_sh_o (by decide) (by decide) k] at h
    exact shR_tr (c_sh_R k) h
/-- the class's ships and the model's, behind k of them -/
theorem c_sh_m {i j x : Nat → Nat → Int32} {o np : Nat} (h24 : np ≤ 24) (h : eT i j) : ∀ k, k ≤ m_cntN j o np →
    (∀ a b, a ≠ 113 → a ≠ 114 → ¬ (a = 141 ∧ b = o) → (c_sh o np (i, x, 0) k).1 a b = m_ship j o np k a b) ∧ (1 ≤ k → (c_sh o np (i, x, 0) k).1 141 o = m_ship j o np k 141 o) ∧ (c_sh o np (i, x, 0) k).2.2 = m_shipS j o np k
  | 0, _ => ⟨fun a b ha ha2 hn => (h a b ha ha2).trans (zup_n hn).symm, fun e => absurd e (by decide), rfl⟩
  | k + 1, hk => by
    obtain ⟨h1, h2, h3⟩ := c_sh_m (x := x) (o := o) h24 h k (by omega)
    have hcn := m_ship_cnt (i := j) (o := o) h24 k (by omega)
    have hrow : ∀ a b, (a = 131 ∨ a = 133 ∨ a = 134 ∨ a = 136 ∨ a = 138) → (c_sh o np (i, x, 0) k).1 a b = m_ship j o np k a b := fun a b e => h1 a b (by omega) (by omega) (by omega)
    obtain ⟨b, hb1, hb2, hb3, hb4⟩ := c_nx_cand (i := (c_sh o np (i, x, 0) k).1) (o := o) h24 (by rw [m_cntN_eT hrow]; omega)
    have hcd : cl (m_cand (m_ship j o np k) o np 0) = b := by
      rw [← m_cand_eT h24 hrow (by rw [m_cntN_eT hrow]; omega), hb4]
      exact nI_clamp (by omega)
    have hS : m_ship j o np (k + 1) = zup (m_ship j o np k) 134 b 115 := by rw [← hcd]; rfl
    have hC : c_sh o np (i, x, 0) (k + 1) = c_sh1 o np k (c_sh o np (i, x, 0) k) := rfl
    rw [hS, hC, c_sh1_s hb1]
    refine ⟨fun a c ha ha2 hn => ?_, fun _ => ?_, ?_⟩
    · show zup (if k = 0 then _ else _) 134 b 115 a c = _
      by_cases e : a = 134 ∧ c = b
      · rw [e.1, e.2, zup_s, zup_s]
      · rw [zup_n e, zup_n e]
        split
        · rw [zup_n hn]; exact h1 a c ha ha2 hn
        · exact h1 a c ha ha2 hn
    · show zup (if k = 0 then _ else _) 134 b 115 141 o = _
      rw [zup_n (by omega), zup_n (by omega)]
      rcases Nat.eq_zero_or_pos k with e | e
      · subst e
        rw [if_pos rfl, zup_s]
        show i 133 b = zup j 141 o (j 133 (cl (m_cand j o np 0))) 141 o
        have hq : cl (m_cand j o np 0) = b := by
          rw [← hcd]
          exact congrArg cl (m_cand_eT h24 (fun a b e => (zup_n (by omega)).symm) (by omega))
        rw [zup_s, hq]
        exact h 133 b (by decide) (by decide)
      · rw [if_neg (by omega)]
        exact h2 e
    · show (c_sh o np (i, x, 0) k).2.2 + (c_sh o np (i, x, 0) k).1 133 b = m_shipS j o np k + m_ship j o np k 133 (cl (m_cand (m_ship j o np k) o np 0))
      rw [hcd, h3, hrow 133 b (by omega)]
theorem c_ships_m {i j x : Nat → Nat → Int32} {o np cn : Nat} (h24 : np ≤ 24) (h : eT i j) (hcn : cl (j 137 o) = cn) (h1 : 1 ≤ cn) (hc : cn ≤ m_cntN j o np) : eT (c_ships o np cn i x).1 (m_ships j o np) ∧ (c_ships o np cn i x).2.2 = m_shipS j o np cn := by
  obtain ⟨k1, k2, k3⟩ := c_sh_m (x := x) h24 h cn hc
  refine ⟨fun a b ha ha2 => ?_, k3⟩
  unfold m_ships
  rw [hcn]
  show zup (c_sh o np (i, x, 0) cn).1 140 o 115 a b = _
  by_cases e : a = 140 ∧ b = o
  · rw [e.1, e.2, zup_s, zup_s]
  · rw [zup_n e, zup_n e]
    by_cases e2 : a = 141 ∧ b = o
    · rw [e2.1, e2.2]; exact k2 h1
    · exact k1 a b ha ha2 e2
theorem c_due_m {i j x : Nat → Nat → Int32} {np no : Nat} (h24 : np ≤ 24) (h : eT i j) (hct : ∀ o, o < no → ∃ c, 1 ≤ c ∧ c ≤ 8 ∧ j 137 o = nI c) : ∀ k, k ≤ no → eT (c_due np (i, x, 0) k).1 (m_due j np k) ∧ (c_due np (i, x, 0) k).2.2 = m_dueS j np k ∧ shR (i 1 0) i x (c_due np (i, x, 0) k).1 (c_due np (i, x, 0) k).2.1
  | 0, _ => ⟨h, rfl, shR_rf⟩
  | k + 1, hk => by
    obtain ⟨h1, h2, h3⟩ := c_due_m (x := x) h24 h hct k (by omega)
    have e0 : (c_due np (i, x, 0) k).1 1 0 = i 1 0 := c_due_o (by decide) (by decide) (by decide) k
    have e137 : m_due j np k 137 k = j 137 k := m_due_o (by decide) (by decide) (by decide) k
    obtain ⟨c, hc1, hc8, hce⟩ := hct k (by omega)
    have hclc : cl (m_due j np k 137 k) = c := by rw [e137, hce]; exact nI_clamp (by omega)
    show eT (c_due1 np k (c_due np (i, x, 0) k)).1 (m_due1 (m_due j np k) np k) ∧ (c_due1 np k (c_due np (i, x, 0) k)).2.2 = m_dueS j np k + m_due1S (m_due j np k) np k ∧ shR (i 1 0) i x (c_due1 np k (c_due np (i, x, 0) k)).1 (c_due1 np k (c_due np (i, x, 0) k)).2.1
    obtain ⟨s, hs⟩ : ∃ s, s = c_due np (i, x, 0) k := ⟨_, rfl⟩
    obtain ⟨m, hm⟩ : ∃ m, m = m_due j np k := ⟨_, rfl⟩
    rw [← hs] at h1 h2 h3 e0 ⊢
    rw [← hm] at h1 e137 hclc ⊢
    have hcnt : m_cnt s.1 k np = m_cnt m k np := by rw [m_cnt_N, m_cnt_N, m_cntN_eT (fun a b e => h1 a b (by omega) (by omega))]
    unfold c_due1 m_due1 m_due1S
    rw [h1 140 k (by decide) (by decide), h1 139 k (by decide) (by decide), h1 1 0 (by decide) (by decide), h1 137 k (by decide) (by decide), hcnt]
    by_cases cA : m 140 k = 111 ∧ m 139 k = m 1 0
    · rw [if_pos cA, if_pos cA, if_pos cA]
      by_cases cB : m 137 k ≤ m_cnt m k np
      · rw [if_pos cB, if_neg (Int32.not_lt.mpr cB), if_neg (Int32.not_lt.mpr cB), hclc]
        have hle : c ≤ m_cntN m k np := by
          rw [m_cnt_N, e137, hce] at cB
          have := m_cntN_le m k np
          exact Nat.le_of_not_lt fun q => nI_ge q (by omega) cB
        obtain ⟨g1, g2⟩ := c_ships_m (x := s.2.1) h24 h1 hclc hc1 hle
        refine ⟨g1, by rw [h2], shR_tr h3 ?_⟩
        have hR := c_sh_R (o := k) (np := np) (s := (s.1, s.2.1, 0)) c
        refine ⟨fun p => ?_, hR.2⟩
        have := hR.1 p
        show (zup (c_sh k np (s.1, s.2.1, 0) c).1 140 k 115 134 p = _ ∧ _) ∨ (_ ∧ zup (c_sh k np (s.1, s.2.1, 0) c).1 140 k 115 134 p = _ ∧ _)
        rw [zup_n (by omega), ← e0]
        exact this
      · rw [if_neg cB, if_pos (Int32.not_le.mp cB), if_pos (Int32.not_le.mp cB)]
        refine ⟨fun a b ha ha2 => ?_, by rw [h2, Int32.add_zero], shR_tr h3 ⟨fun p => Or.inl ⟨show zup s.1 140 k 109 134 p = s.1 134 p from zup_n (by omega), rfl⟩, fun _ _ _ => rfl⟩⟩
        show zup s.1 140 k 109 a b = zup m 140 k 109 a b
        by_cases e : a = 140 ∧ b = k
        · rw [e.1, e.2, zup_s, zup_s]
        · rw [zup_n e, zup_n e]; exact h1 a b ha ha2
    · rw [if_neg cA, if_neg cA, if_neg cA]
      exact ⟨h1, by rw [h2, Int32.add_zero], h3⟩
