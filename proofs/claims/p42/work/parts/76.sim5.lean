/-! PART 76: candidates: the class's k-th is the model's -/
/-- how many of the first n numbers have P -/
def zcnt (P : Nat → Prop) [DecidablePred P] : Nat → Nat
  | 0 => 0
  | n + 1 => zcnt P n + if P n then 1 else 0
theorem zcnt_eq {P R : Nat → Prop} [DecidablePred P] [DecidablePred R] : ∀ n, (∀ q, q < n → (P q ↔ R q)) → zcnt P n = zcnt R n
  | 0, _ => rfl
  | n + 1, h => by
    unfold zcnt
    rw [zcnt_eq n (fun q hq => h q (by omega))]
    by_cases c : P n
    · rw [if_pos c, if_pos ((h n (by omega)).mp c)]
    · rw [if_neg c, if_neg (fun e => c ((h n (by omega)).mpr e))]
theorem zcnt_le {P R : Nat → Prop} [DecidablePred P] [DecidablePred R] : ∀ n, (∀ q, q < n → P q → R q) → zcnt P n ≤ zcnt R n
  | 0, _ => Nat.le_refl _
  | n + 1, h => by
    unfold zcnt
    have := zcnt_le n (fun q hq => h q (by omega))
    by_cases c : P n
    · rw [if_pos c, if_pos (h n (by omega) c)]; omega
    · rw [if_neg c]; omega
theorem zcnt_F : ∀ n, zcnt (fun _ => False) n = 0
  | 0 => rfl
  | n + 1 => by
    unfold zcnt
    rw [zcnt_F n, if_neg id]
/-- one number more -/
theorem zcnt_1 {P R : Nat → Prop} [DecidablePred P] [DecidablePred R] {b : Nat} (h1 : ¬ P b) (h2 : R b) : ∀ n, b < n → (∀ q, q < n → q ≠ b → (R q ↔ P q)) → zcnt R n = zcnt P n + 1
  | 0, h, _ => absurd h (Nat.not_lt_zero _)
  | n + 1, h, he => by
    unfold zcnt
    rcases Nat.lt_or_ge b n with c | c
    · rw [zcnt_1 h1 h2 n c (fun q hq hne => he q (by omega) hne)]
      have h9 := he n (by omega) (by omega)
      by_cases d : P n
      · rw [if_pos d, if_pos (h9.mpr d)]
      · rw [if_neg d, if_neg (fun e => d (h9.mp e))]
    · have e : b = n := by omega
      subst e
      rw [if_pos h2, if_neg h1, zcnt_eq b (fun q hq => he q (by omega) (by omega))]
theorem m_cntN_z {i : Nat → Nat → Int32} {o : Nat} : ∀ n, m_cntN i o n = zcnt (m_isC i o) n
  | 0 => rfl
  | n + 1 => by unfold m_cntN zcnt; rw [m_cntN_z n]
def m_aheadN (i : Nat → Nat → Int32) (o p n : Nat) : Nat := zcnt (fun q => m_isC i o q ∧ (i 133 q < i 133 p ∨ i 133 q = i 133 p ∧ q < p)) n
theorem m_ahead_N {i : Nat → Nat → Int32} {o p : Nat} (hp : p < 2 ^ 30) : ∀ n, n ≤ 2 ^ 30 → m_ahead i o p n = nI (m_aheadN i o p n)
  | 0, _ => rfl
  | n + 1, hn => by
    unfold m_ahead
    rw [m_ahead_N hp n (by omega)]
    show _ = nI (zcnt _ n + if m_isC i o n ∧ (i 133 n < i 133 p ∨ i 133 n = i 133 p ∧ n < p) then 1 else 0)
    by_cases c : m_isC i o n ∧ (i 133 n < i 133 p ∨ i 133 n = i 133 p ∧ n < p)
    · rw [if_pos c, zb_t ⟨c.1, c.2.imp id (fun e => ⟨e.1, nI_ge e.2 (by omega)⟩)⟩, nI_1]; rfl
    · rw [if_neg c, zb_f, Int32.add_zero]; · rfl
      rintro ⟨d1, d2⟩
      exact c ⟨d1, d2.imp id (fun e => ⟨e.1, Nat.lt_of_not_le fun q => e.2 (nI_le q (by omega))⟩)⟩
theorem m_lt_tot {i : Nat → Nat → Int32} {p q : Nat} (h : p ≠ q) : m_lt i p q ∨ m_lt i q p := by
  unfold m_lt
  by_cases c : i 133 p = i 133 q
  · rcases Nat.lt_or_gt_of_ne h with d | d
    · exact Or.inl (Or.inr ⟨c, d⟩)
    · exact Or.inr (Or.inr ⟨c.symm, d⟩)
  · rcases Int32.lt_or_lt_of_ne c with c | c
    · exact Or.inl (Or.inl c)
    · exact Or.inr (Or.inl c)
theorem m_aheadN_lt {i : Nat → Nat → Int32} {o p b n : Nat} (hp : p < n) (hc : m_isC i o p) (h : m_lt i p b) : m_aheadN i o p n < m_aheadN i o b n := by
  have h1 : zcnt (fun q => (m_isC i o q ∧ (i 133 q < i 133 p ∨ i 133 q = i 133 p ∧ q < p)) ∨ q = p) n = m_aheadN i o p n + 1 :=
    zcnt_1 (b := p) (fun e => m_lt_irr (i := i) (p := p) e.2) (Or.inr rfl) n hp (fun q _ hne => ⟨fun e => e.resolve_right hne, Or.inl⟩)
  have h2 : zcnt (fun q => (m_isC i o q ∧ (i 133 q < i 133 p ∨ i 133 q = i 133 p ∧ q < p)) ∨ q = p) n ≤ m_aheadN i o b n :=
    zcnt_le n (fun q _ e => e.elim (fun e => ⟨e.1, m_lt_tr (i := i) (p := q) (q := p) (r := b) e.2 h⟩) (fun e => by rw [e]; exact ⟨hc, h⟩))
  omega
theorem m_aheadN_cnt {i : Nat → Nat → Int32} {o p n : Nat} (hp : p < n) (hc : m_isC i o p) : m_aheadN i o p n < m_cntN i o n := by
  have h1 : zcnt (fun q => (m_isC i o q ∧ (i 133 q < i 133 p ∨ i 133 q = i 133 p ∧ q < p)) ∨ q = p) n = m_aheadN i o p n + 1 :=
    zcnt_1 (b := p) (fun e => m_lt_irr (i := i) (p := p) e.2) (Or.inr rfl) n hp (fun q _ hne => ⟨fun e => e.resolve_right hne, Or.inl⟩)
  have h2 : zcnt (fun q => (m_isC i o q ∧ (i 133 q < i 133 p ∨ i 133 q = i 133 p ∧ q < p)) ∨ q = p) n ≤ zcnt (m_isC i o) n :=
    zcnt_le n (fun q _ e => e.elim (fun e => e.1) (fun e => by rw [e]; exact hc))
  rw [m_cntN_z]
  omega
/-- two candidates with as many ahead of them are one -/
theorem m_aheadN_inj {i : Nat → Nat → Int32} {o p b n : Nat} (hp : p < n) (hb : b < n) (hc : m_isC i o p) (hd : m_isC i o b) (h : m_aheadN i o p n = m_aheadN i o b n) : p = b := by
  by_cases e : p = b
  · exact e
  · rcases m_lt_tot (i := i) e with c | c
    · have := m_aheadN_lt hp hc c; omega
    · have := m_aheadN_lt hb hd c; omega
theorem c_it_m {i : Nat → Nat → Int32} {o np : Nat} (h24 : np ≤ 24) : ∀ k, k < m_cntN i o np → ∃ b, c_it i o np k = some b ∧ b < np ∧ m_isC i o b ∧ m_aheadN i o b np = k
  | 0, h => by
    cases hk : c_nx i o (fun _ => true) np with
    | none =>
      obtain ⟨p, h1, h2⟩ := m_cntN_pos np h
      exact absurd ⟨rfl, h2⟩ (c_nx_none hk p h1)
    | some b =>
      have h1 := c_nx_lt hk
      refine ⟨b, hk, h1.1, h1.2.2, ?_⟩
      exact (zcnt_eq (R := fun _ => False) np (fun q hq => ⟨fun e => c_nx_least h24 hk q hq rfl e.1 e.2, False.elim⟩)).trans (zcnt_F np)
  | k + 1, h => by
    obtain ⟨g, hg, h1, h2, h3⟩ := c_it_m (i := i) (o := o) h24 k (by omega)
    rw [c_it_s hg]
    have hG : ∀ q, q < np → (decide (c_lt i g q) = true ↔ m_lt i g q) := fun q hq => by
      rw [decide_eq_true_iff]
      exact c_lt_m (by omega) (by omega)
    cases hk : c_nx i o (fun p => decide (c_lt i g p)) np with
    | none =>
      exfalso
      have h5 : zcnt (m_isC i o) np ≤ zcnt (fun q => (m_isC i o q ∧ (i 133 q < i 133 g ∨ i 133 q = i 133 g ∧ q < g)) ∨ q = g) np := zcnt_le np (fun q hq e => by
        by_cases c : q = g
        · exact Or.inr c
        · refine Or.inl ⟨e, ?_⟩
          rcases m_lt_tot (i := i) c with d | d
          · exact d
          · exact absurd ⟨(hG q hq).mpr d, e⟩ (c_nx_none hk q hq))
      have h6 : zcnt (fun q => (m_isC i o q ∧ (i 133 q < i 133 g ∨ i 133 q = i 133 g ∧ q < g)) ∨ q = g) np = m_aheadN i o g np + 1 :=
        zcnt_1 (b := g) (fun e => m_lt_irr (i := i) (p := g) e.2) (Or.inr rfl) np h1 (fun q _ hne => ⟨fun e => e.resolve_right hne, Or.inl⟩)
      rw [m_cntN_z] at h
      omega
    | some b =>
      have h4 := c_nx_lt hk
      have hgb : m_lt i g b := (hG b h4.1).mp h4.2.1
      refine ⟨b, rfl, h4.1, h4.2.2, ?_⟩
      rw [← h3]
      refine zcnt_1 (b := g) (fun e => m_lt_irr (i := i) (p := g) e.2) ⟨h2, hgb⟩ np h1 (fun q hq hne => ⟨fun e => ⟨e.1, ?_⟩, fun e => ⟨e.1, m_lt_tr (i := i) (p := q) (q := g) (r := b) e.2 hgb⟩⟩)
      rcases m_lt_tot (i := i) hne with d | d
      · exact d
      · exact absurd e.2 (c_nx_least h24 hk q hq ((hG q hq).mpr d) e.1)
theorem m_cand_k {i : Nat → Nat → Int32} {o np k b : Nat} (h24 : np ≤ 24) (hb : b < np) (hc : m_isC i o b) (h : m_aheadN i o b np = k) : m_cand i o np (nI k) = nI b := by
  have he : ∀ p, p < np → (m_here i o np (nI k) p = true ↔ m_isC i o p ∧ m_aheadN i o p np = k) := fun p hp => by
    unfold m_here
    rw [decide_eq_true_iff, m_ahead_N (by omega) np (by omega)]
    refine and_congr_right fun hp2 => ?_
    have h1 := m_aheadN_cnt hp hp2
    have h2 := m_aheadN_cnt hb hc
    have h3 := m_cntN_le i o np
    exact nI_eq (by omega) (by omega)
  have hz : zfst (m_here i o np (nI k)) np = b := zfst_eq hb ((he b hb).mpr ⟨hc, h⟩) (fun q hq => Bool.eq_false_iff.mpr fun e => by
    have h1 := (he q (by omega)).mp e
    have := m_aheadN_inj (n := np) (by omega) hb h1.1 hc (by omega)
    omega)
  unfold m_cand
  rw [hz, if_pos hb]
theorem m_cand_no {i : Nat → Nat → Int32} {o np : Nat} {v : Int32} (h24 : np ≤ 24) (h : v < 0 ∨ m_cnt i o np ≤ v) : m_cand i o np v = -1 := by
  have hn : ∀ p, p < np → m_here i o np v p = false := fun p hp => Bool.eq_false_iff.mpr fun e => by
    unfold m_here at e
    rw [decide_eq_true_iff, m_ahead_N (by omega) np (by omega)] at e
    have h1 := m_aheadN_cnt hp e.1
    have h3 := m_cntN_le i o np
    rw [m_cnt_N, ← e.2] at h
    rcases h with h | h
    · exact nI_nn _ (by omega) h
    · exact nI_ge h1 (by omega) h
  unfold m_cand
  rw [zfst_none hn, if_neg (Nat.lt_irrefl _)]
theorem c_at_m {i : Nat → Nat → Int32} {o np : Nat} {v : Int32} (h24 : np ≤ 24) : m_cand i o np v = c_opt (c_at i o np v) := by
  unfold c_at
  by_cases h : v < 0 ∨ m_cnt i o np ≤ v
  · rw [if_pos h, m_cand_no h24 h]; rfl
  · rw [if_neg h]
    obtain ⟨j, hj, rfl⟩ := nI_of (fun e => h (Or.inl e))
    have h3 := m_cntN_le i o np
    have hlt : j < m_cntN i o np := Nat.lt_of_not_le fun q => h (Or.inr (by rw [m_cnt_N]; exact nI_le q hj))
    obtain ⟨b, h1, h2, h4, h5⟩ := c_it_m h24 j hlt
    have hcl : cl (nI j) = j := nI_clamp hj
    rw [hcl, h1, m_cand_k h24 h2 h4 h5]
    rfl
theorem c_nx_cand {i : Nat → Nat → Int32} {o np : Nat} (h24 : np ≤ 24) (h : 0 < m_cntN i o np) : ∃ b, c_nx i o (fun _ => true) np = some b ∧ b < np ∧ m_isC i o b ∧ m_cand i o np 0 = nI b := by
  obtain ⟨b, h1, h2, h4, h5⟩ := c_it_m h24 0 h
  exact ⟨b, h1, h2, h4, by rw [nI_d0]; exact m_cand_k h24 h2 h4 h5⟩
