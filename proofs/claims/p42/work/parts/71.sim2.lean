/-! PART 71: the class's first candidate is the model's -/
theorem m_lt_tr {i : Nat → Nat → Int32} {p q r : Nat} (h1 : m_lt i p q) (h2 : m_lt i q r) : m_lt i p r := by
  unfold m_lt at *
  rcases h1 with a | ⟨a, a'⟩ <;> rcases h2 with b | ⟨b, b'⟩
  · exact Or.inl (Int32.lt_trans a b)
  · exact Or.inl (by rw [← b]; exact a)
  · exact Or.inl (by rw [a]; exact b)
  · exact Or.inr ⟨a.trans b, by omega⟩
theorem c_lt_m {i : Nat → Nat → Int32} {p q : Nat} (hp : p < 2 ^ 30) (hq : q < 2 ^ 30) : c_lt i p q ↔ m_lt i p q := by
  unfold m_lt
  refine ⟨fun e => e.elim Or.inl (fun e => Or.inr ⟨e.1, ?_⟩), fun e => e.elim Or.inl (fun e => Or.inr ⟨e.1, nI_lt e.2 (by omega)⟩)⟩
  exact Nat.lt_of_not_le fun c => nI_ge_ c (by omega) e.2
theorem m_lt_irr {i : Nat → Nat → Int32} {p : Nat} : ¬ m_lt i p p := fun e => e.elim Int32.lt_irrefl (fun e => Nat.lt_irrefl _ e.2)
theorem c_nx_none {i : Nat → Nat → Int32} {o : Nat} {G : Nat → Bool} : ∀ {k : Nat}, c_nx i o G k = none → ∀ q, q < k → ¬ (G q = true ∧ m_isC i o q)
  | 0, _, q, hq => absurd hq (Nat.not_lt_zero _)
  | k + 1, h, q, hq => by
    cases hk : c_nx i o G k with
    | none =>
      rw [c_nx_n hk] at h
      rcases Nat.lt_or_ge q k with r | r
      · exact c_nx_none hk q r
      · have : q = k := by omega
        subst this
        intro e
        rw [if_pos e] at h
        cases h
    | some b =>
      rw [c_nx_s hk] at h
      split at h <;> cases h
theorem c_nx_least {i : Nat → Nat → Int32} {o : Nat} {G : Nat → Bool} : ∀ {k b : Nat}, k ≤ 24 → c_nx i o G k = some b → ∀ q, q < k → G q = true → m_isC i o q → ¬ m_lt i q b
  | 0, _, _, h, _, _, _, _ => nomatch h
  | k + 1, b, hk24, h, q, hq, hG, hC => by
    cases hk : c_nx i o G k with
    | none =>
      rw [c_nx_n hk] at h
      have hn := c_nx_none hk
      split at h
      · cases h
        rcases Nat.lt_or_ge q k with r | r
        · exact absurd ⟨hG, hC⟩ (hn q r)
        · have : q = k := by omega
          subst this
          exact m_lt_irr
      · cases h
    | some c =>
      have ih := c_nx_least (by omega) hk
      have hc := (c_nx_lt hk).1
      rw [c_nx_s hk] at h
      split at h
      · rename_i hs
        cases h
        have hkc := (c_lt_m (by omega) (by omega)).mp hs.2
        rcases Nat.lt_or_ge q k with r | r
        · exact fun e => ih q r hG hC (m_lt_tr e hkc)
        · have : q = k := by omega
          subst this
          exact m_lt_irr
      · rename_i hs
        cases h
        rcases Nat.lt_or_ge q k with r | r
        · exact ih q r hG hC
        · have : q = k := by omega
          subst this
          exact fun e => hs ⟨⟨hG, hC⟩, (c_lt_m (by omega) (by omega)).mpr e⟩
