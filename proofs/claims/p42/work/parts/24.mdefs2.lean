/-! PART 24: candidates, ticks of the model -/
/-- the first number below n with P, n if there is none -/
def zfst (P : Nat → Bool) : Nat → Nat
  | 0 => 0
  | n + 1 => if zfst P n < n then zfst P n else if P n then n else n + 1
theorem zfst_le (P : Nat → Bool) : ∀ n, zfst P n ≤ n
  | 0 => Nat.le_refl _
  | n + 1 => by
    have := zfst_le P n
    unfold zfst
    split
    · omega
    · split <;> omega
theorem zfst_no (P : Nat → Bool) : ∀ n k, k < zfst P n → P k = false
  | 0, k, h => absurd h (Nat.not_lt_zero _)
  | n + 1, k, h => by
    have h1 := zfst_le P n
    unfold zfst at h
    split at h
    · exact zfst_no P n k h
    · rename_i h2
      have e : zfst P n = n := by omega
      split at h
      · exact zfst_no P n k (by omega)
      · rename_i h3
        rcases Nat.lt_or_ge k n with q | q
        · exact zfst_no P n k (by omega)
        · have : k = n := by omega
          subst this
          exact Bool.eq_false_iff.mpr h3
theorem zfst_yes (P : Nat → Bool) : ∀ n, zfst P n < n → P (zfst P n) = true
  | 0, h => absurd h (Nat.not_lt_zero _)
  | n + 1, h => by
    unfold zfst at h ⊢
    split at h
    · rename_i h2
      rw [if_pos h2]
      exact zfst_yes P n h2
    · rename_i h2
      rw [if_neg h2]
      split at h
      · rename_i h3
        rw [if_pos h3]
        exact h3
      · omega
theorem zfst_eq {P : Nat → Bool} {n k : Nat} (hk : k < n) (h : P k = true) (hno : ∀ q, q < k → P q = false) : zfst P n = k := by
  have h1 := zfst_no P n
  have h3 := zfst_le P n
  rcases Nat.lt_trichotomy (zfst P n) k with q | q | q
  · have := zfst_yes P n (by omega)
    rw [hno _ q] at this
    cases this
  · exact q
  · have := h1 k q
    rw [h] at this
    cases this
theorem zfst_none {P : Nat → Bool} {n : Nat} (hno : ∀ q, q < n → P q = false) : zfst P n = n := by
  have h3 := zfst_le P n
  rcases Nat.lt_or_ge (zfst P n) n with q | q
  · have := zfst_yes P n q
    rw [hno _ q] at this
    cases this
  · omega
/-- how many of the first n pallets are candidates ahead of p -/
def m_ahead (i : Nat → Nat → Int32) (o p : Nat) : Nat → Int32
  | 0 => 0
  | n + 1 => m_ahead i o p n + zb (m_isC i o n ∧ (i 133 n < i 133 p ∨ i 133 n = i 133 p ∧ ¬ nI p ≤ nI n))
def m_here (i : Nat → Nat → Int32) (o np : Nat) (x : Int32) (p : Nat) : Bool := decide (m_isC i o p ∧ m_ahead i o p np = x)
def m_cand (i : Nat → Nat → Int32) (o np : Nat) (x : Int32) : Int32 := if zfst (m_here i o np x) np < np then nI (zfst (m_here i o np x) np) else -1
theorem m_warm1_k {i : Nat → Nat → Int32} {r k : Nat} : m_warm1 i r 1 k = i 1 k := by
  unfold m_warm1
  rw [zup_n (by omega), zup_n (by omega), zup_n (by omega), zup_n (by omega)]
theorem m_warmI_k {i : Nat → Nat → Int32} {k : Nat} : ∀ r, m_warmI i r 1 k = i 1 k
  | 0 => rfl
  | r + 1 => by show m_warm1 _ _ 1 k = _; rw [m_warm1_k, m_warmI_k r]
