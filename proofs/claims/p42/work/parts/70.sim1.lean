/-! PART 70: the class's functions are the model's -/
def c_opt (o : Option Nat) : Int32 := match o with
  | none => -1
  | some b => nI b
theorem nI_nm {b : Nat} (h : b < 2 ^ 30) : ¬ nI b = -1 := fun e => nI_nn b h (by rw [e]; decide)
theorem c_lt_le {i : Nat → Nat → Int32} {k b : Nat} (hb : b < k) (hk : k < 2 ^ 30) : c_lt i k b ↔ ¬ i 133 b ≤ i 133 k := by
  rw [Int32.not_le]
  exact ⟨fun e => e.elim id (fun e => absurd e.2 (nI_ge_ (by omega) (by omega))), Or.inl⟩
theorem c_sn_soon {i : Nat → Nat → Int32} : ∀ k, k ≤ 24 → m_soon i k = c_opt (c_sn i k)
  | 0, _ => rfl
  | k + 1, h => by
    have ih := c_sn_soon (i := i) k (by omega)
    cases hk : c_sn i k with
    | none =>
      rw [hk] at ih
      rw [c_sn_n hk]
      unfold m_soon
      rw [ih]
      by_cases hc : i 134 k = 114
      · rw [if_pos hc, if_pos ⟨hc, Or.inl rfl⟩]; rfl
      · rw [if_neg hc, if_neg (fun e => hc e.1)]
    | some b =>
      have hb := (c_sn_lt hk).1
      rw [hk] at ih
      rw [c_sn_s hk]
      unfold m_soon
      rw [ih]
      have hcl : cl (c_opt (some b)) = b := nI_clamp (by omega)
      have hne : ¬ c_opt (some b) = -1 := nI_nm (by omega)
      have hlt := c_lt_le (i := i) hb (by omega)
      rw [hcl]
      by_cases hc : i 134 k = 114 ∧ c_lt i k b
      · rw [if_pos hc, if_pos ⟨hc.1, Or.inr (hlt.mp hc.2)⟩]; rfl
      · rw [if_neg hc, if_neg (fun e => hc ⟨e.1, hlt.mpr (e.2.resolve_left hne)⟩)]
theorem c_t_m {i : Nat → Nat → Int32} {j : Nat} : c_t i j (i 1 1) = m_t i j := by
  have e : c_t1 i j (i 1 1) = m_t1 i j := by
    unfold c_t1 m_t1
    by_cases h : i 112 j = 0
    · rw [if_pos h, if_pos h, Int32.sub_zero]
    · rw [if_neg h, if_neg h, Int32.sub_eq_add_neg, Int32.add_assoc, ← Int32.sub_eq_add_neg]
  unfold c_t m_t
  rw [e]
