/-! PART 22: the model's private methods as functions of its memory -/
def cl (x : Int32) : Nat := x.toNatClampNeg
def m_by (i : Nat → Nat → Int32) (j : Nat) : Int32 := if mPeak i then i 108 j else if ¬ i 1 20 = -1 ∧ zin (i 1 20 - mq i) 1 (i 107 j) then -(i 108 j) else 0
def m_want (i : Nat → Nat → Int32) (j : Nat) : Int32 := if ¬ i 109 j = 97 then zb (i 109 j = 111) else if ¬ i 110 j ≤ i 106 j + m_by i j then 1 else if ¬ i 105 j + m_by i j < i 110 j then 0 else i 111 j
def m_wish (i : Nat → Nat → Int32) (j : Nat) : Nat → Nat → Int32 := zup i 111 j (m_want i j)
/-- the room that is given power next, of the first ones -/
def m_next (i : Nat → Nat → Int32) : Nat → Int32
  | 0 => -1
  | r + 1 => if (¬ i 111 r = 0 ∧ i 113 r = 0) ∧ (m_next i r = -1 ∨ ¬ i 110 r - i 106 r ≤ i 110 (cl (m_next i r)) - i 106 (cl (m_next i r))) then nI r else m_next i r
theorem m_next_or (i : Nat → Nat → Int32) : ∀ r, r ≤ 4 → m_next i r = -1 ∨ ∃ b, b < r ∧ m_next i r = nI b ∧ ¬ i 111 b = 0 ∧ i 113 b = 0
  | 0, _ => Or.inl rfl
  | r + 1, h => by
    unfold m_next
    split
    · rename_i hc
      exact Or.inr ⟨r, by omega, rfl, hc.1.1, hc.1.2⟩
    · rcases m_next_or i r (by omega) with h1 | ⟨b, h1, h2⟩
      · exact Or.inl h1
      · exact Or.inr ⟨b, by omega, h2⟩
theorem m_next_in (i : Nat → Nat → Int32) {r : Nat} (h : r ≤ 4) (hne : ¬ m_next i r = -1) : vp_in (m_next i r) 4 := by
  rcases m_next_or i r h with h1 | ⟨b, h1, h2, -⟩
  · exact absurd h1 hne
  · rw [h2]; exact vp_in_nI (by omega) (by decide)
def m_pwc (i : Nat → Nat → Int32) : Nat → Nat → Nat → Int32
  | 0 => zup i 1 24 0
  | r + 1 => zup (zup (m_pwc i r) 113 r 0) 112 r 0
/-- power is given to the room r, or not -/
def m_give1 (i : Nat → Nat → Int32) (r : Nat) : Nat → Nat → Int32 := zup (zup (zup i 113 r 1) 112 r (if i 1 23 < i 1 24 + i 104 r then 0 else 1)) 1 24 (i 1 24 + (if i 1 23 < i 1 24 + i 104 r then 0 else i 104 r))
def m_giveN (nr : Nat) : Nat → (Nat → Nat → Int32) → Nat → Nat → Int32
  | 0, i => i
  | m + 1, i => if m_next i nr = -1 then i else m_giveN nr m (m_give1 i (cl (m_next i nr)))
def m_powers (i : Nat → Nat → Int32) (nr : Nat) : Nat → Nat → Int32 := m_giveN nr nr (m_pwc i nr)
def m_ung (i : Nat → Nat → Int32) : Nat → Nat
  | 0 => 0
  | r + 1 => m_ung i r + if i 113 r = 0 then 1 else 0
theorem m_ung_le (i : Nat → Nat → Int32) : ∀ n, m_ung i n ≤ n
  | 0 => Nat.le_refl _
  | r + 1 => by
    have := m_ung_le i r
    unfold m_ung
    split <;> omega
theorem m_ung_off {i j : Nat → Nat → Int32} : ∀ n, (∀ r, r < n → i 113 r = j 113 r) → m_ung i n = m_ung j n
  | 0, _ => rfl
  | r + 1, h => by
    unfold m_ung
    rw [m_ung_off r (fun q hq => h q (by omega)), h r (by omega)]
theorem m_ung_dec {i j : Nat → Nat → Int32} {b : Nat} (hb : i 113 b = 0) (hj : ¬ j 113 b = 0) (ho : ∀ r, r ≠ b → j 113 r = i 113 r) : ∀ n, b < n → m_ung j n + 1 = m_ung i n
  | 0, h => absurd h (Nat.not_lt_zero _)
  | r + 1, h => by
    unfold m_ung
    rcases Nat.lt_or_ge b r with q | q
    · have := m_ung_dec hb hj ho r q
      rw [ho r (by omega)]
      omega
    · have e : r = b := by omega
      subst e
      rw [if_neg hj, if_pos hb, m_ung_off r (fun q hq => ho q (by omega))]
theorem m_give1_ung {i : Nat → Nat → Int32} {nr : Nat} (h4 : nr ≤ 4) (hne : ¬ m_next i nr = -1) : m_ung (m_give1 i (cl (m_next i nr))) nr + 1 = m_ung i nr := by
  rcases m_next_or i nr h4 with h | ⟨b, h1, h2, h3, h5⟩
  · exact absurd h hne
  · have e : cl (m_next i nr) = b := by rw [h2]; exact nI_clamp (by omega)
    rw [e]
    refine m_ung_dec (b := b) h5 ?_ (fun r hr => ?_) nr h1
    · unfold m_give1
      rw [zup_n (by omega), zup_n (by omega), zup_s]
      decide
    · unfold m_give1
      rw [zup_n (by omega), zup_n (by omega), zup_n (by omega)]
theorem m_give1_k {i : Nat → Nat → Int32} {r k : Nat} (h : k ≠ 24) : m_give1 i r 1 k = i 1 k := by
  unfold m_give1
  rw [zup_n (by omega), zup_n (by omega), zup_n (by omega)]
/-- the new temperature of room r -/
def m_t1 (i : Nat → Nat → Int32) (r : Nat) : Int32 := i 110 r + ((i 1 1 - i 110 r) * i 102 r / 100 - (if i 112 r = 0 then 0 else i 103 r))
def m_t (i : Nat → Nat → Int32) (r : Nat) : Int32 := if (-400) < m_t1 i r then m_t1 i r else -400
def m_warm1 (i : Nat → Nat → Int32) (r : Nat) : Nat → Nat → Int32 := zup (zup (zup (zup i 110 r (m_t1 i r)) 110 r (m_t i r)) 114 r (if i 116 r = 0 ∨ ¬ m_t i r ≤ i 114 r then m_t i r else i 114 r)) 116 r (i 116 r + 1)
def m_warmI (i : Nat → Nat → Int32) : Nat → Nat → Nat → Int32
  | 0 => i
  | r + 1 => m_warm1 (m_warmI i r) r
def m_warmL (i : Nat → Nat → Int32) (lm : Nat → Nat → Int64) : Nat → Nat → Nat → Int64
  | 0 => lm
  | r + 1 => zup (m_warmL i lm r) 115 r (m_warmL i lm r 115 r + (m_t (m_warmI i r) r).toInt64)
def m_loss (i : Nat → Nat → Int32) (p : Nat) (t : Int32) : Int32 := if ¬ i 129 (cl (i 131 p)) ≤ t then 10 else 1 + (if 0 < t - i 128 (cl (i 131 p)) then t - i 128 (cl (i 131 p)) else 0) / 20
abbrev m_isC (i : Nat → Nat → Int32) (o p : Nat) : Prop := i 134 p = 114 ∧ i 131 p = i 136 o ∧ ¬ i 133 p < i 138 o
def m_cnt (i : Nat → Nat → Int32) (o : Nat) : Nat → Int32
  | 0 => 0
  | p + 1 => m_cnt i o p + zb (m_isC i o p)
def m_filled (i : Nat → Nat → Int32) (r : Int32) : Nat → Int32
  | 0 => 0
  | p + 1 => m_filled i r p + zb (i 134 p = 114 ∧ i 132 p = r)
theorem m_pwc_k {i : Nat → Nat → Int32} {k : Nat} (h : k ≠ 24) : ∀ r, m_pwc i r 1 k = i 1 k
  | 0 => zup_n (by omega)
  | r + 1 => by
    unfold m_pwc
    rw [zup_n (by omega), zup_n (by omega), m_pwc_k h r]
