/-! PART 28: the model's tick -/
def m_wishes (i : Nat → Nat → Int32) : Nat → Nat → Nat → Int32
  | 0 => i
  | r + 1 => m_wish (m_wishes i r) r
theorem m_wishes_o {i : Nat → Nat → Int32} {a b : Nat} (h : a ≠ 111) : ∀ r, m_wishes i r a b = i a b
  | 0 => rfl
  | r + 1 => (zup_n (by omega)).trans (m_wishes_o h r)
theorem m_pwc_o {i : Nat → Nat → Int32} {a b : Nat} (h1 : a ≠ 112) (h2 : a ≠ 113) (h3 : ¬ (a = 1 ∧ b = 24)) : ∀ r, m_pwc i r a b = i a b
  | 0 => zup_n h3
  | r + 1 => (zup_n (by omega)).trans ((zup_n (by omega)).trans (m_pwc_o h1 h2 h3 r))
theorem m_giveN_o {nr a b : Nat} (h1 : a ≠ 112) (h2 : a ≠ 113) (h3 : ¬ (a = 1 ∧ b = 24)) : ∀ (m : Nat) (i : Nat → Nat → Int32), m_giveN nr m i a b = i a b
  | 0, _ => rfl
  | m + 1, i => by
    unfold m_giveN
    split
    · rfl
    · rw [m_giveN_o h1 h2 h3 m]
      unfold m_give1
      rw [zup_n h3, zup_n (by omega), zup_n (by omega)]
theorem m_powers_o {i : Nat → Nat → Int32} {nr a b : Nat} (h1 : a ≠ 112) (h2 : a ≠ 113) (h3 : ¬ (a = 1 ∧ b = 24)) : m_powers i nr a b = i a b :=
  (m_giveN_o h1 h2 h3 _ _).trans (m_pwc_o h1 h2 h3 _)
theorem m_warmI_o {i : Nat → Nat → Int32} {a b : Nat} (h1 : a ≠ 110) (h2 : a ≠ 114) (h3 : a ≠ 116) : ∀ r, m_warmI i r a b = i a b
  | 0 => rfl
  | r + 1 => by
    show m_warm1 _ _ a b = _
    unfold m_warm1
    rw [zup_n (by omega), zup_n (by omega), zup_n (by omega), zup_n (by omega)]
    exact m_warmI_o h1 h2 h3 r
/-- the rooms' part of a tick -/
def m_tk1 (i : Nat → Nat → Int32) (nr : Nat) : Nat → Nat → Int32 := m_warmI (m_powers (m_wishes i nr) nr) nr
def m_tk1L (i : Nat → Nat → Int32) (lm : Nat → Nat → Int64) (nr : Nat) : Nat → Nat → Int64 := m_warmL (m_powers (m_wishes i nr) nr) lm nr
theorem m_tk1_o {i : Nat → Nat → Int32} {nr a b : Nat} (h0 : a ≠ 111) (h1 : a ≠ 112) (h2 : a ≠ 113) (h3 : ¬ (a = 1 ∧ b = 24)) (h4 : a ≠ 110) (h5 : a ≠ 114) (h6 : a ≠ 116) : m_tk1 i nr a b = i a b :=
  (m_warmI_o h4 h5 h6 _).trans ((m_powers_o h1 h2 h3).trans (m_wishes_o h0 _))
/-- the costs -/
def m_tk2 (i : Nat → Nat → Int32) : Nat → Nat → Int32 := zup i 1 25 (if i 1 25 < i 1 24 then i 1 24 else i 1 25)
def m_tk2L (i : Nat → Nat → Int32) (lm : Nat → Nat → Int64) : Nat → Nat → Int64 := zup lm 1 26 (lm 1 26 + (i 1 24).toInt64 * (if mPeak (m_tk2 i) then i 1 19 else i 1 18).toInt64)
def m_age1 (j : Nat → Nat → Int32) (p : Nat) : Int32 := if j 134 p = 114 then (if 0 < j 133 p - m_loss j p (j 110 (cl (j 132 p))) then j 133 p - m_loss j p (j 110 (cl (j 132 p))) else 0) else j 133 p
def m_age (j : Nat → Nat → Int32) : Nat → Nat → Nat → Int32
  | 0 => j
  | p + 1 => zup (m_age j p) 133 p (m_age1 (m_age j p) p)
theorem m_age_o {j : Nat → Nat → Int32} {a b : Nat} (h : a ≠ 133) : ∀ p, m_age j p a b = j a b
  | 0 => rfl
  | p + 1 => (zup_n (by omega)).trans (m_age_o h p)
def m_due1 (j : Nat → Nat → Int32) (np o : Nat) : Nat → Nat → Int32 := if j 140 o = 111 ∧ j 139 o = j 1 0 then (if m_cnt j o np < j 137 o then zup j 140 o 109 else m_ships j o np) else j
def m_due1S (j : Nat → Nat → Int32) (np o : Nat) : Int32 := if j 140 o = 111 ∧ j 139 o = j 1 0 then (if m_cnt j o np < j 137 o then 0 else 1) else 0
def m_due (j : Nat → Nat → Int32) (np : Nat) : Nat → Nat → Nat → Int32
  | 0 => j
  | o + 1 => m_due1 (m_due j np o) np o
def m_dueS (j : Nat → Nat → Int32) (np : Nat) : Nat → Int32
  | 0 => 0
  | o + 1 => m_dueS j np o + m_due1S (m_due j np o) np o
theorem m_due1_o {j : Nat → Nat → Int32} {np o a b : Nat} (h1 : a ≠ 141) (h2 : a ≠ 134) (h3 : a ≠ 140) : m_due1 j np o a b = j a b := by
  unfold m_due1
  split
  · split
    · exact zup_n (by omega)
    · exact m_ships_o h1 h2 h3
  · rfl
theorem m_due_o {j : Nat → Nat → Int32} {np a b : Nat} (h1 : a ≠ 141) (h2 : a ≠ 134) (h3 : a ≠ 140) : ∀ o, m_due j np o a b = j a b
  | 0 => rfl
  | o + 1 => (m_due1_o h1 h2 h3).trans (m_due_o h1 h2 h3 o)
/-- behind the pallets' loss the time goes on -/
def m_tk3 (i : Nat → Nat → Int32) (np : Nat) : Nat → Nat → Int32 := zup (m_age i np) 1 0 (m_age i np 1 0 + 1)
def m_tickB (i : Nat → Nat → Int32) (nr np : Nat) : Nat → Nat → Int32 := m_tk3 (m_tk2 (m_tk1 i nr)) np
def m_tickI (i : Nat → Nat → Int32) (nr np no : Nat) : Nat → Nat → Int32 := m_due (m_tickB i nr np) np no
def m_tickS (i : Nat → Nat → Int32) (nr np no : Nat) : Int32 := m_dueS (m_tickB i nr np) np no
def m_tickL (i : Nat → Nat → Int32) (lm : Nat → Nat → Int64) (nr : Nat) : Nat → Nat → Int64 := m_tk2L (m_tk1 i nr) (m_tk1L i lm nr)
theorem m_tickB_o {i : Nat → Nat → Int32} {nr np a b : Nat} (h : a = 1 ∧ b ≠ 24 ∧ b ≠ 25 ∧ b ≠ 0 ∨ a ≠ 1 ∧ a ≠ 110 ∧ a ≠ 111 ∧ a ≠ 112 ∧ a ≠ 113 ∧ a ≠ 114 ∧ a ≠ 116 ∧ a ≠ 133) : m_tickB i nr np a b = i a b :=
  (zup_n (by omega)).trans ((m_age_o (by omega) _).trans ((zup_n (by omega)).trans (m_tk1_o (by omega) (by omega) (by omega) (by omega) (by omega) (by omega) (by omega))))
theorem m_tickI_o {i : Nat → Nat → Int32} {nr np no a b : Nat} (h : a = 1 ∧ b ≠ 24 ∧ b ≠ 25 ∧ b ≠ 0 ∨ a ≠ 1 ∧ a ≠ 110 ∧ a ≠ 111 ∧ a ≠ 112 ∧ a ≠ 113 ∧ a ≠ 114 ∧ a ≠ 116 ∧ a ≠ 133 ∧ a ≠ 134 ∧ a ≠ 140 ∧ a ≠ 141) : m_tickI i nr np no a b = i a b :=
  (m_due_o (by omega) (by omega) (by omega) _).trans (m_tickB_o (by omega))
/-- what the numbers of the memory are at least: its rows can be read -/
def mWF (i : Nat → Nat → Int32) (nr np no : Nat) : Prop := (i 1 17 = nI nr ∧ nr ≤ 4) ∧ (i 1 35 = nI np ∧ np ≤ 24) ∧ (i 1 42 = nI no ∧ no ≤ 12) ∧ (∀ p, p < np → vp_in (i 131 p) 5 ∧ vp_in (i 132 p) 4) ∧ (∀ o, o < no → ∃ c, 1 ≤ c ∧ c ≤ 8 ∧ i 137 o = nI c)
theorem mWF.of {i j : Nat → Nat → Int32} {nr np no : Nat} (h : mWF i nr np no) (e : ∀ a b, (a = 1 ∧ (b = 17 ∨ b = 35 ∨ b = 42) ∨ a = 131 ∨ a = 132 ∨ a = 137) → j a b = i a b) : mWF j nr np no := by
  obtain ⟨h1, h2, h3, h4, h5⟩ := h
  refine ⟨by rw [e 1 17 (by omega)]; exact h1, by rw [e 1 35 (by omega)]; exact h2, by rw [e 1 42 (by omega)]; exact h3, fun p hp => ?_, fun o ho => ?_⟩
  · rw [e 131 p (by omega), e 132 p (by omega)]; exact h4 p hp
  · rw [e 137 o (by omega)]; exact h5 o ho
