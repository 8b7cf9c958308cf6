/-! PART 33: further calls -/
theorem zin_pos {t : Int32} {N : Nat} (h : zin t 1 (nI N)) (hN : N < 2 ^ 30 := by decide) : ∃ j : Nat, j ≤ N ∧ 1 ≤ j ∧ t = nI j := by
  obtain ⟨h1, h2⟩ := h
  have h0 : ¬ t < 0 := fun q => h1 (Int32.lt_trans q (by decide))
  obtain ⟨j, hj, rfl⟩ := nI_of h0
  refine ⟨j, Nat.le_of_not_lt fun q => h2 (nI_lt q hj), ?_, rfl⟩
  rcases Nat.eq_zero_or_pos j with e | e
  · subst e
    exact absurd (by decide) h1
  · exact e
def m_soon (i : Nat → Nat → Int32) : Nat → Int32
  | 0 => -1
  | p + 1 => if i 134 p = 114 ∧ (m_soon i p = -1 ∨ ¬ i 133 (cl (m_soon i p)) ≤ i 133 p) then nI p else m_soon i p
theorem m_soon_or (i : Nat → Nat → Int32) : ∀ n, m_soon i n = -1 ∨ ∃ b, b < n ∧ m_soon i n = nI b ∧ i 134 b = 114
  | 0 => Or.inl rfl
  | p + 1 => by
    unfold m_soon
    split
    · rename_i h
      exact Or.inr ⟨p, by omega, rfl, h.1⟩
    · rcases m_soon_or i p with h1 | ⟨b, h1, h2⟩
      · exact Or.inl h1
      · exact Or.inr ⟨b, by omega, h2⟩
theorem m_soon_in (i : Nat → Nat → Int32) {n : Nat} (h : n ≤ 24) (hne : ¬ m_soon i n = -1) : vp_in (m_soon i n) 24 := by
  rcases m_soon_or i n with h1 | ⟨b, h1, h2, -⟩
  · exact absurd h1 hne
  · rw [h2]; exact vp_in_nI (by omega) (by decide)
def m_lost (i : Nat → Nat → Int32) : Nat → Int32
  | 0 => 0
  | p + 1 => m_lost i p + zb (i 134 p = 120 ∨ i 133 p = 0)
def m_openN (i : Nat → Nat → Int32) : Nat → Int32
  | 0 => 0
  | o + 1 => m_openN i o + zb (i 140 o = 111)
def m_tkI (nr np no : Nat) (i : Nat → Nat → Int32) : Nat → Nat → Nat → Int32
  | 0 => i
  | k + 1 => m_tickI (m_tkI nr np no i k) nr np no
def m_tkL (nr np no : Nat) (i : Nat → Nat → Int32) (lm : Nat → Nat → Int64) : Nat → Nat → Nat → Int64
  | 0 => lm
  | k + 1 => m_tickL (m_tkI nr np no i k) (m_tkL nr np no i lm k) nr
def m_tkS (nr np no : Nat) (i : Nat → Nat → Int32) : Nat → Int32
  | 0 => 0
  | k + 1 => m_tkS nr np no i k + m_tickS (m_tkI nr np no i k) nr np no
theorem m_tkI_o {i : Nat → Nat → Int32} {nr np no a b : Nat} (h : a = 1 ∧ b ≠ 24 ∧ b ≠ 25 ∧ b ≠ 0 ∨ a ≠ 1 ∧ a ≠ 110 ∧ a ≠ 111 ∧ a ≠ 112 ∧ a ≠ 113 ∧ a ≠ 114 ∧ a ≠ 116 ∧ a ≠ 133 ∧ a ≠ 134 ∧ a ≠ 140 ∧ a ≠ 141) : ∀ k, m_tkI nr np no i k a b = i a b
  | 0 => rfl
  | k + 1 => (m_tickI_o h).trans (m_tkI_o h k)
def q_meanTemperatureT (i : Nat → Nat → Int32) (r : Int32) : Int32 := if ¬ zin r 0 (i 1 17 - 1) then 1 else (if i 116 (cl r) = 0 then 2 else (0))
def q_meanTemperatureV (i : Nat → Nat → Int32) (lm : Nat → Nat → Int64) (r : Int32) : UInt64 := if ¬ zin r 0 (i 1 17 - 1) then FP.dconst0 else (if i 116 (cl r) = 0 then FP.dconst0 else (FP.ddiv (FP.l2d (lm 115 (cl r))) (FP.i2d (i 116 (cl r)))))
def q_meanTemperatureF (i : Nat → Nat → Int32) (r : Int32) : Nat → Nat → Int32 := if ¬ zin r 0 (i 1 17 - 1) then zup i 1 43 1 else (if i 116 (cl r) = 0 then zup i 1 43 2 else (zup i 1 43 0))
def q_forecastT (i : Nat → Nat → Int32) (p : Int32) (t : Int32) : Int32 := if ¬ zin p 0 (i 1 35 - 1) then 1 else (if ¬ i 134 (cl p) = 114 then 2 else (if ¬ zin t 0 960 then 3 else (0)))
def q_forecastV (i : Nat → Nat → Int32) (p : Int32) (t : Int32) : Int32 := if ¬ zin p 0 (i 1 35 - 1) then 0 else (if ¬ i 134 (cl p) = 114 then 0 else (if ¬ zin t 0 960 then 0 else ((if 0 < i 133 (cl p) - t * m_loss (zup i 1 43 0) (cl p) (i 110 (cl (i 132 (cl p)))) then i 133 (cl p) - t * m_loss (zup i 1 43 0) (cl p) (i 110 (cl (i 132 (cl p)))) else 0))))
def q_forecastF (i : Nat → Nat → Int32) (p : Int32) (t : Int32) : Nat → Nat → Int32 := if ¬ zin p 0 (i 1 35 - 1) then zup i 1 43 1 else (if ¬ i 134 (cl p) = 114 then zup i 1 43 2 else (if ¬ zin t 0 960 then zup i 1 43 3 else (zup i 1 43 0)))
def q_soonestT (i : Nat → Nat → Int32) (np : Nat) : Int32 := if m_soon i np = -1 then 1 else (0)
def q_soonestV (i : Nat → Nat → Int32) (np : Nat) : Int32 := if m_soon i np = -1 then 0 else (m_soon i np)
def q_soonestF (i : Nat → Nat → Int32) (np : Nat) : Nat → Nat → Int32 := if m_soon i np = -1 then zup i 1 43 1 else (zup i 1 43 0)
def q_lostShareT (i : Nat → Nat → Int32) (np : Nat) : Int32 := if i 1 35 = 0 then 1 else (0)
def q_lostShareV (i : Nat → Nat → Int32) (np : Nat) : UInt32 := if i 1 35 = 0 then FP.fconst0 else (FP.fdiv (FP.i2f (m_lost i np)) (FP.i2f (i 1 35)))
def q_lostShareF (i : Nat → Nat → Int32) (np : Nat) : Nat → Nat → Int32 := if i 1 35 = 0 then zup i 1 43 1 else (zup i 1 43 0)
def q_orderT (i : Nat → Nat → Int32) (nk : Nat) (no : Nat) (kd : Int32) (a : Int32) (b : Int32) (e : Int32) : Int32 := if ¬ zin kd 0 (nI nk - 1) then 1 else (if ¬ (zin a 1 8 ∧ zin b 0 9999 ∧ zin e (i 1 0 + 1) 960) then 2 else (if nI no = 12 then 3 else (0)))
def q_orderV (i : Nat → Nat → Int32) (nk : Nat) (no : Nat) (kd : Int32) (a : Int32) (b : Int32) (e : Int32) : Int32 := if ¬ zin kd 0 (nI nk - 1) then 0 else (if ¬ (zin a 1 8 ∧ zin b 0 9999 ∧ zin e (i 1 0 + 1) 960) then 0 else (if nI no = 12 then 0 else (nI no + 1 - 1)))
def q_orderF (i : Nat → Nat → Int32) (nk : Nat) (no : Nat) (kd : Int32) (a : Int32) (b : Int32) (e : Int32) : Nat → Nat → Int32 := if ¬ zin kd 0 (nI nk - 1) then zup i 1 43 1 else (if ¬ (zin a 1 8 ∧ zin b 0 9999 ∧ zin e (i 1 0 + 1) 960) then zup i 1 43 2 else (if nI no = 12 then zup i 1 43 3 else (zup (zup (zup (zup (zup (zup (zup i 1 43 0) 136 no kd) 137 no a) 138 no b) 139 no e) 140 no 111) 1 42 (nI no + 1))))
def q_cancelT (i : Nat → Nat → Int32) (no : Nat) (o : Int32) : Int32 := if ¬ zin o 0 (i 1 42 - 1) then 1 else (if ¬ i 140 (cl o) = 111 then 2 else (0))
def q_cancelV (i : Nat → Nat → Int32) (no : Nat) (o : Int32) : Int32 := if ¬ zin o 0 (i 1 42 - 1) then 0 else (if ¬ i 140 (cl o) = 111 then 0 else (m_openN (zup (zup i 1 43 0) 140 (cl o) 99) no))
def q_cancelF (i : Nat → Nat → Int32) (no : Nat) (o : Int32) : Nat → Nat → Int32 := if ¬ zin o 0 (i 1 42 - 1) then zup i 1 43 1 else (if ¬ i 140 (cl o) = 111 then zup i 1 43 2 else (zup (zup i 1 43 0) 140 (cl o) 99))
def q_candidatesT (i : Nat → Nat → Int32) (np : Nat) (o : Int32) : Int32 := if ¬ zin o 0 (i 1 42 - 1) then 1 else (0)
def q_candidatesV (i : Nat → Nat → Int32) (np : Nat) (o : Int32) : Int32 := if ¬ zin o 0 (i 1 42 - 1) then 0 else (m_cnt (zup i 1 43 0) (cl o) np)
def q_candidatesF (i : Nat → Nat → Int32) (np : Nat) (o : Int32) : Nat → Nat → Int32 := if ¬ zin o 0 (i 1 42 - 1) then zup i 1 43 1 else (zup i 1 43 0)
def q_candidateAtT (i : Nat → Nat → Int32) (np : Nat) (o : Int32) (x : Int32) : Int32 := if ¬ zin o 0 (i 1 42 - 1) then 1 else (if m_cand i (cl o) np x = -1 then 2 else (0))
def q_candidateAtV (i : Nat → Nat → Int32) (np : Nat) (o : Int32) (x : Int32) : Int32 := if ¬ zin o 0 (i 1 42 - 1) then 0 else (if m_cand i (cl o) np x = -1 then 0 else (m_cand i (cl o) np x))
def q_candidateAtF (i : Nat → Nat → Int32) (np : Nat) (o : Int32) (x : Int32) : Nat → Nat → Int32 := if ¬ zin o 0 (i 1 42 - 1) then zup i 1 43 1 else (if m_cand i (cl o) np x = -1 then zup i 1 43 2 else (zup i 1 43 0))
def q_shipT (i : Nat → Nat → Int32) (np : Nat) (o : Int32) : Int32 := if ¬ zin o 0 (i 1 42 - 1) then 1 else (if ¬ i 140 (cl o) = 111 then 2 else (if ¬ i 137 (cl o) ≤ m_cnt i (cl o) np then 3 else (0)))
def q_shipV (i : Nat → Nat → Int32) (np : Nat) (o : Int32) : Int32 := if ¬ zin o 0 (i 1 42 - 1) then 0 else (if ¬ i 140 (cl o) = 111 then 0 else (if ¬ i 137 (cl o) ≤ m_cnt i (cl o) np then 0 else (m_shipS (zup i 1 43 0) (cl o) np (cl (i 137 (cl o))))))
def q_shipF (i : Nat → Nat → Int32) (np : Nat) (o : Int32) : Nat → Nat → Int32 := if ¬ zin o 0 (i 1 42 - 1) then zup i 1 43 1 else (if ¬ i 140 (cl o) = 111 then zup i 1 43 2 else (if ¬ i 137 (cl o) ≤ m_cnt i (cl o) np then zup i 1 43 3 else (m_ships (zup i 1 43 0) (cl o) np)))
def q_orderStateT (i : Nat → Nat → Int32) (o : Int32) : Int32 := if ¬ zin o 0 (i 1 42 - 1) then 1 else (0)
def q_orderStateV (i : Nat → Nat → Int32) (o : Int32) : Int32 := if ¬ zin o 0 (i 1 42 - 1) then 32 else (i 140 (cl o))
def q_orderStateF (i : Nat → Nat → Int32) (o : Int32) : Nat → Nat → Int32 := if ¬ zin o 0 (i 1 42 - 1) then zup i 1 43 1 else (zup i 1 43 0)
def q_leastShippedT (i : Nat → Nat → Int32) (o : Int32) : Int32 := if ¬ zin o 0 (i 1 42 - 1) then 1 else (if ¬ i 140 (cl o) = 115 then 2 else (0))
def q_leastShippedV (i : Nat → Nat → Int32) (o : Int32) : Int32 := if ¬ zin o 0 (i 1 42 - 1) then 0 else (if ¬ i 140 (cl o) = 115 then 0 else (i 141 (cl o)))
def q_leastShippedF (i : Nat → Nat → Int32) (o : Int32) : Nat → Nat → Int32 := if ¬ zin o 0 (i 1 42 - 1) then zup i 1 43 1 else (if ¬ i 140 (cl o) = 115 then zup i 1 43 2 else (zup i 1 43 0))
def q_passT (i : Nat → Nat → Int32) (t : Int32) : Int32 := if ¬ zin t 1 96 then 1 else (if ¬ i 1 0 + t ≤ 960 then 2 else 0)
def q_passV (i : Nat → Nat → Int32) (nr np no : Nat) (t : Int32) : Int32 := if ¬ zin t 1 96 then 0 else (if ¬ i 1 0 + t ≤ 960 then 0 else m_tkS nr np no (zup i 1 43 0) (cl t))
def q_passF (i : Nat → Nat → Int32) (nr np no : Nat) (t : Int32) : Nat → Nat → Int32 := if ¬ zin t 1 96 then zup i 1 43 1 else (if ¬ i 1 0 + t ≤ 960 then zup i 1 43 2 else m_tkI nr np no (zup i 1 43 0) (cl t))
def q_passL (i : Nat → Nat → Int32) (lm : Nat → Nat → Int64) (nr np no : Nat) (t : Int32) : Nat → Nat → Int64 := if ¬ zin t 1 96 then lm else (if ¬ i 1 0 + t ≤ 960 then lm else m_tkL nr np no (zup i 1 43 0) lm (cl t))
