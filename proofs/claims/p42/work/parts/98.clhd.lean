/-! PART 98c: the law's frame and its continuation -/
abbrev zLX (g : zCtx) (l0 : Launch) (nm : String) (M00 : zMem) (post : Option Value → zMem → Prop) (tab : List ExceptionTableEntry) : Prop := zCx g l0 cL_law 19 (some .boolean) RL nm wsL_law 20 10850 600312 7293409 M00 post zno tab
/-- the law's locals at the head of its loop -/
abbrev zlB (n : Nat → Nat) (st9 k9 : Nat) : List (Nat × Value) := [(0, .ref 17), (1, .ref 1), (2, .int (nI (n 5))), (3, .int (nI (n 6))), (4, .int (nI (n 8))), (5, .ref 16), (6, .int (nI st9)), (7, .int (nI k9))]
/-- from the head of the loop, at k9 of st9 steps, with this much room used, the law comes to its end -/
def zKL (g : zCtx) (st9 k9 K9 N9 : Nat) : Prop := ∀ (n : Nat → Nat) (i x : Nat → Nat → Int32) (lm : Nat → Nat → Int64) (y : Nat → Nat → Nat) (t : Nat) (pr : Nat → Int32), xSI n i x lm y t → (∀ o, o < n 8 → pr o = i 138 o) → ∀ kk nn : Nat, kk ≤ K9 → nn ≤ N9 → zE g 19 36 (zlB n st9 k9) [] (zmg (cmm n i x lm y 0 0) (pM pr)) kk nn
theorem hmx1 : Cond.methodLink RL 201 Lib.Math.max.name ∈ wsL_law := by decide +kernel
theorem hmx2 : Cond.static Lib.Math.max.name ∈ wsL_law := by decide +kernel
theorem hmx3 : Cond.initialized "java/lang/Math" ∈ wsL_law := by decide +kernel
theorem hmx4 : Cond.code Lib.Math.max.name Lib.Math.max.code 2 (some .int) ∈ wsL_law := by decide +kernel
theorem hcs196 : Cond.constant RL 196 100000000 ∈ wsL_law := by decide +kernel
theorem hcs237 : Cond.constant RL 237 96000 ∈ wsL_law := by decide +kernel
theorem hcs65 : Cond.constantDouble RL 65 13875388141788987392 ∈ wsL_law := by decide +kernel
theorem hcs108 : Cond.constantFloat RL 108 3212836864 ∈ wsL_law := by decide +kernel
theorem xn_lt {v : Int32} (h : v < -1000) : v < 0 := by
  rw [Int32.lt_iff_toInt_lt] at h ⊢
  rw [show (-1000 : Int32).toInt = -1000 by decide] at h
  rw [z_0]; omega
theorem xn_le {v : Int32} (h : v < -1000) : ¬ -1000 ≤ v := Int32.not_le.mpr h
theorem xn_ge {v : Int32} (h : ¬ v < -1000) : -1000 ≤ v := Int32.not_lt.mp h
theorem xfew {n n' : Nat → Nat} {i x i' x' : Nat → Nat → Int32} {lm lm' : Nat → Nat → Int64} {y y' : Nat → Nat → Nat} {t t' : Nat} (h : xSI n i x lm y t) (hs : xSI n' i' x' lm' y' t') (e8 : n' 8 = n 8) {o : Int32} (hz : (cl o < n' 8 ∧ o = nI (cl o)) ∧ i' 140 (cl o) = 115 ∧ m_cntN i' (cl o) (n' 7) < m_cntN i (cl o) (n 7)) :
    a_ord3 n' i' x' y' o = 115 ∧ a_ord2 n' i' x' y' o < a_ord2 n i x y o := by
  obtain ⟨h1, h2, h3⟩ := hz
  have h7 := h.1.1.2.1.2.2.1
  have h9 := m_cntN_le i (cl o) (n 7)
  refine ⟨?_, ?_⟩
  · unfold a_ord3
    rw [if_pos h1]; exact h2
  · unfold a_ord2
    rw [if_pos h1, if_pos (by rw [← e8]; exact h1), m_cnt_N, m_cnt_N]
    exact nI_lt h3 (by omega)
