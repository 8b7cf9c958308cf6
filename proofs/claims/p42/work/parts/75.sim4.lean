/-! PART 75: a tick of the class is the model's: temperatures, lives -/
theorem m_t_eG {i j : Nat → Nat → Int32} {r : Nat} (h : eG i j) : m_t i r = m_t j r := by
  unfold m_t m_t1
  rw [h 110 r (by decide) (by decide) (by omega), h 1 1 (by decide) (by decide) (by omega), h 102 r (by decide) (by decide) (by omega), h 112 r (by decide) (by decide) (by omega), h 103 r (by decide) (by decide) (by omega)]
theorem c_wm_m {s : cIX} {j : Nat → Nat → Int32} {tk : Nat} (h : eG s.1 j) : ∀ k, eG (c_wm s tk k).1 (m_warmI j k)
  | 0 => h
  | k + 1 => by
    have ih := c_wm_m (tk := tk) h k
    have e1 : s.1 1 1 = (c_wm s tk k).1 1 1 := (c_wm_o (by decide) (by decide) k).symm
    intro a b ha ha2 h24
    show c_chI (c_wm s tk k).1 k (s.1 1 1) a b = m_warm1 (m_warmI j k) k a b
    unfold c_chI m_warm1
    rw [e1, c_t_m, m_t_eG ih, ih 116 k (by decide) (by decide) (by omega)]
    by_cases c6 : a = 116 ∧ b = k
    · rw [c6.1, c6.2, zup_s, zup_s]
    · rw [zup_n c6, zup_n c6, zup_n (show ¬ (a = 114 ∧ b = k) from fun e => ha2 e.1)]
      by_cases c1 : a = 110 ∧ b = k
      · rw [c1.1, c1.2, zup_s, zup_s]
      · rw [zup_n c1, zup_n c1, zup_n c1]
        exact ih a b ha ha2 h24
theorem c_rec_m {i j : Nat → Nat → Int32} {u : Int32} (h : eG i j) (hu : u = j 1 24) : eT (c_recI i u) (m_tk2 j) := by
  intro a b ha ha2
  unfold c_recI m_tk2
  rw [h 1 25 (by decide) (by decide) (by omega), hu]
  by_cases c5 : a = 1 ∧ b = 25
  · rw [c5.1, c5.2, zup_s, zup_s]
  · rw [zup_n c5, zup_n c5]
    by_cases c4 : a = 1 ∧ b = 24
    · rw [c4.1, c4.2, zup_s]
    · rw [zup_n c4]
      exact h a b ha ha2 c4
theorem n_400 : (-400 : Int32).toInt = -400 := by decide
theorem n_450 : (450 : Int32).toInt = 450 := by decide
theorem n_300 : (-300 : Int32).toInt = -300 := by decide
theorem p_300 : (300 : Int32).toInt = 300 := by decide
theorem z_0 : (0 : Int32).toInt = 0 := by decide
theorem c_loss_m {i : Nat → Nat → Int32} {p : Nat} {d : Int32} (hd : zin d (-400) 450) (hb : zin (i 128 (cl (i 131 p))) (-300) 300) : c_loss i (cl (i 131 p)) d = m_loss i p d := by
  have h1 := i_zin hd
  have h2 := i_zin hb
  rw [n_400, n_450] at h1
  rw [n_300, p_300] at h2
  have hs : (d - i 128 (cl (i 131 p))).toInt = d.toInt - (i 128 (cl (i 131 p))).toInt := i_sub (by omega)
  unfold c_loss m_loss
  by_cases c1 : d < i 129 (cl (i 131 p))
  · rw [if_pos c1, if_pos (Int32.not_le.mpr c1)]
  · rw [if_neg c1, if_neg (fun k => c1 (Int32.not_le.mp k))]
    by_cases c2 : i 128 (cl (i 131 p)) < d
    · rw [if_pos c2, if_pos (show 0 < d - i 128 (cl (i 131 p)) by rw [Int32.lt_iff_toInt_lt, hs, z_0]; rw [Int32.lt_iff_toInt_lt] at c2; omega)]
    · rw [if_neg c2, if_neg (show ¬ 0 < d - i 128 (cl (i 131 p)) by rw [Int32.lt_iff_toInt_lt, hs, z_0]; rw [Int32.lt_iff_toInt_lt] at c2; omega)]
      decide
theorem c_ag_m {i j : Nat → Nat → Int32} {y : Nat → Nat → Nat} {np : Nat} (h : eT i j) (hr : ∀ p, p < np → i 132 p = nI (y 1 (y 0 p)) ∧ y 1 (y 0 p) < 4 ∧ zin (i 128 (cl (i 131 p))) (-300) 300) (ht : ∀ r, r < 4 → zin (i 110 r) (-400) 450) : ∀ k, k ≤ np → eT (c_ag i y k) (m_age j k)
  | 0, _ => h
  | k + 1, hk => by
    have ih := c_ag_m h hr ht k (by omega)
    have ha1 : ∀ {a b}, a ≠ 133 → c_ag i y k a b = i a b := fun e => c_ag_o e k
    have hb1 : ∀ {a b}, a ≠ 133 → m_age j k a b = j a b := fun e => m_age_o e k
    obtain ⟨r1, r2, r3⟩ := hr k (by omega)
    have hcl : cl (m_age j k 132 k) = y 1 (y 0 k) := by
      rw [← ih 132 k (by decide) (by decide), ha1 (by decide), r1]
      exact nI_clamp (by omega)
    have hl : c_loss (c_ag i y k) (cl (c_ag i y k 131 k)) (c_ag i y k 110 (y 1 (y 0 k))) = m_loss (m_age j k) k (m_age j k 110 (y 1 (y 0 k))) := by
      rw [c_loss_m (by rw [ha1 (by decide)]; exact ht _ r2) (by rw [ha1 (by decide), ha1 (by decide)]; exact r3)]
      unfold m_loss
      rw [ih 129 _ (by decide) (by decide), ih 128 _ (by decide) (by decide), ih 131 k (by decide) (by decide), ih 110 _ (by decide) (by decide)]
    have e : c_age1 (c_ag i y k) y k = m_age1 (m_age j k) k := by
      unfold c_age1 m_age1
      rw [hl, hcl, ih 134 k (by decide) (by decide), ih 133 k (by decide) (by decide)]
    intro a b ha ha2
    show zup (c_ag i y k) 133 k (c_age1 (c_ag i y k) y k) a b = zup (m_age j k) 133 k (m_age1 (m_age j k) k) a b
    rw [e]
    by_cases c3 : a = 133 ∧ b = k
    · rw [c3.1, c3.2, zup_s, zup_s]
    · rw [zup_n c3, zup_n c3]
      exact ih a b ha ha2
