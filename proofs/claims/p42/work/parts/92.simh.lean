/-! PART 92: what the law's helpers answer, of the class as of the model -/
section SH
variable {n : Nat → Nat} {i x : Nat → Nat → Int32} {lm : Nat → Nat → Int64} {y : Nat → Nat → Nat} {t : Nat}
theorem s_x4 (h : CI n i x lm y t) : ∀ s, s < n 4 → x 4 s = nI (cl (x 4 s)) ∧ cl (x 4 s) ≤ 960 := fun s hs => ⟨(h.2.2.2.2.2.2.1 s hs).1, Nat.le_trans (h.2.2.2.2.2.2.1 s hs).2.1 h.2.1.2.1⟩
theorem s_x3 (h : CI n i x lm y t) : ∀ p, p < n 7 → x 3 p = nI (cl (x 3 p)) ∧ cl (x 3 p) ≤ 960 := fun p hp => (h.2.2.2.2.2.1 p hp).2.1
theorem s_mv (h : CI n i x lm y t) {p r : Int32} (c0 : cl p < n 7 ∧ p = nI (cl p)) (c1 : cl r < n 5 ∧ r = nI (cl r)) (q : i 132 (cl p) = r) : y 1 (y 0 (cl p)) = cl r := by
  obtain ⟨-, w2, w3⟩ := h.1.2.2.1 _ c0.1
  have := (h.1.2.2.2.1 _ w2).1
  have h4 := h.1.2.1.1
  rw [w3, c1.2] at q
  exact nI_inj2 (by omega) (by omega) q
theorem s_140 {o q : Nat} {v : Int32} : zup (zup i 1 43 0) 140 o v 140 q = zup i 140 o v 140 q := by
  by_cases e : q = o
  · rw [e, zup_s, zup_s]
  · rw [zup_n (by omega), zup_n (by omega), zup_n (by omega)]
theorem s_scrap {j : Nat → Nat → Int32} (h : CI n j x lm y t) {p : Nat} (c : i 134 p = 114) (e0 : j 134 p = i 134 p) (e1 : j 1 0 = i 1 0) : CI n (zup j 134 p 120) (zup x 3 p (i 1 0)) lm y t := by
  rw [← e1]
  refine CI_sh h (fun q => ?_) (fun a b e => zup_n (by omega)) (fun a b f1 f2 f3 => zup_n (by omega)) (fun o => Or.inl (zup_n (by omega))) (fun o _ => zup_n (by omega))
  by_cases e : q = p
  · refine Or.inr ⟨?_, Or.inr ?_, ?_⟩
    · rw [e, e0]; exact c
    · rw [e, zup_s]
    · rw [e, zup_s]
  · exact Or.inl ⟨zup_n (by omega), zup_n (by omega)⟩
theorem s_ship (h : CI n i x lm y t) {o : Nat} (ho : o < n 8) (c2 : i 137 o ≤ m_cnt i o (n 7)) : (c_ships o (n 7) (cl (i 137 o)) (zup i 1 43 0) x).2.2 = m_shipS (zup i 1 43 0) o (n 7) (cl (i 137 o)) ∧ eV (c_ships o (n 7) (cl (i 137 o)) (zup i 1 43 0) x).1 (m_ships (zup i 1 43 0) o (n 7)) ∧ CI n (m_ships (zup i 1 43 0) o (n 7)) (c_ships o (n 7) (cl (i 137 o)) (zup i 1 43 0) x).2.1 lm y t := by
  obtain ⟨c, k1, k2, k3⟩ := (h.2.2.2.2.2.2.2.2.2.1.1 o ho).1
  have hcl : cl (i 137 o) = c := by rw [k3]; exact nI_clamp (by omega)
  have h24 := h.1.2.1.2.2.1
  have hle : c ≤ m_cntN (zup i 1 43 0) o (n 7) := by
    rw [m_cntN_eT (j := i) (fun a b e => e43 (by omega))]
    rw [m_cnt_N, k3] at c2
    have := m_cntN_le i o (n 7)
    exact Nat.le_of_not_lt fun q => nI_ge q (by omega) c2
  obtain ⟨g1, g2⟩ := c_ships_m (x := x) (cn := c) h24 (fun _ _ _ _ => rfl : eT (zup i 1 43 0) (zup i 1 43 0)) (by rw [e43 (by omega)]; exact hcl) k1 hle
  rw [hcl]
  refine ⟨g2, eT_eV g1, ?_⟩
  have hR := c_sh_R (o := o) (np := n 7) (s := ((zup i 1 43 0), x, 0)) c
  refine CI_sh (CI_43 (v := 0) h) (fun p => ?_) hR.2 (fun a b f1 f2 f3 => m_ships_o f3 f1 f2) (fun q => ?_) (fun q hq => ?_)
  · rw [← g1 134 p (by decide) (by decide)]
    show (zup (c_sh o (n 7) (zup i 1 43 0, x, 0) c).1 140 o 115 134 p = _ ∧ _) ∨ (_ ∧ (zup (c_sh o (n 7) (zup i 1 43 0, x, 0) c).1 140 o 115 134 p = 115 ∨ zup (c_sh o (n 7) (zup i 1 43 0, x, 0) c).1 140 o 115 134 p = 120) ∧ _)
    rw [zup_n (by omega)]
    rcases hR.1 p with e | ⟨e1, e2, e3⟩
    · exact Or.inl e
    · exact Or.inr ⟨e1, Or.inl e2, e3⟩
  · unfold m_ships
    by_cases e : q = o
    · rw [e, zup_s]; exact Or.inr rfl
    · rw [zup_n (by omega)]; exact Or.inl (m_ship_o (by decide) (by decide) _)
  · unfold m_ships
    rw [zup_n (by omega)]
    exact m_ship_141 (by omega) _
theorem s_shipC (l : Launch) (hl0 : l.stackTraces = false) (h : CI n i x lm y t) (ol : Int64) (od : UInt64) (o : Int32) : zS l yX7_ship wsX7_ship 11 204 8 1100 [.ref 1, .int o] (cmm n i x lm y ol od) (zpi (fun v9 M1 => (cl o < n 8 ∧ o = nI (cl o)) ∧ (i 140 (cl o) = 111) ∧ (i 137 (cl o) ≤ m_cnt i (cl o) (n 7)) ∧ v9 = (c_ships (cl o) (n 7) (cl (i 137 (cl o))) (zup i 1 43 0) x).2.2 ∧ M1 = cmm n ((c_ships (cl o) (n 7) (cl (i 137 (cl o))) (zup i 1 43 0) x).1) ((c_ships (cl o) (n 7) (cl (i 137 (cl o))) (zup i 1 43 0) x).2.1) lm y ol od)) (fun E => (E = "java/lang/IndexOutOfBoundsException" ∧ ¬ (cl o < n 8 ∧ o = nI (cl o))) ∨ (E = "java/lang/IllegalStateException" ∧ (cl o < n 8 ∧ o = nI (cl o)) ∧ ¬ (i 140 (cl o) = 111)) ∨ (E = "java/lang/UnsupportedOperationException" ∧ (cl o < n 8 ∧ o = nI (cl o)) ∧ (i 140 (cl o) = 111) ∧ ¬ (i 137 (cl o) ≤ m_cnt i (cl o) (n 7)))) := by
  have h9 := c_X7_ship l hl0 n (zup i 1 43 0) x lm y ol od (CI_43 h).1 o (CI_hct (CI_43 h))
  rw [c43, e43 (by omega), e43 (by omega), m_cnt_43] at h9
  exact h9
theorem d_960 : (960 : Int32) = nI 960 := by decide +kernel
theorem s_960 (h : CI n i x lm y t) {u : Int32} (c : zin u 1 96) : i 1 0 + u ≤ 960 ↔ u ≤ 960 - i 1 0 := by
  have h96 : (96 : Int32) = nI 96 := by decide +kernel
  rw [h96] at c
  obtain ⟨j, j1, j2, rfl⟩ := zin_pos c
  have h9 := h.2.1.2.1
  rw [h.2.1.1, d_960, nI_add, nI_sb h9, nI_leI (by omega) (by omega), nI_leI (by omega) (by omega)]
  omega
theorem s_960t (h : CI n i x lm y t) {u : Int32} (c : zin u 1 96) (c1 : u ≤ 960 - i 1 0) : t + cl u ≤ 960 := by
  have h96 : (96 : Int32) = nI 96 := by decide +kernel
  rw [h96] at c
  obtain ⟨j, j1, j2, rfl⟩ := zin_pos c
  have h9 := h.2.1.2.1
  have e : cl (nI j) = j := nI_clamp (by omega)
  rw [e]
  rw [h.2.1.1, d_960, nI_sb h9, nI_leI (by omega) (by omega)] at c1
  omega
theorem s_passC (l : Launch) (hl0 : l.stackTraces = false) (h : CI n i x lm y t) (ol : Int64) (od : UInt64) (u : Int32) : zS l yX7_pass wsX7_pass 13 250 8 1100 [.ref 1, .int u] (cmm n i x lm y ol od) (zpi (fun q M1 => (zin u 1 96) ∧ (u ≤ 960 - i 1 0) ∧ q = m_tkS (n 5) (n 7) (n 8) (zup i 1 43 0) (cl u) ∧ M1 = cmm n (m_tkI (n 5) (n 7) (n 8) (zup i 1 43 0) (cl u)) (c_px n y (zup i 1 43 0) x (cl u)) (m_tkL (n 5) (n 7) (n 8) (zup i 1 43 0) lm (cl u)) y ol od)) (fun E => (E = "java/lang/IllegalArgumentException" ∧ ¬ zin u 1 96) ∨ (E = "java/lang/IllegalStateException" ∧ zin u 1 96 ∧ ¬ u ≤ 960 - i 1 0)) := by
  have h9 := c_X7_passM l hl0 n (zup i 1 43 0) x lm y ol od t (CI_43 h) u
  rw [c43, e43 (by omega)] at h9
  exact zS_imp h9 (fun v M' hv => by
    obtain ⟨q, e, ⟨c0, c1⟩, k⟩ := hv
    exact ⟨q, e, c0, c1, k⟩)
end SH
