/-! PART 90: the calls of class and model, told alike: common rows -/
theorem fz {v : Int32} {N : Nat} (hN : N ≤ 30) : zin v 0 (nI N - 1) ↔ cl v < N ∧ v = nI (cl v) := by
  constructor
  · intro h
    have h1 := zin_vp h rfl (Nat.le_refl N) (by omega)
    obtain ⟨j, hj, rfl⟩ := nI_of (fun e => h1 (Or.inl e))
    have e : cl (nI j) = j := nI_clamp hj
    refine ⟨Nat.lt_of_not_le fun q => h1 (Or.inr q), by rw [e]⟩
  · rintro ⟨h1, h2⟩
    obtain ⟨M, rfl⟩ : ∃ M, N = M + 1 := ⟨N - 1, by omega⟩
    rw [h2, nI_pred]
    exact ⟨nI_nn _ (by omega), nI_ge_ (by omega) (by omega)⟩
theorem nI_nlt2 {k N : Nat} (h : k < N) (hN : N < 2 ^ 30) : ¬ nI k = nI N := fun e => by
  have := nI_inj2 (by omega) (by omega) e
  omega
section SC
variable {n : Nat → Nat} {i x : Nat → Nat → Int32} {lm : Nat → Nat → Int64} {y : Nat → Nat → Nat} {t : Nat} {ol : Int64} {od : UInt64}
/-- class and model behind a call: the code, and the answer as a long number where nothing is thrown -/
def zO (F : Nat → Nat → Int32) (L : Nat → Nat → Int64) (T : Int32) (V : Int64) (k : Int32) (M1 : zMem) : Prop := ∃ n x y t ol od, M1 = cmm n F x L y ol od ∧ CI n F x L y t ∧ k = T ∧ (k = 0 → ol = V)
def zOd (F : Nat → Nat → Int32) (L : Nat → Nat → Int64) (T : Int32) (V : UInt64) (k : Int32) (M1 : zMem) : Prop := ∃ n x y t ol od, M1 = cmm n F x L y ol od ∧ CI n F x L y t ∧ k = T ∧ (k = 0 → od = V)
theorem zO_x (h : CI n i x lm y t) {F : Nat → Nat → Int32} {L : Nat → Nat → Int64} {T code : Int32} {V : Int64} (hF : F = zup i 1 43 code) (hL : L = lm) (hT : T = code) (hc : ¬ code = 0) : zO F L T V code (cmm n i x lm y ol od) := by
  subst hF; subst hL; subst hT
  exact ⟨n, x, y, t, ol, od, c43.symm, CI_43 h, rfl, fun e => absurd e hc⟩
theorem zOd_x (h : CI n i x lm y t) {F : Nat → Nat → Int32} {L : Nat → Nat → Int64} {T code : Int32} {V : UInt64} (hF : F = zup i 1 43 code) (hL : L = lm) (hT : T = code) (hc : ¬ code = 0) : zOd F L T V code (cmm n i x lm y ol od) := by
  subst hF; subst hL; subst hT
  exact ⟨n, x, y, t, ol, od, c43.symm, CI_43 h, rfl, fun e => absurd e hc⟩
theorem zO_l (h : CI n i x lm y t) {F : Nat → Nat → Int32} {L : Nat → Nat → Int64} {T : Int32} {V v : Int64} (hF : F = zup i 1 43 0) (hL : L = lm) (hT : T = 0) (hV : v = V) : zO F L T V 0 (cmm n i x lm y v od) := by
  subst hF; subst hL; subst hT; subst hV
  exact ⟨n, x, y, t, v, od, c43.symm, CI_43 h, rfl, fun _ => rfl⟩
theorem zOd_l (h : CI n i x lm y t) {F : Nat → Nat → Int32} {L : Nat → Nat → Int64} {T : Int32} {V v : UInt64} (hF : F = zup i 1 43 0) (hL : L = lm) (hT : T = 0) (hV : v = V) : zOd F L T V 0 (cmm n i x lm y ol v) := by
  subst hF; subst hL; subst hT; subst hV
  exact ⟨n, x, y, t, ol, v, c43.symm, CI_43 h, rfl, fun _ => rfl⟩
theorem zO_m {n' : Nat → Nat} {ic x' : Nat → Nat → Int32} {lc : Nat → Nat → Int64} {y' : Nat → Nat → Nat} {t' : Nat} {F F0 : Nat → Nat → Int32} {L L0 : Nat → Nat → Int64} {T : Int32} {V v : Int64} (hF : F = F0) (hL : L = L0) (hT : T = 0) (hV : v = V) (he : eV ic F0) (hl : lc 1 26 = L0 1 26) (hc : CI n' F0 x' L0 y' t') : zO F L T V 0 (cmm n' ic x' lc y' v od) := by
  subst hF; subst hL; subst hT; subst hV
  exact ⟨n', x', y', t', v, od, cmm_eV he hl, hc, rfl, fun _ => rfl⟩
theorem fzr (h : CI n i x lm y t) (v : Int32) : zin v 0 (i 1 17 - 1) ↔ cl v < n 5 ∧ v = nI (cl v) := by
  rw [h.2.1.2.2.1]; exact fz (by have := h.1.2.1.1; omega)
theorem fzp (h : CI n i x lm y t) (v : Int32) : zin v 0 (i 1 35 - 1) ↔ cl v < n 7 ∧ v = nI (cl v) := by
  rw [h.2.1.2.2.2.2.1]; exact fz (by have := h.1.2.1.2.2.1; omega)
theorem fzo (h : CI n i x lm y t) (v : Int32) : zin v 0 (i 1 42 - 1) ↔ cl v < n 8 ∧ v = nI (cl v) := by
  rw [h.2.1.2.2.2.2.2.1]; exact fz (by have := h.1.2.1.2.2.2; omega)
theorem fzk (h : CI n i x lm y t) (v : Int32) : zin v 0 (nI (n 6) - 1) ↔ cl v < n 6 ∧ v = nI (cl v) := fz (by have := h.1.2.1.2.1; omega)
theorem e43 {a b : Nat} {v : Int32} (h : ¬ (a = 1 ∧ b = 43)) : zup i 1 43 v a b = i a b := zup_n h
theorem m_filled_43 {r v : Int32} : ∀ k, m_filled (zup i 1 43 v) r k = m_filled i r k
  | 0 => rfl
  | k + 1 => by
    unfold m_filled
    rw [m_filled_43 k, e43 (by omega), e43 (by omega)]
theorem m_cnt_43 {o k : Nat} {v : Int32} : m_cnt (zup i 1 43 v) o k = m_cnt i o k := by
  rw [m_cnt_N, m_cnt_N, m_cntN_eT (i := zup i 1 43 v) (j := i) (fun a b e => e43 (by omega))]
theorem m_openN_c {j : Nat → Nat → Int32} : ∀ k, (∀ q, j 140 q = i 140 q) → m_openN j k = m_openN i k
  | 0, _ => rfl
  | k + 1, h => by
    unfold m_openN
    rw [m_openN_c k h, h]
theorem full8 : ∀ f : Fin 9, ((0 < 8 - nI f.val) ↔ f.val < 8) ∧ ((nI f.val = 8) ↔ ¬ f.val < 8) := by decide +kernel
theorem sp (h : CI n i x lm y t) {r : Int32} (c : cl r < n 5 ∧ r = nI (cl r)) : flN i (cl r) (n 7) ≤ 8 ∧ (0 < 8 - m_filled i (nI (cl r)) (n 7) ↔ flN i (cl r) (n 7) < 8) ∧ (m_filled i r (n 7) = 8 ↔ ¬ flN i (cl r) (n 7) < 8) := by
  have hf := h.2.2.2.2.2.2.2.2.2.2 _ c.1
  have e1 : m_filled i r (n 7) = nI (flN i (cl r) (n 7)) := by
    have := m_filled_N (i := i) (r := cl r) (n 7)
    rw [← c.2] at this
    exact this
  have h9 := full8 ⟨flN i (cl r) (n 7), by omega⟩
  refine ⟨hf, ?_, ?_⟩
  · rw [m_filled_N]; exact h9.1
  · rw [e1]; exact h9.2
theorem s_fore (h : CI n i x lm y t) {p : Nat} (hp : p < n 7) : m_loss (zup i 1 43 0) p (i 110 (cl (i 132 p))) = (if i 110 (y 1 (y 0 p)) < i 129 (cl (i 131 p)) then 10 else if i 128 (cl (i 131 p)) < i 110 (y 1 (y 0 p)) then 1 + (i 110 (y 1 (y 0 p)) - i 128 (cl (i 131 p))) / 20 else 1) := by
  obtain ⟨w1, w2, w3⟩ := h.1.2.2.1 p hp
  have hr := (h.1.2.2.2.1 _ w2).1
  have h4 := h.1.2.1.1
  rw [w3, show cl (nI (y 1 (y 0 p))) = y 1 (y 0 p) from nI_clamp (by omega)]
  have e1 := c_loss_m (i := i) (p := p) (h.2.2.2.1.1 _ hr).2.2.2.1 (h.2.2.2.2.1 _ w1.1).2
  refine Eq.trans ?_ e1.symm
  unfold m_loss
  rw [e43 (by omega), e43 (by omega), e43 (by omega)]
theorem s_soon (h : CI n i x lm y t) : (c_sn i (n 7) ≠ none → ¬ m_soon i (n 7) = -1 ∧ nI ((c_sn i (n 7)).getD 0) = m_soon i (n 7)) ∧ (¬ c_sn i (n 7) ≠ none → m_soon i (n 7) = -1) := by
  have h24 := h.1.2.1.2.2.1
  have e := c_sn_soon (i := i) (n 7) h24
  cases hk : c_sn i (n 7) with
  | none => exact ⟨fun c => absurd rfl c, fun _ => by rw [e, hk]; rfl⟩
  | some b =>
    have hb := (c_sn_lt hk).1
    rw [hk] at e
    refine ⟨fun _ => ⟨by rw [e]; exact nI_nm (by omega), by rw [e]; rfl⟩, fun c => absurd (fun q => nomatch q) c⟩
theorem s_at (h : CI n i x lm y t) {o : Nat} {v : Int32} : (c_at i o (n 7) v ≠ none → ¬ m_cand i o (n 7) v = -1 ∧ nI ((c_at i o (n 7) v).getD 0) = m_cand i o (n 7) v) ∧ (¬ c_at i o (n 7) v ≠ none → m_cand i o (n 7) v = -1) := by
  have h24 := h.1.2.1.2.2.1
  have e := c_at_m (i := i) (o := o) (v := v) h24
  cases hk : c_at i o (n 7) v with
  | none => exact ⟨fun c => absurd rfl c, fun _ => by rw [e, hk]; rfl⟩
  | some b =>
    have hb : b < n 7 := by
      unfold c_at at hk
      split at hk
      · cases hk
      · exact (c_it_lt hk).1
    rw [hk] at e
    refine ⟨fun _ => ⟨by rw [e]; exact nI_nm (by omega), by rw [e]; rfl⟩, fun c => absurd (fun q => nomatch q) c⟩
theorem eV_room {N : Nat} {a b c d w : Int32} (f : i 107 N = 0 ∧ i 108 N = 0 ∧ i 111 N = 0 ∧ i 112 N = 0 ∧ i 116 N = 0) :
    eV (zup (zup (zup (zup (zup (zup (zup (zup (zup (zup (zup (zup i 105 N 20) 106 N 50) 109 N 97) 107 N 0) 108 N 0) 111 N 0) 112 N 0) 116 N 0) 102 N a) 103 N b) 104 N c) 110 N d) (zup (zup (zup (zup (zup (zup (zup (zup (zup i 1 43 0) 102 N a) 103 N b) 104 N c) 105 N 20) 106 N 50) 109 N 97) 110 N d) 1 17 w) := by
  obtain ⟨f1, f2, f3, f4, f5⟩ := f
  intro p q hn
  unfold cHid at hn
  have hA : ¬ (p = 1 ∧ q = 17) := by omega
  have hB : ¬ (p = 1 ∧ q = 43) := by omega
  by_cases hq : q = N
  · subst hq
    by_cases p102 : p = 102
    · subst p102; simp [zup]
    by_cases p103 : p = 103
    · subst p103; simp [zup]
    by_cases p104 : p = 104
    · subst p104; simp [zup]
    by_cases p105 : p = 105
    · subst p105; simp [zup]
    by_cases p106 : p = 106
    · subst p106; simp [zup]
    by_cases p107 : p = 107
    · subst p107; simp [zup, f1]
    by_cases p108 : p = 108
    · subst p108; simp [zup, f2]
    by_cases p109 : p = 109
    · subst p109; simp [zup]
    by_cases p110 : p = 110
    · subst p110; simp [zup]
    by_cases p111 : p = 111
    · subst p111; simp [zup, f3]
    by_cases p112 : p = 112
    · subst p112; simp [zup, f4]
    by_cases p116 : p = 116
    · subst p116; simp [zup, f5]
    simp [zup, hA, hB, p102, p103, p104, p105, p106, p107, p108, p109, p110, p111, p112, p116]
  · simp [zup, hA, hB, hq]
theorem eV_pal {N : Nat} {a b c w : Int32} : eV (zup (zup (zup i 134 N 114) 131 N a) 133 N c) (zup (zup (zup (zup (zup (zup i 1 43 0) 131 N a) 132 N b) 133 N c) 134 N 114) 1 35 w) := by
  intro p q hn
  unfold cHid at hn
  have hA : ¬ (p = 1 ∧ q = 35) := by omega
  have hB : ¬ (p = 1 ∧ q = 43) := by omega
  have hC : ¬ p = 132 := by omega
  by_cases hq : q = N
  · subst hq
    by_cases p131 : p = 131
    · subst p131; simp [zup]
    by_cases p133 : p = 133
    · subst p133; simp [zup]
    by_cases p134 : p = 134
    · subst p134; simp [zup]
    simp [zup, hA, hB, hC, p131, p133, p134]
  · simp [zup, hA, hB, hq]
theorem eV_ord {N : Nat} {a b c d w : Int32} (f : i 141 N = 0) : eV (zup (zup (zup (zup (zup (zup i 140 N 111) 141 N 0) 136 N a) 137 N b) 138 N c) 139 N d) (zup (zup (zup (zup (zup (zup (zup i 1 43 0) 136 N a) 137 N b) 138 N c) 139 N d) 140 N 111) 1 42 w) := by
  intro p q hn
  unfold cHid at hn
  have hA : ¬ (p = 1 ∧ q = 42) := by omega
  have hB : ¬ (p = 1 ∧ q = 43) := by omega
  by_cases hq : q = N
  · subst hq
    by_cases p136 : p = 136
    · subst p136; simp [zup]
    by_cases p137 : p = 137
    · subst p137; simp [zup]
    by_cases p138 : p = 138
    · subst p138; simp [zup]
    by_cases p139 : p = 139
    · subst p139; simp [zup]
    by_cases p140 : p = 140
    · subst p140; simp [zup]
    by_cases p141 : p = 141
    · subst p141; simp [zup, f]
    simp [zup, hA, hB, p136, p137, p138, p139, p140, p141]
  · simp [zup, hA, hB, hq]
end SC
