/-! PART 74: a tick of the class is the model's: numbers, wishes, power -/
theorem i_add {a b : Int32} (h : -1000000000 ≤ a.toInt + b.toInt ∧ a.toInt + b.toInt ≤ 1000000000) : (a + b).toInt = a.toInt + b.toInt := by
  rw [Int32.toInt_add]; exact Int.bmod_eq_of_le (by omega) (by omega)
theorem i_sub {a b : Int32} (h : -1000000000 ≤ a.toInt - b.toInt ∧ a.toInt - b.toInt ≤ 1000000000) : (a - b).toInt = a.toInt - b.toInt := by
  rw [Int32.toInt_sub]; exact Int.bmod_eq_of_le (by omega) (by omega)
theorem i_mul {a b : Int32} (h : -1000000000 ≤ a.toInt * b.toInt ∧ a.toInt * b.toInt ≤ 1000000000) : (a * b).toInt = a.toInt * b.toInt := by
  rw [Int32.toInt_mul]; exact Int.bmod_eq_of_le (by omega) (by omega)
theorem i_zin {v lo hi : Int32} (h : zin v lo hi) : lo.toInt ≤ v.toInt ∧ v.toInt ≤ hi.toInt := by
  obtain ⟨h1, h2⟩ := h
  rw [Int32.lt_iff_toInt_lt] at h1 h2
  omega
theorem i_zin2 {v lo hi : Int32} (h : lo.toInt ≤ v.toInt ∧ v.toInt ≤ hi.toInt) : zin v lo hi := by
  constructor <;> rw [Int32.lt_iff_toInt_lt] <;> omega
theorem zin_nat {t : Int32} {N : Nat} (h : zin t 0 (nI N)) (hN : N < 2 ^ 30) : ∃ j : Nat, j ≤ N ∧ t = nI j := by
  obtain ⟨j, hj, rfl⟩ := nI_of h.1
  exact ⟨j, Nat.le_of_not_lt fun q => h.2 (nI_lt q hj), rfl⟩
theorem nI_d0 : (0 : Int32) = nI 0 := nI_0.symm
theorem nI_d95 : (95 : Int32) = nI 95 := by decide +kernel
theorem nI_sb {a b : Nat} (h : b ≤ a) : nI a - nI b = nI (a - b) := by
  have e : nI a = nI (a - b) + nI b := by rw [nI_add, Nat.sub_add_cancel h]
  rw [e, Int32.add_sub_cancel]
/-- what is left of a, less b, never below 0 -/
theorem nI_mon {a b : Nat} (ha : a < 2 ^ 29) (hb : b < 2 ^ 29) : (if 0 < nI a - nI b then nI a - nI b else 0) = nI (a - b) := by
  rcases Nat.lt_or_ge b a with h | h
  · rw [nI_sb (by omega), if_pos]
    rw [nI_d0]
    exact nI_lt (by omega) (by omega)
  · rw [if_neg, show a - b = 0 by omega, nI_0]
    rw [Int32.lt_iff_toInt_lt, i_sub (by rw [nI_toInt (by omega), nI_toInt (by omega)]; omega), nI_toInt (by omega), nI_toInt (by omega)]
    show ¬ (0 : Int) < _
    omega
/-- alike but in the rows that the class has not -/
def eT (i j : Nat → Nat → Int32) : Prop := ∀ a b, a ≠ 113 → a ≠ 114 → i a b = j a b
def eG (i j : Nat → Nat → Int32) : Prop := ∀ a b, a ≠ 113 → a ≠ 114 → ¬ (a = 1 ∧ b = 24) → i a b = j a b
/-- the peak: none yet, or from a first quarter to a last one -/
def cP (i x : Nat → Nat → Int32) : Prop := (i 1 20 = -1 ∧ x 7 0 = 0 ∧ i 1 21 = -1) ∨ (x 7 0 = i 1 20 ∧ zin (i 1 20) 0 95 ∧ zin (i 1 21) (i 1 20) 95)
theorem mq_nat {i : Nat → Nat → Int32} {t : Nat} (ht : t ≤ 960) (h : i 1 0 = nI t) : mq i = nI (t % 96) := by
  unfold mq
  rw [h]
  have : ∀ t : Fin 961, nI t.val - nI t.val / 96 * 96 = nI (t.val % 96) := by decide +kernel
  exact this ⟨t, by omega⟩
theorem c_q2 : ∀ F : Fin 96, ∀ Q : Fin 96, (nI Q.val < nI F.val ↔ ¬ nI F.val - nI Q.val < 1) := by decide +kernel
theorem c_qm : ∀ Q : Fin 96, (-1 < nI Q.val) ∧ ¬ nI Q.val < 0 := by decide +kernel
theorem c_peak_m {i x : Nat → Nat → Int32} {q : Nat} (hq : q < 96) (hP : cP i x) (h : mq i = nI q) : c_peak i x (mq i) ↔ mPeak i := by
  rcases hP with ⟨h1, h2, h3⟩ | ⟨h1, h2, h3⟩
  · constructor
    · intro e
      have e2 := e.2
      rw [h3, h] at e2
      exact absurd (c_qm ⟨q, hq⟩).1 e2
    · intro e
      exact absurd h1 e.1
  · have hne : ¬ i 1 20 = -1 := fun e => h2.1 (by rw [e]; decide)
    show zin (mq i) (x 7 0) (i 1 21) ↔ _
    rw [h1]
    exact ⟨fun e => ⟨hne, e⟩, fun e => e.2⟩
theorem c_by_m {i x : Nat → Nat → Int32} {q j : Nat} (hq : q < 96) (hP : cP i x) (h : mq i = nI q) : c_shift i x j (mq i) = m_by i j := by
  unfold c_shift m_by
  by_cases hp : mPeak i
  · rw [if_pos hp, if_pos ((c_peak_m hq hP h).mpr hp)]
  · rw [if_neg hp, if_neg (fun e => hp ((c_peak_m hq hP h).mp e))]
    rcases hP with ⟨h1, h2, h3⟩ | ⟨h1, h2, h3⟩
    · have hn : ¬ (mq i < x 7 0 ∧ ¬ i 107 j < x 7 0 - mq i) := by
        intro e
        have e1 := e.1
        rw [h2, h] at e1
        exact (c_qm ⟨q, hq⟩).2 e1
      have hn2 : ¬ (¬ i 1 20 = -1 ∧ zin (i 1 20 - mq i) 1 (i 107 j)) := fun e => e.1 h1
      rw [if_neg hn, if_neg hn2]
    · have hne : ¬ i 1 20 = -1 := fun e => h2.1 (by rw [e]; decide)
      rw [h1]
      obtain ⟨F, hF, eF⟩ := zin_nat (N := 95) (by rw [← nI_d95]; exact h2) (by decide)
      have h9 := c_q2 ⟨F, by omega⟩ ⟨q, hq⟩
      by_cases hc : ¬ i 1 20 = -1 ∧ zin (i 1 20 - mq i) 1 (i 107 j)
      · rw [if_pos hc, if_pos]
        refine ⟨?_, hc.2.2⟩
        rw [h, eF]
        refine h9.mpr ?_
        have := hc.2.1
        rw [h, eF] at this
        exact this
      · rw [if_neg hc, if_neg]
        intro e
        refine hc ⟨hne, ?_, e.2⟩
        have := e.1
        rw [h, eF] at this ⊢
        exact h9.mp this
theorem c_want_m {i x : Nat → Nat → Int32} {q j : Nat} (hq : q < 96) (hP : cP i x) (h : mq i = nI q) (hm : i 109 j = 97 ∨ i 109 j = 111 ∨ i 109 j = 110) : c_want i x j (mq i) = m_want i j := by
  unfold c_want m_want
  rw [c_by_m hq hP h]
  rcases hm with e | e | e
  · rw [if_neg (show ¬ i 109 j = 111 by rw [e]; decide), if_neg (show ¬ i 109 j = 110 by rw [e]; decide), if_neg (show ¬ ¬ i 109 j = 97 from fun k => k e)]
    by_cases h1 : i 106 j + m_by i j < i 110 j
    · rw [if_pos h1, if_pos (Int32.not_le.mpr h1)]
    · rw [if_neg h1, if_neg (fun k => h1 (Int32.not_le.mp k))]
      by_cases h2 : i 110 j ≤ i 105 j + m_by i j
      · rw [if_pos h2, if_pos (Int32.not_lt.mpr h2)]
      · rw [if_neg h2, if_neg (fun k => h2 (Int32.not_lt.mp k))]
  · rw [if_pos e, if_pos (show ¬ i 109 j = 97 by rw [e]; decide), zb_t e]
  · rw [if_neg (show ¬ i 109 j = 111 by rw [e]; decide), if_pos e, if_pos (show ¬ i 109 j = 97 by rw [e]; decide), zb_f (show ¬ i 109 j = 111 by rw [e]; decide)]
theorem c_wsh_m {i x : Nat → Nat → Int32} {q nr : Nat} (hq : q < 96) (hP : cP i x) (h : mq i = nI q) (hm : ∀ j, j < nr → i 109 j = 97 ∨ i 109 j = 111 ∨ i 109 j = 110) : ∀ k, k ≤ nr → c_wsh i x (mq i) k = m_wishes i k
  | 0, _ => rfl
  | k + 1, hk => by
    have ih := c_wsh_m hq hP h hm k (by omega)
    show zup (c_wsh i x (mq i) k) 111 k (c_want (c_wsh i x (mq i) k) x k (mq i)) = zup (m_wishes i k) 111 k (m_want (m_wishes i k) k)
    rw [ih]
    have e1 : ∀ b, m_wishes i k 1 b = i 1 b := fun b => m_wishes_o (by decide) k
    have eq : mq (m_wishes i k) = mq i := by unfold mq; rw [e1]
    rw [← c_want_m (i := m_wishes i k) (x := x) hq (by unfold cP; rw [e1, e1]; exact hP) (by rw [eq]; exact h) (by rw [m_wishes_o (by decide) k]; exact hm k (by omega)), eq]
/-- the class's state while power is given, and the model's -/
def gR (nr : Nat) (s : cGS) (j : Nat → Nat → Int32) : Prop := eG s.1 j ∧ s.2.2 = j 1 24 ∧ (∀ r, r < nr → ((¬ s.2.1 0 r = 0) ↔ (¬ j 111 r = 0 ∧ j 113 r = 0))) ∧ (∀ r, r < nr → j 113 r = 0 → j 112 r = 0)
theorem c_nw_m {s : cGS} {j : Nat → Nat → Int32} {nr : Nat} (h : gR nr s j) (h4 : nr ≤ 4) : ∀ r, r ≤ nr → m_next j r = c_opt (c_nw s.1 s.2.1 r)
  | 0, _ => rfl
  | r + 1, hr => by
    have ih := c_nw_m h h4 r (by omega)
    have hw := h.2.2.1 r (by omega)
    cases hk : c_nw s.1 s.2.1 r with
    | none =>
      rw [hk] at ih
      rw [c_nw_n hk]
      unfold m_next
      rw [ih]
      by_cases hc : ¬ s.2.1 0 r = 0
      · rw [if_pos hc, if_pos ⟨hw.mp hc, Or.inl rfl⟩]; rfl
      · rw [if_neg hc, if_neg (fun e => hc (hw.mpr e.1))]
    | some b =>
      have hb := (c_nw_lt hk).1
      rw [hk] at ih
      rw [c_nw_s hk]
      unfold m_next
      rw [ih]
      have hcl : cl (c_opt (some b)) = b := nI_clamp (by omega)
      have hne : ¬ c_opt (some b) = -1 := nI_nm (by omega)
      rw [hcl, ← h.1 110 r (by decide) (by decide) (by omega), ← h.1 106 r (by decide) (by decide) (by omega), ← h.1 110 b (by decide) (by decide) (by omega), ← h.1 106 b (by decide) (by decide) (by omega)]
      by_cases hc : ¬ s.2.1 0 r = 0 ∧ ¬ s.1 110 r - s.1 106 r ≤ s.1 110 b - s.1 106 b
      · rw [if_pos hc, if_pos ⟨hw.mp hc.1, Or.inr hc.2⟩]; rfl
      · rw [if_neg hc, if_neg (fun e => hc ⟨hw.mpr e.1, e.2.resolve_left hne⟩)]
def m_gst (nr : Nat) (j : Nat → Nat → Int32) : Nat → Nat → Int32 := if m_next j nr = -1 then j else m_give1 j (cl (m_next j nr))
theorem m_giveN_s {nr : Nat} : ∀ (m : Nat) (j : Nat → Nat → Int32), m_giveN nr (m + 1) j = m_gst nr (m_giveN nr m j)
  | 0, j => rfl
  | m + 1, j => by
    by_cases h : m_next j nr = -1
    · have e : ∀ m, m_giveN nr m j = j := fun m => by
        cases m with
        | zero => rfl
        | succ m => exact if_pos h
      rw [e, e]
      exact (if_pos h).symm
    · have e : ∀ m, m_giveN nr (m + 1) j = m_giveN nr m (m_give1 j (cl (m_next j nr))) := fun m => if_neg h
      rw [e, e, m_giveN_s m]
theorem g3_111 {j : Nat → Nat → Int32} {b r : Nat} {v w : Int32} : zup (zup (zup j 113 b 1) 112 b v) 1 24 w 111 r = j 111 r := by rw [zup_n (by omega), zup_n (by omega), zup_n (by omega)]
theorem g3_113b {j : Nat → Nat → Int32} {b : Nat} {v w : Int32} : zup (zup (zup j 113 b 1) 112 b v) 1 24 w 113 b = 1 := by rw [zup_n (by omega), zup_n (by omega), zup_s]
theorem g3_113 {j : Nat → Nat → Int32} {b r : Nat} {v w : Int32} (h : ¬ r = b) : zup (zup (zup j 113 b 1) 112 b v) 1 24 w 113 r = j 113 r := by rw [zup_n (by omega), zup_n (by omega), zup_n (by omega)]
theorem g3_112 {j : Nat → Nat → Int32} {b r : Nat} {v w : Int32} (h : ¬ r = b) : zup (zup (zup j 113 b 1) 112 b v) 1 24 w 112 r = j 112 r := by rw [zup_n (by omega), zup_n (by omega), zup_n (by omega)]
theorem gR_step {s : cGS} {j : Nat → Nat → Int32} {nr : Nat} (h : gR nr s j) (h4 : nr ≤ 4) : gR nr (c_gv1 nr s) (m_gst nr j) := by
  have hn := c_nw_m h h4 nr (Nat.le_refl _)
  cases hk : c_nw s.1 s.2.1 nr with
  | none =>
    rw [hk] at hn
    rw [c_gv1_n hk]
    unfold m_gst
    rw [if_pos (show m_next j nr = -1 from hn)]
    exact h
  | some b =>
    rw [hk] at hn
    have hb := c_nw_lt hk
    rw [c_gv1_s hk]
    unfold m_gst
    rw [if_neg (show ¬ m_next j nr = -1 by rw [hn]; exact nI_nm (by omega)), show cl (m_next j nr) = b by rw [hn]; exact nI_clamp (by omega)]
    obtain ⟨h1, h2, h3, h5⟩ := h
    have hg := (h3 b hb.1).mp hb.2
    have e23 : s.1 1 23 = j 1 23 := h1 1 23 (by decide) (by decide) (by omega)
    have e104 : s.1 104 b = j 104 b := h1 104 b (by decide) (by decide) (by omega)
    unfold m_give1
    rw [e23, h2, e104]
    by_cases hc : j 1 23 < j 1 24 + j 104 b
    · rw [if_pos hc, if_pos hc, if_pos hc]
      refine ⟨fun a c ha ha2 h24 => ?_, ?_, fun r hr => ?_, fun r hr => ?_⟩
      · show s.1 a c = _
        rw [zup_n h24]
        by_cases e : a = 112 ∧ c = b
        · rw [e.1, e.2, zup_s, h1 112 b (by decide) (by decide) (by omega)]
          exact h5 b hb.1 hg.2
        · rw [zup_n e, zup_n (by omega)]
          exact h1 a c ha ha2 h24
      · show j 1 24 = _
        rw [zup_s, Int32.add_zero]
      · show (¬ zup s.2.1 0 b 0 0 r = 0) ↔ _
        rw [g3_111]
        by_cases e : r = b
        · rw [e, zup_s, g3_113b]
          exact ⟨fun k => absurd rfl k, fun k => absurd k.2 (by decide)⟩
        · rw [g3_113 e, zup_n (by omega)]
          exact h3 r hr
      · by_cases e : r = b
        · rw [e, g3_113b]
          exact fun k => absurd k (by decide)
        · rw [g3_113 e, g3_112 e]
          exact h5 r hr
    · rw [if_neg hc, if_neg hc, if_neg hc]
      refine ⟨fun a c ha ha2 h24 => ?_, ?_, fun r hr => ?_, fun r hr => ?_⟩
      · show zup s.1 112 b 1 a c = _
        rw [zup_n h24]
        by_cases e : a = 112 ∧ c = b
        · rw [e.1, e.2, zup_s, zup_s]
        · rw [zup_n e, zup_n e, zup_n (by omega)]
          exact h1 a c ha ha2 h24
      · show j 1 24 + j 104 b = _
        rw [zup_s]
      · show (¬ zup s.2.1 0 b 0 0 r = 0) ↔ _
        rw [g3_111]
        by_cases e : r = b
        · rw [e, zup_s, g3_113b]
          exact ⟨fun k => absurd rfl k, fun k => absurd k.2 (by decide)⟩
        · rw [g3_113 e, zup_n (by omega)]
          exact h3 r hr
      · by_cases e : r = b
        · rw [e, g3_113b]
          exact fun k => absurd k (by decide)
        · rw [g3_113 e, g3_112 e]
          exact h5 r hr
theorem gR_0 {i x : Nat → Nat → Int32} : ∀ k, (∀ a b, a ≠ 113 → ¬ (a = 1 ∧ b = 24) → c_gp0 i k a b = m_pwc i k a b) ∧ m_pwc i k 1 24 = 0 ∧ (∀ r, r < k → c_gp0X i x k 0 r = i 111 r ∧ m_pwc i k 113 r = 0 ∧ m_pwc i k 112 r = 0)
  | 0 => ⟨fun a b _ h => (zup_n h).symm, zup_s, fun r h => absurd h (Nat.not_lt_zero _)⟩
  | k + 1 => by
    obtain ⟨h1, h2, h3⟩ := gR_0 (i := i) (x := x) k
    refine ⟨fun a b ha h24 => ?_, ?_, fun r hr => ⟨?_, ?_, ?_⟩⟩
    · show zup (c_gp0 i k) 112 k 0 a b = zup (zup (m_pwc i k) 113 k 0) 112 k 0 a b
      by_cases e : a = 112 ∧ b = k
      · rw [e.1, e.2, zup_s, zup_s]
      · rw [zup_n e, zup_n e, zup_n (by omega)]
        exact h1 a b ha h24
    · show zup (zup (m_pwc i k) 113 k 0) 112 k 0 1 24 = 0
      rw [zup_n (by omega), zup_n (by omega)]
      exact h2
    · show zup (c_gp0X i x k) 0 k (i 111 k) 0 r = _
      by_cases e : r = k
      · rw [e, zup_s]
      · rw [zup_n (by omega)]
        exact (h3 r (by omega)).1
    · show zup (zup (m_pwc i k) 113 k 0) 112 k 0 113 r = 0
      rw [zup_n (by omega)]
      by_cases e : r = k
      · rw [e, zup_s]
      · rw [zup_n (by omega)]
        exact (h3 r (by omega)).2.1
    · show zup (zup (m_pwc i k) 113 k 0) 112 k 0 112 r = 0
      by_cases e : r = k
      · rw [e, zup_s]
      · rw [zup_n (by omega), zup_n (by omega)]
        exact (h3 r (by omega)).2.2
theorem c_give_m {i x : Nat → Nat → Int32} {nr : Nat} (h4 : nr ≤ 4) : gR nr (c_give i x nr) (m_powers i nr) := by
  have h0 : gR nr (c_gp0 i nr, c_gp0X i x nr, 0) (m_pwc i nr) := by
    obtain ⟨h1, h2, h3⟩ := gR_0 (i := i) (x := x) nr
    refine ⟨fun a b ha _ h24 => h1 a b ha h24, h2.symm, fun r hr => ?_, fun r hr _ => (h3 r hr).2.2⟩
    show (¬ c_gp0X i x nr 0 r = 0) ↔ _
    rw [(h3 r hr).1, (h3 r hr).2.1, m_pwc_o (by decide) (by decide) (by omega)]
    exact ⟨fun k => ⟨k, rfl⟩, fun k => k.1⟩
  have : ∀ m, gR nr (c_gv nr (c_gp0 i nr, c_gp0X i x nr, 0) m) (m_giveN nr m (m_pwc i nr)) := by
    intro m
    induction m with
    | zero => exact h0
    | succ m ih =>
      rw [m_giveN_s]
      exact gR_step ih h4
  exact this nr
theorem c_gv_x {nr : Nat} {s : cGS} {a b : Nat} (h : a ≠ 0) : ∀ k, (c_gv nr s k).2.1 a b = s.2.1 a b
  | 0 => rfl
  | k + 1 => by
    show (c_gv1 nr (c_gv nr s k)).2.1 a b = _
    cases hk : c_nw (c_gv nr s k).1 (c_gv nr s k).2.1 nr with
    | none => rw [c_gv1_n hk]; exact c_gv_x h k
    | some r =>
      rw [c_gv1_s hk]
      split
      · exact (zup_n (by omega)).trans (c_gv_x h k)
      · exact (zup_n (by omega)).trans (c_gv_x h k)
theorem c_give_x {i x : Nat → Nat → Int32} {nr a b : Nat} (h : a ≠ 0) : (c_give i x nr).2.1 a b = x a b := by
  have e : ∀ k, c_gp0X i x k a b = x a b := fun k => by
    induction k with
    | zero => rfl
    | succ k ih => exact (zup_n (by omega)).trans ih
  exact (c_gv_x h nr).trans (e nr)
