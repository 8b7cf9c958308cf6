/-! PART 42: adding to a list of the class -/
def nup (n : Nat → Nat) (a v : Nat) : Nat → Nat := fun q => if q = a then v else n q
theorem nup_s {n : Nat → Nat} {a v : Nat} : nup n a v a = v := if_pos rfl
theorem nup_n {n : Nat → Nat} {a v q : Nat} (h : q ≠ a) : nup n a v q = n q := if_neg h
section ADD
variable {n : Nat → Nat} {i x : Nat → Nat → Int32} {lm : Nat → Nat → Int64} {y : Nat → Nat → Nat} {ol : Int64} {od : UInt64}
theorem cTc_2 {q : Nat} (h0 : q ≠ 0) (h2 : q ≠ 2) : cTc 2 q = 0 := by
  rcases Nat.eq_zero_or_pos (cTc 2 q) with a | a
  · exact a
  · have h1 := cTc_mem (t := 2) (k := q) rfl (by omega)
    have h3 : ∀ w ∈ cTl, w.1 = 2 → w.2.1 = 0 ∨ w.2.1 = 2 := by decide +kernel
    have := h3 _ h1 rfl
    simp only at this
    omega
theorem cTc_ne6 {t q : Nat} (h : t ≠ 2) : cTc t q ≠ 6 := fun a => by
  have h1 := cTc_mem a (by decide)
  have h3 : ∀ w ∈ cTl, w.2.2 = 6 → w.1 = 2 := by decide +kernel
  exact h (h3 _ h1 rfl)
theorem cI_add {l k t j q : Nat} : cI (nup n (5 + l) k) i x t j q = if t = 2 ∧ j = l ∧ (q = 0 ∨ q = 2) then nI k else cI n i x t j q := by
  by_cases ht : t = 2
  · subst ht
    show cI0 (nup n (5 + l) k) i x (cTc 2 q) j = if 2 = 2 ∧ j = l ∧ (q = 0 ∨ q = 2) then nI k else cI0 n i x (cTc 2 q) j
    by_cases hq : q = 0 ∨ q = 2
    · have e : cTc 2 q = 6 := by rcases hq with h | h <;> subst h <;> decide +kernel
      rw [e]
      show nI (nup n (5 + l) k (5 + j)) = if 2 = 2 ∧ j = l ∧ (q = 0 ∨ q = 2) then nI k else nI (n (5 + j))
      by_cases hj : j = l
      · rw [if_pos ⟨rfl, hj, hq⟩, hj, nup_s]
      · rw [if_neg (fun e => hj e.2.1), nup_n (by omega)]
    · rw [if_neg (fun e => hq e.2.2), cTc_2 (fun e => hq (Or.inl e)) (fun e => hq (Or.inr e))]
      rfl
  · rw [if_neg (fun e => ht e.1)]
    unfold cI
    split
    · rfl
    · split
      · rfl
      · split
        · rfl
        · have h6 := cTc_ne6 (q := q) ht
          unfold cI0
          rw [if_neg h6, if_neg h6]
theorem cC_add {l k t j : Nat} (ht : t ≠ 3) : cC (nup n (5 + l) k) t j = cC n t j := by
  have h : ∀ a, a < 5 → nup n (5 + l) k a = n a := fun a ha => nup_n (by omega)
  unfold cC
  split <;> first | rfl | (rw [h _ (by decide)]) | exact absurd rfl ht
theorem cC_3 {l k j : Nat} (hl : l < 4) (h : j % 4 ≠ l) : cC (nup n (5 + l) k) 3 j = cC n 3 j := by
  show (if cLive (nup n (5 + l) k) j then 25 else 0) = if cLive n j then 25 else 0
  have e : nup n (5 + l) k (5 + j % 4) = n (5 + j % 4) := nup_n (by omega)
  unfold cLive
  rw [e]
theorem ccap_1 {k : Nat} (h0 : k ≠ 0) (hk : k < ccap k) : ccap (k + 1) = ccap k := by
  unfold ccap at hk ⊢
  rw [if_neg h0] at hk ⊢
  rw [if_neg (by omega)]
  repeat' split at hk
  all_goals (repeat' split) <;> omega
theorem ccap_lt {k c : Nat} (h0 : k ≠ 0) (hc : c = 10 ∨ c = 15 ∨ c = 22 ∨ c = 33) (hk : k < c) (hle : c ≤ ccap k) : c = ccap k := by
  unfold ccap at hle ⊢
  rw [if_neg h0] at hle ⊢
  repeat' split at hle
  all_goals (repeat' split) <;> omega
/-- an element more, where the row has room -/
theorem zq_addA {l k : Nat} (hl : l < 4) (hk : n (5 + l) = k) (h0 : k ≠ 0) (hc : k < ccap k) :
    zq (zwi (zwr (zwi (cmm n i x lm y ol od) (32 * l + 2) 0 (nI (k + 1))) (cRow n l) k (some (32 * k + cEl l))) (32 * l + 2) 2 (nI (k + 1))) (cmm (nup n (5 + l) (k + 1)) i x lm y ol od) := by
  have hrow : cRow n l = 32 * (4 * ccap k + l) + 3 := by rw [← hk]; exact cRow_eq (by omega)
  have hcap := ccap_1 h0 hc
  refine ⟨funext fun p => ?_, fun p hp => ⟨rfl, fun q => ⟨?_, ?_, rfl, rfl⟩⟩⟩
  · show cC n (p % 32) (p / 32) = cC (nup n (5 + l) (k + 1)) (p % 32) (p / 32)
    by_cases h3 : p % 32 = 3
    · rw [h3]
      by_cases hj : p / 32 % 4 = l
      · show (if cLive n (p / 32) then 25 else 0) = if cLive (nup n (5 + l) (k + 1)) (p / 32) then 25 else 0
        unfold cLive
        rw [hj, nup_s, hk, hcap]
      · exact (cC_3 hl hj).symm
    · exact (cC_add h3).symm
  · show (if p = cRow n l ∧ q = k then some (32 * k + cEl l) else cR n i y (p % 32) (p / 32) q) = cR (nup n (5 + l) (k + 1)) i y (p % 32) (p / 32) q
    by_cases h : p = cRow n l ∧ q = k
    · obtain ⟨rfl, rfl⟩ := h
      rw [if_pos ⟨rfl, rfl⟩, hrow, (cdm _ (by decide)).1, (cdm _ (by decide)).2]
      show _ = if q < nup n (5 + l) (q + 1) (5 + (4 * ccap q + l) % 4) ∧ q < (4 * ccap q + l) / 4 then some (32 * q + cEl ((4 * ccap q + l) % 4)) else none
      rw [(crow_d _ hl).1, (crow_d _ hl).2, nup_s, if_pos ⟨by omega, hc⟩]
    · rw [if_neg h]
      by_cases h3 : p % 32 = 3
      · rw [h3]
        show (if q < n (5 + p / 32 % 4) ∧ q < p / 32 / 4 then some (32 * q + cEl (p / 32 % 4)) else none) = if q < nup n (5 + l) (k + 1) (5 + p / 32 % 4) ∧ q < p / 32 / 4 then some (32 * q + cEl (p / 32 % 4)) else none
        by_cases hj : p / 32 % 4 = l
        · rw [hj, nup_s, hk]
          have hlive : cLive n (p / 32) := by
            have hp' : cC n (p % 32) (p / 32) ≠ 0 := hp
            rw [h3] at hp'
            rcases Decidable.em (cLive n (p / 32)) with a | a
            · exact a
            · exact absurd (if_neg a) hp'
          unfold cLive at hlive
          rw [hj, hk] at hlive
          by_cases a : q < k ∧ q < p / 32 / 4
          · rw [if_pos a, if_pos ⟨by omega, a.2⟩]
          · rw [if_neg a, if_neg (fun b => ?_)]
            have e1 : q = k := by omega
            have := ccap_lt h0 hlive.1 (by omega) hlive.2
            refine h ⟨?_, e1⟩
            rw [hrow]
            omega
        · rw [nup_n (by omega)]
      · by_cases h2 : p % 32 = 2
        · rw [h2]
          show (if q = 1 then some (cRow n (p / 32)) else none) = if q = 1 then some (cRow (nup n (5 + l) (k + 1)) (p / 32)) else none
          have e : cRow (nup n (5 + l) (k + 1)) (p / 32) = cRow n (p / 32) := by
            by_cases hj : p / 32 = l
            · rw [hj, cRow_eq (n := nup n (5 + l) (k + 1)) (by rw [nup_s]; omega), nup_s, hcap, hrow]
            · unfold cRow
              rw [nup_n (by omega)]
          rw [e]
        · unfold cR
          split <;> first | rfl | omega
  · show (if p = 32 * l + 2 ∧ q = 2 then nI (k + 1) else if p = 32 * l + 2 ∧ q = 0 then nI (k + 1) else cI n i x (p % 32) (p / 32) q) = cI (nup n (5 + l) (k + 1)) i x (p % 32) (p / 32) q
    rw [cI_add]
    by_cases h : p = 32 * l + 2 ∧ (q = 0 ∨ q = 2)
    · rw [if_pos (show p % 32 = 2 ∧ p / 32 = l ∧ (q = 0 ∨ q = 2) by omega)]
      rcases h.2 with a | a
      · rw [if_neg (by omega), if_pos ⟨h.1, a⟩]
      · rw [if_pos ⟨h.1, a⟩]
    · rw [if_neg (by omega), if_neg (by omega), if_neg (show ¬ (p % 32 = 2 ∧ p / 32 = l ∧ (q = 0 ∨ q = 2)) by omega)]
end ADD
