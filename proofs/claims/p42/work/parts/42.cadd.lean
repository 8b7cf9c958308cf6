/-! PART 42: adding to a list of the class -/
def nup (n : Nat → Nat) (a v : Nat) : Nat → Nat := fun q => if q = a then v else n q
theorem nup_s {n : Nat → Nat} {a v : Nat} : nup n a v a = v := if_pos rfl
theorem nup_n {n : Nat → Nat} {a v q : Nat} (h : q ≠ a) : nup n a v q = n q := if_neg h
section ADD
variable {n : Nat → Nat} {i x : Nat → Nat → Int32} {lm : Nat → Nat → Int64} {y : Nat → Nat → Nat} {ol : Int64} {od : UInt64}
theorem cTc_2 {q : Nat} (h0 : q ≠ 0) (h2 : q ≠ 2) : cTc 2 q = 0 := by
  rcases Nat.eq_zero_or_pos (cTc 2 q) with a | a
  · exact a
  · have h1 := cTc_mem (t := 2) (k := q) rfl (by omega)
    have h3 : ∀ w ∈ cTl, w.1 = 2 → w.2.1 = 0 ∨ w.2.1 = 2 := by decide +kernel
    have := h3 _ h1 rfl
    simp only at this
    omega
theorem cTc_ne6 {t q : Nat} (h : t ≠ 2) : cTc t q ≠ 6 := fun a => by
  have h1 := cTc_mem a (by decide)
  have h3 : ∀ w ∈ cTl, w.2.2 = 6 → w.1 = 2 := by decide +kernel
  exact h (h3 _ h1 rfl)
theorem cI_add {l k t j q : Nat} : cI (nup n (5 + l) k) i x t j q = if t = 2 ∧ j = l ∧ (q = 0 ∨ q = 2) then nI k else cI n i x t j q := by
  by_cases ht : t = 2
  · subst ht
    show cI0 (nup n (5 + l) k) i x (cTc 2 q) j = if 2 = 2 ∧ j = l ∧ (q = 0 ∨ q = 2) then nI k else cI0 n i x (cTc 2 q) j
    by_cases hq : q = 0 ∨ q = 2
    · have e : cTc 2 q = 6 := by rcases hq with h | h <;> subst h <;> decide +kernel
      rw [e]
      show nI (nup n (5 + l) k (5 + j)) = if 2 = 2 ∧ j = l ∧ (q = 0 ∨ q = 2) then nI k else nI (n (5 + j))
      by_cases hj : j = l
      · rw [if_pos ⟨rfl, hj, hq⟩, hj, nup_s]
      · rw [if_neg (fun e => hj e.2.1), nup_n (by omega)]
    · rw [if_neg (fun e => hq e.2.2), cTc_2 (fun e => hq (Or.inl e)) (fun e => hq (Or.inr e))]
      rfl
  · rw [if_neg (fun e => ht e.1)]
    unfold cI
    split
    · rfl
    · split
      · rfl
      · split
        · rfl
        · have h6 := cTc_ne6 (q := q) ht
          unfold cI0
          rw [if_neg h6, if_neg h6]
theorem cC_add {l k t j : Nat} (ht : t ≠ 3) : cC (nup n (5 + l) k) t j = cC n t j := by
  have h : ∀ a, a < 5 → nup n (5 + l) k a = n a := fun a ha => nup_n (by omega)
  unfold cC
  split <;> first | rfl | (rw [h _ (by decide)]) | exact absurd rfl ht
theorem cC_3 {l k j : Nat} (hl : l < 4) (h : j % 4 ≠ l) : cC (nup n (5 + l) k) 3 j = cC n 3 j := by
  show (if cLive (nup n (5 + l) k) j then 25 else 0) = if cLive n j then 25 else 0
  have e : nup n (5 + l) k (5 + j % 4) = n (5 + j % 4) := nup_n (by omega)
  unfold cLive
  rw [e]
theorem ccap_1 {k : Nat} (h0 : k ≠ 0) (hk : k < ccap k) : ccap (k + 1) = ccap k := by
  unfold ccap at hk ⊢
  rw [if_neg h0] at hk ⊢
  rw [if_neg (by omega)]
  repeat' split at hk
  all_goals (repeat' split) <;> omega
theorem ccap_lt {k c : Nat} (h0 : k ≠ 0) (hc : c = 10 ∨ c = 15 ∨ c = 22 ∨ c = 33) (hk : k < c) (hle : c ≤ ccap k) : c = ccap k := by
  unfold ccap at hle ⊢
  rw [if_neg h0] at hle ⊢
  repeat' split at hle
  all_goals (repeat' split) <;> omega
/-- an element more, where the row has room -/
theorem zq_addA {l k : Nat} (hl : l < 4) (hk : n (5 + l) = k) (h0 : k ≠ 0) (hc : k < ccap k) :
    zq (zwi (zwr (zwi (cmm n i x lm y ol od) (32 * l + 2) 0 (nI (k + 1))) (cRow n l) k (some (32 * k + cEl l))) (32 * l + 2) 2 (nI (k + 1))) (cmm (nup n (5 + l) (k + 1)) i x lm y ol od) := by
  have hrow : cRow n l = 32 * (4 * ccap k + l) + 3 := by rw [← hk]; exact cRow_eq (by omega)
  have hcap := ccap_1 h0 hc
  refine ⟨funext fun p => ?_, fun p hp => ⟨rfl, fun q => ⟨?_, ?_, rfl, rfl⟩⟩⟩
  · show cC n (p % 32) (p / 32) = cC (nup n (5 + l) (k + 1)) (p % 32) (p / 32)
    by_cases h3 : p % 32 = 3
    · rw [h3]
      by_cases hj : p / 32 % 4 = l
      · show (if cLive n (p / 32) then 25 else 0) = if cLive (nup n (5 + l) (k + 1)) (p / 32) then 25 else 0
        unfold cLive
        rw [hj, nup_s, hk, hcap]
      · exact (cC_3 hl hj).symm
    · exact (cC_add h3).symm
  · show (if p = cRow n l ∧ q = k then some (32 * k + cEl l) else cR n i y (p % 32) (p / 32) q) = cR (nup n (5 + l) (k + 1)) i y (p % 32) (p / 32) q
    by_cases h : p = cRow n l ∧ q = k
    · obtain ⟨rfl, rfl⟩ := h
      rw [if_pos ⟨rfl, rfl⟩, hrow, (cdm _ (by decide)).1, (cdm _ (by decide)).2]
      show _ = if q < nup n (5 + l) (q + 1) (5 + (4 * ccap q + l) % 4) ∧ q < (4 * ccap q + l) / 4 then some (32 * q + cEl ((4 * ccap q + l) % 4)) else none
      rw [(crow_d _ hl).1, (crow_d _ hl).2, nup_s, if_pos ⟨by omega, hc⟩]
    · rw [if_neg h]
      by_cases h3 : p % 32 = 3
      · rw [h3]
        show (if q < n (5 + p / 32 % 4) ∧ q < p / 32 / 4 then some (32 * q + cEl (p / 32 % 4)) else none) = if q < nup n (5 + l) (k + 1) (5 + p / 32 % 4) ∧ q < p / 32 / 4 then some (32 * q + cEl (p / 32 % 4)) else none
        by_cases hj : p / 32 % 4 = l
        · rw [hj, nup_s, hk]
          have hlive : cLive n (p / 32) := by
            have hp' : cC n (p % 32) (p / 32) ≠ 0 := hp
            rw [h3] at hp'
            rcases Decidable.em (cLive n (p / 32)) with a | a
            · exact a
            · exact absurd (if_neg a) hp'
          unfold cLive at hlive
          rw [hj, hk] at hlive
          by_cases a : q < k ∧ q < p / 32 / 4
          · rw [if_pos a, if_pos ⟨by omega, a.2⟩]
          · rw [if_neg a, if_neg (fun b => ?_)]
            have e1 : q = k := by omega
            have := ccap_lt h0 hlive.1 (by omega) hlive.2
            refine h ⟨?_, e1⟩
            rw [hrow]
            omega
        · rw [nup_n (by omega)]
      · by_cases h2 : p % 32 = 2
        · rw [h2]
          show (if q = 1 then some (cRow n (p / 32)) else none) = if q = 1 then some (cRow (nup n (5 + l) (k + 1)) (p / 32)) else none
          have e : cRow (nup n (5 + l) (k + 1)) (p / 32) = cRow n (p / 32) := by
            by_cases hj : p / 32 = l
            · rw [hj, cRow_eq (n := nup n (5 + l) (k + 1)) (by rw [nup_s]; omega), nup_s, hcap, hrow]
            · unfold cRow
              rw [nup_n (by omega)]
          rw [e]
        · unfold cR
          split <;> first | rfl | omega
  · show (if p = 32 * l + 2 ∧ q = 2 then nI (k + 1) else if p = 32 * l + 2 ∧ q = 0 then nI (k + 1) else cI n i x (p % 32) (p / 32) q) = cI (nup n (5 + l) (k + 1)) i x (p % 32) (p / 32) q
    rw [cI_add]
    by_cases h : p = 32 * l + 2 ∧ (q = 0 ∨ q = 2)
    · rw [if_pos (show p % 32 = 2 ∧ p / 32 = l ∧ (q = 0 ∨ q = 2) by omega)]
      rcases h.2 with a | a
      · rw [if_neg (by omega), if_pos ⟨h.1, a⟩]
      · rw [if_pos ⟨h.1, a⟩]
    · rw [if_neg (by omega), if_neg (by omega), if_neg (show ¬ (p % 32 = 2 ∧ p / 32 = l ∧ (q = 0 ∨ q = 2)) by omega)]
theorem zcpy_0 {M : zMem} {a b : Nat} : zcpy M a b 0 = M := by
  unfold zcpy
  refine Prod.ext rfl (Prod.ext rfl (Prod.ext (funext fun p => funext fun q => ?_) rfl))
  exact if_neg (fun e => absurd e.2 (Nat.not_lt_zero _))
/-- an element more, in a new row -/
theorem zq_addB {l k N : Nat} (hl : l < 4) (hk : n (5 + l) = k) (hN : k = 0 ∧ N = 10 ∨ k = 10 ∧ N = 15 ∨ k = 15 ∧ N = 22 ∨ k = 22 ∧ N = 33) :
    zq (zwi (zwr (zwr (zcpy (znew (zwi (cmm n i x lm y ol od) (32 * l + 2) 0 (nI (k + 1))) (32 * (4 * N + l) + 3) 25 N) (cRow n l) (32 * (4 * N + l) + 3) k) (32 * l + 2) 1 (some (32 * (4 * N + l) + 3))) (32 * (4 * N + l) + 3) k (some (32 * k + cEl l))) (32 * l + 2) 2 (nI (k + 1))) (cmm (nup n (5 + l) (k + 1)) i x lm y ol od) := by
  have hc0 : ccap k = k := by rcases hN with h | h | h | h <;> rw [h.1] <;> rfl
  have hc1 : ccap (k + 1) = N := by rcases hN with h | h | h | h <;> rw [h.1, h.2] <;> rfl
  have hkN : k < N := by omega
  have hr1 : cRow (nup n (5 + l) (k + 1)) l = 32 * (4 * N + l) + 3 := by rw [cRow_eq (n := nup n (5 + l) (k + 1)) (by rw [nup_s]; omega), nup_s, hc1]
  generalize hb : 32 * (4 * N + l) + 3 = b at *
  have hb1 : b % 32 = 3 ∧ b / 32 = 4 * N + l := by omega
  have hcap : ∀ c : Nat, c ≠ N → (c = 10 ∨ c = 15 ∨ c = 22 ∨ c = 33) → c ≤ N → c ≤ k := by omega
  refine ⟨funext fun p => ?_, fun p hp => ⟨?_, fun q => ⟨?_, ?_, ?_, ?_⟩⟩⟩
  · show (if p = b then 25 else cC n (p % 32) (p / 32)) = cC (nup n (5 + l) (k + 1)) (p % 32) (p / 32)
    by_cases h : p = b
    · rw [if_pos h, h, hb1.1, hb1.2]
      refine (if_pos ?_).symm
      unfold cLive
      rw [(crow_d _ hl).1, (crow_d _ hl).2, nup_s, hc1]
      omega
    · rw [if_neg h]
      by_cases h3 : p % 32 = 3
      · rw [h3]
        by_cases hj : p / 32 % 4 = l
        · show (if cLive n (p / 32) then 25 else 0) = if cLive (nup n (5 + l) (k + 1)) (p / 32) then 25 else 0
          unfold cLive
          rw [hj, nup_s, hk, hc0, hc1]
          have := hcap (p / 32 / 4) (by omega)
          by_cases a : (p / 32 / 4 = 10 ∨ p / 32 / 4 = 15 ∨ p / 32 / 4 = 22 ∨ p / 32 / 4 = 33) ∧ p / 32 / 4 ≤ k
          · rw [if_pos a, if_pos ⟨a.1, by omega⟩]
          · rw [if_neg a, if_neg (fun c => a ⟨c.1, this c.1 c.2⟩)]
        · exact (cC_3 hl hj).symm
      · exact (cC_add h3).symm
  · show (if p = b then N else cN (p % 32) (p / 32)) = cN (p % 32) (p / 32)
    by_cases h : p = b
    · rw [if_pos h, h, hb1.1, hb1.2]
      exact (crow_d _ hl).1.symm
    · rw [if_neg h]
  · show (if p = b ∧ q = k then some (32 * k + cEl l) else if p = 32 * l + 2 ∧ q = 1 then some b else if p = b ∧ q < k then (if cRow n l = b then none else cR n i y (cRow n l % 32) (cRow n l / 32) q) else (if p = b then none else cR n i y (p % 32) (p / 32) q)) = cR (nup n (5 + l) (k + 1)) i y (p % 32) (p / 32) q
    by_cases h : p = b
    · subst h
      rw [hb1.1, hb1.2]
      show _ = if q < nup n (5 + l) (k + 1) (5 + (4 * N + l) % 4) ∧ q < (4 * N + l) / 4 then some (32 * q + cEl ((4 * N + l) % 4)) else none
      rw [(crow_d _ hl).1, (crow_d _ hl).2, nup_s]
      rcases Nat.lt_trichotomy q k with a | a | a
      · have hr0 : cRow n l = 32 * (4 * k + l) + 3 := by rw [cRow_eq (by omega), hk, hc0]
        rw [if_neg (by omega), if_neg (by omega), if_pos ⟨rfl, a⟩, if_neg (by omega), if_pos (by omega), hr0, (cdm _ (by decide)).1, (cdm _ (by decide)).2]
        show (if q < n (5 + (4 * k + l) % 4) ∧ q < (4 * k + l) / 4 then some (32 * q + cEl ((4 * k + l) % 4)) else none) = _
        rw [(crow_d _ hl).1, (crow_d _ hl).2, hk, if_pos ⟨a, a⟩]
      · rw [if_pos ⟨rfl, a⟩, if_pos (by omega), a]
      · rw [if_neg (by omega), if_neg (by omega), if_neg (by omega), if_pos rfl, if_neg (by omega)]
    · rw [if_neg (fun e => h e.1), if_neg (show ¬ (p = b ∧ q < k) from fun e => h e.1), if_neg h]
      by_cases ho : p = 32 * l + 2 ∧ q = 1
      · rw [if_pos ho, ho.1, ho.2, (cdm _ (by decide)).1, (cdm _ (by decide)).2]
        show _ = some (cRow _ l)
        rw [hr1]
      · rw [if_neg ho]
        by_cases h3 : p % 32 = 3
        · rw [h3]
          show (if q < n (5 + p / 32 % 4) ∧ q < p / 32 / 4 then some (32 * q + cEl (p / 32 % 4)) else none) = if q < nup n (5 + l) (k + 1) (5 + p / 32 % 4) ∧ q < p / 32 / 4 then some (32 * q + cEl (p / 32 % 4)) else none
          by_cases hj : p / 32 % 4 = l
          · rw [hj, nup_s, hk]
            have hlive : cLive n (p / 32) := by
              have hp' : (if p = b then 25 else cC n (p % 32) (p / 32)) ≠ 0 := hp
              rw [if_neg h, h3] at hp'
              rcases Decidable.em (cLive n (p / 32)) with a | a
              · exact a
              · exact absurd (if_neg a) hp'
            unfold cLive at hlive
            rw [hj, hk, hc0] at hlive
            by_cases a : q < k ∧ q < p / 32 / 4
            · rw [if_pos a, if_pos ⟨by omega, a.2⟩]
            · rw [if_neg a, if_neg (by omega)]
          · rw [nup_n (by omega)]
        · by_cases h2 : p % 32 = 2
          · rw [h2]
            show (if q = 1 then some (cRow n (p / 32)) else none) = if q = 1 then some (cRow (nup n (5 + l) (k + 1)) (p / 32)) else none
            by_cases hq : q = 1
            · have e : cRow (nup n (5 + l) (k + 1)) (p / 32) = cRow n (p / 32) := by
                unfold cRow
                rw [nup_n (by omega)]
              rw [e]
            · rw [if_neg hq, if_neg hq]
          · unfold cR
            split <;> first | rfl | omega
  · show (if p = 32 * l + 2 ∧ q = 2 then nI (k + 1) else if p = b then 0 else if p = 32 * l + 2 ∧ q = 0 then nI (k + 1) else cI n i x (p % 32) (p / 32) q) = cI (nup n (5 + l) (k + 1)) i x (p % 32) (p / 32) q
    rw [cI_add]
    by_cases hpb : p = b
    · rw [if_neg (by omega), if_pos hpb, if_neg (by omega), hpb, hb1.1]
      show 0 = cI0 n i x (cTc 3 q) (b / 32)
      have e : cTc 3 q = 0 := by
        rcases Nat.eq_zero_or_pos (cTc 3 q) with a | a
        · exact a
        · have h1 := cTc_mem (t := 3) (k := q) rfl (by omega)
          have h3 : ∀ w ∈ cTl, w.1 ≠ 3 := by decide +kernel
          exact absurd rfl (h3 _ h1)
      rw [e]
      rfl
    · rw [if_neg hpb]
      by_cases h : p = 32 * l + 2 ∧ (q = 0 ∨ q = 2)
      · rw [if_pos (show p % 32 = 2 ∧ p / 32 = l ∧ (q = 0 ∨ q = 2) by omega)]
        rcases h.2 with a | a
        · rw [if_neg (by omega), if_pos ⟨h.1, a⟩]
        · rw [if_pos ⟨h.1, a⟩]
      · rw [if_neg (by omega), if_neg (by omega), if_neg (show ¬ (p % 32 = 2 ∧ p / 32 = l ∧ (q = 0 ∨ q = 2)) by omega)]
  · show (if p = b then 0 else if p = 14 ∧ q = 0 then ol else if p = 5 ∧ q = 4 then lm 1 26 else 0) = if p = 14 ∧ q = 0 then ol else if p = 5 ∧ q = 4 then lm 1 26 else 0
    by_cases h : p = b
    · rw [if_pos h, if_neg (by omega), if_neg (by omega)]
    · rw [if_neg h]
  · show (if p = b then 0 else if p = 15 ∧ q = 0 then od else 0) = if p = 15 ∧ q = 0 then od else 0
    by_cases h : p = b
    · rw [if_pos h, if_neg (by omega)]
    · rw [if_neg h]
end ADD
set_option maxRecDepth 100000 in
set_option maxHeartbeats 4000000 in
theorem c_J8_newLength_cabcc (l : Launch) (M : zMem) (a b c m : Int32) (hm : (if b < c then c else b) = m) (h0 : ¬ a + m ≤ 0) (h1 : ¬ 2147483639 < a + m) : zS l yJ8_newLength_cabcc wsJ8_newLength_cabcc 7 112 0 0 [.int a, .int b, .int c] M (zpi (fun r M1 => r = a + m ∧ M1 = M)) zno := by
  refine z_intro (cc := cJ8_newLength_cabcc) (maxL := 4) (ret := (some .int)) (by decide +kernel) rfl (Nat.le_of_ble_eq_true rfl) ?_
  intro g X
  show zE g 4 0 [(0, .int a), (1, .int b), (2, .int c)] [] M 0 0
  refine z_iload_n X 0 dJ8_newLength_cabcc_0 rfl rfl ?_
  refine z_iload_n X 1 dJ8_newLength_cabcc_1 rfl rfl ?_
  refine z_iload_n X 2 dJ8_newLength_cabcc_2 rfl rfl ?_
  refine z_mmax X dJ8_newLength_cabcc_3 (by decide +kernel) (by decide +kernel) (by decide +kernel) (by decide +kernel) (by decide) (Nat.le_of_ble_eq_true rfl) (Nat.zero_le _) (Nat.zero_le _) ?_
  refine z_top (w := .int m) (congrArg Value.int (hm)) ?_
  refine z_iadd X dJ8_newLength_cabcc_6 ?_
  refine z_istore_n (ls' := [(3, .int (a + m)), (0, .int a), (1, .int b), (2, .int c)]) X dJ8_newLength_cabcc_7 rfl (by decide) rfl ?_
  refine z_iconst (v := 0) X dJ8_newLength_cabcc_8 (by decide) ?_
  refine z_iload_n X 0 dJ8_newLength_cabcc_9 rfl rfl ?_
  refine z_icmp_ge X 21 dJ8_newLength_cabcc_10 (by decide) (fun c_10 => ?_) (fun c_10 => ?_)
  · exact absurd c_10 h0
  · skip
    refine z_iload_n X 0 dJ8_newLength_cabcc_13 rfl rfl ?_
    refine z_ldcI (v := 2147483639) X dJ8_newLength_cabcc_14 (by decide +kernel) ?_
    refine z_icmp_gt X 21 dJ8_newLength_cabcc_16 (by decide) (fun c_16 => ?_) (fun c_16 => ?_)
    · exact absurd c_16 h1
    · skip
      refine z_iload_n X 0 dJ8_newLength_cabcc_19 rfl rfl ?_
      refine z_iret X rfl rfl (Nat.le_refl _) (Nat.le_refl _) dJ8_newLength_cabcc_20 ?_
      exact ⟨_, rfl, rfl, rfl⟩

set_option maxRecDepth 100000 in
set_option maxHeartbeats 4000000 in
theorem c_J7_copyOf_6403c (l : Launch) (M : zMem) (src b c N ci Nc : Nat) (C : String) (Tc : u_T) (hMi : zc M zMi = 19) (hs : zc M src = 25) (hn : zn M src = c) (hcN : c ≤ N) (hN : N ≤ 33) (hb0 : zc M b = 0) (hb1 : b ≠ zE0) (hb2 : b ≠ zMi) (hq : vwCl[ci]? = some (C, Tc, Nc)) (hC : C ∈ [RX1, RX3, RX4, RX5]) (hel : ∀ j v, j < c → zr M src j = some v → zc M v = ci + 1) : zS l yJ7_copyOf_6403c wsJ7_copyOf_6403c 1 60 1 40 [.ref src, .int (nI N), .ref 63] M (zpr (fun r M1 => r = b ∧ M1 = zcpy (znew M b 25 N) src b c)) zno := by
  refine z_intro (cc := cJ7_copyOf_6403c) (maxL := 4) (ret := (some (.array (.object "java/lang/Object")))) (by decide +kernel) rfl (Nat.le_of_ble_eq_true rfl) ?_
  intro g X
  show zE g 4 0 [(0, .ref src), (1, .int (nI N)), (2, .ref 63)] [] M 0 0
  refine z_aload_n X 2 dJ7_copyOf_6403c_0 rfl rfl ?_
  refine z_ldcM X hMi dJ7_copyOf_6403c_1 (by decide +kernel) ?_
  refine z_acmp_neS X 13 dJ7_copyOf_6403c_3 (by decide) ?_
  refine z_iload_n X 1 dJ7_copyOf_6403c_6 rfl rfl ?_
  have hsb : src ≠ b := fun e => by rw [e] at hs; rw [hs] at hb0; cases hb0
  have e1 : zc (znew M b 25 N) src = 25 := (if_neg hsb).trans hs
  have e2 : zn (znew M b 25 N) src = c := (if_neg hsb).trans hn
  refine z_anewa X (N := N) b dJ7_copyOf_6403c_7 (by decide +kernel) (nI_nn _ (by omega)) (nI_clamp (by omega)) (by omega) hb0 hb1 hb2 ⟨by decide, by omega⟩ ?_
  refine z_goto (tgt := 24) X dJ7_copyOf_6403c_10 (by decide) ?_
  refine z_astore_n (ls' := [(3, .ref b), (0, .ref src), (1, .int (nI N)), (2, .ref 63)]) X dJ7_copyOf_6403c_24 rfl (by decide) rfl ?_
  refine z_aload_n X 1 dJ7_copyOf_6403c_25 rfl rfl ?_
  refine z_iconst (v := 0) X dJ7_copyOf_6403c_26 (by decide) ?_
  refine z_aload_n X 0 dJ7_copyOf_6403c_27 rfl rfl ?_
  refine z_iconst (v := 0) X dJ7_copyOf_6403c_28 (by decide) ?_
  refine z_aload_n X 1 dJ7_copyOf_6403c_29 rfl rfl ?_
  refine z_alen (t := 5) (v := nI c) X dJ7_copyOf_6403c_30 e1 (by decide) (by rw [e2]; rfl) ?_
  refine z_iload_n X 2 dJ7_copyOf_6403c_31 rfl rfl ?_
  refine z_mmin X dJ7_copyOf_6403c_32 (by decide +kernel) (by decide +kernel) (by decide +kernel) (by decide +kernel) (by decide) (Nat.le_of_ble_eq_true rfl) (by decide) (by omega) ?_
  refine z_top (w := .int (nI c)) (congrArg Value.int (if_neg (Int32.not_lt.mpr (nI_le hcN (by omega))))) ?_
  refine z_copy X (src := src) (dst := b) (N := c) (ci := ci) dJ7_copyOf_6403c_35 (by decide +kernel) (by decide +kernel) (by decide +kernel) (by decide +kernel) e1 (if_pos rfl) (nI_nn _ (by omega)) (nI_clamp (by omega)) (by rw [e2]; exact Nat.le_refl _) (by show c ≤ if b = b then N else _; rw [if_pos rfl]; exact hcN) hq hC (fun j v hj he => by
    have he1 : zr M src j = some v := (show (if src = b then none else zr M src j) = some v from he) ▸ (if_neg hsb).symm
    have hv := hel j v hj he1
    exact (if_neg (fun e => by rw [e] at hv; rw [hv] at hb0; cases hb0)).trans hv) (by decide) (Nat.le_of_ble_eq_true rfl) ?_
  refine z_aload_n X 0 dJ7_copyOf_6403c_38 rfl rfl ?_
  refine z_aret X rfl (Or.inr ⟨_, rfl⟩) (Or.inr ⟨_, rfl⟩) (by decide) (by omega) dJ7_copyOf_6403c_39 ?_
  exact ⟨_, rfl, rfl, rfl⟩

set_option maxRecDepth 100000 in
set_option maxHeartbeats 4000000 in
theorem c_J7_copyOf_1904c (l : Launch) (M : zMem) (src b c N ci Nc : Nat) (C : String) (Tc : u_T) (hMi : zc M zMi = 19) (hs : zc M src = 25) (hn : zn M src = c) (hcN : c ≤ N) (hN : N ≤ 33) (hb0 : zc M b = 0) (hb1 : b ≠ zE0) (hb2 : b ≠ zMi) (hq : vwCl[ci]? = some (C, Tc, Nc)) (hC : C ∈ [RX1, RX3, RX4, RX5]) (hel : ∀ j v, j < c → zr M src j = some v → zc M v = ci + 1) : zS l yJ7_copyOf_1904c wsJ7_copyOf_1904c 2 83 1 40 [.ref src, .int (nI N)] M (zpr (fun r M1 => r = b ∧ M1 = zcpy (znew M b 25 N) src b c)) zno := by
  refine z_intro (cc := cJ7_copyOf_1904c) (maxL := 2) (ret := (some (.array (.object "java/lang/Object")))) (by decide +kernel) rfl (Nat.le_of_ble_eq_true rfl) ?_
  intro g X
  show zE g 2 0 [(0, .ref src), (1, .int (nI N))] [] M 0 0
  refine z_aload_n X 0 dJ7_copyOf_1904c_0 rfl rfl ?_
  refine z_iload_n X 1 dJ7_copyOf_1904c_1 rfl rfl ?_
  refine z_aload_n X 0 dJ7_copyOf_1904c_2 rfl rfl ?_
  refine z_getC X (o := src) hMi dJ7_copyOf_1904c_3 (by decide +kernel) (by decide +kernel) (by decide +kernel) (by decide +kernel) hs (by decide) (Nat.le_of_ble_eq_true rfl) ?_
  refine z_callSr (As := [.ref src, .int (nI N), .ref 63]) (rest := []) (n1 := 3) X dJ7_copyOf_1904c_6 (c_J7_copyOf_6403c l _ src b c N ci Nc C Tc hMi hs hn hcN hN hb0 hb1 hb2 hq hC hel) gJ7_copyOf_1904c_J7_copyOf_6403c rfl rfl (by decide +kernel) ⟨by decide, by decide⟩ rfl (Nat.le_of_ble_eq_true rfl) ⟨by decide, by decide⟩ (fun _ h => h.elim) ?_
  rintro _ _ ⟨e8, e9⟩
  rw [e8, e9]
  clear e8 e9
  refine z_aret X rfl (Or.inr ⟨_, rfl⟩) (Or.inr ⟨_, rfl⟩) (by decide) (by omega) dJ7_copyOf_1904c_9 ?_
  exact ⟨_, rfl, rfl, rfl⟩

set_option maxRecDepth 100000 in
set_option maxHeartbeats 4000000 in
theorem c_grow0 (l : Launch) (M : zMem) (o b : Nat) (hE0 : zc M zE0 = 26) (ho : zc M o = 3) (hre : zr M o 1 = some zE0) (hn : zn M zE0 = 0) (hb0 : zc M b = 0) (hb1 : b ≠ zE0) (hb2 : b ≠ zMi) : zS l yJx4a65c_grow_92f84 wsJx4a65c_grow_92f84 8 135 1 40 [.ref o, .int 1] M (zpr (fun r M1 => r = b ∧ M1 = zwr (znew M b 25 10) o 1 (some b))) zno := by
  refine z_intro (cc := cJx4a65c_grow_92f84) (maxL := 4) (ret := (some (.array (.object "java/lang/Object")))) (by decide +kernel) rfl (Nat.le_of_ble_eq_true rfl) ?_
  have hlk_9 : Cond.fieldLink RJx4a65c 9 "java/util/ArrayList" "elementData" "[Ljava/lang/Object;" ∈ wsJx4a65c_grow_92f84 := by decide +kernel
  intro g X
  show zE g 4 0 [(0, .ref o), (1, .int 1)] [] M 0 0
  refine z_aload_n X 0 dJx4a65c_grow_92f84_0 rfl rfl ?_
  refine z_getR (ci := 2) (j := 1) (o' := 31) X dJx4a65c_grow_92f84_1 ho rfl (by decide) hlk_9 (Or.inl rfl) (fun _ => rfl) (hre) ?_
  refine z_alenE (v := 0) X dJx4a65c_grow_92f84_4 hE0 rfl ?_
  refine z_istore_n (ls' := [(2, .int 0), (0, .ref o), (1, .int 1)]) X dJx4a65c_grow_92f84_5 rfl (by decide) rfl ?_
  refine z_iload_n X 0 dJx4a65c_grow_92f84_6 rfl rfl ?_
  refine z_if_gt X 20 dJx4a65c_grow_92f84_7 (by decide) (fun c_7 => ?_) (fun c_7 => ?_)
  · exact absurd c_7 (by decide)
  · skip
    refine z_aload_n X 1 dJx4a65c_grow_92f84_10 rfl rfl ?_
    refine z_getR (ci := 2) (j := 1) (o' := 31) X dJx4a65c_grow_92f84_11 ho rfl (by decide) hlk_9 (Or.inl rfl) (fun _ => rfl) (hre) ?_
    refine z_getE X hE0 dJx4a65c_grow_92f84_14 (by decide +kernel) ?_
    refine z_acmp_eq X 45 (fun e9 => absurd (((show zc M 31 = 26 from hE0)).symm.trans e9) (by decide)) (fun e9 => absurd (((show zc M 31 = 26 from hE0)).symm.trans e9) (by decide)) dJx4a65c_grow_92f84_17 (by decide) (fun c_17 => ?_) (fun c_17 => ?_)
    · skip
      refine z_aload_n X 1 dJx4a65c_grow_92f84_45 rfl rfl ?_
      refine z_bipush (v := 10) X dJx4a65c_grow_92f84_46 (by decide) ?_
      refine z_iload_n X 2 dJx4a65c_grow_92f84_48 rfl rfl ?_
      refine z_mmax X dJx4a65c_grow_92f84_49 (by decide +kernel) (by decide +kernel) (by decide +kernel) (by decide +kernel) (by decide) (Nat.le_of_ble_eq_true rfl) (Nat.zero_le _) (Nat.zero_le _) ?_
      refine z_top (w := .int 10) (congrArg Value.int (by decide)) ?_
      have hob : o ≠ b := fun e9 => by rw [e9] at ho; rw [ho] at hb0; cases hb0
      have ho9 : zc (znew M b 25 10) o = 3 := (if_neg hob).trans ho
      refine z_anewa X (N := 10) b dJx4a65c_grow_92f84_52 (by decide +kernel) (by decide) (by decide) (by decide) hb0 hb1 hb2 ⟨by decide, by decide⟩ ?_
      refine z_dup_x1 X dJx4a65c_grow_92f84_55 rfl rfl ?_
      refine z_putR (ci := 2) (j := 1) X dJx4a65c_grow_92f84_56 ho9 rfl (by decide) hlk_9 (Or.inl rfl) (Or.inl rfl) (fun _ => rfl) (fun _ => rfl) (fun _ => rfl) ?_
      refine z_aret X rfl (Or.inr ⟨_, rfl⟩) (Or.inr ⟨_, rfl⟩) (by decide) (by decide) dJx4a65c_grow_92f84_59 ?_
      exact ⟨_, rfl, rfl, rfl⟩
    · exact absurd rfl c_17

set_option maxRecDepth 100000 in
set_option maxHeartbeats 4000000 in
theorem c_grow10 (l : Launch) (M : zMem) (o e b ci Nc : Nat) (C : String) (Tc : u_T) (hMi : zc M zMi = 19) (ho : zc M o = 3) (hre : zr M o 1 = some e) (hs : zc M e = 25) (hn : zn M e = 10) (hb0 : zc M b = 0) (hb1 : b ≠ zE0) (hb2 : b ≠ zMi) (hq : vwCl[ci]? = some (C, Tc, Nc)) (hC : C ∈ [RX1, RX3, RX4, RX5]) (hel : ∀ j v, j < 10 → zr M e j = some v → zc M v = ci + 1) : zS l yJx4a65c_grow_92f84 wsJx4a65c_grow_92f84 8 135 1 40 [.ref o, .int 11] M (zpr (fun r M1 => r = b ∧ M1 = zwr (zcpy (znew M b 25 15) e b 10) o 1 (some b))) zno := by
  refine z_intro (cc := cJx4a65c_grow_92f84) (maxL := 4) (ret := (some (.array (.object "java/lang/Object")))) (by decide +kernel) rfl (Nat.le_of_ble_eq_true rfl) ?_
  have hlk_9 : Cond.fieldLink RJx4a65c 9 "java/util/ArrayList" "elementData" "[Ljava/lang/Object;" ∈ wsJx4a65c_grow_92f84 := by decide +kernel
  intro g X
  show zE g 4 0 [(0, .ref o), (1, .int 11)] [] M 0 0
  refine z_aload_n X 0 dJx4a65c_grow_92f84_0 rfl rfl ?_
  refine z_getR (ci := 2) (j := 1) (o' := e) X dJx4a65c_grow_92f84_1 ho rfl (by decide) hlk_9 (Or.inl rfl) (fun _ => rfl) (hre) ?_
  refine z_alen (t := 5) (v := 10) X dJx4a65c_grow_92f84_4 hs (by decide) (by rw [hn]; rfl) ?_
  refine z_istore_n (ls' := [(2, .int 10), (0, .ref o), (1, .int 11)]) X dJx4a65c_grow_92f84_5 rfl (by decide) rfl ?_
  refine z_iload_n X 0 dJx4a65c_grow_92f84_6 rfl rfl ?_
  refine z_if_gt X 20 dJx4a65c_grow_92f84_7 (by decide) (fun c_7 => ?_) (fun c_7 => ?_)
  · skip
    refine z_iload_n X 0 dJx4a65c_grow_92f84_20 rfl rfl ?_
    refine z_iload_n X 2 dJx4a65c_grow_92f84_21 rfl rfl ?_
    refine z_iload_n X 0 dJx4a65c_grow_92f84_22 rfl rfl ?_
    refine z_isub X dJx4a65c_grow_92f84_23 ?_
    refine z_iload_n X 0 dJx4a65c_grow_92f84_24 rfl rfl ?_
    refine z_iconst (v := 1) X dJx4a65c_grow_92f84_25 (by decide) ?_
    refine z_ishr X dJx4a65c_grow_92f84_26 ?_
    refine z_callSi (As := [.int 10, .int (11 - 10), .int ((10 : Int32) >>> ((1 : Int32) &&& 31))]) (rest := []) (n1 := 3) X dJx4a65c_grow_92f84_27 (c_J8_newLength_cabcc l _ 10 (11 - 10) ((10 : Int32) >>> ((1 : Int32) &&& 31)) 5 (by decide) (by decide) (by decide)) gJx4a65c_grow_92f84_J8_newLength_cabcc rfl rfl (by decide +kernel) ⟨by decide, by decide⟩ rfl (Nat.le_of_ble_eq_true rfl) ⟨by decide, by decide⟩ (fun _ h => h.elim) ?_
    rintro _ _ ⟨e8, e9⟩
    rw [e8, e9]
    clear e8 e9
    refine z_top (w := .int (nI 15)) (congrArg Value.int (by decide)) ?_
    refine z_istore_n (ls' := [(3, .int (nI 15)), (2, .int 10), (0, .ref o), (1, .int 11)]) X dJx4a65c_grow_92f84_30 rfl (by decide) rfl ?_
    refine z_aload_n X 2 dJx4a65c_grow_92f84_31 rfl rfl ?_
    refine z_aload_n X 2 dJx4a65c_grow_92f84_32 rfl rfl ?_
    refine z_getR (ci := 2) (j := 1) (o' := e) X dJx4a65c_grow_92f84_33 ho rfl (by decide) hlk_9 (Or.inl rfl) (fun _ => rfl) (hre) ?_
    refine z_iload_n X 0 dJx4a65c_grow_92f84_36 rfl rfl ?_
    refine z_callSr (As := [.ref e, .int (nI 15)]) (rest := [.ref o]) (n1 := 2) X dJx4a65c_grow_92f84_37 (c_J7_copyOf_1904c l _ e b 10 15 ci Nc C Tc hMi hs hn (by decide) (by decide) hb0 hb1 hb2 hq hC hel) gJx4a65c_grow_92f84_J7_copyOf_1904c rfl rfl (by decide +kernel) ⟨by decide, by decide⟩ rfl (Nat.le_of_ble_eq_true rfl) ⟨by decide, by decide⟩ (fun _ h => h.elim) ?_
    rintro _ _ ⟨e8, e9⟩
    rw [e8, e9]
    clear e8 e9
    refine z_dup_x1 X dJx4a65c_grow_92f84_40 rfl rfl ?_
    have hob : o ≠ b := fun e9 => by rw [e9] at ho; rw [ho] at hb0; cases hb0
    have ho9 : zc (zcpy (znew M b 25 15) e b 10) o = 3 := (if_neg hob).trans ho
    refine z_putR (ci := 2) (j := 1) X dJx4a65c_grow_92f84_41 ho9 rfl (by decide) hlk_9 (Or.inl rfl) (Or.inl rfl) (fun _ => rfl) (fun _ => rfl) (fun _ => rfl) ?_
    refine z_aret X rfl (Or.inr ⟨_, rfl⟩) (Or.inr ⟨_, rfl⟩) (by decide) (by decide) dJx4a65c_grow_92f84_44 ?_
    exact ⟨_, rfl, rfl, rfl⟩
  · exact absurd c_7 (by decide)

set_option maxRecDepth 100000 in
set_option maxHeartbeats 4000000 in
theorem c_grow15 (l : Launch) (M : zMem) (o e b ci Nc : Nat) (C : String) (Tc : u_T) (hMi : zc M zMi = 19) (ho : zc M o = 3) (hre : zr M o 1 = some e) (hs : zc M e = 25) (hn : zn M e = 15) (hb0 : zc M b = 0) (hb1 : b ≠ zE0) (hb2 : b ≠ zMi) (hq : vwCl[ci]? = some (C, Tc, Nc)) (hC : C ∈ [RX1, RX3, RX4, RX5]) (hel : ∀ j v, j < 15 → zr M e j = some v → zc M v = ci + 1) : zS l yJx4a65c_grow_92f84 wsJx4a65c_grow_92f84 8 135 1 40 [.ref o, .int 16] M (zpr (fun r M1 => r = b ∧ M1 = zwr (zcpy (znew M b 25 22) e b 15) o 1 (some b))) zno := by
  refine z_intro (cc := cJx4a65c_grow_92f84) (maxL := 4) (ret := (some (.array (.object "java/lang/Object")))) (by decide +kernel) rfl (Nat.le_of_ble_eq_true rfl) ?_
  have hlk_9 : Cond.fieldLink RJx4a65c 9 "java/util/ArrayList" "elementData" "[Ljava/lang/Object;" ∈ wsJx4a65c_grow_92f84 := by decide +kernel
  intro g X
  show zE g 4 0 [(0, .ref o), (1, .int 16)] [] M 0 0
  refine z_aload_n X 0 dJx4a65c_grow_92f84_0 rfl rfl ?_
  refine z_getR (ci := 2) (j := 1) (o' := e) X dJx4a65c_grow_92f84_1 ho rfl (by decide) hlk_9 (Or.inl rfl) (fun _ => rfl) (hre) ?_
  refine z_alen (t := 5) (v := 15) X dJx4a65c_grow_92f84_4 hs (by decide) (by rw [hn]; rfl) ?_
  refine z_istore_n (ls' := [(2, .int 15), (0, .ref o), (1, .int 16)]) X dJx4a65c_grow_92f84_5 rfl (by decide) rfl ?_
  refine z_iload_n X 0 dJx4a65c_grow_92f84_6 rfl rfl ?_
  refine z_if_gt X 20 dJx4a65c_grow_92f84_7 (by decide) (fun c_7 => ?_) (fun c_7 => ?_)
  · skip
    refine z_iload_n X 0 dJx4a65c_grow_92f84_20 rfl rfl ?_
    refine z_iload_n X 2 dJx4a65c_grow_92f84_21 rfl rfl ?_
    refine z_iload_n X 0 dJx4a65c_grow_92f84_22 rfl rfl ?_
    refine z_isub X dJx4a65c_grow_92f84_23 ?_
    refine z_iload_n X 0 dJx4a65c_grow_92f84_24 rfl rfl ?_
    refine z_iconst (v := 1) X dJx4a65c_grow_92f84_25 (by decide) ?_
    refine z_ishr X dJx4a65c_grow_92f84_26 ?_
    refine z_callSi (As := [.int 15, .int (16 - 15), .int ((15 : Int32) >>> ((1 : Int32) &&& 31))]) (rest := []) (n1 := 3) X dJx4a65c_grow_92f84_27 (c_J8_newLength_cabcc l _ 15 (16 - 15) ((15 : Int32) >>> ((1 : Int32) &&& 31)) 7 (by decide) (by decide) (by decide)) gJx4a65c_grow_92f84_J8_newLength_cabcc rfl rfl (by decide +kernel) ⟨by decide, by decide⟩ rfl (Nat.le_of_ble_eq_true rfl) ⟨by decide, by decide⟩ (fun _ h => h.elim) ?_
    rintro _ _ ⟨e8, e9⟩
    rw [e8, e9]
    clear e8 e9
    refine z_top (w := .int (nI 22)) (congrArg Value.int (by decide)) ?_
    refine z_istore_n (ls' := [(3, .int (nI 22)), (2, .int 15), (0, .ref o), (1, .int 16)]) X dJx4a65c_grow_92f84_30 rfl (by decide) rfl ?_
    refine z_aload_n X 2 dJx4a65c_grow_92f84_31 rfl rfl ?_
    refine z_aload_n X 2 dJx4a65c_grow_92f84_32 rfl rfl ?_
    refine z_getR (ci := 2) (j := 1) (o' := e) X dJx4a65c_grow_92f84_33 ho rfl (by decide) hlk_9 (Or.inl rfl) (fun _ => rfl) (hre) ?_
    refine z_iload_n X 0 dJx4a65c_grow_92f84_36 rfl rfl ?_
    refine z_callSr (As := [.ref e, .int (nI 22)]) (rest := [.ref o]) (n1 := 2) X dJx4a65c_grow_92f84_37 (c_J7_copyOf_1904c l _ e b 15 22 ci Nc C Tc hMi hs hn (by decide) (by decide) hb0 hb1 hb2 hq hC hel) gJx4a65c_grow_92f84_J7_copyOf_1904c rfl rfl (by decide +kernel) ⟨by decide, by decide⟩ rfl (Nat.le_of_ble_eq_true rfl) ⟨by decide, by decide⟩ (fun _ h => h.elim) ?_
    rintro _ _ ⟨e8, e9⟩
    rw [e8, e9]
    clear e8 e9
    refine z_dup_x1 X dJx4a65c_grow_92f84_40 rfl rfl ?_
    have hob : o ≠ b := fun e9 => by rw [e9] at ho; rw [ho] at hb0; cases hb0
    have ho9 : zc (zcpy (znew M b 25 22) e b 15) o = 3 := (if_neg hob).trans ho
    refine z_putR (ci := 2) (j := 1) X dJx4a65c_grow_92f84_41 ho9 rfl (by decide) hlk_9 (Or.inl rfl) (Or.inl rfl) (fun _ => rfl) (fun _ => rfl) (fun _ => rfl) ?_
    refine z_aret X rfl (Or.inr ⟨_, rfl⟩) (Or.inr ⟨_, rfl⟩) (by decide) (by decide) dJx4a65c_grow_92f84_44 ?_
    exact ⟨_, rfl, rfl, rfl⟩
  · exact absurd c_7 (by decide)

set_option maxRecDepth 100000 in
set_option maxHeartbeats 4000000 in
theorem c_grow22 (l : Launch) (M : zMem) (o e b ci Nc : Nat) (C : String) (Tc : u_T) (hMi : zc M zMi = 19) (ho : zc M o = 3) (hre : zr M o 1 = some e) (hs : zc M e = 25) (hn : zn M e = 22) (hb0 : zc M b = 0) (hb1 : b ≠ zE0) (hb2 : b ≠ zMi) (hq : vwCl[ci]? = some (C, Tc, Nc)) (hC : C ∈ [RX1, RX3, RX4, RX5]) (hel : ∀ j v, j < 22 → zr M e j = some v → zc M v = ci + 1) : zS l yJx4a65c_grow_92f84 wsJx4a65c_grow_92f84 8 135 1 40 [.ref o, .int 23] M (zpr (fun r M1 => r = b ∧ M1 = zwr (zcpy (znew M b 25 33) e b 22) o 1 (some b))) zno := by
  refine z_intro (cc := cJx4a65c_grow_92f84) (maxL := 4) (ret := (some (.array (.object "java/lang/Object")))) (by decide +kernel) rfl (Nat.le_of_ble_eq_true rfl) ?_
  have hlk_9 : Cond.fieldLink RJx4a65c 9 "java/util/ArrayList" "elementData" "[Ljava/lang/Object;" ∈ wsJx4a65c_grow_92f84 := by decide +kernel
  intro g X
  show zE g 4 0 [(0, .ref o), (1, .int 23)] [] M 0 0
  refine z_aload_n X 0 dJx4a65c_grow_92f84_0 rfl rfl ?_
  refine z_getR (ci := 2) (j := 1) (o' := e) X dJx4a65c_grow_92f84_1 ho rfl (by decide) hlk_9 (Or.inl rfl) (fun _ => rfl) (hre) ?_
  refine z_alen (t := 5) (v := 22) X dJx4a65c_grow_92f84_4 hs (by decide) (by rw [hn]; rfl) ?_
  refine z_istore_n (ls' := [(2, .int 22), (0, .ref o), (1, .int 23)]) X dJx4a65c_grow_92f84_5 rfl (by decide) rfl ?_
  refine z_iload_n X 0 dJx4a65c_grow_92f84_6 rfl rfl ?_
  refine z_if_gt X 20 dJx4a65c_grow_92f84_7 (by decide) (fun c_7 => ?_) (fun c_7 => ?_)
  · skip
    refine z_iload_n X 0 dJx4a65c_grow_92f84_20 rfl rfl ?_
    refine z_iload_n X 2 dJx4a65c_grow_92f84_21 rfl rfl ?_
    refine z_iload_n X 0 dJx4a65c_grow_92f84_22 rfl rfl ?_
    refine z_isub X dJx4a65c_grow_92f84_23 ?_
    refine z_iload_n X 0 dJx4a65c_grow_92f84_24 rfl rfl ?_
    refine z_iconst (v := 1) X dJx4a65c_grow_92f84_25 (by decide) ?_
    refine z_ishr X dJx4a65c_grow_92f84_26 ?_
    refine z_callSi (As := [.int 22, .int (23 - 22), .int ((22 : Int32) >>> ((1 : Int32) &&& 31))]) (rest := []) (n1 := 3) X dJx4a65c_grow_92f84_27 (c_J8_newLength_cabcc l _ 22 (23 - 22) ((22 : Int32) >>> ((1 : Int32) &&& 31)) 11 (by decide) (by decide) (by decide)) gJx4a65c_grow_92f84_J8_newLength_cabcc rfl rfl (by decide +kernel) ⟨by decide, by decide⟩ rfl (Nat.le_of_ble_eq_true rfl) ⟨by decide, by decide⟩ (fun _ h => h.elim) ?_
    rintro _ _ ⟨e8, e9⟩
    rw [e8, e9]
    clear e8 e9
    refine z_top (w := .int (nI 33)) (congrArg Value.int (by decide)) ?_
    refine z_istore_n (ls' := [(3, .int (nI 33)), (2, .int 22), (0, .ref o), (1, .int 23)]) X dJx4a65c_grow_92f84_30 rfl (by decide) rfl ?_
    refine z_aload_n X 2 dJx4a65c_grow_92f84_31 rfl rfl ?_
    refine z_aload_n X 2 dJx4a65c_grow_92f84_32 rfl rfl ?_
    refine z_getR (ci := 2) (j := 1) (o' := e) X dJx4a65c_grow_92f84_33 ho rfl (by decide) hlk_9 (Or.inl rfl) (fun _ => rfl) (hre) ?_
    refine z_iload_n X 0 dJx4a65c_grow_92f84_36 rfl rfl ?_
    refine z_callSr (As := [.ref e, .int (nI 33)]) (rest := [.ref o]) (n1 := 2) X dJx4a65c_grow_92f84_37 (c_J7_copyOf_1904c l _ e b 22 33 ci Nc C Tc hMi hs hn (by decide) (by decide) hb0 hb1 hb2 hq hC hel) gJx4a65c_grow_92f84_J7_copyOf_1904c rfl rfl (by decide +kernel) ⟨by decide, by decide⟩ rfl (Nat.le_of_ble_eq_true rfl) ⟨by decide, by decide⟩ (fun _ h => h.elim) ?_
    rintro _ _ ⟨e8, e9⟩
    rw [e8, e9]
    clear e8 e9
    refine z_dup_x1 X dJx4a65c_grow_92f84_40 rfl rfl ?_
    have hob : o ≠ b := fun e9 => by rw [e9] at ho; rw [ho] at hb0; cases hb0
    have ho9 : zc (zcpy (znew M b 25 33) e b 22) o = 3 := (if_neg hob).trans ho
    refine z_putR (ci := 2) (j := 1) X dJx4a65c_grow_92f84_41 ho9 rfl (by decide) hlk_9 (Or.inl rfl) (Or.inl rfl) (fun _ => rfl) (fun _ => rfl) (fun _ => rfl) ?_
    refine z_aret X rfl (Or.inr ⟨_, rfl⟩) (Or.inr ⟨_, rfl⟩) (by decide) (by decide) dJx4a65c_grow_92f84_44 ?_
    exact ⟨_, rfl, rfl, rfl⟩
  · exact absurd c_7 (by decide)
