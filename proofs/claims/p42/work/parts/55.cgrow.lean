/-! PART 55: a new object in the class's memory -/
section GROW
variable {n : Nat → Nat} {i x : Nat → Nat → Int32} {lm : Nat → Nat → Int64} {y : Nat → Nat → Nat} {ol : Int64} {od : UInt64}
theorem cI_n {a v t j q : Nat} (h : a < 5) : cI (nup n a v) i x t j q = cI n i x t j q := by
  unfold cI cI0
  rw [nup_n (by omega)]
theorem cR_n {a v t j q : Nat} (h : a < 5) : cR (nup n a v) i y t j q = cR n i y t j q := by
  have e : ∀ b, nup n a v (5 + b) = n (5 + b) := fun b => nup_n (by omega)
  unfold cR cRow
  rw [e, e]
theorem cmm_n {a v : Nat} (h : a < 5) : (cmm (nup n a v) i x lm y ol od).2 = (cmm n i x lm y ol od).2 := by
  unfold cmm
  refine Prod.ext rfl (Prod.ext (funext fun p => funext fun q => cR_n h) (Prod.ext (funext fun p => funext fun q => cI_n h) rfl))
theorem zq_grow {M' W : zMem} {n' : Nat → Nat} {i' x' : Nat → Nat → Int32} {y' : Nat → Nat → Nat} {o kind : Nat} (hW : W = cmm n i' x' lm y' ol od) (hn : (cmm n' i' x' lm y' ol od).2 = (cmm n i' x' lm y' ol od).2)
    (hc1 : ∀ p, zc M' p = if p = o then kind else zc (cmm n i x lm y ol od) p) (hc2 : ∀ p, zc (cmm n' i' x' lm y' ol od) p = if p = o then kind else zc (cmm n i x lm y ol od) p)
    (hp : ∀ p, p ≠ o → zn M' p = zn W p ∧ ∀ q, zr M' p q = zr W p q ∧ zi M' p q = zi W p q ∧ zl M' p q = zl W p q ∧ zd M' p q = zd W p q)
    (ho : zn M' o = zn W o ∧ ∀ q, zr M' o q = zr W o q ∧ zi M' o q = zi W o q ∧ zl M' o q = zl W o q ∧ zd M' o q = zd W o q) : zq M' (cmm n' i' x' lm y' ol od) := by
  subst hW
  have e1 : zn (cmm n' i' x' lm y' ol od) = zn (cmm n i' x' lm y' ol od) := congrArg Prod.fst hn
  have e2 : zr (cmm n' i' x' lm y' ol od) = zr (cmm n i' x' lm y' ol od) := congrArg (fun w => w.2.1) hn
  have e3 : zi (cmm n' i' x' lm y' ol od) = zi (cmm n i' x' lm y' ol od) := congrArg (fun w => w.2.2.1) hn
  have e4 : zl (cmm n' i' x' lm y' ol od) = zl (cmm n i' x' lm y' ol od) := congrArg (fun w => w.2.2.2.1) hn
  have e5 : zd (cmm n' i' x' lm y' ol od) = zd (cmm n i' x' lm y' ol od) := congrArg (fun w => w.2.2.2.2) hn
  refine ⟨funext fun p => (hc1 p).trans (hc2 p).symm, fun p _ => ?_⟩
  rw [e1, e2, e3, e4, e5]
  by_cases h : p = o
  · rw [h]; exact ho
  · exact hp p h
theorem cTc_no {t q : Nat} (L : List Nat) (hq : q ∉ L) (hL : ∀ w ∈ cTl, w.1 = t → w.2.1 ∈ L) : cTc t q = 0 := by
  rcases Nat.eq_zero_or_pos (cTc t q) with a | a
  · exact a
  · exact absurd (hL _ (cTc_mem (t := t) (k := q) rfl (by omega)) rfl) hq
theorem cI_no {t j q : Nat} (ht : t ≠ 6 ∧ t ≠ 7 ∧ t ≠ 9) (h : cTc t q = 0) : cI n i x t j q = 0 := by
  unfold cI
  rw [if_neg ht.1, if_neg ht.2.1, if_neg ht.2.2, h]
  rfl
theorem cC_new10 {t j : Nat} : cC (nup n 1 (n 1 + 1)) t j = if t = 10 ∧ j = n 1 then 5 else cC n t j := by
  by_cases ht : t = 10
  · subst ht
    show (if j < nup n 1 (n 1 + 1) 1 then 5 else 0) = if 10 = 10 ∧ j = n 1 then 5 else (if j < n 1 then 5 else 0)
    rw [nup_s]
    by_cases h : j = n 1
    · rw [if_pos (by omega), if_pos ⟨rfl, h⟩]
    · rw [if_neg (c := 10 = 10 ∧ j = n 1) (fun e => h e.2)]
      by_cases h2 : j < n 1
      · rw [if_pos h2, if_pos (by omega)]
      · rw [if_neg h2, if_neg (by omega)]
  · rw [if_neg (fun e => ht e.1)]
    have e : ∀ b, b ≠ 1 → nup n 1 (n 1 + 1) b = n b := fun b hb => nup_n hb
    unfold cC
    split <;> first | rfl | exact absurd rfl ht | (rw [e _ (by decide)]) | (unfold cLive; rw [e _ (by omega)])
theorem cC_new11 {t j : Nat} : cC (nup n 2 (n 2 + 1)) t j = if t = 11 ∧ j = n 2 then 8 else cC n t j := by
  by_cases ht : t = 11
  · subst ht
    show (if j < nup n 2 (n 2 + 1) 2 then 8 else 0) = if 11 = 11 ∧ j = n 2 then 8 else (if j < n 2 then 8 else 0)
    rw [nup_s]
    by_cases h : j = n 2
    · rw [if_pos (by omega), if_pos ⟨rfl, h⟩]
    · rw [if_neg (c := 11 = 11 ∧ j = n 2) (fun e => h e.2)]
      by_cases h2 : j < n 2
      · rw [if_pos h2, if_pos (by omega)]
      · rw [if_neg h2, if_neg (by omega)]
  · rw [if_neg (fun e => ht e.1)]
    have e : ∀ b, b ≠ 2 → nup n 2 (n 2 + 1) b = n b := fun b hb => nup_n hb
    unfold cC
    split <;> first | rfl | exact absurd rfl ht | (rw [e _ (by decide)]) | (unfold cLive; rw [e _ (by omega)])
theorem cC_new13 {t j : Nat} : cC (nup n 3 (n 3 + 1)) t j = if t = 13 ∧ j = n 3 then 7 else cC n t j := by
  by_cases ht : t = 13
  · subst ht
    show (if j < nup n 3 (n 3 + 1) 3 then 7 else 0) = if 13 = 13 ∧ j = n 3 then 7 else (if j < n 3 then 7 else 0)
    rw [nup_s]
    by_cases h : j = n 3
    · rw [if_pos (by omega), if_pos ⟨rfl, h⟩]
    · rw [if_neg (c := 13 = 13 ∧ j = n 3) (fun e => h e.2)]
      by_cases h2 : j < n 3
      · rw [if_pos h2, if_pos (by omega)]
      · rw [if_neg h2, if_neg (by omega)]
  · rw [if_neg (fun e => ht e.1)]
    have e : ∀ b, b ≠ 3 → nup n 3 (n 3 + 1) b = n b := fun b hb => nup_n hb
    unfold cC
    split <;> first | rfl | exact absurd rfl ht | (rw [e _ (by decide)]) | (unfold cLive; rw [e _ (by omega)])
theorem cC_new12 {t j : Nat} : cC (nup n 4 (n 4 + 1)) t j = if t = 12 ∧ j = n 4 then 10 else cC n t j := by
  by_cases ht : t = 12
  · subst ht
    show (if j < nup n 4 (n 4 + 1) 4 then 10 else 0) = if 12 = 12 ∧ j = n 4 then 10 else (if j < n 4 then 10 else 0)
    rw [nup_s]
    by_cases h : j = n 4
    · rw [if_pos (by omega), if_pos ⟨rfl, h⟩]
    · rw [if_neg (c := 12 = 12 ∧ j = n 4) (fun e => h e.2)]
      by_cases h2 : j < n 4
      · rw [if_pos h2, if_pos (by omega)]
      · rw [if_neg h2, if_neg (by omega)]
  · rw [if_neg (fun e => ht e.1)]
    have e : ∀ b, b ≠ 4 → nup n 4 (n 4 + 1) b = n b := fun b hb => nup_n hb
    unfold cC
    split <;> first | rfl | exact absurd rfl ht | (rw [e _ (by decide)]) | (unfold cLive; rw [e _ (by omega)])
theorem zq_kind {a b c : Int32} : zq (zwi (zwi (zwi (znew (cmm n i x lm y ol od) (32 * n 1 + 10) 5 0) (32 * n 1 + 10) 0 a) (32 * n 1 + 10) 1 b) (32 * n 1 + 10) 2 c) (cmm (nup n 1 (n 1 + 1)) (zup (zup (zup i 127 (n 1) a) 128 (n 1) b) 129 (n 1) c) x lm y ol od) := by
  refine zq_grow (n := n) (i := i) (x := x) (y := y) (o := 32 * n 1 + 10) (kind := 5) (W := zwi (zwi (zwi (cmm n i x lm y ol od) (32 * n 1 + 10) 0 a) (32 * n 1 + 10) 1 b) (32 * n 1 + 10) 2 c) (by rw [cw_i 10 0 127, cw_i 10 1 128, cw_i 10 2 129]) (cmm_n (by decide)) (fun p => rfl) (fun p => ?_) (fun p hp => ⟨if_neg hp, fun q => ⟨if_neg hp, ?_, if_neg hp, if_neg hp⟩⟩) ⟨?_, fun q => ⟨?_, ?_, ?_, ?_⟩⟩
  · show cC _ (p % 32) (p / 32) = if p = _ then 5 else cC n (p % 32) (p / 32)
    rw [cC_new10]
    by_cases h : p = 32 * n 1 + 10
    · rw [if_pos h, if_pos (by omega)]
    · rw [if_neg h, if_neg (by omega)]
  · show (if p = _ ∧ q = 2 then c else if p = _ ∧ q = 1 then b else if p = _ ∧ q = 0 then a else if p = _ then 0 else _) = (if p = _ ∧ q = 2 then c else if p = _ ∧ q = 1 then b else if p = _ ∧ q = 0 then a else _)
    simp only [hp, false_and, if_false]
  · show (if _ = _ then 0 else _) = cN ((32 * n 1 + 10) % 32) _
    rw [if_pos rfl, (cdm _ (by decide)).1]; rfl
  · show (if _ = _ then none else _) = cR n i y ((32 * n 1 + 10) % 32) _ q
    rw [if_pos rfl, (cdm _ (by decide)).1]; rfl
  · show (if _ = _ ∧ q = 2 then c else if _ = _ ∧ q = 1 then b else if _ = _ ∧ q = 0 then a else if _ = _ then 0 else _) = (if _ = _ ∧ q = 2 then c else if _ = _ ∧ q = 1 then b else if _ = _ ∧ q = 0 then a else cI n i x ((32 * n 1 + 10) % 32) ((32 * n 1 + 10) / 32) q)
    rw [(cdm _ (by decide)).1]
    by_cases h : q ∈ [0, 1, 2]
    · have h' : q = 0 ∨ q = 1 ∨ q = 2 := by simpa using h
      rcases h' with h | h | h <;> subst h <;> simp
    · rw [cI_no (by decide) (cTc_no [0, 1, 2] h (by decide +kernel))]
      simp
  · show (if _ = _ then 0 else _) = if 32 * n 1 + 10 = 14 ∧ q = 0 then ol else if 32 * n 1 + 10 = 5 ∧ q = 4 then lm 1 26 else 0
    rw [if_pos rfl, if_neg (by omega), if_neg (by omega)]
  · show (if _ = _ then 0 else _) = if 32 * n 1 + 10 = 15 ∧ q = 0 then od else 0
    rw [if_pos rfl, if_neg (by omega)]
end GROW
