/-! PART 64: a new pallet, a new room -/
section GROW2
variable {n : Nat → Nat} {i x : Nat → Nat → Int32} {lm : Nat → Nat → Int64} {y : Nat → Nat → Nat} {ol : Int64} {od : UInt64}
theorem ci0_8 {x : Nat → Nat → Int32} {j : Nat} : cI n i x 8 j 0 = nI j := rfl
theorem ci0_11 {j : Nat} : cI n i x 11 j 0 = nI j := rfl
theorem zq_pallet {v lf tm : Int32} {r : Nat} : zq (zwi (zwr (zwr (zwi (zwr (znew (zwr (zwi (zwi (zwi (znew (cmm n i x lm y ol od) (32 * n 2 + 11) 8 0) (32 * n 2 + 11) 3 114) (32 * n 2 + 11) 4 960) (32 * n 2 + 11) 0 (nI (n 2))) (32 * n 2 + 11) 1 (some (32 * cl v + 10))) (32 * n 4 + 12) 10 0) (32 * n 4 + 12) 0 (some (32 * r + 8))) (32 * n 4 + 12) 1 tm) (32 * n 4 + 12) 2 none) (32 * n 2 + 11) 2 (some (32 * n 4 + 12))) (32 * n 2 + 11) 5 lf) (cmm (nup (nup n 2 (n 2 + 1)) 4 (n 4 + 1)) (zup (zup (zup i 134 (n 2) 114) 131 (n 2) v) 133 (n 2) lf) (zup (zup x 3 (n 2) 960) 4 (n 4) tm) lm (zup (zup (zup y 1 (n 4) r) 2 (n 4) 0) 0 (n 2) (n 4)) ol od) := by
  have hos : ¬ ((32 * n 2 + 11) = (32 * n 4 + 12)) := by omega
  have hso : ¬ ((32 * n 4 + 12) = (32 * n 2 + 11)) := by omega
  refine zq_grow2 (n := n) (i := i) (x := x) (y := y) (o1 := (32 * n 2 + 11)) (k1 := 8) (o2 := (32 * n 4 + 12)) (k2 := 10) (W := zwi (zwr (zwr (zwi (zwr (zwr (zwi (zwi (cmm n i x lm y ol od) (32 * n 2 + 11) 3 114) (32 * n 2 + 11) 4 960) (32 * n 2 + 11) 1 (some (32 * cl v + 10))) (32 * n 4 + 12) 0 (some (32 * r + 8))) (32 * n 4 + 12) 1 tm) (32 * n 4 + 12) 2 none) (32 * n 2 + 11) 2 (some (32 * n 4 + 12))) (32 * n 2 + 11) 5 lf) (by rw [cw_i 11 3 134, cw_x 11 4 3, cw_k11, cw_y1, cw_x 12 1 4, cw_y2n, cw_y, cw_i 11 5 133]) ((cmm_n (by decide)).trans (cmm_n (by decide))) (fun p => rfl) (fun p => ?_) (fun p hp hp2 => ⟨?_, fun q => ⟨?_, ?_, ?_, ?_⟩⟩) ⟨?_, fun q => ⟨?_, ?_, ?_, ?_⟩⟩ ⟨?_, fun q => ⟨?_, ?_, ?_, ?_⟩⟩
  · show cC _ (p % 32) (p / 32) = if p = _ then 10 else if p = _ then 8 else cC n (p % 32) (p / 32)
    have e4 : nup n 2 (n 2 + 1) 4 = n 4 := nup_n (by decide)
    rw [← e4, cC_new12, cC_new11, e4]
    by_cases h : p = 32 * n 4 + 12
    · rw [if_pos h, if_pos (by omega)]
    · rw [if_neg h, if_neg (show ¬ (p % 32 = 12 ∧ p / 32 = n 4) by omega)]
      by_cases h2 : p = 32 * n 2 + 11
      · rw [if_pos h2, if_pos (by omega)]
      · rw [if_neg h2, if_neg (by omega)]
  · show (if p = (32 * n 4 + 12) then 0 else (if p = (32 * n 2 + 11) then 0 else cN (p % 32) (p / 32))) = cN (p % 32) (p / 32)
    simp only [hp, hp2, false_and, if_false]
  · show (if p = (32 * n 2 + 11) ∧ q = 2 then some (32 * n 4 + 12) else (if p = (32 * n 4 + 12) ∧ q = 2 then none else (if p = (32 * n 4 + 12) ∧ q = 0 then some (32 * r + 8) else (if p = (32 * n 4 + 12) then none else (if p = (32 * n 2 + 11) ∧ q = 1 then some (32 * cl v + 10) else (if p = (32 * n 2 + 11) then none else cR n i y (p % 32) (p / 32) q)))))) = (if p = (32 * n 2 + 11) ∧ q = 2 then some (32 * n 4 + 12) else (if p = (32 * n 4 + 12) ∧ q = 2 then none else (if p = (32 * n 4 + 12) ∧ q = 0 then some (32 * r + 8) else (if p = (32 * n 2 + 11) ∧ q = 1 then some (32 * cl v + 10) else cR n i y (p % 32) (p / 32) q))))
    simp only [hp, hp2, false_and, if_false]
  · show (if p = (32 * n 2 + 11) ∧ q = 5 then lf else (if p = (32 * n 4 + 12) ∧ q = 1 then tm else (if p = (32 * n 4 + 12) then 0 else (if p = (32 * n 2 + 11) ∧ q = 0 then nI (n 2) else (if p = (32 * n 2 + 11) ∧ q = 4 then 960 else (if p = (32 * n 2 + 11) ∧ q = 3 then 114 else (if p = (32 * n 2 + 11) then 0 else cI n i x (p % 32) (p / 32) q))))))) = (if p = (32 * n 2 + 11) ∧ q = 5 then lf else (if p = (32 * n 4 + 12) ∧ q = 1 then tm else (if p = (32 * n 2 + 11) ∧ q = 4 then 960 else (if p = (32 * n 2 + 11) ∧ q = 3 then 114 else cI n i x (p % 32) (p / 32) q))))
    simp only [hp, hp2, false_and, if_false]
  · show (if p = (32 * n 4 + 12) then 0 else (if p = (32 * n 2 + 11) then 0 else (if p = 14 ∧ q = 0 then ol else if p = 5 ∧ q = 4 then lm 1 26 else 0))) = (if p = 14 ∧ q = 0 then ol else if p = 5 ∧ q = 4 then lm 1 26 else 0)
    simp only [hp, hp2, false_and, if_false]
  · show (if p = (32 * n 4 + 12) then 0 else (if p = (32 * n 2 + 11) then 0 else (if p = 15 ∧ q = 0 then od else 0))) = (if p = 15 ∧ q = 0 then od else 0)
    simp only [hp, hp2, false_and, if_false]
  · show (if (32 * n 2 + 11) = (32 * n 4 + 12) then 0 else (if (32 * n 2 + 11) = (32 * n 2 + 11) then 0 else cN ((32 * n 2 + 11) % 32) ((32 * n 2 + 11) / 32))) = cN ((32 * n 2 + 11) % 32) ((32 * n 2 + 11) / 32)
    rw [(cdm _ (by decide)).1, (cdm _ (by decide)).2]
    simp [hos, hso, cN]
  · show (if (32 * n 2 + 11) = (32 * n 2 + 11) ∧ q = 2 then some (32 * n 4 + 12) else (if (32 * n 2 + 11) = (32 * n 4 + 12) ∧ q = 2 then none else (if (32 * n 2 + 11) = (32 * n 4 + 12) ∧ q = 0 then some (32 * r + 8) else (if (32 * n 2 + 11) = (32 * n 4 + 12) then none else (if (32 * n 2 + 11) = (32 * n 2 + 11) ∧ q = 1 then some (32 * cl v + 10) else (if (32 * n 2 + 11) = (32 * n 2 + 11) then none else cR n i y ((32 * n 2 + 11) % 32) ((32 * n 2 + 11) / 32) q)))))) = (if (32 * n 2 + 11) = (32 * n 2 + 11) ∧ q = 2 then some (32 * n 4 + 12) else (if (32 * n 2 + 11) = (32 * n 4 + 12) ∧ q = 2 then none else (if (32 * n 2 + 11) = (32 * n 4 + 12) ∧ q = 0 then some (32 * r + 8) else (if (32 * n 2 + 11) = (32 * n 2 + 11) ∧ q = 1 then some (32 * cl v + 10) else cR n i y ((32 * n 2 + 11) % 32) ((32 * n 2 + 11) / 32) q))))
    rw [(cdm _ (by decide)).1, (cdm _ (by decide)).2]
    by_cases hr1 : q = 1
    · subst hr1; simp [hos, hso, cR] <;> first | omega | (intro e; omega)
    by_cases hr2 : q = 2
    · subst hr2; simp [hos, hso, cR] <;> first | omega | (intro e; omega)
    simp [hos, hso, cR, hr1, hr2] <;> first | omega | (intro e; omega)
  · show (if (32 * n 2 + 11) = (32 * n 2 + 11) ∧ q = 5 then lf else (if (32 * n 2 + 11) = (32 * n 4 + 12) ∧ q = 1 then tm else (if (32 * n 2 + 11) = (32 * n 4 + 12) then 0 else (if (32 * n 2 + 11) = (32 * n 2 + 11) ∧ q = 0 then nI (n 2) else (if (32 * n 2 + 11) = (32 * n 2 + 11) ∧ q = 4 then 960 else (if (32 * n 2 + 11) = (32 * n 2 + 11) ∧ q = 3 then 114 else (if (32 * n 2 + 11) = (32 * n 2 + 11) then 0 else cI n i x ((32 * n 2 + 11) % 32) ((32 * n 2 + 11) / 32) q))))))) = (if (32 * n 2 + 11) = (32 * n 2 + 11) ∧ q = 5 then lf else (if (32 * n 2 + 11) = (32 * n 4 + 12) ∧ q = 1 then tm else (if (32 * n 2 + 11) = (32 * n 2 + 11) ∧ q = 4 then 960 else (if (32 * n 2 + 11) = (32 * n 2 + 11) ∧ q = 3 then 114 else cI n i x ((32 * n 2 + 11) % 32) ((32 * n 2 + 11) / 32) q))))
    rw [(cdm _ (by decide)).1, (cdm _ (by decide)).2]
    by_cases h : q ∈ [3, 4, 0, 5]
    · have h5 : q = 3 ∨ q = 4 ∨ q = 0 ∨ q = 5 := by simpa using h
      rcases h5 with e5 | e5 | e5 | e5 <;> subst e5 <;> simp [hos, hso, ci0_11] <;> first | omega | (intro e; omega)
    · have hz9 : cI n i x 11 (n 2) q = 0 := cI_no (by decide) (cTc_no [3, 4, 0, 5] h (by decide +kernel))
      have hm : ¬ q = 3 ∧ ¬ q = 4 ∧ ¬ q = 0 ∧ ¬ q = 5 := by simpa using h
      rw [hz9]
      simp [hos, hso, hm] <;> first | omega | (intro e; omega)
  · show (if (32 * n 2 + 11) = (32 * n 4 + 12) then 0 else (if (32 * n 2 + 11) = (32 * n 2 + 11) then 0 else (if (32 * n 2 + 11) = 14 ∧ q = 0 then ol else if (32 * n 2 + 11) = 5 ∧ q = 4 then lm 1 26 else 0))) = (if (32 * n 2 + 11) = 14 ∧ q = 0 then ol else if (32 * n 2 + 11) = 5 ∧ q = 4 then lm 1 26 else 0)
    simp [hos, hso]
    try omega
  · show (if (32 * n 2 + 11) = (32 * n 4 + 12) then 0 else (if (32 * n 2 + 11) = (32 * n 2 + 11) then 0 else (if (32 * n 2 + 11) = 15 ∧ q = 0 then od else 0))) = (if (32 * n 2 + 11) = 15 ∧ q = 0 then od else 0)
    simp [hos, hso]
    try omega
  · show (if (32 * n 4 + 12) = (32 * n 4 + 12) then 0 else (if (32 * n 4 + 12) = (32 * n 2 + 11) then 0 else cN ((32 * n 4 + 12) % 32) ((32 * n 4 + 12) / 32))) = cN ((32 * n 4 + 12) % 32) ((32 * n 4 + 12) / 32)
    rw [(cdm _ (by decide)).1, (cdm _ (by decide)).2]
    simp [hos, hso, cN]
  · show (if (32 * n 4 + 12) = (32 * n 2 + 11) ∧ q = 2 then some (32 * n 4 + 12) else (if (32 * n 4 + 12) = (32 * n 4 + 12) ∧ q = 2 then none else (if (32 * n 4 + 12) = (32 * n 4 + 12) ∧ q = 0 then some (32 * r + 8) else (if (32 * n 4 + 12) = (32 * n 4 + 12) then none else (if (32 * n 4 + 12) = (32 * n 2 + 11) ∧ q = 1 then some (32 * cl v + 10) else (if (32 * n 4 + 12) = (32 * n 2 + 11) then none else cR n i y ((32 * n 4 + 12) % 32) ((32 * n 4 + 12) / 32) q)))))) = (if (32 * n 4 + 12) = (32 * n 2 + 11) ∧ q = 2 then some (32 * n 4 + 12) else (if (32 * n 4 + 12) = (32 * n 4 + 12) ∧ q = 2 then none else (if (32 * n 4 + 12) = (32 * n 4 + 12) ∧ q = 0 then some (32 * r + 8) else (if (32 * n 4 + 12) = (32 * n 2 + 11) ∧ q = 1 then some (32 * cl v + 10) else cR n i y ((32 * n 4 + 12) % 32) ((32 * n 4 + 12) / 32) q))))
    rw [(cdm _ (by decide)).1, (cdm _ (by decide)).2]
    by_cases hr0 : q = 0
    · subst hr0; simp [hos, hso, cR] <;> first | omega | (intro e; omega)
    by_cases hr2 : q = 2
    · subst hr2; simp [hos, hso, cR] <;> first | omega | (intro e; omega)
    simp [hos, hso, cR, hr0, hr2] <;> first | omega | (intro e; omega)
  · show (if (32 * n 4 + 12) = (32 * n 2 + 11) ∧ q = 5 then lf else (if (32 * n 4 + 12) = (32 * n 4 + 12) ∧ q = 1 then tm else (if (32 * n 4 + 12) = (32 * n 4 + 12) then 0 else (if (32 * n 4 + 12) = (32 * n 2 + 11) ∧ q = 0 then nI (n 2) else (if (32 * n 4 + 12) = (32 * n 2 + 11) ∧ q = 4 then 960 else (if (32 * n 4 + 12) = (32 * n 2 + 11) ∧ q = 3 then 114 else (if (32 * n 4 + 12) = (32 * n 2 + 11) then 0 else cI n i x ((32 * n 4 + 12) % 32) ((32 * n 4 + 12) / 32) q))))))) = (if (32 * n 4 + 12) = (32 * n 2 + 11) ∧ q = 5 then lf else (if (32 * n 4 + 12) = (32 * n 4 + 12) ∧ q = 1 then tm else (if (32 * n 4 + 12) = (32 * n 2 + 11) ∧ q = 4 then 960 else (if (32 * n 4 + 12) = (32 * n 2 + 11) ∧ q = 3 then 114 else cI n i x ((32 * n 4 + 12) % 32) ((32 * n 4 + 12) / 32) q))))
    rw [(cdm _ (by decide)).1, (cdm _ (by decide)).2]
    by_cases h : q ∈ [1]
    · have e5 : q = 1 := by simpa using h
      subst e5; simp [hos, hso] <;> first | omega | (intro e; omega)
    · have hz9 : cI n i x 12 (n 4) q = 0 := cI_no (by decide) (cTc_no [1] h (by decide +kernel))
      have hm : ¬ q = 1 := by simpa using h
      rw [hz9]
      simp [hos, hso, hm] <;> first | omega | (intro e; omega)
  · show (if (32 * n 4 + 12) = (32 * n 4 + 12) then 0 else (if (32 * n 4 + 12) = (32 * n 2 + 11) then 0 else (if (32 * n 4 + 12) = 14 ∧ q = 0 then ol else if (32 * n 4 + 12) = 5 ∧ q = 4 then lm 1 26 else 0))) = (if (32 * n 4 + 12) = 14 ∧ q = 0 then ol else if (32 * n 4 + 12) = 5 ∧ q = 4 then lm 1 26 else 0)
    simp [hos, hso]
    try omega
  · show (if (32 * n 4 + 12) = (32 * n 4 + 12) then 0 else (if (32 * n 4 + 12) = (32 * n 2 + 11) then 0 else (if (32 * n 4 + 12) = 15 ∧ q = 0 then od else 0))) = (if (32 * n 4 + 12) = 15 ∧ q = 0 then od else 0)
    simp [hos, hso]
    try omega
end GROW2
