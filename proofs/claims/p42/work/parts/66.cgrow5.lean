/-! PART 66: a new room -/
section GROW2
variable {n : Nat → Nat} {i x : Nat → Nat → Int32} {lm : Nat → Nat → Int64} {y : Nat → Nat → Nat} {ol : Int64} {od : UInt64}
theorem cC_newR {t j : Nat} : cC (nup n 0 (n 0 + 1)) t j = if t = 8 ∧ j = n 0 then 9 else if t = 9 ∧ j = n 0 then 20 else cC n t j := by
  have e : ∀ b, b ≠ 0 → nup n 0 (n 0 + 1) b = n b := fun b hb => nup_n hb
  by_cases h8 : t = 8
  · subst h8
    show (if j < nup n 0 (n 0 + 1) 0 then 9 else 0) = if 8 = 8 ∧ j = n 0 then 9 else if 8 = 9 ∧ j = n 0 then 20 else (if j < n 0 then 9 else 0)
    rw [nup_s]
    by_cases h : j = n 0
    · rw [if_pos (by omega), if_pos ⟨rfl, h⟩]
    · rw [if_neg (c := 8 = 8 ∧ j = n 0) (fun e => h e.2), if_neg (c := 8 = 9 ∧ j = n 0) (by omega)]
      by_cases h2 : j < n 0
      · rw [if_pos h2, if_pos (by omega)]
      · rw [if_neg h2, if_neg (by omega)]
  · rw [if_neg (fun e => h8 e.1)]
    by_cases h9 : t = 9
    · subst h9
      show (if j < nup n 0 (n 0 + 1) 0 then 20 else 0) = if 9 = 9 ∧ j = n 0 then 20 else (if j < n 0 then 20 else 0)
      rw [nup_s]
      by_cases h : j = n 0
      · rw [if_pos (by omega), if_pos ⟨rfl, h⟩]
      · rw [if_neg (c := 9 = 9 ∧ j = n 0) (fun e => h e.2)]
        by_cases h2 : j < n 0
        · rw [if_pos h2, if_pos (by omega)]
        · rw [if_neg h2, if_neg (by omega)]
    · rw [if_neg (fun e => h9 e.1)]
      unfold cC
      split <;> first | rfl | exact absurd rfl h8 | exact absurd rfl h9 | (rw [e _ (by decide)]) | (unfold cLive; rw [e _ (by omega)])
/-- the rows x with that of the records of the room k empty -/
def zrow (x : Nat → Nat → Int32) (k : Nat) : Nat → Nat → Int32 := fun a b => if a = 10 + k then 0 else x a b
theorem cI_zrow {k t j q : Nat} (h : ¬ (t = 9 ∧ j = k)) : cI n i (zrow x k) t j q = cI n i x t j q := by
  have e : ∀ a b, a < 10 → zrow x k a b = x a b := fun a b ha => if_neg (by omega)
  unfold cI
  rw [e 1 q (by decide), e 2 q (by decide)]
  by_cases h9 : t = 9
  · rw [if_neg (by omega), if_neg (by omega), if_pos h9, if_neg (by omega), if_neg (by omega), if_pos h9]
    exact if_neg (by omega)
  · rw [if_neg h9, if_neg h9]
    split
    · rfl
    · split
      · rfl
      · have hc : ∀ w ∈ cTl, w.2.2 < 3010 := by decide +kernel
        unfold cI0
        split
        · rfl
        · split
          · rfl
          · split
            · have := hc _ (cTc_mem (t := t) (k := q) rfl (by omega))
              exact e _ _ (by simp only at this; omega)
            · rfl
theorem zq_room {a c d e : Int32} : zq (zwi (zwi (zwi (zwi (zwi (zwi (zwi (zwi (zwi (zwi (zwi (zwi (zwi (zwi (zwi (zwi (zwr (znew (znew (cmm n i x lm y ol od) (32 * n 0 + 8) 9 0) (32 * n 0 + 9) 20 960) (32 * n 0 + 8) 4 (some (32 * n 0 + 9))) (32 * n 0 + 8) 5 20) (32 * n 0 + 8) 6 50) (32 * n 0 + 8) 7 97) (32 * n 0 + 8) 8 0) (32 * n 0 + 8) 9 0) (32 * n 0 + 8) 11 0) (32 * n 0 + 8) 12 0) (32 * n 0 + 8) 13 0) (32 * n 0 + 8) 14 0) (32 * n 0 + 8) 15 0) (32 * n 0 + 8) 16 (-400)) (32 * n 0 + 8) 0 (nI (n 0))) (32 * n 0 + 8) 1 a) (32 * n 0 + 8) 2 c) (32 * n 0 + 8) 3 d) (32 * n 0 + 8) 10 e) (cmm (nup n 0 (n 0 + 1)) (zup (zup (zup (zup (zup (zup (zup (zup (zup (zup (zup (zup i 105 (n 0) 20) 106 (n 0) 50) 109 (n 0) 97) 107 (n 0) 0) 108 (n 0) 0) 111 (n 0) 0) 112 (n 0) 0) 116 (n 0) 0) 102 (n 0) a) 103 (n 0) c) 104 (n 0) d) 110 (n 0) e) (zup (zup (zup (zrow x (n 0)) 0 (n 0) 0) 6 (n 0) 0) 5 (n 0) (-400)) lm y ol od) := by
  have hos : ¬ ((32 * n 0 + 8) = (32 * n 0 + 9)) := by omega
  have hso : ¬ ((32 * n 0 + 9) = (32 * n 0 + 8)) := by omega
  refine zq_grow2 (n := n) (i := i) (x := x) (y := y) (o1 := (32 * n 0 + 8)) (k1 := 9) (o2 := (32 * n 0 + 9)) (k2 := 20) (W := zwi (zwi (zwi (zwi (zwi (zwi (zwi (zwi (zwi (zwi (zwi (zwi (zwi (zwi (zwi (cmm n i (zrow x (n 0)) lm y ol od) (32 * n 0 + 8) 5 20) (32 * n 0 + 8) 6 50) (32 * n 0 + 8) 7 97) (32 * n 0 + 8) 8 0) (32 * n 0 + 8) 9 0) (32 * n 0 + 8) 11 0) (32 * n 0 + 8) 12 0) (32 * n 0 + 8) 13 0) (32 * n 0 + 8) 14 0) (32 * n 0 + 8) 15 0) (32 * n 0 + 8) 16 (-400)) (32 * n 0 + 8) 1 a) (32 * n 0 + 8) 2 c) (32 * n 0 + 8) 3 d) (32 * n 0 + 8) 10 e) (by rw [cw_i 8 5 105, cw_i 8 6 106, cw_i 8 7 109, cw_i 8 8 107, cw_i 8 9 108, cw_i 8 11 111, cw_x 8 12 0, cw_i 8 13 112, cw_i 8 14 116, cw_x 8 15 6, cw_x 8 16 5, cw_i 8 1 102, cw_i 8 2 103, cw_i 8 3 104, cw_i 8 10 110]) (cmm_n (by decide)) (fun p => rfl) (fun p => ?_) (fun p hp hp2 => ⟨?_, fun q => ⟨?_, ?_, ?_, ?_⟩⟩) ⟨?_, fun q => ⟨?_, ?_, ?_, ?_⟩⟩ ⟨?_, fun q => ⟨?_, ?_, ?_, ?_⟩⟩
  · show cC _ (p % 32) (p / 32) = if p = _ then 20 else if p = _ then 9 else cC n (p % 32) (p / 32)
    rw [cC_newR]
    by_cases h : p = 32 * n 0 + 9
    · rw [if_pos h, if_neg (by omega), if_pos (by omega)]
    · rw [if_neg h]
      by_cases h2 : p = 32 * n 0 + 8
      · rw [if_pos h2, if_pos (by omega)]
      · rw [if_neg h2, if_neg (by omega), if_neg (by omega)]
  · show (if p = (32 * n 0 + 9) then 960 else (if p = (32 * n 0 + 8) then 0 else cN (p % 32) (p / 32))) = cN (p % 32) (p / 32)
    simp only [hp, hp2, false_and, if_false]
  · show (if p = (32 * n 0 + 8) ∧ q = 4 then some (32 * n 0 + 9) else (if p = (32 * n 0 + 9) then none else (if p = (32 * n 0 + 8) then none else cR n i y (p % 32) (p / 32) q))) = cR n i y (p % 32) (p / 32) q
    simp only [hp, hp2, false_and, if_false]
  · show (if p = (32 * n 0 + 8) ∧ q = 10 then e else (if p = (32 * n 0 + 8) ∧ q = 3 then d else (if p = (32 * n 0 + 8) ∧ q = 2 then c else (if p = (32 * n 0 + 8) ∧ q = 1 then a else (if p = (32 * n 0 + 8) ∧ q = 0 then nI (n 0) else (if p = (32 * n 0 + 8) ∧ q = 16 then (-400) else (if p = (32 * n 0 + 8) ∧ q = 15 then 0 else (if p = (32 * n 0 + 8) ∧ q = 14 then 0 else (if p = (32 * n 0 + 8) ∧ q = 13 then 0 else (if p = (32 * n 0 + 8) ∧ q = 12 then 0 else (if p = (32 * n 0 + 8) ∧ q = 11 then 0 else (if p = (32 * n 0 + 8) ∧ q = 9 then 0 else (if p = (32 * n 0 + 8) ∧ q = 8 then 0 else (if p = (32 * n 0 + 8) ∧ q = 7 then 97 else (if p = (32 * n 0 + 8) ∧ q = 6 then 50 else (if p = (32 * n 0 + 8) ∧ q = 5 then 20 else (if p = (32 * n 0 + 9) then 0 else (if p = (32 * n 0 + 8) then 0 else cI n i x (p % 32) (p / 32) q)))))))))))))))))) = (if p = (32 * n 0 + 8) ∧ q = 10 then e else (if p = (32 * n 0 + 8) ∧ q = 3 then d else (if p = (32 * n 0 + 8) ∧ q = 2 then c else (if p = (32 * n 0 + 8) ∧ q = 1 then a else (if p = (32 * n 0 + 8) ∧ q = 16 then (-400) else (if p = (32 * n 0 + 8) ∧ q = 15 then 0 else (if p = (32 * n 0 + 8) ∧ q = 14 then 0 else (if p = (32 * n 0 + 8) ∧ q = 13 then 0 else (if p = (32 * n 0 + 8) ∧ q = 12 then 0 else (if p = (32 * n 0 + 8) ∧ q = 11 then 0 else (if p = (32 * n 0 + 8) ∧ q = 9 then 0 else (if p = (32 * n 0 + 8) ∧ q = 8 then 0 else (if p = (32 * n 0 + 8) ∧ q = 7 then 97 else (if p = (32 * n 0 + 8) ∧ q = 6 then 50 else (if p = (32 * n 0 + 8) ∧ q = 5 then 20 else cI n i (zrow x (n 0)) (p % 32) (p / 32) q)))))))))))))))
    simp only [hp, hp2, false_and, if_false]
    exact (cI_zrow (by omega)).symm
  · show (if p = (32 * n 0 + 9) then 0 else (if p = (32 * n 0 + 8) then 0 else (if p = 14 ∧ q = 0 then ol else if p = 5 ∧ q = 4 then lm 1 26 else 0))) = (if p = 14 ∧ q = 0 then ol else if p = 5 ∧ q = 4 then lm 1 26 else 0)
    simp only [hp, hp2, false_and, if_false]
  · show (if p = (32 * n 0 + 9) then 0 else (if p = (32 * n 0 + 8) then 0 else (if p = 15 ∧ q = 0 then od else 0))) = (if p = 15 ∧ q = 0 then od else 0)
    simp only [hp, hp2, false_and, if_false]
  · show (if (32 * n 0 + 8) = (32 * n 0 + 9) then 960 else (if (32 * n 0 + 8) = (32 * n 0 + 8) then 0 else cN ((32 * n 0 + 8) % 32) ((32 * n 0 + 8) / 32))) = cN ((32 * n 0 + 8) % 32) ((32 * n 0 + 8) / 32)
    rw [(cdm _ (by decide)).1, (cdm _ (by decide)).2]
    simp [hos, hso, cN]
  · show (if (32 * n 0 + 8) = (32 * n 0 + 8) ∧ q = 4 then some (32 * n 0 + 9) else (if (32 * n 0 + 8) = (32 * n 0 + 9) then none else (if (32 * n 0 + 8) = (32 * n 0 + 8) then none else cR n i y ((32 * n 0 + 8) % 32) ((32 * n 0 + 8) / 32) q))) = cR n i y ((32 * n 0 + 8) % 32) ((32 * n 0 + 8) / 32) q
    rw [(cdm _ (by decide)).1, (cdm _ (by decide)).2]
    by_cases hr4 : q = 4
    · subst hr4; simp [hos, hso, cR] <;> first | omega | (intro e; omega)
    simp [hos, hso, cR, hr4] <;> first | omega | (intro e; omega)
  · show (if (32 * n 0 + 8) = (32 * n 0 + 8) ∧ q = 10 then e else (if (32 * n 0 + 8) = (32 * n 0 + 8) ∧ q = 3 then d else (if (32 * n 0 + 8) = (32 * n 0 + 8) ∧ q = 2 then c else (if (32 * n 0 + 8) = (32 * n 0 + 8) ∧ q = 1 then a else (if (32 * n 0 + 8) = (32 * n 0 + 8) ∧ q = 0 then nI (n 0) else (if (32 * n 0 + 8) = (32 * n 0 + 8) ∧ q = 16 then (-400) else (if (32 * n 0 + 8) = (32 * n 0 + 8) ∧ q = 15 then 0 else (if (32 * n 0 + 8) = (32 * n 0 + 8) ∧ q = 14 then 0 else (if (32 * n 0 + 8) = (32 * n 0 + 8) ∧ q = 13 then 0 else (if (32 * n 0 + 8) = (32 * n 0 + 8) ∧ q = 12 then 0 else (if (32 * n 0 + 8) = (32 * n 0 + 8) ∧ q = 11 then 0 else (if (32 * n 0 + 8) = (32 * n 0 + 8) ∧ q = 9 then 0 else (if (32 * n 0 + 8) = (32 * n 0 + 8) ∧ q = 8 then 0 else (if (32 * n 0 + 8) = (32 * n 0 + 8) ∧ q = 7 then 97 else (if (32 * n 0 + 8) = (32 * n 0 + 8) ∧ q = 6 then 50 else (if (32 * n 0 + 8) = (32 * n 0 + 8) ∧ q = 5 then 20 else (if (32 * n 0 + 8) = (32 * n 0 + 9) then 0 else (if (32 * n 0 + 8) = (32 * n 0 + 8) then 0 else cI n i x ((32 * n 0 + 8) % 32) ((32 * n 0 + 8) / 32) q)))))))))))))))))) = (if (32 * n 0 + 8) = (32 * n 0 + 8) ∧ q = 10 then e else (if (32 * n 0 + 8) = (32 * n 0 + 8) ∧ q = 3 then d else (if (32 * n 0 + 8) = (32 * n 0 + 8) ∧ q = 2 then c else (if (32 * n 0 + 8) = (32 * n 0 + 8) ∧ q = 1 then a else (if (32 * n 0 + 8) = (32 * n 0 + 8) ∧ q = 16 then (-400) else (if (32 * n 0 + 8) = (32 * n 0 + 8) ∧ q = 15 then 0 else (if (32 * n 0 + 8) = (32 * n 0 + 8) ∧ q = 14 then 0 else (if (32 * n 0 + 8) = (32 * n 0 + 8) ∧ q = 13 then 0 else (if (32 * n 0 + 8) = (32 * n 0 + 8) ∧ q = 12 then 0 else (if (32 * n 0 + 8) = (32 * n 0 + 8) ∧ q = 11 then 0 else (if (32 * n 0 + 8) = (32 * n 0 + 8) ∧ q = 9 then 0 else (if (32 * n 0 + 8) = (32 * n 0 + 8) ∧ q = 8 then 0 else (if (32 * n 0 + 8) = (32 * n 0 + 8) ∧ q = 7 then 97 else (if (32 * n 0 + 8) = (32 * n 0 + 8) ∧ q = 6 then 50 else (if (32 * n 0 + 8) = (32 * n 0 + 8) ∧ q = 5 then 20 else cI n i (zrow x (n 0)) ((32 * n 0 + 8) % 32) ((32 * n 0 + 8) / 32) q)))))))))))))))
    rw [(cdm _ (by decide)).1, (cdm _ (by decide)).2]
    by_cases h : q ∈ [5, 6, 7, 8, 9, 11, 12, 13, 14, 15, 16, 0, 1, 2, 3, 10]
    · have h5 : q = 5 ∨ q = 6 ∨ q = 7 ∨ q = 8 ∨ q = 9 ∨ q = 11 ∨ q = 12 ∨ q = 13 ∨ q = 14 ∨ q = 15 ∨ q = 16 ∨ q = 0 ∨ q = 1 ∨ q = 2 ∨ q = 3 ∨ q = 10 := by simpa using h
      rcases h5 with e5 | e5 | e5 | e5 | e5 | e5 | e5 | e5 | e5 | e5 | e5 | e5 | e5 | e5 | e5 | e5 <;> subst e5 <;> simp [hos, hso, ci0_8] <;> first | omega | (intro e; omega)
    · have hz9 : cI n i (zrow x (n 0)) 8 (n 0) q = 0 := cI_no (by decide) (cTc_no [5, 6, 7, 8, 9, 11, 12, 13, 14, 15, 16, 0, 1, 2, 3, 10] h (by decide +kernel))
      have hm : ¬ q = 5 ∧ ¬ q = 6 ∧ ¬ q = 7 ∧ ¬ q = 8 ∧ ¬ q = 9 ∧ ¬ q = 11 ∧ ¬ q = 12 ∧ ¬ q = 13 ∧ ¬ q = 14 ∧ ¬ q = 15 ∧ ¬ q = 16 ∧ ¬ q = 0 ∧ ¬ q = 1 ∧ ¬ q = 2 ∧ ¬ q = 3 ∧ ¬ q = 10 := by simpa using h
      rw [hz9]
      simp [hos, hso, hm] <;> first | omega | (intro e; omega)
  · show (if (32 * n 0 + 8) = (32 * n 0 + 9) then 0 else (if (32 * n 0 + 8) = (32 * n 0 + 8) then 0 else (if (32 * n 0 + 8) = 14 ∧ q = 0 then ol else if (32 * n 0 + 8) = 5 ∧ q = 4 then lm 1 26 else 0))) = (if (32 * n 0 + 8) = 14 ∧ q = 0 then ol else if (32 * n 0 + 8) = 5 ∧ q = 4 then lm 1 26 else 0)
    simp [hos, hso]
    try omega
  · show (if (32 * n 0 + 8) = (32 * n 0 + 9) then 0 else (if (32 * n 0 + 8) = (32 * n 0 + 8) then 0 else (if (32 * n 0 + 8) = 15 ∧ q = 0 then od else 0))) = (if (32 * n 0 + 8) = 15 ∧ q = 0 then od else 0)
    simp [hos, hso]
    try omega
  · show (if (32 * n 0 + 9) = (32 * n 0 + 9) then 960 else (if (32 * n 0 + 9) = (32 * n 0 + 8) then 0 else cN ((32 * n 0 + 9) % 32) ((32 * n 0 + 9) / 32))) = cN ((32 * n 0 + 9) % 32) ((32 * n 0 + 9) / 32)
    rw [(cdm _ (by decide)).1, (cdm _ (by decide)).2]
    simp [hos, hso, cN]
  · show (if (32 * n 0 + 9) = (32 * n 0 + 8) ∧ q = 4 then some (32 * n 0 + 9) else (if (32 * n 0 + 9) = (32 * n 0 + 9) then none else (if (32 * n 0 + 9) = (32 * n 0 + 8) then none else cR n i y ((32 * n 0 + 9) % 32) ((32 * n 0 + 9) / 32) q))) = cR n i y ((32 * n 0 + 9) % 32) ((32 * n 0 + 9) / 32) q
    rw [(cdm _ (by decide)).1, (cdm _ (by decide)).2]
    simp [hos, hso, cR] <;> first | omega | (intro e; omega)
  · show (if (32 * n 0 + 9) = (32 * n 0 + 8) ∧ q = 10 then e else (if (32 * n 0 + 9) = (32 * n 0 + 8) ∧ q = 3 then d else (if (32 * n 0 + 9) = (32 * n 0 + 8) ∧ q = 2 then c else (if (32 * n 0 + 9) = (32 * n 0 + 8) ∧ q = 1 then a else (if (32 * n 0 + 9) = (32 * n 0 + 8) ∧ q = 0 then nI (n 0) else (if (32 * n 0 + 9) = (32 * n 0 + 8) ∧ q = 16 then (-400) else (if (32 * n 0 + 9) = (32 * n 0 + 8) ∧ q = 15 then 0 else (if (32 * n 0 + 9) = (32 * n 0 + 8) ∧ q = 14 then 0 else (if (32 * n 0 + 9) = (32 * n 0 + 8) ∧ q = 13 then 0 else (if (32 * n 0 + 9) = (32 * n 0 + 8) ∧ q = 12 then 0 else (if (32 * n 0 + 9) = (32 * n 0 + 8) ∧ q = 11 then 0 else (if (32 * n 0 + 9) = (32 * n 0 + 8) ∧ q = 9 then 0 else (if (32 * n 0 + 9) = (32 * n 0 + 8) ∧ q = 8 then 0 else (if (32 * n 0 + 9) = (32 * n 0 + 8) ∧ q = 7 then 97 else (if (32 * n 0 + 9) = (32 * n 0 + 8) ∧ q = 6 then 50 else (if (32 * n 0 + 9) = (32 * n 0 + 8) ∧ q = 5 then 20 else (if (32 * n 0 + 9) = (32 * n 0 + 9) then 0 else (if (32 * n 0 + 9) = (32 * n 0 + 8) then 0 else cI n i x ((32 * n 0 + 9) % 32) ((32 * n 0 + 9) / 32) q)))))))))))))))))) = (if (32 * n 0 + 9) = (32 * n 0 + 8) ∧ q = 10 then e else (if (32 * n 0 + 9) = (32 * n 0 + 8) ∧ q = 3 then d else (if (32 * n 0 + 9) = (32 * n 0 + 8) ∧ q = 2 then c else (if (32 * n 0 + 9) = (32 * n 0 + 8) ∧ q = 1 then a else (if (32 * n 0 + 9) = (32 * n 0 + 8) ∧ q = 16 then (-400) else (if (32 * n 0 + 9) = (32 * n 0 + 8) ∧ q = 15 then 0 else (if (32 * n 0 + 9) = (32 * n 0 + 8) ∧ q = 14 then 0 else (if (32 * n 0 + 9) = (32 * n 0 + 8) ∧ q = 13 then 0 else (if (32 * n 0 + 9) = (32 * n 0 + 8) ∧ q = 12 then 0 else (if (32 * n 0 + 9) = (32 * n 0 + 8) ∧ q = 11 then 0 else (if (32 * n 0 + 9) = (32 * n 0 + 8) ∧ q = 9 then 0 else (if (32 * n 0 + 9) = (32 * n 0 + 8) ∧ q = 8 then 0 else (if (32 * n 0 + 9) = (32 * n 0 + 8) ∧ q = 7 then 97 else (if (32 * n 0 + 9) = (32 * n 0 + 8) ∧ q = 6 then 50 else (if (32 * n 0 + 9) = (32 * n 0 + 8) ∧ q = 5 then 20 else cI n i (zrow x (n 0)) ((32 * n 0 + 9) % 32) ((32 * n 0 + 9) / 32) q)))))))))))))))
    rw [(cdm _ (by decide)).1, (cdm _ (by decide)).2]
    simp [hos, hso, cI, zrow]
  · show (if (32 * n 0 + 9) = (32 * n 0 + 9) then 0 else (if (32 * n 0 + 9) = (32 * n 0 + 8) then 0 else (if (32 * n 0 + 9) = 14 ∧ q = 0 then ol else if (32 * n 0 + 9) = 5 ∧ q = 4 then lm 1 26 else 0))) = (if (32 * n 0 + 9) = 14 ∧ q = 0 then ol else if (32 * n 0 + 9) = 5 ∧ q = 4 then lm 1 26 else 0)
    simp [hos, hso]
    try omega
  · show (if (32 * n 0 + 9) = (32 * n 0 + 9) then 0 else (if (32 * n 0 + 9) = (32 * n 0 + 8) then 0 else (if (32 * n 0 + 9) = 15 ∧ q = 0 then od else 0))) = (if (32 * n 0 + 9) = 15 ∧ q = 0 then od else 0)
    simp [hos, hso]
    try omega
end GROW2
