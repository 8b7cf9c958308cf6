/-! PART 57: a new order, a new stay -/
section GROW2
variable {n : Nat → Nat} {i x : Nat → Nat → Int32} {lm : Nat → Nat → Int64} {y : Nat → Nat → Nat} {ol : Int64} {od : UInt64}
theorem cw_k13 {k : Nat} {v : Int32} : zwr (cmm n i x lm y ol od) (32 * k + 13) 0 (some (32 * cl v + 10)) = cmm n (zup i 136 k v) x lm y ol od := by
  unfold zwr cmm
  have e : ∀ t j q, cI n (zup i 136 k v) x t j q = cI n i x t j q := fun t j q => by
    unfold cI cI0
    have h1 : ∀ w ∈ cTl, w.2.2 ≠ 1136 := by decide +kernel
    split
    · rfl
    · split
      · rfl
      · split
        · rfl
        · split
          · rfl
          · split
            · rfl
            · split
              · rfl
              · split
                · split
                  · exact zup_n (by omega)
                  · rfl
                · split
                  · exact zup_n (fun a => h1 _ (cTc_mem (t := t) (k := q) rfl (by omega)) (by simp only; omega))
                  · rfl
  refine Prod.ext rfl (Prod.ext rfl (Prod.ext (funext fun a => funext fun b => ?_) (Prod.ext (funext fun p => funext fun q => (e _ _ _).symm) rfl)))
  show (if a = 32 * k + 13 ∧ b = 0 then some (32 * cl v + 10) else cR n i y (a % 32) (a / 32) b) = cR n (zup i 136 k v) y (a % 32) (a / 32) b
  have h131 : ∀ j, zup i 136 k v 131 j = i 131 j := fun j => zup_n (by omega)
  by_cases h : a = 32 * k + 13 ∧ b = 0
  · obtain ⟨rfl, rfl⟩ := h
    rw [if_pos ⟨rfl, rfl⟩, (cdm k (by decide)).1, (cdm k (by decide)).2]
    show _ = some (32 * cl (zup i 136 k v 136 k) + 10)
    rw [zup_s]
  · rw [if_neg h]
    by_cases ht : a % 32 = 13
    · rw [ht]
      show (if b = 0 then some (32 * cl (i 136 (a / 32)) + 10) else none) = (if b = 0 then some (32 * cl (zup i 136 k v 136 (a / 32)) + 10) else none)
      by_cases hb : b = 0
      · rw [zup_n (by omega)]
      · rw [if_neg hb, if_neg hb]
    · unfold cR
      split <;> first | rfl | omega | simp only [h131]
theorem zq_order {v a b c : Int32} : zq (zwi (zwi (zwi (zwr (zwi (zwi (znew (cmm n i x lm y ol od) (32 * n 3 + 13) 7 0) (32 * n 3 + 13) 4 111) (32 * n 3 + 13) 5 0) (32 * n 3 + 13) 0 (some (32 * cl v + 10))) (32 * n 3 + 13) 1 a) (32 * n 3 + 13) 2 b) (32 * n 3 + 13) 3 c) (cmm (nup n 3 (n 3 + 1)) (zup (zup (zup (zup (zup (zup i 140 (n 3) 111) 141 (n 3) 0) 136 (n 3) v) 137 (n 3) a) 138 (n 3) b) 139 (n 3) c) x lm y ol od) := by
  refine zq_grow (n := n) (i := i) (x := x) (y := y) (o := (32 * n 3 + 13)) (kind := 7) (W := zwi (zwi (zwi (zwr (zwi (zwi (cmm n i x lm y ol od) (32 * n 3 + 13) 4 111) (32 * n 3 + 13) 5 0) (32 * n 3 + 13) 0 (some (32 * cl v + 10))) (32 * n 3 + 13) 1 a) (32 * n 3 + 13) 2 b) (32 * n 3 + 13) 3 c) (by rw [cw_i 13 4 140, cw_i 13 5 141, cw_k13, cw_i 13 1 137, cw_i 13 2 138, cw_i 13 3 139]) (cmm_n (by decide)) (fun p => rfl) (fun p => ?_) (fun p hp => ⟨if_neg hp, fun q => ⟨?_, ?_, if_neg hp, if_neg hp⟩⟩) ⟨?_, fun q => ⟨?_, ?_, ?_, ?_⟩⟩
  · show cC _ (p % 32) (p / 32) = if p = _ then 7 else cC n (p % 32) (p / 32)
    rw [cC_new13]
    by_cases h : p = 32 * n 3 + 13
    · rw [if_pos h, if_pos (by omega)]
    · rw [if_neg h, if_neg (by omega)]
  · show (if p = _ ∧ q = 0 then some (32 * cl v + 10) else (if p = _ then none else _)) = (if p = _ ∧ q = 0 then some (32 * cl v + 10) else _)
    simp only [hp, false_and, if_false] <;> rfl
  · show (if p = _ ∧ q = 3 then c else (if p = _ ∧ q = 2 then b else (if p = _ ∧ q = 1 then a else (if p = _ ∧ q = 5 then 0 else (if p = _ ∧ q = 4 then 111 else (if p = _ then 0 else _)))))) = (if p = _ ∧ q = 3 then c else (if p = _ ∧ q = 2 then b else (if p = _ ∧ q = 1 then a else (if p = _ ∧ q = 5 then 0 else (if p = _ ∧ q = 4 then 111 else _)))))
    simp only [hp, false_and, if_false] <;> rfl
  · show (if _ = _ then 0 else _) = cN ((32 * n 3 + 13) % 32) _
    rw [if_pos rfl, (cdm _ (by decide)).1]; rfl
  · show (if _ = _ ∧ q = 0 then some (32 * cl v + 10) else (if _ = _ then none else _)) = (if _ = _ ∧ q = 0 then some (32 * cl v + 10) else cR n i y ((32 * n 3 + 13) % 32) ((32 * n 3 + 13) / 32) q)
    rw [(cdm _ (by decide)).1]
    show (if _ = _ ∧ q = 0 then some (32 * cl v + 10) else (if _ = _ then none else _)) = (if _ = _ ∧ q = 0 then some (32 * cl v + 10) else (if q = 0 then some (32 * cl (i 136 ((32 * n 3 + 13) / 32)) + 10) else none))
    by_cases h0 : q = 0
    · subst h0; simp
    simp [h0]
  · show (if _ = _ ∧ q = 3 then c else (if _ = _ ∧ q = 2 then b else (if _ = _ ∧ q = 1 then a else (if _ = _ ∧ q = 5 then 0 else (if _ = _ ∧ q = 4 then 111 else (if _ = _ then 0 else _)))))) = (if _ = _ ∧ q = 3 then c else (if _ = _ ∧ q = 2 then b else (if _ = _ ∧ q = 1 then a else (if _ = _ ∧ q = 5 then 0 else (if _ = _ ∧ q = 4 then 111 else cI n i x ((32 * n 3 + 13) % 32) ((32 * n 3 + 13) / 32) q)))))
    rw [(cdm _ (by decide)).1]
    by_cases h : q ∈ [4, 5, 1, 2, 3]
    · have h5 : q = 4 ∨ q = 5 ∨ q = 1 ∨ q = 2 ∨ q = 3 := by simpa using h
      rcases h5 with e5 | e5 | e5 | e5 | e5 <;> subst e5 <;> simp
    · rw [cI_no (by decide) (cTc_no [4, 5, 1, 2, 3] h (by decide +kernel))]
      simp
  · show (if _ = _ then 0 else _) = if (32 * n 3 + 13) = 14 ∧ q = 0 then ol else if (32 * n 3 + 13) = 5 ∧ q = 4 then lm 1 26 else 0
    rw [if_pos rfl, if_neg (by omega), if_neg (by omega)]
  · show (if _ = _ then 0 else _) = if (32 * n 3 + 13) = 15 ∧ q = 0 then od else 0
    rw [if_pos rfl, if_neg (by omega)]
theorem cw_y1 {k r : Nat} : zwr (cmm n i x lm y ol od) (32 * k + 12) 0 (some (32 * r + 8)) = cmm n i x lm (zup y 1 k r) ol od := by
  unfold zwr cmm
  refine Prod.ext rfl (Prod.ext rfl (Prod.ext (funext fun a => funext fun b => ?_) rfl))
  show (if a = 32 * k + 12 ∧ b = 0 then some (32 * r + 8) else cR n i y (a % 32) (a / 32) b) = cR n i (zup y 1 k r) (a % 32) (a / 32) b
  have h0 : ∀ j, zup y 1 k r 0 j = y 0 j := fun j => zup_n (by omega)
  have hx : ∀ j, zup y 1 k r 2 j = y 2 j := fun j => zup_n (by omega)
  by_cases h : a = 32 * k + 12 ∧ b = 0
  · obtain ⟨rfl, rfl⟩ := h
    rw [if_pos ⟨rfl, rfl⟩, (cdm k (by decide)).1, (cdm k (by decide)).2]
    show _ = some (32 * zup y 1 k r 1 k + 8)
    rw [zup_s]
    try rfl
  · rw [if_neg h]
    by_cases ht : a % 32 = 12
    · rw [ht]
      show (if b = 0 then some (32 * y 1 (a / 32) + 8) else if b = 2 then (if y 2 (a / 32) = 0 then none else some (32 * (y 2 (a / 32) - 1) + 12)) else none) = (if b = 0 then some (32 * zup y 1 k r 1 (a / 32) + 8) else if b = 2 then (if zup y 1 k r 2 (a / 32) = 0 then none else some (32 * (zup y 1 k r 2 (a / 32) - 1) + 12)) else none)
      by_cases hk : a / 32 = k
      · have hb : b ≠ 0 := by omega
        simp only [hx, hb, if_false]
      · rw [show zup y 1 k r 1 (a / 32) = y 1 (a / 32) from zup_n (by omega), show zup y 1 k r 2 (a / 32) = y 2 (a / 32) from zup_n (by omega)]
    · unfold cR
      split <;> first | rfl | omega | simp only [h0, hx]
theorem cw_y2 {k e : Nat} : zwr (cmm n i x lm y ol od) (32 * k + 12) 2 (some (32 * e + 12)) = cmm n i x lm (zup y 2 k (e + 1)) ol od := by
  unfold zwr cmm
  refine Prod.ext rfl (Prod.ext rfl (Prod.ext (funext fun a => funext fun b => ?_) rfl))
  show (if a = 32 * k + 12 ∧ b = 2 then some (32 * e + 12) else cR n i y (a % 32) (a / 32) b) = cR n i (zup y 2 k (e + 1)) (a % 32) (a / 32) b
  have h0 : ∀ j, zup y 2 k (e + 1) 0 j = y 0 j := fun j => zup_n (by omega)
  have hx : ∀ j, zup y 2 k (e + 1) 1 j = y 1 j := fun j => zup_n (by omega)
  by_cases h : a = 32 * k + 12 ∧ b = 2
  · obtain ⟨rfl, rfl⟩ := h
    rw [if_pos ⟨rfl, rfl⟩, (cdm k (by decide)).1, (cdm k (by decide)).2]
    show _ = if zup y 2 k (e + 1) 2 k = 0 then none else some (32 * (zup y 2 k (e + 1) 2 k - 1) + 12)
    rw [zup_s]
    simp
  · rw [if_neg h]
    by_cases ht : a % 32 = 12
    · rw [ht]
      show (if b = 0 then some (32 * y 1 (a / 32) + 8) else if b = 2 then (if y 2 (a / 32) = 0 then none else some (32 * (y 2 (a / 32) - 1) + 12)) else none) = (if b = 0 then some (32 * zup y 2 k (e + 1) 1 (a / 32) + 8) else if b = 2 then (if zup y 2 k (e + 1) 2 (a / 32) = 0 then none else some (32 * (zup y 2 k (e + 1) 2 (a / 32) - 1) + 12)) else none)
      by_cases hk : a / 32 = k
      · have hb : b ≠ 2 := by omega
        simp only [hx, hb, if_false]
      · rw [show zup y 2 k (e + 1) 1 (a / 32) = y 1 (a / 32) from zup_n (by omega), show zup y 2 k (e + 1) 2 (a / 32) = y 2 (a / 32) from zup_n (by omega)]
    · unfold cR
      split <;> first | rfl | omega | simp only [h0, hx]
theorem cw_y2n {k : Nat} : zwr (cmm n i x lm y ol od) (32 * k + 12) 2 (none) = cmm n i x lm (zup y 2 k 0) ol od := by
  unfold zwr cmm
  refine Prod.ext rfl (Prod.ext rfl (Prod.ext (funext fun a => funext fun b => ?_) rfl))
  show (if a = 32 * k + 12 ∧ b = 2 then none else cR n i y (a % 32) (a / 32) b) = cR n i (zup y 2 k 0) (a % 32) (a / 32) b
  have h0 : ∀ j, zup y 2 k 0 0 j = y 0 j := fun j => zup_n (by omega)
  have hx : ∀ j, zup y 2 k 0 1 j = y 1 j := fun j => zup_n (by omega)
  by_cases h : a = 32 * k + 12 ∧ b = 2
  · obtain ⟨rfl, rfl⟩ := h
    rw [if_pos ⟨rfl, rfl⟩, (cdm k (by decide)).1, (cdm k (by decide)).2]
    show _ = if zup y 2 k 0 2 k = 0 then none else some (32 * (zup y 2 k 0 2 k - 1) + 12)
    rw [zup_s]
    simp
  · rw [if_neg h]
    by_cases ht : a % 32 = 12
    · rw [ht]
      show (if b = 0 then some (32 * y 1 (a / 32) + 8) else if b = 2 then (if y 2 (a / 32) = 0 then none else some (32 * (y 2 (a / 32) - 1) + 12)) else none) = (if b = 0 then some (32 * zup y 2 k 0 1 (a / 32) + 8) else if b = 2 then (if zup y 2 k 0 2 (a / 32) = 0 then none else some (32 * (zup y 2 k 0 2 (a / 32) - 1) + 12)) else none)
      by_cases hk : a / 32 = k
      · have hb : b ≠ 2 := by omega
        simp only [hx, hb, if_false]
      · rw [show zup y 2 k 0 1 (a / 32) = y 1 (a / 32) from zup_n (by omega), show zup y 2 k 0 2 (a / 32) = y 2 (a / 32) from zup_n (by omega)]
    · unfold cR
      split <;> first | rfl | omega | simp only [h0, hx]
theorem zq_stayN {r : Nat} {a : Int32} : zq (zwr (zwi (zwr (znew (cmm n i x lm y ol od) (32 * n 4 + 12) 10 0) (32 * n 4 + 12) 0 (some (32 * r + 8))) (32 * n 4 + 12) 1 a) (32 * n 4 + 12) 2 none) (cmm (nup n 4 (n 4 + 1)) i (zup x 4 (n 4) a) lm (zup (zup y 1 (n 4) r) 2 (n 4) 0) ol od) := by
  refine zq_grow (n := n) (i := i) (x := x) (y := y) (o := (32 * n 4 + 12)) (kind := 10) (W := zwr (zwi (zwr (cmm n i x lm y ol od) (32 * n 4 + 12) 0 (some (32 * r + 8))) (32 * n 4 + 12) 1 a) (32 * n 4 + 12) 2 none) (by rw [cw_y1, cw_x 12 1 4, cw_y2n]) (cmm_n (by decide)) (fun p => rfl) (fun p => ?_) (fun p hp => ⟨if_neg hp, fun q => ⟨?_, ?_, if_neg hp, if_neg hp⟩⟩) ⟨?_, fun q => ⟨?_, ?_, ?_, ?_⟩⟩
  · show cC _ (p % 32) (p / 32) = if p = _ then 10 else cC n (p % 32) (p / 32)
    rw [cC_new12]
    by_cases h : p = 32 * n 4 + 12
    · rw [if_pos h, if_pos (by omega)]
    · rw [if_neg h, if_neg (by omega)]
  · show (if p = _ ∧ q = 2 then none else (if p = _ ∧ q = 0 then some (32 * r + 8) else (if p = _ then none else _))) = (if p = _ ∧ q = 2 then none else (if p = _ ∧ q = 0 then some (32 * r + 8) else _))
    simp only [hp, false_and, if_false] <;> rfl
  · show (if p = _ ∧ q = 1 then a else (if p = _ then 0 else _)) = (if p = _ ∧ q = 1 then a else _)
    simp only [hp, false_and, if_false] <;> rfl
  · show (if _ = _ then 0 else _) = cN ((32 * n 4 + 12) % 32) _
    rw [if_pos rfl, (cdm _ (by decide)).1]; rfl
  · show (if _ = _ ∧ q = 2 then none else (if _ = _ ∧ q = 0 then some (32 * r + 8) else (if _ = _ then none else _))) = (if _ = _ ∧ q = 2 then none else (if _ = _ ∧ q = 0 then some (32 * r + 8) else cR n i y ((32 * n 4 + 12) % 32) ((32 * n 4 + 12) / 32) q))
    rw [(cdm _ (by decide)).1]
    show (if _ = _ ∧ q = 2 then none else (if _ = _ ∧ q = 0 then some (32 * r + 8) else (if _ = _ then none else _))) = (if _ = _ ∧ q = 2 then none else (if _ = _ ∧ q = 0 then some (32 * r + 8) else (if q = 0 then some (32 * y 1 ((32 * n 4 + 12) / 32) + 8) else if q = 2 then (if y 2 ((32 * n 4 + 12) / 32) = 0 then none else some (32 * (y 2 ((32 * n 4 + 12) / 32) - 1) + 12)) else none)))
    by_cases h0 : q = 0
    · subst h0; simp
    by_cases h2 : q = 2
    · subst h2; simp
    simp [h0, h2]
  · show (if _ = _ ∧ q = 1 then a else (if _ = _ then 0 else _)) = (if _ = _ ∧ q = 1 then a else cI n i x ((32 * n 4 + 12) % 32) ((32 * n 4 + 12) / 32) q)
    rw [(cdm _ (by decide)).1]
    by_cases h : q ∈ [1]
    · have e5 : q = 1 := by simpa using h
      subst e5; simp
    · rw [cI_no (by decide) (cTc_no [1] h (by decide +kernel))]
      simp
  · show (if _ = _ then 0 else _) = if (32 * n 4 + 12) = 14 ∧ q = 0 then ol else if (32 * n 4 + 12) = 5 ∧ q = 4 then lm 1 26 else 0
    rw [if_pos rfl, if_neg (by omega), if_neg (by omega)]
  · show (if _ = _ then 0 else _) = if (32 * n 4 + 12) = 15 ∧ q = 0 then od else 0
    rw [if_pos rfl, if_neg (by omega)]
theorem zq_stayS {r e : Nat} {a : Int32} : zq (zwr (zwi (zwr (znew (cmm n i x lm y ol od) (32 * n 4 + 12) 10 0) (32 * n 4 + 12) 0 (some (32 * r + 8))) (32 * n 4 + 12) 1 a) (32 * n 4 + 12) 2 (some (32 * e + 12))) (cmm (nup n 4 (n 4 + 1)) i (zup x 4 (n 4) a) lm (zup (zup y 1 (n 4) r) 2 (n 4) (e + 1)) ol od) := by
  refine zq_grow (n := n) (i := i) (x := x) (y := y) (o := (32 * n 4 + 12)) (kind := 10) (W := zwr (zwi (zwr (cmm n i x lm y ol od) (32 * n 4 + 12) 0 (some (32 * r + 8))) (32 * n 4 + 12) 1 a) (32 * n 4 + 12) 2 (some (32 * e + 12))) (by rw [cw_y1, cw_x 12 1 4, cw_y2]) (cmm_n (by decide)) (fun p => rfl) (fun p => ?_) (fun p hp => ⟨if_neg hp, fun q => ⟨?_, ?_, if_neg hp, if_neg hp⟩⟩) ⟨?_, fun q => ⟨?_, ?_, ?_, ?_⟩⟩
  · show cC _ (p % 32) (p / 32) = if p = _ then 10 else cC n (p % 32) (p / 32)
    rw [cC_new12]
    by_cases h : p = 32 * n 4 + 12
    · rw [if_pos h, if_pos (by omega)]
    · rw [if_neg h, if_neg (by omega)]
  · show (if p = _ ∧ q = 2 then some (32 * e + 12) else (if p = _ ∧ q = 0 then some (32 * r + 8) else (if p = _ then none else _))) = (if p = _ ∧ q = 2 then some (32 * e + 12) else (if p = _ ∧ q = 0 then some (32 * r + 8) else _))
    simp only [hp, false_and, if_false] <;> rfl
  · show (if p = _ ∧ q = 1 then a else (if p = _ then 0 else _)) = (if p = _ ∧ q = 1 then a else _)
    simp only [hp, false_and, if_false] <;> rfl
  · show (if _ = _ then 0 else _) = cN ((32 * n 4 + 12) % 32) _
    rw [if_pos rfl, (cdm _ (by decide)).1]; rfl
  · show (if _ = _ ∧ q = 2 then some (32 * e + 12) else (if _ = _ ∧ q = 0 then some (32 * r + 8) else (if _ = _ then none else _))) = (if _ = _ ∧ q = 2 then some (32 * e + 12) else (if _ = _ ∧ q = 0 then some (32 * r + 8) else cR n i y ((32 * n 4 + 12) % 32) ((32 * n 4 + 12) / 32) q))
    rw [(cdm _ (by decide)).1]
    show (if _ = _ ∧ q = 2 then some (32 * e + 12) else (if _ = _ ∧ q = 0 then some (32 * r + 8) else (if _ = _ then none else _))) = (if _ = _ ∧ q = 2 then some (32 * e + 12) else (if _ = _ ∧ q = 0 then some (32 * r + 8) else (if q = 0 then some (32 * y 1 ((32 * n 4 + 12) / 32) + 8) else if q = 2 then (if y 2 ((32 * n 4 + 12) / 32) = 0 then none else some (32 * (y 2 ((32 * n 4 + 12) / 32) - 1) + 12)) else none)))
    by_cases h0 : q = 0
    · subst h0; simp
    by_cases h2 : q = 2
    · subst h2; simp
    simp [h0, h2]
  · show (if _ = _ ∧ q = 1 then a else (if _ = _ then 0 else _)) = (if _ = _ ∧ q = 1 then a else cI n i x ((32 * n 4 + 12) % 32) ((32 * n 4 + 12) / 32) q)
    rw [(cdm _ (by decide)).1]
    by_cases h : q ∈ [1]
    · have e5 : q = 1 := by simpa using h
      subst e5; simp
    · rw [cI_no (by decide) (cTc_no [1] h (by decide +kernel))]
      simp
  · show (if _ = _ then 0 else _) = if (32 * n 4 + 12) = 14 ∧ q = 0 then ol else if (32 * n 4 + 12) = 5 ∧ q = 4 then lm 1 26 else 0
    rw [if_pos rfl, if_neg (by omega), if_neg (by omega)]
  · show (if _ = _ then 0 else _) = if (32 * n 4 + 12) = 15 ∧ q = 0 then od else 0
    rw [if_pos rfl, if_neg (by omega)]
end GROW2
