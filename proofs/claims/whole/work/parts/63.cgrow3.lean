/-! PART 63: rows for a new pallet -/
section GROW2
variable {n : Nat → Nat} {i x : Nat → Nat → Int32} {lm : Nat → Nat → Int64} {y : Nat → Nat → Nat} {ol : Int64} {od : UInt64}
theorem cw_k11 {k : Nat} {v : Int32} : zwr (cmm n i x lm y ol od) (32 * k + 11) 1 (some (32 * cl v + 10)) = cmm n (zup i 131 k v) x lm y ol od := by
  unfold zwr cmm
  have e : ∀ t j q, cI n (zup i 131 k v) x t j q = cI n i x t j q := fun t j q => by
    unfold cI cI0
    have h1 : ∀ w ∈ cTl, w.2.2 ≠ 1131 := by decide +kernel
    split
    · rfl
    · split
      · rfl
      · split
        · rfl
        · split
          · rfl
          · split
            · rfl
            · split
              · rfl
              · split
                · split
                  · exact zup_n (by omega)
                  · rfl
                · split
                  · exact zup_n (fun a => h1 _ (cTc_mem (t := t) (k := q) rfl (by omega)) (by simp only; omega))
                  · rfl
  refine Prod.ext rfl (Prod.ext rfl (Prod.ext (funext fun a => funext fun b => ?_) (Prod.ext (funext fun p => funext fun q => (e _ _ _).symm) rfl)))
  show (if a = 32 * k + 11 ∧ b = 1 then some (32 * cl v + 10) else cR n i y (a % 32) (a / 32) b) = cR n (zup i 131 k v) y (a % 32) (a / 32) b
  have h136 : ∀ j, zup i 131 k v 136 j = i 136 j := fun j => zup_n (by omega)
  by_cases h : a = 32 * k + 11 ∧ b = 1
  · obtain ⟨rfl, rfl⟩ := h
    rw [if_pos ⟨rfl, rfl⟩, (cdm k (by decide)).1, (cdm k (by decide)).2]
    show _ = some (32 * cl (zup i 131 k v 131 k) + 10)
    rw [zup_s]
  · rw [if_neg h]
    by_cases ht : a % 32 = 11
    · rw [ht]
      show (if b = 1 then some (32 * cl (i 131 (a / 32)) + 10) else if b = 2 then some (32 * y 0 (a / 32) + 12) else none) = (if b = 1 then some (32 * cl (zup i 131 k v 131 (a / 32)) + 10) else if b = 2 then some (32 * y 0 (a / 32) + 12) else none)
      by_cases hb : b = 1
      · rw [zup_n (by omega)]
      · rw [if_neg hb, if_neg hb]
    · unfold cR
      split <;> first | rfl | omega | simp only [h136]
end GROW2
