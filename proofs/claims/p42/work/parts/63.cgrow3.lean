/-! PART 63: rows for a new pallet -/
section GROW2
variable {n : Nat → Nat} {i x : Nat → Nat → Int32} {lm : Nat → Nat → Int64} {y : Nat → Nat → Nat} {ol : Int64} {od : UInt64}
theorem cw_k11 {k : Nat} {v : Int32} : zwr (cmm n i x lm y ol od) (32 * k + 11) 1 (some (32 * cl v + 10)) = cmm n (zup i 131 k v) x lm y ol od := by
  unfold zwr cmm
  have e : ∀ t j q, cI n (zup i 131 k v) x t j q = cI n i x t j q := fun t j q => by
    unfold cI cI0
    have h1 : ∀ w ∈ cTl, w.2.2 ≠ 1131 := by decide +kernel
    split
    · rfl
    · split
      · rfl
      · split
        · rfl
        · split
          · rfl
          · split
            · rfl
            · split
              · rfl
              · split
                · split
                  · exact zup_n (by omega)
                  · rfl
                · split
                  · exact zup_n (fun a => h1 _ (cTc_mem (t := t) (k := q) rfl (by omega)) (by simp only; omega))
                  · rfl
  refine Prod.ext rfl (Prod.ext rfl (Prod.ext (funext fun a => funext fun b => ?_) (Prod.ext (funext fun p => funext fun q => (e _ _ _).symm) rfl)))
  show (if a = 32 * k + 11 ∧ b = 1 then some (32 * cl v + 10) else cR n i y (a % 32) (a / 32) b) = cR n (zup i 131 k v) y (a % 32) (a / 32) b
  have h136 : ∀ j, zup i 131 k v 136 j = i 136 j := fun j => zup_n (by omega)
  by_cases h : a = 32 * k + 11 ∧ b = 1
  · obtain ⟨rfl, rfl⟩ := h
    rw [if_pos ⟨rfl, rfl⟩, (cdm k (by decide)).1, (cdm k (by decide)).2]
    show _ = some (32 * cl (zup i 131 k v 131 k) + 10)
    rw [zup_s]
  · rw [if_neg h]
    by_cases ht : a % 32 = 11
    · rw [ht]
      show (if b = 1 then some (32 * cl (i 131 (a / 32)) + 10) else if b = 2 then some (32 * y 0 (a / 32) + 12) else none) = (if b = 1 then some (32 * cl (zup i 131 k v 131 (a / 32)) + 10) else if b = 2 then some (32 * y 0 (a / 32) + 12) else none)
      by_cases hb : b = 1
      · rw [zup_n (by omega)]
      · rw [if_neg hb, if_neg hb]
    · unfold cR
      split <;> first | rfl | omega | simp only [h136]
theorem zq_grow2 {M' W : zMem} {n' : Nat → Nat} {i' x' : Nat → Nat → Int32} {y' : Nat → Nat → Nat} {o1 k1 o2 k2 : Nat} (hW : W = cmm n i' x' lm y' ol od) (hn : (cmm n' i' x' lm y' ol od).2 = (cmm n i' x' lm y' ol od).2)
    (hc1 : ∀ p, zc M' p = if p = o2 then k2 else if p = o1 then k1 else zc (cmm n i x lm y ol od) p) (hc2 : ∀ p, zc (cmm n' i' x' lm y' ol od) p = if p = o2 then k2 else if p = o1 then k1 else zc (cmm n i x lm y ol od) p)
    (hp : ∀ p, p ≠ o1 → p ≠ o2 → zn M' p = zn W p ∧ ∀ q, zr M' p q = zr W p q ∧ zi M' p q = zi W p q ∧ zl M' p q = zl W p q ∧ zd M' p q = zd W p q)
    (h1 : zn M' o1 = zn W o1 ∧ ∀ q, zr M' o1 q = zr W o1 q ∧ zi M' o1 q = zi W o1 q ∧ zl M' o1 q = zl W o1 q ∧ zd M' o1 q = zd W o1 q)
    (h2 : zn M' o2 = zn W o2 ∧ ∀ q, zr M' o2 q = zr W o2 q ∧ zi M' o2 q = zi W o2 q ∧ zl M' o2 q = zl W o2 q ∧ zd M' o2 q = zd W o2 q) : zq M' (cmm n' i' x' lm y' ol od) := by
  subst hW
  have e1 : zn (cmm n' i' x' lm y' ol od) = zn (cmm n i' x' lm y' ol od) := congrArg Prod.fst hn
  have e2 : zr (cmm n' i' x' lm y' ol od) = zr (cmm n i' x' lm y' ol od) := congrArg (fun w => w.2.1) hn
  have e3 : zi (cmm n' i' x' lm y' ol od) = zi (cmm n i' x' lm y' ol od) := congrArg (fun w => w.2.2.1) hn
  have e4 : zl (cmm n' i' x' lm y' ol od) = zl (cmm n i' x' lm y' ol od) := congrArg (fun w => w.2.2.2.1) hn
  have e5 : zd (cmm n' i' x' lm y' ol od) = zd (cmm n i' x' lm y' ol od) := congrArg (fun w => w.2.2.2.2) hn
  refine ⟨funext fun p => (hc1 p).trans (hc2 p).symm, fun p _ => ?_⟩
  rw [e1, e2, e3, e4, e5]
  by_cases a : p = o1
  · rw [a]; exact h1
  · by_cases b : p = o2
    · rw [b]; exact h2
    · exact hp p a b
end GROW2
