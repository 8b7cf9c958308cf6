/-! PART 35: a memory of lists, for constructors -/
def zlk (A : List (Nat × Nat × Nat)) (o : Nat) : Nat × Nat := match A.find? (fun q => q.1 == o) with
  | some q => q.2
  | none => (0, 0)
def zlr {α : Type} (R : List (Nat × Nat × α)) (o k : Nat) : Option α := (R.find? (fun q => q.1 == o && q.2.1 == k)).map (fun q => q.2.2)
def zmk (A : List (Nat × Nat × Nat)) (R : List (Nat × Nat × Nat)) (I : List (Nat × Nat × Int32)) : zMem :=
  (fun o => (zlk A o).1, fun o => (zlk A o).2, fun o k => zlr R o k, fun o k => (zlr I o k).getD 0, fun _ _ => 0, fun _ _ => 0)
theorem zlr_no {α : Type} {R : List (Nat × Nat × α)} {o : Nat} (h : ∀ q ∈ R, q.1 ≠ o) (k : Nat) : zlr R o k = none := by
  unfold zlr
  rw [List.find?_eq_none.mpr (fun q hq e => h q hq (by
    have := (Bool.and_eq_true _ _ ▸ e : (q.1 == o) = true ∧ (q.2.1 == k) = true).1
    exact eq_of_beq this))]
  rfl
theorem zlk_c {A : List (Nat × Nat × Nat)} {o p t n : Nat} : zlk ((o, t, n) :: A) p = if p = o then (t, n) else zlk A p := by
  by_cases h : p = o
  · subst h
    rw [if_pos rfl]
    unfold zlk
    rw [List.find?_cons_of_pos (by exact beq_self_eq_true p)]
  · rw [if_neg h]
    unfold zlk
    rw [List.find?_cons_of_neg (by
      show ¬ (o == p) = true
      rw [beq_iff_eq]
      exact fun e => h e.symm)]
theorem zlr_c {α : Type} {R : List (Nat × Nat × α)} {o k p q : Nat} {x : α} : zlr ((o, k, x) :: R) p q = if p = o ∧ q = k then some x else zlr R p q := by
  by_cases h : p = o ∧ q = k
  · obtain ⟨rfl, rfl⟩ := h
    rw [if_pos ⟨rfl, rfl⟩]
    unfold zlr
    rw [List.find?_cons_of_pos (by show (p == p && q == q) = true; rw [beq_self_eq_true, beq_self_eq_true]; rfl)]
    rfl
  · rw [if_neg h]
    unfold zlr
    rw [List.find?_cons_of_neg (by
      show ¬ (o == p && k == q) = true
      rw [Bool.and_eq_true, beq_iff_eq, beq_iff_eq]
      exact fun e => h ⟨e.1.symm, e.2.symm⟩)]
theorem zmk_new {A R I} {o t n : Nat} (hR : ∀ q ∈ R, q.1 ≠ o) (hI : ∀ q ∈ I, q.1 ≠ o) : znew (zmk A R I) o t n = zmk ((o, t, n) :: A) R I := by
  unfold znew zmk
  refine Prod.ext (funext fun p => ?_) (Prod.ext (funext fun p => ?_) (Prod.ext (funext fun p => funext fun q => ?_) (Prod.ext (funext fun p => funext fun q => ?_) (Prod.ext (funext fun p => funext fun q => ?_) (funext fun p => funext fun q => ?_)))))
  · show (if p = o then t else (zlk A p).1) = (zlk ((o, t, n) :: A) p).1
    rw [zlk_c]; split <;> rfl
  · show (if p = o then n else (zlk A p).2) = (zlk ((o, t, n) :: A) p).2
    rw [zlk_c]; split <;> rfl
  · show (if p = o then none else zlr R p q) = zlr R p q
    split
    · next h => rw [h, zlr_no hR]
    · rfl
  · show (if p = o then (0 : Int32) else (zlr I p q).getD 0) = (zlr I p q).getD 0
    split
    · next h => rw [h, zlr_no hI]; rfl
    · rfl
  · exact ite_self _
  · exact ite_self _
theorem zmk_r {A R I} {o k x : Nat} : zwr (zmk A R I) o k (some x) = zmk A ((o, k, x) :: R) I := by
  unfold zwr zmk
  refine Prod.ext rfl (Prod.ext rfl (Prod.ext (funext fun p => funext fun q => ?_) rfl))
  show (if p = o ∧ q = k then some x else zlr R p q) = zlr ((o, k, x) :: R) p q
  rw [zlr_c]
theorem zmk_i {A R I} {o k : Nat} {x : Int32} : zwi (zmk A R I) o k x = zmk A R ((o, k, x) :: I) := by
  unfold zwi zmk
  refine Prod.ext rfl (Prod.ext rfl (Prod.ext rfl (Prod.ext (funext fun p => funext fun q => ?_) rfl)))
  show (if p = o ∧ q = k then x else (zlr I p q).getD 0) = (zlr ((o, k, x) :: I) p q).getD 0
  rw [zlr_c]; split <;> rfl
theorem zlk_no {A : List (Nat × Nat × Nat)} {b : Nat} (h : ∀ q ∈ A, q.1 < b) {o : Nat} (ho : b ≤ o) : zlk A o = (0, 0) := by
  unfold zlk
  rw [List.find?_eq_none.mpr (fun q hq e => Nat.lt_irrefl o (Nat.lt_of_lt_of_le (by rw [← eq_of_beq e]; exact h q hq) ho))]
def m_i0 : Nat → Nat → Int32 := fun o k => (zlr [(1, 23, 400), (1, 21, (-1)), (1, 20, (-1)), (1, 19, 10), (1, 18, 10), (1, 1, 250)] o k).getD 0
