/-! PART 40: the class's memory: the object 32 * j + t is the j-th of its sort t -/
def cTl : List (Nat × Nat × Nat) := [(1, 6, 2000), (1, 7, 2001), (2, 0, 6), (2, 2, 6), (4, 0, 2018), (4, 1, 2019), (4, 2, 3007), (4, 3, 2021), (4, 4, 2022), (4, 5, 2023), (5, 2, 2024), (5, 3, 2025), (8, 0, 5), (8, 1, 1102), (8, 2, 1103), (8, 3, 1104), (8, 5, 1105), (8, 6, 1106), (8, 7, 1109), (8, 8, 1107), (8, 9, 1108), (8, 10, 1110), (8, 11, 1111), (8, 12, 3000), (8, 13, 1112), (8, 14, 1116), (8, 15, 3006), (8, 16, 3005), (10, 0, 1127), (10, 1, 1128), (10, 2, 1129), (11, 0, 5), (11, 3, 1134), (11, 4, 3003), (11, 5, 1133), (12, 1, 3004), (13, 1, 1137), (13, 2, 1138), (13, 3, 1139), (13, 4, 1140), (13, 5, 1141)]
def cTc (t k : Nat) : Nat := match cTl.find? (fun q => q.1 == t && q.2.1 == k) with
  | some q => q.2.2
  | none => 0
theorem cTc_mem {t k c : Nat} (h : cTc t k = c) (hc : c ≠ 0) : (t, k, c) ∈ cTl := by
  unfold cTc at h
  revert h
  generalize hw : cTl.find? (fun q => q.1 == t && q.2.1 == k) = w
  cases w with
  | none => exact fun h => absurd h.symm hc
  | some q =>
    intro h
    have h1 := List.mem_of_find?_eq_some hw
    have h2 := List.find?_some hw
    have h3 := (Bool.and_eq_true _ _ ▸ h2 : (q.1 == t) = true ∧ (q.2.1 == k) = true)
    have e1 : q.1 = t := eq_of_beq h3.1
    have e2 : q.2.1 = k := eq_of_beq h3.2
    rw [← e1, ← e2, ← show q.2.2 = c from h]
    exact h1
/-- the row that an ArrayList of c elements has -/
def ccap (c : Nat) : Nat := if c = 0 then 0 else if c ≤ 10 then 10 else if c ≤ 15 then 15 else if c ≤ 22 then 22 else 33
abbrev cLive (n : Nat → Nat) (j : Nat) : Prop := (j / 4 = 10 ∨ j / 4 = 15 ∨ j / 4 = 22 ∨ j / 4 = 33) ∧ j / 4 ≤ ccap (n (5 + j % 4))
def cC (n : Nat → Nat) (t j : Nat) : Nat := match t with
  | 1 => if j = 0 then 11 else 0
  | 2 => if j < 4 then 3 else 0
  | 3 => if cLive n j then 25 else 0
  | 4 => if j = 0 then 4 else 0
  | 5 => if j = 0 then 6 else 0
  | 6 => if j = 0 then 20 else 0
  | 7 => if j = 0 then 20 else 0
  | 8 => if j < n 0 then 9 else 0
  | 9 => if j < n 0 then 20 else 0
  | 10 => if j < n 1 then 5 else 0
  | 11 => if j < n 2 then 8 else 0
  | 12 => if j < n 4 then 10 else 0
  | 13 => if j < n 3 then 7 else 0
  | 31 => if j = 0 then 26 else if j = 1 then 19 else 0
  | _ => 0
def cN (t j : Nat) : Nat := match t with
  | 3 => j / 4
  | 6 => 960
  | 7 => 960
  | 9 => 960
  | _ => 0
/-- the sort of the elements of the list l -/
def cEl (l : Nat) : Nat := match l with
  | 0 => 8
  | 1 => 10
  | 2 => 11
  | _ => 13
def cRow (n : Nat → Nat) (j : Nat) : Nat := if n (5 + j) = 0 then 31 else 32 * (4 * ccap (n (5 + j)) + j) + 3
def cR (n : Nat → Nat) (i : Nat → Nat → Int32) (y : Nat → Nat → Nat) (t j k : Nat) : Option Nat := match t with
  | 1 => if k < 4 then some (32 * k + 2) else if k = 4 then some 4 else if k = 5 then some 5 else none
  | 2 => if k = 1 then some (cRow n j) else none
  | 3 => if k < n (5 + j % 4) ∧ k < j / 4 then some (32 * k + cEl (j % 4)) else none
  | 5 => if k = 0 then some 6 else if k = 1 then some 7 else none
  | 8 => if k = 4 then some (32 * j + 9) else none
  | 11 => if k = 1 then some (32 * cl (i 131 j) + 10) else if k = 2 then some (32 * y 0 j + 12) else none
  | 12 => if k = 0 then some (32 * y 1 j + 8) else if k = 2 then (if y 2 j = 0 then none else some (32 * (y 2 j - 1) + 12)) else none
  | 13 => if k = 0 then some (32 * cl (i 136 j) + 10) else none
  | _ => none
def cI0 (n : Nat → Nat) (i x : Nat → Nat → Int32) (c j : Nat) : Int32 :=
  if c = 5 then nI j else if c = 6 then nI (n (5 + j)) else if 3000 ≤ c then x (c - 3000) j else if 2000 ≤ c then (if j = 0 then i 1 (c - 2000) else 0) else if 1000 ≤ c then i (c - 1000) j else 0
def cI (n : Nat → Nat) (i x : Nat → Nat → Int32) (t j k : Nat) : Int32 :=
  if t = 6 then (if j = 0 then x 1 k else 0) else if t = 7 then (if j = 0 then x 2 k else 0) else if t = 9 then x (10 + j) k else cI0 n i x (cTc t k) j
abbrev cSt : Type := (Nat → Nat) × (Nat → Nat → Int32) × (Nat → Nat → Int32) × (Nat → Nat → Int64) × (Nat → Nat → Nat) × Int64 × UInt64
def cmm (n : Nat → Nat) (i x : Nat → Nat → Int32) (lm : Nat → Nat → Int64) (y : Nat → Nat → Nat) (ol : Int64) (od : UInt64) : zMem :=
  (fun o => cC n (o % 32) (o / 32), fun o => cN (o % 32) (o / 32), fun o k => cR n i y (o % 32) (o / 32) k, fun o k => cI n i x (o % 32) (o / 32) k,
   fun o k => if o = 14 ∧ k = 0 then ol else if o = 5 ∧ k = 4 then lm 1 26 else 0, fun o k => if o = 15 ∧ k = 0 then od else 0)
theorem cdm {t : Nat} (j : Nat) (ht : t < 32) : (32 * j + t) % 32 = t ∧ (32 * j + t) / 32 = j := by omega
theorem cdm_iff {o t j : Nat} (ht : t < 32) : o = 32 * j + t ↔ o % 32 = t ∧ o / 32 = j := by omega
section CMM
variable {n : Nat → Nat} {i x : Nat → Nat → Int32} {lm : Nat → Nat → Int64} {y : Nat → Nat → Nat} {ol : Int64} {od : UInt64}
theorem c_c {t j : Nat} (ht : t < 32) : zc (cmm n i x lm y ol od) (32 * j + t) = cC n t j := by
  show cC n ((32 * j + t) % 32) ((32 * j + t) / 32) = _
  rw [(cdm j ht).1, (cdm j ht).2]
theorem c_n {t j : Nat} (ht : t < 32) : zn (cmm n i x lm y ol od) (32 * j + t) = cN t j := by
  show cN ((32 * j + t) % 32) ((32 * j + t) / 32) = _
  rw [(cdm j ht).1, (cdm j ht).2]
theorem c_r {t j k : Nat} (ht : t < 32) : zr (cmm n i x lm y ol od) (32 * j + t) k = cR n i y t j k := by
  show cR n i y ((32 * j + t) % 32) ((32 * j + t) / 32) k = _
  rw [(cdm j ht).1, (cdm j ht).2]
theorem c_i {t j k : Nat} (ht : t < 32) : zi (cmm n i x lm y ol od) (32 * j + t) k = cI n i x t j k := by
  show cI n i x ((32 * j + t) % 32) ((32 * j + t) / 32) k = _
  rw [(cdm j ht).1, (cdm j ht).2]
theorem cTc_6 {t k : Nat} (h : t = 6 ∨ t = 7 ∨ t = 9) : cTc t k = 0 := by
  rcases Nat.eq_zero_or_pos (cTc t k) with q | q
  · exact q
  · have h1 := cTc_mem (t := t) (k := k) rfl (by omega)
    have h2 : ∀ q ∈ cTl, q.1 ≠ 6 ∧ q.1 ≠ 7 ∧ q.1 ≠ 9 := by decide +kernel
    exact absurd h (by have := h2 _ h1; simp only at this; omega)
theorem cw_gen {t j k : Nat} {v : Int32} {i' x' : Nat → Nat → Int32} (ht : t < 32) (h : ∀ t' j' k', cI n i' x' t' j' k' = if t' = t ∧ j' = j ∧ k' = k then v else cI n i x t' j' k') (hR : ∀ j, i' 131 j = i 131 j ∧ i' 136 j = i 136 j) :
    zwi (cmm n i x lm y ol od) (32 * j + t) k v = cmm n i' x' lm y ol od := by
  unfold zwi cmm
  refine Prod.ext rfl (Prod.ext rfl (Prod.ext (funext fun p => funext fun q => ?_) (Prod.ext (funext fun p => funext fun q => ?_) rfl)))
  · show cR n i y (p % 32) (p / 32) q = cR n i' y (p % 32) (p / 32) q
    unfold cR
    rw [(hR (p / 32)).1, (hR (p / 32)).2]
  · show (if p = 32 * j + t ∧ q = k then v else cI n i x (p % 32) (p / 32) q) = cI n i' x' (p % 32) (p / 32) q
    rw [h]
    by_cases hp : p = 32 * j + t ∧ q = k
    · rw [if_pos hp, if_pos ⟨((cdm_iff ht).mp hp.1).1, ((cdm_iff ht).mp hp.1).2, hp.2⟩]
    · rw [if_neg hp, if_neg (fun e => hp ⟨(cdm_iff ht).mpr ⟨e.1, e.2.1⟩, e.2.2⟩)]
theorem cw_c0 {c' : Nat} {t' j' k' t j k : Nat} {v : Int32} {i' x' : Nat → Nat → Int32} (hr : t ≠ 6 ∧ t ≠ 7 ∧ t ≠ 9) (h6 : ∀ k, x' 1 k = x 1 k ∧ x' 2 k = x 2 k ∧ ∀ j, x' (10 + j) k = x (10 + j) k)
    (h0 : t' ≠ 6 → t' ≠ 7 → t' ≠ 9 → cI0 n i' x' (cTc t' k') j' = if t' = t ∧ j' = j ∧ k' = k then v else cI0 n i x (cTc t' k') j') : cI n i' x' t' j' k' = if t' = t ∧ j' = j ∧ k' = k then v else cI n i x t' j' k' := by
  unfold cI
  by_cases a6 : t' = 6
  · rw [if_pos a6, if_pos a6, (h6 k').1, if_neg (show ¬ (t' = t ∧ j' = j ∧ k' = k) from fun e => hr.1 (e.1.symm.trans a6))]
  · rw [if_neg a6, if_neg a6]
    by_cases a7 : t' = 7
    · rw [if_pos a7, if_pos a7, (h6 k').2.1, if_neg (show ¬ (t' = t ∧ j' = j ∧ k' = k) from fun e => hr.2.1 (e.1.symm.trans a7))]
    · rw [if_neg a7, if_neg a7]
      by_cases a9 : t' = 9
      · rw [if_pos a9, if_pos a9, (h6 k').2.2, if_neg (fun e => hr.2.2 (e.1.symm.trans a9))]
      · rw [if_neg a9, if_neg a9]
        exact h0 a6 a7 a9
theorem cw_tk {t k c t' k' : Nat} (hu : ∀ q ∈ cTl, q.2.2 = c → q.1 = t ∧ q.2.1 = k) (hc : c ≠ 0) (h : cTc t' k' = c) : t' = t ∧ k' = k := hu _ (cTc_mem h hc) rfl
/-- a field that has a row of its own among the model's ints -/
theorem cw_i (t k f : Nat) {j : Nat} {v : Int32} (ht : t < 32 := by decide) (hr : t ≠ 6 ∧ t ≠ 7 ∧ t ≠ 9 := by decide) (hc : cTc t k = 1000 + f := by decide +kernel) (hf : f < 1000 ∧ f ≠ 1 ∧ f ≠ 131 ∧ f ≠ 136 := by decide) (hu : ∀ q ∈ cTl, q.2.2 = 1000 + f → q.1 = t ∧ q.2.1 = k := by decide +kernel) :
    zwi (cmm n i x lm y ol od) (32 * j + t) k v = cmm n (zup i f j v) x lm y ol od := by
  refine cw_gen ht (fun t' j' k' => cw_c0 (c' := 0) hr (fun _ => ⟨rfl, rfl, fun _ => rfl⟩) (fun _ _ _ => ?_)) (fun j => ⟨zup_n (by omega), zup_n (by omega)⟩)
  by_cases e : t' = t ∧ j' = j ∧ k' = k
  · obtain ⟨rfl, rfl, rfl⟩ := e
    rw [if_pos ⟨rfl, rfl, rfl⟩, hc]
    unfold cI0
    rw [if_neg (by omega), if_neg (by omega), if_neg (by omega), if_neg (by omega), if_pos (by omega), Nat.add_sub_cancel_left, zup_s]
  · rw [if_neg e]
    unfold cI0
    split
    · rfl
    · split
      · rfl
      · split
        · rfl
        · split
          · split
            · exact zup_n (by omega)
            · rfl
          · split
            · refine zup_n (fun a => ?_)
              have := cw_tk hu (by omega) (show cTc t' k' = 1000 + f by omega)
              exact e ⟨this.1, a.2, this.2⟩
            · rfl
/-- a field that there is one of -/
theorem cw_g (t k f : Nat) {v : Int32} (ht : t < 32 := by decide) (hr : t ≠ 6 ∧ t ≠ 7 ∧ t ≠ 9 := by decide) (hc : cTc t k = 2000 + f := by decide +kernel) (hf : f < 1000 := by decide) (hu : ∀ q ∈ cTl, q.2.2 = 2000 + f → q.1 = t ∧ q.2.1 = k := by decide +kernel) (h1 : ∀ q ∈ cTl, q.2.2 ≠ 1001 := by decide +kernel) :
    zwi (cmm n i x lm y ol od) t k v = cmm n (zup i 1 f v) x lm y ol od := by
  have g := cw_gen (n := n) (i := i) (x := x) (lm := lm) (y := y) (ol := ol) (od := od) (t := t) (j := 0) (k := k) (v := v) (i' := zup i 1 f v) (x' := x) ht (fun t' j' k' => cw_c0 (c' := 0) hr (fun _ => ⟨rfl, rfl, fun _ => rfl⟩) (fun _ _ _ => ?_)) (fun j => ⟨zup_n (by omega), zup_n (by omega)⟩)
  · rw [Nat.mul_zero, Nat.zero_add] at g
    exact g
  by_cases e : t' = t ∧ j' = 0 ∧ k' = k
  · obtain ⟨rfl, rfl, rfl⟩ := e
    rw [if_pos ⟨rfl, rfl, rfl⟩, hc]
    unfold cI0
    rw [if_neg (by omega), if_neg (by omega), if_neg (by omega), if_pos (by omega), if_pos rfl, Nat.add_sub_cancel_left, zup_s]
  · rw [if_neg e]
    unfold cI0
    split
    · rfl
    · split
      · rfl
      · split
        · rfl
        · split
          · split
            · rename_i a0
              refine zup_n (fun a => ?_)
              have := cw_tk hu (by omega) (show cTc t' k' = 2000 + f by omega)
              exact e ⟨this.1, a0, this.2⟩
            · rfl
          · split
            · refine zup_n (fun a => ?_)
              exact h1 _ (cTc_mem (t := t') (k := k') rfl (by omega)) (by simp only; omega)
            · rfl
/-- a field that the model has not -/
theorem cw_x (t k f : Nat) {j : Nat} {v : Int32} (ht : t < 32 := by decide) (hr : t ≠ 6 ∧ t ≠ 7 ∧ t ≠ 9 := by decide) (hc : cTc t k = 3000 + f := by decide +kernel) (hf : f < 10 ∧ f ≠ 1 ∧ f ≠ 2 := by decide) (hu : ∀ q ∈ cTl, q.2.2 = 3000 + f → q.1 = t ∧ q.2.1 = k := by decide +kernel) :
    zwi (cmm n i x lm y ol od) (32 * j + t) k v = cmm n i (zup x f j v) lm y ol od := by
  refine cw_gen ht (fun t' j' k' => cw_c0 (c' := 0) hr (fun _ => ⟨zup_n (by omega), zup_n (by omega), fun _ => zup_n (by omega)⟩) (fun _ _ _ => ?_)) (fun j => ⟨rfl, rfl⟩)
  by_cases e : t' = t ∧ j' = j ∧ k' = k
  · obtain ⟨rfl, rfl, rfl⟩ := e
    rw [if_pos ⟨rfl, rfl, rfl⟩, hc]
    unfold cI0
    rw [if_neg (by omega), if_neg (by omega), if_pos (by omega), Nat.add_sub_cancel_left, zup_s]
  · rw [if_neg e]
    unfold cI0
    split
    · rfl
    · split
      · rfl
      · split
        · refine zup_n (fun a => ?_)
          have := cw_tk hu (by omega) (show cTc t' k' = 3000 + f by omega)
          exact e ⟨this.1, a.2, this.2⟩
        · rfl
theorem cI_rows {i : Nat → Nat → Int32} {x x' : Nat → Nat → Int32} {t' j' k' : Nat} (h : ∀ f j, f < 10 → f ≠ 1 → f ≠ 2 → x' f j = x f j) (h9 : ∀ q ∈ cTl, q.2.2 < 3010 ∧ q.2.2 ≠ 3001 ∧ q.2.2 ≠ 3002 := by decide +kernel) : cI0 n i x' (cTc t' k') j' = cI0 n i x (cTc t' k') j' := by
  unfold cI0
  split
  · rfl
  · split
    · rfl
    · split
      · have := h9 _ (cTc_mem (t := t') (k := k') rfl (by omega))
        simp only at this
        exact h _ _ (by omega) (by omega) (by omega)
      · rfl
theorem cw_9 {j k : Nat} {v : Int32} : zwi (cmm n i x lm y ol od) (32 * j + 9) k v = cmm n i (zup x (10 + j) k v) lm y ol od := by
  refine cw_gen (by decide) (fun t' j' k' => ?_) (fun j => ⟨rfl, rfl⟩)
  unfold cI
  by_cases a6 : t' = 6
  · rw [if_pos a6, if_pos a6, zup_n (by omega), if_neg (show ¬ (t' = 9 ∧ j' = j ∧ k' = k) by omega)]
  · rw [if_neg a6, if_neg a6]
    by_cases a7 : t' = 7
    · rw [if_pos a7, if_pos a7, zup_n (by omega), if_neg (show ¬ (t' = 9 ∧ j' = j ∧ k' = k) by omega)]
    · rw [if_neg a7, if_neg a7]
      by_cases a9 : t' = 9
      · rw [if_pos a9, if_pos a9]
        by_cases e : j' = j ∧ k' = k
        · rw [e.1, e.2, zup_s, if_pos ⟨a9, rfl, rfl⟩]
        · rw [zup_n (by omega), if_neg (show ¬ (t' = 9 ∧ j' = j ∧ k' = k) by omega)]
      · rw [if_neg a9, if_neg a9, if_neg (show ¬ (t' = 9 ∧ j' = j ∧ k' = k) by omega)]
        exact cI_rows (fun f j h1 h2 h3 => zup_n (by omega))
theorem cw_6 {k : Nat} {v : Int32} : zwi (cmm n i x lm y ol od) 6 k v = cmm n i (zup x 1 k v) lm y ol od := by
  refine cw_gen (j := 0) (t := 6) (by decide) (fun t' j' k' => ?_) (fun j => ⟨rfl, rfl⟩)
  unfold cI
  by_cases a6 : t' = 6
  · rw [if_pos a6, if_pos a6]
    by_cases e : j' = 0
    · rw [if_pos e, if_pos e]
      by_cases ek : k' = k
      · rw [ek, zup_s, if_pos ⟨a6, e, rfl⟩]
      · rw [zup_n (by omega), if_neg (show ¬ (t' = 6 ∧ j' = 0 ∧ k' = k) by omega)]
    · rw [if_neg e, if_neg e, if_neg (show ¬ (t' = 6 ∧ j' = 0 ∧ k' = k) by omega)]
  · rw [if_neg a6, if_neg a6, if_neg (show ¬ (t' = 6 ∧ j' = 0 ∧ k' = k) by omega)]
    by_cases a7 : t' = 7
    · rw [if_pos a7, if_pos a7, show zup x 1 k v 2 k' = x 2 k' from zup_n (by omega)]
    · rw [if_neg a7, if_neg a7]
      by_cases a9 : t' = 9
      · rw [if_pos a9, if_pos a9, show zup x 1 k v (10 + j') k' = x (10 + j') k' from zup_n (by omega)]
      · rw [if_neg a9, if_neg a9]
        exact cI_rows (fun f j h1 h2 h3 => zup_n (by omega))
theorem cw_7 {k : Nat} {v : Int32} : zwi (cmm n i x lm y ol od) 7 k v = cmm n i (zup x 2 k v) lm y ol od := by
  refine cw_gen (j := 0) (t := 7) (by decide) (fun t' j' k' => ?_) (fun j => ⟨rfl, rfl⟩)
  unfold cI
  by_cases a6 : t' = 6
  · rw [if_pos a6, if_pos a6, show zup x 2 k v 1 k' = x 1 k' from zup_n (by omega), if_neg (show ¬ (t' = 7 ∧ j' = 0 ∧ k' = k) by omega)]
  · rw [if_neg a6, if_neg a6]
    by_cases a7 : t' = 7
    · rw [if_pos a7, if_pos a7]
      by_cases e : j' = 0
      · rw [if_pos e, if_pos e]
        by_cases ek : k' = k
        · rw [ek, zup_s, if_pos ⟨a7, e, rfl⟩]
        · rw [zup_n (by omega), if_neg (show ¬ (t' = 7 ∧ j' = 0 ∧ k' = k) by omega)]
      · rw [if_neg e, if_neg e, if_neg (show ¬ (t' = 7 ∧ j' = 0 ∧ k' = k) by omega)]
    · rw [if_neg a7, if_neg a7, if_neg (show ¬ (t' = 7 ∧ j' = 0 ∧ k' = k) by omega)]
      by_cases a9 : t' = 9
      · rw [if_pos a9, if_pos a9, show zup x 2 k v (10 + j') k' = x (10 + j') k' from zup_n (by omega)]
      · rw [if_neg a9, if_neg a9]
        exact cI_rows (fun f j h1 h2 h3 => zup_n (by omega))
theorem cw_L {v : Int64} : zwl (cmm n i x lm y ol od) 5 4 v = cmm n i x (zup lm 1 26 v) y ol od := by
  unfold zwl cmm
  refine Prod.ext rfl (Prod.ext rfl (Prod.ext rfl (Prod.ext rfl (Prod.ext (funext fun p => funext fun q => ?_) rfl))))
  show (if p = 5 ∧ q = 4 then v else if p = 14 ∧ q = 0 then ol else if p = 5 ∧ q = 4 then lm 1 26 else 0) = (if p = 14 ∧ q = 0 then ol else if p = 5 ∧ q = 4 then zup lm 1 26 v 1 26 else 0)
  rw [zup_s]
  by_cases h : p = 5 ∧ q = 4
  · rw [if_pos h, if_neg (by omega), if_pos h]
  · rw [if_neg h, if_neg h, if_neg h]
theorem cw_ol {v : Int64} : zwl (cmm n i x lm y ol od) 14 0 v = cmm n i x lm y v od := by
  unfold zwl cmm
  refine Prod.ext rfl (Prod.ext rfl (Prod.ext rfl (Prod.ext rfl (Prod.ext (funext fun p => funext fun q => ?_) rfl))))
  show (if p = 14 ∧ q = 0 then v else if p = 14 ∧ q = 0 then ol else if p = 5 ∧ q = 4 then lm 1 26 else 0) = (if p = 14 ∧ q = 0 then v else if p = 5 ∧ q = 4 then lm 1 26 else 0)
  by_cases h : p = 14 ∧ q = 0
  · rw [if_pos h, if_pos h]
  · rw [if_neg h, if_neg h, if_neg h]
theorem cw_od {v : UInt64} : zwd (cmm n i x lm y ol od) 15 0 v = cmm n i x lm y ol v := by
  unfold zwd cmm
  refine Prod.ext rfl (Prod.ext rfl (Prod.ext rfl (Prod.ext rfl (Prod.ext rfl (funext fun p => funext fun q => ?_)))))
  show (if p = 15 ∧ q = 0 then v else if p = 15 ∧ q = 0 then od else 0) = (if p = 15 ∧ q = 0 then v else 0)
  by_cases h : p = 15 ∧ q = 0
  · rw [if_pos h, if_pos h]
  · rw [if_neg h, if_neg h, if_neg h]
theorem cw_y {p s : Nat} : zwr (cmm n i x lm y ol od) (32 * p + 11) 2 (some (32 * s + 12)) = cmm n i x lm (zup y 0 p s) ol od := by
  unfold zwr cmm
  refine Prod.ext rfl (Prod.ext rfl (Prod.ext (funext fun a => funext fun b => ?_) rfl))
  show (if a = 32 * p + 11 ∧ b = 2 then some (32 * s + 12) else cR n i y (a % 32) (a / 32) b) = cR n i (zup y 0 p s) (a % 32) (a / 32) b
  by_cases h : a = 32 * p + 11 ∧ b = 2
  · obtain ⟨rfl, rfl⟩ := h
    rw [if_pos ⟨rfl, rfl⟩, (cdm p (by decide)).1, (cdm p (by decide)).2]
    show _ = some (32 * zup y 0 p s 0 p + 12)
    rw [zup_s]
  · rw [if_neg h]
    have h1 : ∀ j, zup y 0 p s 1 j = y 1 j := fun j => zup_n (by omega)
    have h2 : ∀ j, zup y 0 p s 2 j = y 2 j := fun j => zup_n (by omega)
    by_cases ht : a % 32 = 11
    · rw [ht]
      show (if b = 1 then some (32 * cl (i 131 (a / 32)) + 10) else if b = 2 then some (32 * y 0 (a / 32) + 12) else none) = (if b = 1 then some (32 * cl (i 131 (a / 32)) + 10) else if b = 2 then some (32 * zup y 0 p s 0 (a / 32) + 12) else none)
      by_cases hb : b = 2
      · rw [zup_n (by omega)]
      · rw [if_neg hb, if_neg hb]
    · unfold cR
      split <;> first | rfl | omega | simp only [h1, h2]
end CMM
section CRD
variable {n : Nat → Nat} {i x : Nat → Nat → Int32} {lm : Nat → Nat → Int64} {y : Nat → Nat → Nat} {ol : Int64} {od : UInt64}
theorem ci_1_6 : zi (cmm n i x lm y ol od) 1 6 = i 1 0 := rfl
theorem ci_1_7 : zi (cmm n i x lm y ol od) 1 7 = i 1 1 := rfl
theorem ci_2_0 {j : Nat} : zi (cmm n i x lm y ol od) (32 * j + 2) 0 = nI (n (5 + j)) := by rw [c_i (by decide)]; rfl
theorem ci_2_2 {j : Nat} : zi (cmm n i x lm y ol od) (32 * j + 2) 2 = nI (n (5 + j)) := by rw [c_i (by decide)]; rfl
theorem ci_4_0 : zi (cmm n i x lm y ol od) 4 0 = i 1 18 := rfl
theorem ci_4_1 : zi (cmm n i x lm y ol od) 4 1 = i 1 19 := rfl
theorem ci_4_2 : zi (cmm n i x lm y ol od) 4 2 = x 7 0 := rfl
theorem ci_4_3 : zi (cmm n i x lm y ol od) 4 3 = i 1 21 := rfl
theorem ci_4_4 : zi (cmm n i x lm y ol od) 4 4 = i 1 22 := rfl
theorem ci_4_5 : zi (cmm n i x lm y ol od) 4 5 = i 1 23 := rfl
theorem ci_5_2 : zi (cmm n i x lm y ol od) 5 2 = i 1 24 := rfl
theorem ci_5_3 : zi (cmm n i x lm y ol od) 5 3 = i 1 25 := rfl
theorem ci_8_0 {j : Nat} : zi (cmm n i x lm y ol od) (32 * j + 8) 0 = nI j := by rw [c_i (by decide)]; rfl
theorem ci_8_1 {j : Nat} : zi (cmm n i x lm y ol od) (32 * j + 8) 1 = i 102 j := by rw [c_i (by decide)]; rfl
theorem ci_8_2 {j : Nat} : zi (cmm n i x lm y ol od) (32 * j + 8) 2 = i 103 j := by rw [c_i (by decide)]; rfl
theorem ci_8_3 {j : Nat} : zi (cmm n i x lm y ol od) (32 * j + 8) 3 = i 104 j := by rw [c_i (by decide)]; rfl
theorem ci_8_5 {j : Nat} : zi (cmm n i x lm y ol od) (32 * j + 8) 5 = i 105 j := by rw [c_i (by decide)]; rfl
theorem ci_8_6 {j : Nat} : zi (cmm n i x lm y ol od) (32 * j + 8) 6 = i 106 j := by rw [c_i (by decide)]; rfl
theorem ci_8_7 {j : Nat} : zi (cmm n i x lm y ol od) (32 * j + 8) 7 = i 109 j := by rw [c_i (by decide)]; rfl
theorem ci_8_8 {j : Nat} : zi (cmm n i x lm y ol od) (32 * j + 8) 8 = i 107 j := by rw [c_i (by decide)]; rfl
theorem ci_8_9 {j : Nat} : zi (cmm n i x lm y ol od) (32 * j + 8) 9 = i 108 j := by rw [c_i (by decide)]; rfl
theorem ci_8_10 {j : Nat} : zi (cmm n i x lm y ol od) (32 * j + 8) 10 = i 110 j := by rw [c_i (by decide)]; rfl
theorem ci_8_11 {j : Nat} : zi (cmm n i x lm y ol od) (32 * j + 8) 11 = i 111 j := by rw [c_i (by decide)]; rfl
theorem ci_8_12 {j : Nat} : zi (cmm n i x lm y ol od) (32 * j + 8) 12 = x 0 j := by rw [c_i (by decide)]; rfl
theorem ci_8_13 {j : Nat} : zi (cmm n i x lm y ol od) (32 * j + 8) 13 = i 112 j := by rw [c_i (by decide)]; rfl
theorem ci_8_14 {j : Nat} : zi (cmm n i x lm y ol od) (32 * j + 8) 14 = i 116 j := by rw [c_i (by decide)]; rfl
theorem ci_8_15 {j : Nat} : zi (cmm n i x lm y ol od) (32 * j + 8) 15 = x 6 j := by rw [c_i (by decide)]; rfl
theorem ci_8_16 {j : Nat} : zi (cmm n i x lm y ol od) (32 * j + 8) 16 = x 5 j := by rw [c_i (by decide)]; rfl
theorem ci_10_0 {j : Nat} : zi (cmm n i x lm y ol od) (32 * j + 10) 0 = i 127 j := by rw [c_i (by decide)]; rfl
theorem ci_10_1 {j : Nat} : zi (cmm n i x lm y ol od) (32 * j + 10) 1 = i 128 j := by rw [c_i (by decide)]; rfl
theorem ci_10_2 {j : Nat} : zi (cmm n i x lm y ol od) (32 * j + 10) 2 = i 129 j := by rw [c_i (by decide)]; rfl
theorem ci_11_0 {j : Nat} : zi (cmm n i x lm y ol od) (32 * j + 11) 0 = nI j := by rw [c_i (by decide)]; rfl
theorem ci_11_3 {j : Nat} : zi (cmm n i x lm y ol od) (32 * j + 11) 3 = i 134 j := by rw [c_i (by decide)]; rfl
theorem ci_11_4 {j : Nat} : zi (cmm n i x lm y ol od) (32 * j + 11) 4 = x 3 j := by rw [c_i (by decide)]; rfl
theorem ci_11_5 {j : Nat} : zi (cmm n i x lm y ol od) (32 * j + 11) 5 = i 133 j := by rw [c_i (by decide)]; rfl
theorem ci_12_1 {j : Nat} : zi (cmm n i x lm y ol od) (32 * j + 12) 1 = x 4 j := by rw [c_i (by decide)]; rfl
theorem ci_13_1 {j : Nat} : zi (cmm n i x lm y ol od) (32 * j + 13) 1 = i 137 j := by rw [c_i (by decide)]; rfl
theorem ci_13_2 {j : Nat} : zi (cmm n i x lm y ol od) (32 * j + 13) 2 = i 138 j := by rw [c_i (by decide)]; rfl
theorem ci_13_3 {j : Nat} : zi (cmm n i x lm y ol od) (32 * j + 13) 3 = i 139 j := by rw [c_i (by decide)]; rfl
theorem ci_13_4 {j : Nat} : zi (cmm n i x lm y ol od) (32 * j + 13) 4 = i 140 j := by rw [c_i (by decide)]; rfl
theorem ci_13_5 {j : Nat} : zi (cmm n i x lm y ol od) (32 * j + 13) 5 = i 141 j := by rw [c_i (by decide)]; rfl
theorem ci_6 {k : Nat} : zi (cmm n i x lm y ol od) 6 k = x 1 k := rfl
theorem ci_7 {k : Nat} : zi (cmm n i x lm y ol od) 7 k = x 2 k := rfl
theorem ci_9 {j k : Nat} : zi (cmm n i x lm y ol od) (32 * j + 9) k = x (10 + j) k := by rw [c_i (by decide)]; rfl
theorem ck_1 : zc (cmm n i x lm y ol od) 1 = 11 := rfl
theorem ck_4 : zc (cmm n i x lm y ol od) 4 = 4 := rfl
theorem ck_5 : zc (cmm n i x lm y ol od) 5 = 6 := rfl
theorem ck_6 : zc (cmm n i x lm y ol od) 6 = 20 := rfl
theorem ck_7 : zc (cmm n i x lm y ol od) 7 = 20 := rfl
theorem ck_31 : zc (cmm n i x lm y ol od) 31 = 26 := rfl
theorem ck_63 : zc (cmm n i x lm y ol od) 63 = 19 := rfl
theorem ck_2 {j : Nat} (h : j < 4) : zc (cmm n i x lm y ol od) (32 * j + 2) = 3 := by rw [c_c (by decide)]; exact if_pos h
theorem ck_8 {j : Nat} (h : j < n 0) : zc (cmm n i x lm y ol od) (32 * j + 8) = 9 := by rw [c_c (by decide)]; exact if_pos h
theorem ck_9 {j : Nat} (h : j < n 0) : zc (cmm n i x lm y ol od) (32 * j + 9) = 20 := by rw [c_c (by decide)]; exact if_pos h
theorem ck_10 {j : Nat} (h : j < n 1) : zc (cmm n i x lm y ol od) (32 * j + 10) = 5 := by rw [c_c (by decide)]; exact if_pos h
theorem ck_11 {j : Nat} (h : j < n 2) : zc (cmm n i x lm y ol od) (32 * j + 11) = 8 := by rw [c_c (by decide)]; exact if_pos h
theorem ck_12 {j : Nat} (h : j < n 4) : zc (cmm n i x lm y ol od) (32 * j + 12) = 10 := by rw [c_c (by decide)]; exact if_pos h
theorem ck_13 {j : Nat} (h : j < n 3) : zc (cmm n i x lm y ol od) (32 * j + 13) = 7 := by rw [c_c (by decide)]; exact if_pos h
theorem cn_6 : zn (cmm n i x lm y ol od) 6 = 960 := rfl
theorem cn_7 : zn (cmm n i x lm y ol od) 7 = 960 := rfl
theorem cn_9 {j : Nat} : zn (cmm n i x lm y ol od) (32 * j + 9) = 960 := by rw [c_n (by decide)]; rfl
theorem cr_1_0 : zr (cmm n i x lm y ol od) 1 0 = some 2 := rfl
theorem cr_1_1 : zr (cmm n i x lm y ol od) 1 1 = some 34 := rfl
theorem cr_1_2 : zr (cmm n i x lm y ol od) 1 2 = some 66 := rfl
theorem cr_1_3 : zr (cmm n i x lm y ol od) 1 3 = some 98 := rfl
theorem cr_1_4 : zr (cmm n i x lm y ol od) 1 4 = some 4 := rfl
theorem cr_1_5 : zr (cmm n i x lm y ol od) 1 5 = some 5 := rfl
theorem cr_5_0 : zr (cmm n i x lm y ol od) 5 0 = some 6 := rfl
theorem cr_5_1 : zr (cmm n i x lm y ol od) 5 1 = some 7 := rfl
theorem cr_2_1 {j : Nat} : zr (cmm n i x lm y ol od) (32 * j + 2) 1 = some (cRow n j) := by rw [c_r (by decide)]; rfl
theorem cr_8_4 {j : Nat} : zr (cmm n i x lm y ol od) (32 * j + 8) 4 = some (32 * j + 9) := by rw [c_r (by decide)]; rfl
theorem cr_11_1 {j : Nat} : zr (cmm n i x lm y ol od) (32 * j + 11) 1 = some (32 * cl (i 131 j) + 10) := by rw [c_r (by decide)]; rfl
theorem cr_11_2 {j : Nat} : zr (cmm n i x lm y ol od) (32 * j + 11) 2 = some (32 * y 0 j + 12) := by rw [c_r (by decide)]; rfl
theorem cr_12_0 {j : Nat} : zr (cmm n i x lm y ol od) (32 * j + 12) 0 = some (32 * y 1 j + 8) := by rw [c_r (by decide)]; rfl
theorem cr_13_0 {j : Nat} : zr (cmm n i x lm y ol od) (32 * j + 13) 0 = some (32 * cl (i 136 j) + 10) := by rw [c_r (by decide)]; rfl
theorem cr_12_2 {j : Nat} (h : ¬ y 2 j = 0) : zr (cmm n i x lm y ol od) (32 * j + 12) 2 = some (32 * (y 2 j - 1) + 12) := by rw [c_r (by decide)]; exact if_neg h
theorem cr_12_2n {j : Nat} (h : y 2 j = 0) : zr (cmm n i x lm y ol od) (32 * j + 12) 2 = none := by rw [c_r (by decide)]; exact if_pos h
theorem cl_5_4 : zl (cmm n i x lm y ol od) 5 4 = lm 1 26 := rfl
theorem cl_14 : zl (cmm n i x lm y ol od) 14 0 = ol := rfl
theorem cd_15 : zd (cmm n i x lm y ol od) 15 0 = od := rfl
end CRD
/-- two memories that are alike where there is something -/
def zq (M M' : zMem) : Prop := zc M = zc M' ∧ ∀ o, zc M o ≠ 0 → zn M o = zn M' o ∧ ∀ k, zr M o k = zr M' o k ∧ zi M o k = zi M' o k ∧ zl M o k = zl M' o k ∧ zd M o k = zd M' o k
theorem zq.at {D : zG} {ad : Nat → Nat} {M M' : zMem} {H : Heap} {o : Nat} (h : zq M M') (ho : zc M o ≠ 0) (hr : zat D ad M o H) : zat D ad M' o H := by
  obtain ⟨h1, h2⟩ := h
  obtain ⟨h3, h4⟩ := h2 o ho
  have hv : ∀ (ty : FieldType) (k : Nat), zmv ad M' ty o k = zmv ad M ty o k := fun ty k => by
    unfold zmv
    rw [(h4 k).1, (h4 k).2.1, (h4 k).2.2.1, (h4 k).2.2.2]
  unfold zat
  rw [← h1, ← h3]
  refine ⟨fun ci q a b => ?_, fun t a b => ?_⟩
  · have := hr.1 ci q a b
    rw [show (fun k => zmv ad M' (zct ci k) o k) = fun k => zmv ad M (zct ci k) o k from funext fun k => hv _ _]
    exact this
  · have := hr.2 t a b
    rw [show (fun j => zmv ad M' (zaty t) o j) = fun j => zmv ad M (zaty t) o j from funext fun k => hv _ _]
    exact this
theorem zq.rel {D : zG} {ad : Nat → Nat} {M M' : zMem} {H : Heap} (h : zq M M') (hr : zrel D ad M H) : zrel D ad M' H := by
  obtain ⟨a, b, c, d⟩ := hr
  unfold zrel
  rw [← h.1]
  exact ⟨a, b, fun o ho => h.at ho (c o ho), fun o k o' ho e => d o k o' ho (by rw [((h.2 o ho).2 k).1]; exact e)⟩
theorem zq.symm {M M' : zMem} (h : zq M M') : zq M' M := by
  obtain ⟨h1, h2⟩ := h
  exact ⟨h1.symm, fun o ho => by
    obtain ⟨a, b⟩ := h2 o (by rw [h1]; exact ho)
    exact ⟨a.symm, fun k => ⟨(b k).1.symm, (b k).2.1.symm, (b k).2.2.1.symm, (b k).2.2.2.symm⟩⟩⟩
section
variable {g : zCtx} {nL pc k n : Nat} {ls : List (Nat × Value)} {st : List Value} {M : zMem}
theorem z_memq {M' : zMem} (h : zq M M') (kk : zE g nL pc ls st M' k n) : zE g nL pc ls st M k n := by
  obtain ⟨p, l, e, R, s, m, args, below, meth, c, D, ad0, M0, Q⟩ := g
  intro ad H locs lss hr hz hS hl hL hT
  have e1 := h.1
  refine kk ad H locs lss (h.rel hr) ?_ hS hl ?_ ?_
  · unfold zx; rw [← e1]; exact hz
  · intro q hq w hw; rw [← e1]; exact hL q hq w hw
  · intro q hq w hw; rw [← e1]; exact hT q hq w hw
end
