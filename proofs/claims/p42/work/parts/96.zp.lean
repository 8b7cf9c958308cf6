/-! PART 96p: the law's memory: the class's, and the row of promises -/
/-- the row of the promises, name 0 (16 in the law's memory); the texts, names 1 and 2 (48 and 80) -/
def pM (pr : Nat → Int32) : zMem := (fun o => if o = 0 then 20 else if o = 1 ∨ o = 2 then 19 else 0, fun o => if o = 0 then 12 else 0, fun _ _ => none, fun o k => if o = 0 then pr k else 0, fun _ _ => 0, fun _ _ => 0)
section ZPM
variable {n : Nat → Nat} {i x : Nat → Nat → Int32} {lm : Nat → Nat → Int64} {y : Nat → Nat → Nat} {ol : Int64} {od : UInt64} {C M : zMem} {pr : Nat → Int32} {t : Nat}
theorem zp1 : zc (zmg (cmm n i x lm y ol od) M) 1 = 10 + 1 := (zg_C (by decide)).1.trans ck_1
theorem zp16k : zc (zmg C (pM pr)) 16 = 20 := rfl
theorem zp16n : zn (zmg C (pM pr)) 16 = 12 := rfl
theorem zp16i {k : Nat} : zi (zmg C (pM pr)) 16 k = pr k := rfl
theorem zp16w {k : Nat} {v : Int32} : zwi (zmg C (pM pr)) 16 k v = zmg C (pM (fun q => if q = k then v else pr q)) := by
  unfold zwi zmg
  refine Prod.ext rfl (Prod.ext rfl (Prod.ext rfl (Prod.ext (funext fun p => funext fun q => ?_) rfl)))
  show (if p = 16 ∧ q = k then v else if p % 32 = 16 then (if p / 32 = 0 then pr q else 0) else if p = 17 then 0 else zi C p q) = (if p % 32 = 16 then (if p / 32 = 0 then (if q = k then v else pr q) else 0) else if p = 17 then 0 else zi C p q)
  by_cases c : p = 16
  · subst c
    by_cases d : q = k
    · rw [if_pos ⟨rfl, d⟩, if_pos (by decide), if_pos (by decide), if_pos d]
    · rw [if_neg (fun e => d e.2), if_pos (by decide), if_pos (by decide), if_pos (by decide), if_pos (by decide), if_neg d]
  · rw [if_neg (fun e => c e.1)]
    by_cases d : p % 32 = 16
    · rw [if_pos d, if_pos d, if_neg (by omega), if_neg (by omega)]
    · rw [if_neg d, if_neg d]
theorem zcmp0 (x : Int64) : lg_cmp x x = 0 := by
  unfold lg_cmp
  rw [if_neg (show ¬ x > x from fun e => Int64.lt_irrefl e), if_pos rfl]
theorem CI_con (h : CI n i x lm y t) : ∀ j, j < n 5 → i 105 j ≤ i 106 j ∧ -400 ≤ i 110 j ∧ i 116 j ≤ nI t ∧ ¬ 8 - m_filled i (nI j) (n 7) < 0 := fun j hj => by
  obtain ⟨-, r2, -, r4, ⟨c, c1, c2, -⟩, -, -⟩ := h.2.2.2.1.1 j hj
  have h9 := h.2.1.2.1
  refine ⟨r2, Int32.not_lt.mp r4.1, ?_, ?_⟩
  · rw [c2]; exact nI_le c1 (by omega)
  · have hf := h.2.2.2.2.2.2.2.2.2.2 j hj
    rw [m_filled_N]
    have : ∀ f : Fin 9, ¬ 8 - nI f.val < 0 := by decide +kernel
    exact this ⟨flN i j (n 7), by omega⟩
end ZPM
