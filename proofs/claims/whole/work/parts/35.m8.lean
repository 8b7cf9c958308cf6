/-! PART 35: a memory of lists, for constructors -/
def zlk (A : List (Nat × Nat × Nat)) (o : Nat) : Nat × Nat := match A.find? (fun q => q.1 == o) with
  | some q => q.2
  | none => (0, 0)
def zlr {α : Type} (R : List (Nat × Nat × α)) (o k : Nat) : Option α := (R.find? (fun q => q.1 == o && q.2.1 == k)).map (fun q => q.2.2)
def zmk (A : List (Nat × Nat × Nat)) (R : List (Nat × Nat × Nat)) (I : List (Nat × Nat × Int32)) : zMem :=
  (fun o => (zlk A o).1, fun o => (zlk A o).2, fun o k => zlr R o k, fun o k => (zlr I o k).getD 0, fun _ _ => 0, fun _ _ => 0)
theorem zlr_no {α : Type} {R : List (Nat × Nat × α)} {o : Nat} (h : ∀ q ∈ R, q.1 ≠ o) (k : Nat) : zlr R o k = none := by
  unfold zlr
  rw [List.find?_eq_none.mpr (fun q hq e => h q hq (by
    have := (Bool.and_eq_true _ _ ▸ e : (q.1 == o) = true ∧ (q.2.1 == k) = true).1
    exact eq_of_beq this))]
  rfl
theorem zlk_c {A : List (Nat × Nat × Nat)} {o p t n : Nat} : zlk ((o, t, n) :: A) p = if p = o then (t, n) else zlk A p := by
  by_cases h : p = o
  · subst h
    rw [if_pos rfl]
    unfold zlk
    rw [List.find?_cons_of_pos (by exact beq_self_eq_true p)]
  · rw [if_neg h]
    unfold zlk
    rw [List.find?_cons_of_neg (by
      show ¬ (o == p) = true
      rw [beq_iff_eq]
      exact fun e => h e.symm)]
theorem zlr_c {α : Type} {R : List (Nat × Nat × α)} {o k p q : Nat} {x : α} : zlr ((o, k, x) :: R) p q = if p = o ∧ q = k then some x else zlr R p q := by
  by_cases h : p = o ∧ q = k
  · obtain ⟨rfl, rfl⟩ := h
    rw [if_pos ⟨rfl, rfl⟩]
    unfold zlr
    rw [List.find?_cons_of_pos (by show (p == p && q == q) = true; rw [beq_self_eq_true, beq_self_eq_true]; rfl)]
    rfl
  · rw [if_neg h]
    unfold zlr
    rw [List.find?_cons_of_neg (by
      show ¬ (o == p && k == q) = true
      rw [Bool.and_eq_true, beq_iff_eq, beq_iff_eq]
      exact fun e => h ⟨e.1.symm, e.2.symm⟩)]
theorem zmk_new {A R I} {o t n : Nat} (hR : ∀ q ∈ R, q.1 ≠ o) (hI : ∀ q ∈ I, q.1 ≠ o) : znew (zmk A R I) o t n = zmk ((o, t, n) :: A) R I := by
  unfold znew zmk
  refine Prod.ext (funext fun p => ?_) (Prod.ext (funext fun p => ?_) (Prod.ext (funext fun p => funext fun q => ?_) (Prod.ext (funext fun p => funext fun q => ?_) (Prod.ext (funext fun p => funext fun q => ?_) (funext fun p => funext fun q => ?_)))))
  · show (if p = o then t else (zlk A p).1) = (zlk ((o, t, n) :: A) p).1
    rw [zlk_c]; split <;> rfl
  · show (if p = o then n else (zlk A p).2) = (zlk ((o, t, n) :: A) p).2
    rw [zlk_c]; split <;> rfl
  · show (if p = o then none else zlr R p q) = zlr R p q
    split
    · next h => rw [h, zlr_no hR]
    · rfl
  · show (if p = o then (0 : Int32) else (zlr I p q).getD 0) = (zlr I p q).getD 0
    split
    · next h => rw [h, zlr_no hI]; rfl
    · rfl
  · exact ite_self _
  · exact ite_self _
theorem zmk_r {A R I} {o k x : Nat} : zwr (zmk A R I) o k (some x) = zmk A ((o, k, x) :: R) I := by
  unfold zwr zmk
  refine Prod.ext rfl (Prod.ext rfl (Prod.ext (funext fun p => funext fun q => ?_) rfl))
  show (if p = o ∧ q = k then some x else zlr R p q) = zlr ((o, k, x) :: R) p q
  rw [zlr_c]
theorem zmk_i {A R I} {o k : Nat} {x : Int32} : zwi (zmk A R I) o k x = zmk A R ((o, k, x) :: I) := by
  unfold zwi zmk
  refine Prod.ext rfl (Prod.ext rfl (Prod.ext rfl (Prod.ext (funext fun p => funext fun q => ?_) rfl)))
  show (if p = o ∧ q = k then x else (zlr I p q).getD 0) = (zlr ((o, k, x) :: I) p q).getD 0
  rw [zlr_c]; split <;> rfl
theorem zlk_no {A : List (Nat × Nat × Nat)} {b : Nat} (h : ∀ q ∈ A, q.1 < b) {o : Nat} (ho : b ≤ o) : zlk A o = (0, 0) := by
  unfold zlk
  rw [List.find?_eq_none.mpr (fun q hq e => Nat.lt_irrefl o (Nat.lt_of_lt_of_le (by rw [← eq_of_beq e]; exact h q hq) ho))]
def m_i0 : Nat → Nat → Int32 := fun o k => (zlr [(1, 23, 400), (1, 21, (-1)), (1, 20, (-1)), (1, 19, 10), (1, 18, 10), (1, 1, 250)] o k).getD 0
theorem zmC_big {o : Nat} (ho : 142 ≤ o) : zmC o = 0 := by
  have h := zlk_no (A := zmKs) (b := 142) (by decide +kernel) ho
  unfold zlk at h
  unfold zmC
  rw [if_neg (by omega)]
  revert h
  generalize zmKs.find? (fun q => q.1 == o) = w
  cases w with
  | none => exact fun _ => rfl
  | some q => exact fun h => congrArg Prod.fst h
theorem zmN_big {o : Nat} (ho : 142 ≤ o) : zmN o = 0 := by
  have h := zlk_no (A := zmKs) (b := 142) (by decide +kernel) ho
  unfold zlk at h
  unfold zmN
  revert h
  generalize zmKs.find? (fun q => q.1 == o) = w
  cases w with
  | none => exact fun _ => rfl
  | some q => exact fun h => congrArg Prod.snd h
theorem m_init_mem : zmk [(141, 20, 12), (140, 23, 12), (139, 20, 12), (138, 20, 12), (137, 20, 12), (136, 20, 12), (134, 23, 24), (133, 20, 24), (132, 20, 24), (131, 20, 24), (129, 20, 5), (128, 20, 5), (127, 20, 5), (116, 20, 4), (115, 21, 4), (114, 20, 4), (113, 22, 4), (112, 22, 4), (111, 22, 4), (110, 20, 4), (109, 23, 4), (108, 20, 4), (107, 20, 4), (106, 20, 4), (105, 20, 4), (104, 20, 4), (103, 20, 4), (102, 20, 4), (1, 12, 0)] [(1, 41, 141), (1, 40, 140), (1, 39, 139), (1, 38, 138), (1, 37, 137), (1, 36, 136), (1, 34, 134), (1, 33, 133), (1, 32, 132), (1, 31, 131), (1, 29, 129), (1, 28, 128), (1, 27, 127), (1, 16, 116), (1, 15, 115), (1, 14, 114), (1, 13, 113), (1, 12, 112), (1, 11, 111), (1, 10, 110), (1, 9, 109), (1, 8, 108), (1, 7, 107), (1, 6, 106), (1, 5, 105), (1, 4, 104), (1, 3, 103), (1, 2, 102)] [(1, 23, 400), (1, 21, (-1)), (1, 20, (-1)), (1, 19, 10), (1, 18, 10), (1, 1, 250)] = zmm m_i0 (fun _ _ => 0) := by
  unfold zmk zmm
  refine Prod.ext (funext fun p => ?_) (Prod.ext (funext fun p => ?_) (Prod.ext (funext fun p => funext fun q => ?_) rfl))
  · show (zlk _ p).1 = zmC p
    rcases Nat.lt_or_ge p 142 with h | h
    · revert p; decide +kernel
    · rw [zmC_big h, zlk_no (b := 142) (by decide +kernel) h]
  · show (zlk _ p).2 = zmN p
    rcases Nat.lt_or_ge p 142 with h | h
    · revert p; decide +kernel
    · rw [zmN_big h, zlk_no (b := 142) (by decide +kernel) h]
  · show zlr _ p q = zmR p q
    unfold zmR
    by_cases hp : p = 1
    · subst hp
      rw [if_pos rfl]
      rcases Nat.lt_or_ge q 42 with h | h
      · revert q; decide +kernel
      · rw [zmC_big (by omega), if_pos rfl]
        unfold zlr
        rw [List.find?_eq_none.mpr ?_]
        · rfl
        · intro w hw e
          have h2 : w.2.1 = q := eq_of_beq (Bool.and_eq_true _ _ ▸ e : (w.1 == 1) = true ∧ (w.2.1 == q) = true).2
          have h3 : ∀ w ∈ [((1, 41, 141) : Nat × Nat × Nat), ((1, 40, 140) : Nat × Nat × Nat), ((1, 39, 139) : Nat × Nat × Nat), ((1, 38, 138) : Nat × Nat × Nat), ((1, 37, 137) : Nat × Nat × Nat), ((1, 36, 136) : Nat × Nat × Nat), ((1, 34, 134) : Nat × Nat × Nat), ((1, 33, 133) : Nat × Nat × Nat), ((1, 32, 132) : Nat × Nat × Nat), ((1, 31, 131) : Nat × Nat × Nat), ((1, 29, 129) : Nat × Nat × Nat), ((1, 28, 128) : Nat × Nat × Nat), ((1, 27, 127) : Nat × Nat × Nat), ((1, 16, 116) : Nat × Nat × Nat), ((1, 15, 115) : Nat × Nat × Nat), ((1, 14, 114) : Nat × Nat × Nat), ((1, 13, 113) : Nat × Nat × Nat), ((1, 12, 112) : Nat × Nat × Nat), ((1, 11, 111) : Nat × Nat × Nat), ((1, 10, 110) : Nat × Nat × Nat), ((1, 9, 109) : Nat × Nat × Nat), ((1, 8, 108) : Nat × Nat × Nat), ((1, 7, 107) : Nat × Nat × Nat), ((1, 6, 106) : Nat × Nat × Nat), ((1, 5, 105) : Nat × Nat × Nat), ((1, 4, 104) : Nat × Nat × Nat), ((1, 3, 103) : Nat × Nat × Nat), ((1, 2, 102) : Nat × Nat × Nat)], w.2.1 < 42 := by decide +kernel
          exact absurd (h3 w hw) (by omega)
    · rw [if_neg hp]
      exact zlr_no (fun w hw e => hp (e.symm.trans ((by decide +kernel : ∀ w ∈ [((1, 41, 141) : Nat × Nat × Nat), ((1, 40, 140) : Nat × Nat × Nat), ((1, 39, 139) : Nat × Nat × Nat), ((1, 38, 138) : Nat × Nat × Nat), ((1, 37, 137) : Nat × Nat × Nat), ((1, 36, 136) : Nat × Nat × Nat), ((1, 34, 134) : Nat × Nat × Nat), ((1, 33, 133) : Nat × Nat × Nat), ((1, 32, 132) : Nat × Nat × Nat), ((1, 31, 131) : Nat × Nat × Nat), ((1, 29, 129) : Nat × Nat × Nat), ((1, 28, 128) : Nat × Nat × Nat), ((1, 27, 127) : Nat × Nat × Nat), ((1, 16, 116) : Nat × Nat × Nat), ((1, 15, 115) : Nat × Nat × Nat), ((1, 14, 114) : Nat × Nat × Nat), ((1, 13, 113) : Nat × Nat × Nat), ((1, 12, 112) : Nat × Nat × Nat), ((1, 11, 111) : Nat × Nat × Nat), ((1, 10, 110) : Nat × Nat × Nat), ((1, 9, 109) : Nat × Nat × Nat), ((1, 8, 108) : Nat × Nat × Nat), ((1, 7, 107) : Nat × Nat × Nat), ((1, 6, 106) : Nat × Nat × Nat), ((1, 5, 105) : Nat × Nat × Nat), ((1, 4, 104) : Nat × Nat × Nat), ((1, 3, 103) : Nat × Nat × Nat), ((1, 2, 102) : Nat × Nat × Nat)], w.1 = 1) w hw))) q
set_option maxRecDepth 100000 in
set_option maxHeartbeats 4000000 in
theorem c_X8_init (l : Launch)  : zS l yX8_init wsX8_init 1 20 40 600 [.ref 1] (zmk [(1, 12, 0)] [] []) (zpv (fun M1 => M1 = zmm m_i0 (fun _ _ => 0))) zno := by
  refine z_intro (cc := cX8_init) (maxL := 1) (ret := none) (by decide +kernel) rfl (Nat.le_of_ble_eq_true rfl) ?_
  have hlk_7 : Cond.fieldLink RX8 7 "ColdStoreModel" "outside" "I" ∈ wsX8_init := by decide +kernel
  have hla_0 : Cond.arrayClass .int ∈ wsX8_init := by decide +kernel
  have hlk_13 : Cond.fieldLink RX8 13 "ColdStoreModel" "leaks" "[I" ∈ wsX8_init := by decide +kernel
  have hlk_17 : Cond.fieldLink RX8 17 "ColdStoreModel" "strengths" "[I" ∈ wsX8_init := by decide +kernel
  have hlk_20 : Cond.fieldLink RX8 20 "ColdStoreModel" "powers" "[I" ∈ wsX8_init := by decide +kernel
  have hlk_23 : Cond.fieldLink RX8 23 "ColdStoreModel" "lowers" "[I" ∈ wsX8_init := by decide +kernel
  have hlk_26 : Cond.fieldLink RX8 26 "ColdStoreModel" "uppers" "[I" ∈ wsX8_init := by decide +kernel
  have hlk_29 : Cond.fieldLink RX8 29 "ColdStoreModel" "leads" "[I" ∈ wsX8_init := by decide +kernel
  have hlk_32 : Cond.fieldLink RX8 32 "ColdStoreModel" "depths" "[I" ∈ wsX8_init := by decide +kernel
  have hla_3 : Cond.arrayClass .char ∈ wsX8_init := by decide +kernel
  have hlk_35 : Cond.fieldLink RX8 35 "ColdStoreModel" "modes" "[C" ∈ wsX8_init := by decide +kernel
  have hlk_39 : Cond.fieldLink RX8 39 "ColdStoreModel" "temps" "[I" ∈ wsX8_init := by decide +kernel
  have hla_2 : Cond.arrayClass .boolean ∈ wsX8_init := by decide +kernel
  have hlk_42 : Cond.fieldLink RX8 42 "ColdStoreModel" "wants" "[Z" ∈ wsX8_init := by decide +kernel
  have hlk_46 : Cond.fieldLink RX8 46 "ColdStoreModel" "cooled" "[Z" ∈ wsX8_init := by decide +kernel
  have hlk_49 : Cond.fieldLink RX8 49 "ColdStoreModel" "isGiven" "[Z" ∈ wsX8_init := by decide +kernel
  have hlk_52 : Cond.fieldLink RX8 52 "ColdStoreModel" "warmests" "[I" ∈ wsX8_init := by decide +kernel
  have hla_1 : Cond.arrayClass .long ∈ wsX8_init := by decide +kernel
  have hlk_55 : Cond.fieldLink RX8 55 "ColdStoreModel" "tempSums" "[J" ∈ wsX8_init := by decide +kernel
  have hlk_59 : Cond.fieldLink RX8 59 "ColdStoreModel" "ticks" "[I" ∈ wsX8_init := by decide +kernel
  have hlk_62 : Cond.fieldLink RX8 62 "ColdStoreModel" "normal" "I" ∈ wsX8_init := by decide +kernel
  have hlk_65 : Cond.fieldLink RX8 65 "ColdStoreModel" "peak" "I" ∈ wsX8_init := by decide +kernel
  have hlk_68 : Cond.fieldLink RX8 68 "ColdStoreModel" "first" "I" ∈ wsX8_init := by decide +kernel
  have hlk_71 : Cond.fieldLink RX8 71 "ColdStoreModel" "last" "I" ∈ wsX8_init := by decide +kernel
  have hlk_74 : Cond.fieldLink RX8 74 "ColdStoreModel" "limit" "I" ∈ wsX8_init := by decide +kernel
  have hlk_77 : Cond.fieldLink RX8 77 "ColdStoreModel" "lives" "[I" ∈ wsX8_init := by decide +kernel
  have hlk_80 : Cond.fieldLink RX8 80 "ColdStoreModel" "bests" "[I" ∈ wsX8_init := by decide +kernel
  have hlk_83 : Cond.fieldLink RX8 83 "ColdStoreModel" "lowests" "[I" ∈ wsX8_init := by decide +kernel
  have hlk_86 : Cond.fieldLink RX8 86 "ColdStoreModel" "kindOf" "[I" ∈ wsX8_init := by decide +kernel
  have hlk_89 : Cond.fieldLink RX8 89 "ColdStoreModel" "roomOf" "[I" ∈ wsX8_init := by decide +kernel
  have hlk_92 : Cond.fieldLink RX8 92 "ColdStoreModel" "lifeOf" "[I" ∈ wsX8_init := by decide +kernel
  have hlk_95 : Cond.fieldLink RX8 95 "ColdStoreModel" "states" "[C" ∈ wsX8_init := by decide +kernel
  have hlk_98 : Cond.fieldLink RX8 98 "ColdStoreModel" "orderKinds" "[I" ∈ wsX8_init := by decide +kernel
  have hlk_101 : Cond.fieldLink RX8 101 "ColdStoreModel" "counts" "[I" ∈ wsX8_init := by decide +kernel
  have hlk_104 : Cond.fieldLink RX8 104 "ColdStoreModel" "promises" "[I" ∈ wsX8_init := by decide +kernel
  have hlk_107 : Cond.fieldLink RX8 107 "ColdStoreModel" "dues" "[I" ∈ wsX8_init := by decide +kernel
  have hlk_110 : Cond.fieldLink RX8 110 "ColdStoreModel" "orderStates" "[C" ∈ wsX8_init := by decide +kernel
  have hlk_113 : Cond.fieldLink RX8 113 "ColdStoreModel" "leasts" "[I" ∈ wsX8_init := by decide +kernel
  intro g X
  show zE g 1 0 [(0, .ref 1)] [] (zmk [(1, 12, 0)] [] []) 0 0
  refine z_aload_n X 0 dX8_init_0 rfl rfl ?_
  refine z_objInit (v := .null) X dX8_init_1 (by decide +kernel) (by decide +kernel) (by decide +kernel) (by decide) (by decide) ?_
  refine z_aload_n X 0 dX8_init_4 rfl rfl ?_
  refine z_sipush (v := 250) X dX8_init_5 (by decide) ?_
  refine z_putI (ci := 11) (j := 1) X dX8_init_8 rfl rfl (by decide) hlk_7 (Or.inl rfl) (Or.inl rfl) (fun _ => rfl) rfl rfl ?_
  refine z_mem (M' := zmk [(1, 12, 0)] [] [(1, 1, 250)]) zmk_i ?_
  refine z_aload_n X 0 dX8_init_11 rfl rfl ?_
  refine z_iconst (v := 4) X dX8_init_12 (by decide) ?_
  refine z_newa (t := 0) (N := 4) X 102 dX8_init_13 rfl (by decide) hla_0 (by decide) (by decide) (by decide) rfl (by decide) (by decide) ⟨by decide, by decide⟩ ?_
  refine z_mem (M' := zmk [(102, 20, 4), (1, 12, 0)] [] [(1, 1, 250)]) (zmk_new (by decide) (by decide)) ?_
  refine z_putR (ci := 11) (j := 2) X dX8_init_15 rfl rfl (by decide) hlk_13 (Or.inl rfl) (Or.inr ⟨rfl, rfl, rfl⟩) (fun _ => rfl) (fun _ => rfl) (fun _ => rfl) ?_
  refine z_mem (M' := zmk [(102, 20, 4), (1, 12, 0)] [(1, 2, 102)] [(1, 1, 250)]) zmk_r ?_
  refine z_aload_n X 0 dX8_init_18 rfl rfl ?_
  refine z_iconst (v := 4) X dX8_init_19 (by decide) ?_
  refine z_newa (t := 0) (N := 4) X 103 dX8_init_20 rfl (by decide) hla_0 (by decide) (by decide) (by decide) rfl (by decide) (by decide) ⟨by decide, by decide⟩ ?_
  refine z_mem (M' := zmk [(103, 20, 4), (102, 20, 4), (1, 12, 0)] [(1, 2, 102)] [(1, 1, 250)]) (zmk_new (by decide) (by decide)) ?_
  refine z_putR (ci := 11) (j := 3) X dX8_init_22 rfl rfl (by decide) hlk_17 (Or.inl rfl) (Or.inr ⟨rfl, rfl, rfl⟩) (fun _ => rfl) (fun _ => rfl) (fun _ => rfl) ?_
  refine z_mem (M' := zmk [(103, 20, 4), (102, 20, 4), (1, 12, 0)] [(1, 3, 103), (1, 2, 102)] [(1, 1, 250)]) zmk_r ?_
  refine z_aload_n X 0 dX8_init_25 rfl rfl ?_
  refine z_iconst (v := 4) X dX8_init_26 (by decide) ?_
  refine z_newa (t := 0) (N := 4) X 104 dX8_init_27 rfl (by decide) hla_0 (by decide) (by decide) (by decide) rfl (by decide) (by decide) ⟨by decide, by decide⟩ ?_
  refine z_mem (M' := zmk [(104, 20, 4), (103, 20, 4), (102, 20, 4), (1, 12, 0)] [(1, 3, 103), (1, 2, 102)] [(1, 1, 250)]) (zmk_new (by decide) (by decide)) ?_
  refine z_putR (ci := 11) (j := 4) X dX8_init_29 rfl rfl (by decide) hlk_20 (Or.inl rfl) (Or.inr ⟨rfl, rfl, rfl⟩) (fun _ => rfl) (fun _ => rfl) (fun _ => rfl) ?_
  refine z_mem (M' := zmk [(104, 20, 4), (103, 20, 4), (102, 20, 4), (1, 12, 0)] [(1, 4, 104), (1, 3, 103), (1, 2, 102)] [(1, 1, 250)]) zmk_r ?_
  refine z_aload_n X 0 dX8_init_32 rfl rfl ?_
  refine z_iconst (v := 4) X dX8_init_33 (by decide) ?_
  refine z_newa (t := 0) (N := 4) X 105 dX8_init_34 rfl (by decide) hla_0 (by decide) (by decide) (by decide) rfl (by decide) (by decide) ⟨by decide, by decide⟩ ?_
  refine z_mem (M' := zmk [(105, 20, 4), (104, 20, 4), (103, 20, 4), (102, 20, 4), (1, 12, 0)] [(1, 4, 104), (1, 3, 103), (1, 2, 102)] [(1, 1, 250)]) (zmk_new (by decide) (by decide)) ?_
  refine z_putR (ci := 11) (j := 5) X dX8_init_36 rfl rfl (by decide) hlk_23 (Or.inl rfl) (Or.inr ⟨rfl, rfl, rfl⟩) (fun _ => rfl) (fun _ => rfl) (fun _ => rfl) ?_
  refine z_mem (M' := zmk [(105, 20, 4), (104, 20, 4), (103, 20, 4), (102, 20, 4), (1, 12, 0)] [(1, 5, 105), (1, 4, 104), (1, 3, 103), (1, 2, 102)] [(1, 1, 250)]) zmk_r ?_
  refine z_aload_n X 0 dX8_init_39 rfl rfl ?_
  refine z_iconst (v := 4) X dX8_init_40 (by decide) ?_
  refine z_newa (t := 0) (N := 4) X 106 dX8_init_41 rfl (by decide) hla_0 (by decide) (by decide) (by decide) rfl (by decide) (by decide) ⟨by decide, by decide⟩ ?_
  refine z_mem (M' := zmk [(106, 20, 4), (105, 20, 4), (104, 20, 4), (103, 20, 4), (102, 20, 4), (1, 12, 0)] [(1, 5, 105), (1, 4, 104), (1, 3, 103), (1, 2, 102)] [(1, 1, 250)]) (zmk_new (by decide) (by decide)) ?_
  refine z_putR (ci := 11) (j := 6) X dX8_init_43 rfl rfl (by decide) hlk_26 (Or.inl rfl) (Or.inr ⟨rfl, rfl, rfl⟩) (fun _ => rfl) (fun _ => rfl) (fun _ => rfl) ?_
  refine z_mem (M' := zmk [(106, 20, 4), (105, 20, 4), (104, 20, 4), (103, 20, 4), (102, 20, 4), (1, 12, 0)] [(1, 6, 106), (1, 5, 105), (1, 4, 104), (1, 3, 103), (1, 2, 102)] [(1, 1, 250)]) zmk_r ?_
  refine z_aload_n X 0 dX8_init_46 rfl rfl ?_
  refine z_iconst (v := 4) X dX8_init_47 (by decide) ?_
  refine z_newa (t := 0) (N := 4) X 107 dX8_init_48 rfl (by decide) hla_0 (by decide) (by decide) (by decide) rfl (by decide) (by decide) ⟨by decide, by decide⟩ ?_
  refine z_mem (M' := zmk [(107, 20, 4), (106, 20, 4), (105, 20, 4), (104, 20, 4), (103, 20, 4), (102, 20, 4), (1, 12, 0)] [(1, 6, 106), (1, 5, 105), (1, 4, 104), (1, 3, 103), (1, 2, 102)] [(1, 1, 250)]) (zmk_new (by decide) (by decide)) ?_
  refine z_putR (ci := 11) (j := 7) X dX8_init_50 rfl rfl (by decide) hlk_29 (Or.inl rfl) (Or.inr ⟨rfl, rfl, rfl⟩) (fun _ => rfl) (fun _ => rfl) (fun _ => rfl) ?_
  refine z_mem (M' := zmk [(107, 20, 4), (106, 20, 4), (105, 20, 4), (104, 20, 4), (103, 20, 4), (102, 20, 4), (1, 12, 0)] [(1, 7, 107), (1, 6, 106), (1, 5, 105), (1, 4, 104), (1, 3, 103), (1, 2, 102)] [(1, 1, 250)]) zmk_r ?_
  refine z_aload_n X 0 dX8_init_53 rfl rfl ?_
  refine z_iconst (v := 4) X dX8_init_54 (by decide) ?_
  refine z_newa (t := 0) (N := 4) X 108 dX8_init_55 rfl (by decide) hla_0 (by decide) (by decide) (by decide) rfl (by decide) (by decide) ⟨by decide, by decide⟩ ?_
  refine z_mem (M' := zmk [(108, 20, 4), (107, 20, 4), (106, 20, 4), (105, 20, 4), (104, 20, 4), (103, 20, 4), (102, 20, 4), (1, 12, 0)] [(1, 7, 107), (1, 6, 106), (1, 5, 105), (1, 4, 104), (1, 3, 103), (1, 2, 102)] [(1, 1, 250)]) (zmk_new (by decide) (by decide)) ?_
  refine z_putR (ci := 11) (j := 8) X dX8_init_57 rfl rfl (by decide) hlk_32 (Or.inl rfl) (Or.inr ⟨rfl, rfl, rfl⟩) (fun _ => rfl) (fun _ => rfl) (fun _ => rfl) ?_
  refine z_mem (M' := zmk [(108, 20, 4), (107, 20, 4), (106, 20, 4), (105, 20, 4), (104, 20, 4), (103, 20, 4), (102, 20, 4), (1, 12, 0)] [(1, 8, 108), (1, 7, 107), (1, 6, 106), (1, 5, 105), (1, 4, 104), (1, 3, 103), (1, 2, 102)] [(1, 1, 250)]) zmk_r ?_
  refine z_aload_n X 0 dX8_init_60 rfl rfl ?_
  refine z_iconst (v := 4) X dX8_init_61 (by decide) ?_
  refine z_newa (t := 3) (N := 4) X 109 dX8_init_62 rfl (by decide) hla_3 (by decide) (by decide) (by decide) rfl (by decide) (by decide) ⟨by decide, by decide⟩ ?_
  refine z_mem (M' := zmk [(109, 23, 4), (108, 20, 4), (107, 20, 4), (106, 20, 4), (105, 20, 4), (104, 20, 4), (103, 20, 4), (102, 20, 4), (1, 12, 0)] [(1, 8, 108), (1, 7, 107), (1, 6, 106), (1, 5, 105), (1, 4, 104), (1, 3, 103), (1, 2, 102)] [(1, 1, 250)]) (zmk_new (by decide) (by decide)) ?_
  refine z_putR (ci := 11) (j := 9) X dX8_init_64 rfl rfl (by decide) hlk_35 (Or.inl rfl) (Or.inr ⟨rfl, rfl, rfl⟩) (fun _ => rfl) (fun _ => rfl) (fun _ => rfl) ?_
  refine z_mem (M' := zmk [(109, 23, 4), (108, 20, 4), (107, 20, 4), (106, 20, 4), (105, 20, 4), (104, 20, 4), (103, 20, 4), (102, 20, 4), (1, 12, 0)] [(1, 9, 109), (1, 8, 108), (1, 7, 107), (1, 6, 106), (1, 5, 105), (1, 4, 104), (1, 3, 103), (1, 2, 102)] [(1, 1, 250)]) zmk_r ?_
  refine z_aload_n X 0 dX8_init_67 rfl rfl ?_
  refine z_iconst (v := 4) X dX8_init_68 (by decide) ?_
  refine z_newa (t := 0) (N := 4) X 110 dX8_init_69 rfl (by decide) hla_0 (by decide) (by decide) (by decide) rfl (by decide) (by decide) ⟨by decide, by decide⟩ ?_
  refine z_mem (M' := zmk [(110, 20, 4), (109, 23, 4), (108, 20, 4), (107, 20, 4), (106, 20, 4), (105, 20, 4), (104, 20, 4), (103, 20, 4), (102, 20, 4), (1, 12, 0)] [(1, 9, 109), (1, 8, 108), (1, 7, 107), (1, 6, 106), (1, 5, 105), (1, 4, 104), (1, 3, 103), (1, 2, 102)] [(1, 1, 250)]) (zmk_new (by decide) (by decide)) ?_
  refine z_putR (ci := 11) (j := 10) X dX8_init_71 rfl rfl (by decide) hlk_39 (Or.inl rfl) (Or.inr ⟨rfl, rfl, rfl⟩) (fun _ => rfl) (fun _ => rfl) (fun _ => rfl) ?_
  refine z_mem (M' := zmk [(110, 20, 4), (109, 23, 4), (108, 20, 4), (107, 20, 4), (106, 20, 4), (105, 20, 4), (104, 20, 4), (103, 20, 4), (102, 20, 4), (1, 12, 0)] [(1, 10, 110), (1, 9, 109), (1, 8, 108), (1, 7, 107), (1, 6, 106), (1, 5, 105), (1, 4, 104), (1, 3, 103), (1, 2, 102)] [(1, 1, 250)]) zmk_r ?_
  refine z_aload_n X 0 dX8_init_74 rfl rfl ?_
  refine z_iconst (v := 4) X dX8_init_75 (by decide) ?_
  refine z_newa (t := 2) (N := 4) X 111 dX8_init_76 rfl (by decide) hla_2 (by decide) (by decide) (by decide) rfl (by decide) (by decide) ⟨by decide, by decide⟩ ?_
  refine z_mem (M' := zmk [(111, 22, 4), (110, 20, 4), (109, 23, 4), (108, 20, 4), (107, 20, 4), (106, 20, 4), (105, 20, 4), (104, 20, 4), (103, 20, 4), (102, 20, 4), (1, 12, 0)] [(1, 10, 110), (1, 9, 109), (1, 8, 108), (1, 7, 107), (1, 6, 106), (1, 5, 105), (1, 4, 104), (1, 3, 103), (1, 2, 102)] [(1, 1, 250)]) (zmk_new (by decide) (by decide)) ?_
  refine z_putR (ci := 11) (j := 11) X dX8_init_78 rfl rfl (by decide) hlk_42 (Or.inl rfl) (Or.inr ⟨rfl, rfl, rfl⟩) (fun _ => rfl) (fun _ => rfl) (fun _ => rfl) ?_
  refine z_mem (M' := zmk [(111, 22, 4), (110, 20, 4), (109, 23, 4), (108, 20, 4), (107, 20, 4), (106, 20, 4), (105, 20, 4), (104, 20, 4), (103, 20, 4), (102, 20, 4), (1, 12, 0)] [(1, 11, 111), (1, 10, 110), (1, 9, 109), (1, 8, 108), (1, 7, 107), (1, 6, 106), (1, 5, 105), (1, 4, 104), (1, 3, 103), (1, 2, 102)] [(1, 1, 250)]) zmk_r ?_
  refine z_aload_n X 0 dX8_init_81 rfl rfl ?_
  refine z_iconst (v := 4) X dX8_init_82 (by decide) ?_
  refine z_newa (t := 2) (N := 4) X 112 dX8_init_83 rfl (by decide) hla_2 (by decide) (by decide) (by decide) rfl (by decide) (by decide) ⟨by decide, by decide⟩ ?_
  refine z_mem (M' := zmk [(112, 22, 4), (111, 22, 4), (110, 20, 4), (109, 23, 4), (108, 20, 4), (107, 20, 4), (106, 20, 4), (105, 20, 4), (104, 20, 4), (103, 20, 4), (102, 20, 4), (1, 12, 0)] [(1, 11, 111), (1, 10, 110), (1, 9, 109), (1, 8, 108), (1, 7, 107), (1, 6, 106), (1, 5, 105), (1, 4, 104), (1, 3, 103), (1, 2, 102)] [(1, 1, 250)]) (zmk_new (by decide) (by decide)) ?_
  refine z_putR (ci := 11) (j := 12) X dX8_init_85 rfl rfl (by decide) hlk_46 (Or.inl rfl) (Or.inr ⟨rfl, rfl, rfl⟩) (fun _ => rfl) (fun _ => rfl) (fun _ => rfl) ?_
  refine z_mem (M' := zmk [(112, 22, 4), (111, 22, 4), (110, 20, 4), (109, 23, 4), (108, 20, 4), (107, 20, 4), (106, 20, 4), (105, 20, 4), (104, 20, 4), (103, 20, 4), (102, 20, 4), (1, 12, 0)] [(1, 12, 112), (1, 11, 111), (1, 10, 110), (1, 9, 109), (1, 8, 108), (1, 7, 107), (1, 6, 106), (1, 5, 105), (1, 4, 104), (1, 3, 103), (1, 2, 102)] [(1, 1, 250)]) zmk_r ?_
  refine z_aload_n X 0 dX8_init_88 rfl rfl ?_
  refine z_iconst (v := 4) X dX8_init_89 (by decide) ?_
  refine z_newa (t := 2) (N := 4) X 113 dX8_init_90 rfl (by decide) hla_2 (by decide) (by decide) (by decide) rfl (by decide) (by decide) ⟨by decide, by decide⟩ ?_
  refine z_mem (M' := zmk [(113, 22, 4), (112, 22, 4), (111, 22, 4), (110, 20, 4), (109, 23, 4), (108, 20, 4), (107, 20, 4), (106, 20, 4), (105, 20, 4), (104, 20, 4), (103, 20, 4), (102, 20, 4), (1, 12, 0)] [(1, 12, 112), (1, 11, 111), (1, 10, 110), (1, 9, 109), (1, 8, 108), (1, 7, 107), (1, 6, 106), (1, 5, 105), (1, 4, 104), (1, 3, 103), (1, 2, 102)] [(1, 1, 250)]) (zmk_new (by decide) (by decide)) ?_
  refine z_putR (ci := 11) (j := 13) X dX8_init_92 rfl rfl (by decide) hlk_49 (Or.inl rfl) (Or.inr ⟨rfl, rfl, rfl⟩) (fun _ => rfl) (fun _ => rfl) (fun _ => rfl) ?_
  refine z_mem (M' := zmk [(113, 22, 4), (112, 22, 4), (111, 22, 4), (110, 20, 4), (109, 23, 4), (108, 20, 4), (107, 20, 4), (106, 20, 4), (105, 20, 4), (104, 20, 4), (103, 20, 4), (102, 20, 4), (1, 12, 0)] [(1, 13, 113), (1, 12, 112), (1, 11, 111), (1, 10, 110), (1, 9, 109), (1, 8, 108), (1, 7, 107), (1, 6, 106), (1, 5, 105), (1, 4, 104), (1, 3, 103), (1, 2, 102)] [(1, 1, 250)]) zmk_r ?_
  refine z_aload_n X 0 dX8_init_95 rfl rfl ?_
  refine z_iconst (v := 4) X dX8_init_96 (by decide) ?_
  refine z_newa (t := 0) (N := 4) X 114 dX8_init_97 rfl (by decide) hla_0 (by decide) (by decide) (by decide) rfl (by decide) (by decide) ⟨by decide, by decide⟩ ?_
  refine z_mem (M' := zmk [(114, 20, 4), (113, 22, 4), (112, 22, 4), (111, 22, 4), (110, 20, 4), (109, 23, 4), (108, 20, 4), (107, 20, 4), (106, 20, 4), (105, 20, 4), (104, 20, 4), (103, 20, 4), (102, 20, 4), (1, 12, 0)] [(1, 13, 113), (1, 12, 112), (1, 11, 111), (1, 10, 110), (1, 9, 109), (1, 8, 108), (1, 7, 107), (1, 6, 106), (1, 5, 105), (1, 4, 104), (1, 3, 103), (1, 2, 102)] [(1, 1, 250)]) (zmk_new (by decide) (by decide)) ?_
  refine z_putR (ci := 11) (j := 14) X dX8_init_99 rfl rfl (by decide) hlk_52 (Or.inl rfl) (Or.inr ⟨rfl, rfl, rfl⟩) (fun _ => rfl) (fun _ => rfl) (fun _ => rfl) ?_
  refine z_mem (M' := zmk [(114, 20, 4), (113, 22, 4), (112, 22, 4), (111, 22, 4), (110, 20, 4), (109, 23, 4), (108, 20, 4), (107, 20, 4), (106, 20, 4), (105, 20, 4), (104, 20, 4), (103, 20, 4), (102, 20, 4), (1, 12, 0)] [(1, 14, 114), (1, 13, 113), (1, 12, 112), (1, 11, 111), (1, 10, 110), (1, 9, 109), (1, 8, 108), (1, 7, 107), (1, 6, 106), (1, 5, 105), (1, 4, 104), (1, 3, 103), (1, 2, 102)] [(1, 1, 250)]) zmk_r ?_
  refine z_aload_n X 0 dX8_init_102 rfl rfl ?_
  refine z_iconst (v := 4) X dX8_init_103 (by decide) ?_
  refine z_newa (t := 1) (N := 4) X 115 dX8_init_104 rfl (by decide) hla_1 (by decide) (by decide) (by decide) rfl (by decide) (by decide) ⟨by decide, by decide⟩ ?_
  refine z_mem (M' := zmk [(115, 21, 4), (114, 20, 4), (113, 22, 4), (112, 22, 4), (111, 22, 4), (110, 20, 4), (109, 23, 4), (108, 20, 4), (107, 20, 4), (106, 20, 4), (105, 20, 4), (104, 20, 4), (103, 20, 4), (102, 20, 4), (1, 12, 0)] [(1, 14, 114), (1, 13, 113), (1, 12, 112), (1, 11, 111), (1, 10, 110), (1, 9, 109), (1, 8, 108), (1, 7, 107), (1, 6, 106), (1, 5, 105), (1, 4, 104), (1, 3, 103), (1, 2, 102)] [(1, 1, 250)]) (zmk_new (by decide) (by decide)) ?_
  refine z_putR (ci := 11) (j := 15) X dX8_init_106 rfl rfl (by decide) hlk_55 (Or.inl rfl) (Or.inr ⟨rfl, rfl, rfl⟩) (fun _ => rfl) (fun _ => rfl) (fun _ => rfl) ?_
  refine z_mem (M' := zmk [(115, 21, 4), (114, 20, 4), (113, 22, 4), (112, 22, 4), (111, 22, 4), (110, 20, 4), (109, 23, 4), (108, 20, 4), (107, 20, 4), (106, 20, 4), (105, 20, 4), (104, 20, 4), (103, 20, 4), (102, 20, 4), (1, 12, 0)] [(1, 15, 115), (1, 14, 114), (1, 13, 113), (1, 12, 112), (1, 11, 111), (1, 10, 110), (1, 9, 109), (1, 8, 108), (1, 7, 107), (1, 6, 106), (1, 5, 105), (1, 4, 104), (1, 3, 103), (1, 2, 102)] [(1, 1, 250)]) zmk_r ?_
  refine z_aload_n X 0 dX8_init_109 rfl rfl ?_
  refine z_iconst (v := 4) X dX8_init_110 (by decide) ?_
  refine z_newa (t := 0) (N := 4) X 116 dX8_init_111 rfl (by decide) hla_0 (by decide) (by decide) (by decide) rfl (by decide) (by decide) ⟨by decide, by decide⟩ ?_
  refine z_mem (M' := zmk [(116, 20, 4), (115, 21, 4), (114, 20, 4), (113, 22, 4), (112, 22, 4), (111, 22, 4), (110, 20, 4), (109, 23, 4), (108, 20, 4), (107, 20, 4), (106, 20, 4), (105, 20, 4), (104, 20, 4), (103, 20, 4), (102, 20, 4), (1, 12, 0)] [(1, 15, 115), (1, 14, 114), (1, 13, 113), (1, 12, 112), (1, 11, 111), (1, 10, 110), (1, 9, 109), (1, 8, 108), (1, 7, 107), (1, 6, 106), (1, 5, 105), (1, 4, 104), (1, 3, 103), (1, 2, 102)] [(1, 1, 250)]) (zmk_new (by decide) (by decide)) ?_
  refine z_putR (ci := 11) (j := 16) X dX8_init_113 rfl rfl (by decide) hlk_59 (Or.inl rfl) (Or.inr ⟨rfl, rfl, rfl⟩) (fun _ => rfl) (fun _ => rfl) (fun _ => rfl) ?_
  refine z_mem (M' := zmk [(116, 20, 4), (115, 21, 4), (114, 20, 4), (113, 22, 4), (112, 22, 4), (111, 22, 4), (110, 20, 4), (109, 23, 4), (108, 20, 4), (107, 20, 4), (106, 20, 4), (105, 20, 4), (104, 20, 4), (103, 20, 4), (102, 20, 4), (1, 12, 0)] [(1, 16, 116), (1, 15, 115), (1, 14, 114), (1, 13, 113), (1, 12, 112), (1, 11, 111), (1, 10, 110), (1, 9, 109), (1, 8, 108), (1, 7, 107), (1, 6, 106), (1, 5, 105), (1, 4, 104), (1, 3, 103), (1, 2, 102)] [(1, 1, 250)]) zmk_r ?_
  refine z_aload_n X 0 dX8_init_116 rfl rfl ?_
  refine z_bipush (v := 10) X dX8_init_117 (by decide) ?_
  refine z_putI (ci := 11) (j := 18) X dX8_init_119 rfl rfl (by decide) hlk_62 (Or.inl rfl) (Or.inl rfl) (fun _ => rfl) rfl rfl ?_
  refine z_mem (M' := zmk [(116, 20, 4), (115, 21, 4), (114, 20, 4), (113, 22, 4), (112, 22, 4), (111, 22, 4), (110, 20, 4), (109, 23, 4), (108, 20, 4), (107, 20, 4), (106, 20, 4), (105, 20, 4), (104, 20, 4), (103, 20, 4), (102, 20, 4), (1, 12, 0)] [(1, 16, 116), (1, 15, 115), (1, 14, 114), (1, 13, 113), (1, 12, 112), (1, 11, 111), (1, 10, 110), (1, 9, 109), (1, 8, 108), (1, 7, 107), (1, 6, 106), (1, 5, 105), (1, 4, 104), (1, 3, 103), (1, 2, 102)] [(1, 18, 10), (1, 1, 250)]) zmk_i ?_
  refine z_aload_n X 0 dX8_init_122 rfl rfl ?_
  refine z_bipush (v := 10) X dX8_init_123 (by decide) ?_
  refine z_putI (ci := 11) (j := 19) X dX8_init_125 rfl rfl (by decide) hlk_65 (Or.inl rfl) (Or.inl rfl) (fun _ => rfl) rfl rfl ?_
  refine z_mem (M' := zmk [(116, 20, 4), (115, 21, 4), (114, 20, 4), (113, 22, 4), (112, 22, 4), (111, 22, 4), (110, 20, 4), (109, 23, 4), (108, 20, 4), (107, 20, 4), (106, 20, 4), (105, 20, 4), (104, 20, 4), (103, 20, 4), (102, 20, 4), (1, 12, 0)] [(1, 16, 116), (1, 15, 115), (1, 14, 114), (1, 13, 113), (1, 12, 112), (1, 11, 111), (1, 10, 110), (1, 9, 109), (1, 8, 108), (1, 7, 107), (1, 6, 106), (1, 5, 105), (1, 4, 104), (1, 3, 103), (1, 2, 102)] [(1, 19, 10), (1, 18, 10), (1, 1, 250)]) zmk_i ?_
  refine z_aload_n X 0 dX8_init_128 rfl rfl ?_
  refine z_iconst (v := (-1)) X dX8_init_129 (by decide) ?_
  refine z_putI (ci := 11) (j := 20) X dX8_init_130 rfl rfl (by decide) hlk_68 (Or.inl rfl) (Or.inl rfl) (fun _ => rfl) rfl rfl ?_
  refine z_mem (M' := zmk [(116, 20, 4), (115, 21, 4), (114, 20, 4), (113, 22, 4), (112, 22, 4), (111, 22, 4), (110, 20, 4), (109, 23, 4), (108, 20, 4), (107, 20, 4), (106, 20, 4), (105, 20, 4), (104, 20, 4), (103, 20, 4), (102, 20, 4), (1, 12, 0)] [(1, 16, 116), (1, 15, 115), (1, 14, 114), (1, 13, 113), (1, 12, 112), (1, 11, 111), (1, 10, 110), (1, 9, 109), (1, 8, 108), (1, 7, 107), (1, 6, 106), (1, 5, 105), (1, 4, 104), (1, 3, 103), (1, 2, 102)] [(1, 20, (-1)), (1, 19, 10), (1, 18, 10), (1, 1, 250)]) zmk_i ?_
  refine z_aload_n X 0 dX8_init_133 rfl rfl ?_
  refine z_iconst (v := (-1)) X dX8_init_134 (by decide) ?_
  refine z_putI (ci := 11) (j := 21) X dX8_init_135 rfl rfl (by decide) hlk_71 (Or.inl rfl) (Or.inl rfl) (fun _ => rfl) rfl rfl ?_
  refine z_mem (M' := zmk [(116, 20, 4), (115, 21, 4), (114, 20, 4), (113, 22, 4), (112, 22, 4), (111, 22, 4), (110, 20, 4), (109, 23, 4), (108, 20, 4), (107, 20, 4), (106, 20, 4), (105, 20, 4), (104, 20, 4), (103, 20, 4), (102, 20, 4), (1, 12, 0)] [(1, 16, 116), (1, 15, 115), (1, 14, 114), (1, 13, 113), (1, 12, 112), (1, 11, 111), (1, 10, 110), (1, 9, 109), (1, 8, 108), (1, 7, 107), (1, 6, 106), (1, 5, 105), (1, 4, 104), (1, 3, 103), (1, 2, 102)] [(1, 21, (-1)), (1, 20, (-1)), (1, 19, 10), (1, 18, 10), (1, 1, 250)]) zmk_i ?_
  refine z_aload_n X 0 dX8_init_138 rfl rfl ?_
  refine z_sipush (v := 400) X dX8_init_139 (by decide) ?_
  refine z_putI (ci := 11) (j := 23) X dX8_init_142 rfl rfl (by decide) hlk_74 (Or.inl rfl) (Or.inl rfl) (fun _ => rfl) rfl rfl ?_
  refine z_mem (M' := zmk [(116, 20, 4), (115, 21, 4), (114, 20, 4), (113, 22, 4), (112, 22, 4), (111, 22, 4), (110, 20, 4), (109, 23, 4), (108, 20, 4), (107, 20, 4), (106, 20, 4), (105, 20, 4), (104, 20, 4), (103, 20, 4), (102, 20, 4), (1, 12, 0)] [(1, 16, 116), (1, 15, 115), (1, 14, 114), (1, 13, 113), (1, 12, 112), (1, 11, 111), (1, 10, 110), (1, 9, 109), (1, 8, 108), (1, 7, 107), (1, 6, 106), (1, 5, 105), (1, 4, 104), (1, 3, 103), (1, 2, 102)] [(1, 23, 400), (1, 21, (-1)), (1, 20, (-1)), (1, 19, 10), (1, 18, 10), (1, 1, 250)]) zmk_i ?_
  refine z_aload_n X 0 dX8_init_145 rfl rfl ?_
  refine z_iconst (v := 5) X dX8_init_146 (by decide) ?_
  refine z_newa (t := 0) (N := 5) X 127 dX8_init_147 rfl (by decide) hla_0 (by decide) (by decide) (by decide) rfl (by decide) (by decide) ⟨by decide, by decide⟩ ?_
  refine z_mem (M' := zmk [(127, 20, 5), (116, 20, 4), (115, 21, 4), (114, 20, 4), (113, 22, 4), (112, 22, 4), (111, 22, 4), (110, 20, 4), (109, 23, 4), (108, 20, 4), (107, 20, 4), (106, 20, 4), (105, 20, 4), (104, 20, 4), (103, 20, 4), (102, 20, 4), (1, 12, 0)] [(1, 16, 116), (1, 15, 115), (1, 14, 114), (1, 13, 113), (1, 12, 112), (1, 11, 111), (1, 10, 110), (1, 9, 109), (1, 8, 108), (1, 7, 107), (1, 6, 106), (1, 5, 105), (1, 4, 104), (1, 3, 103), (1, 2, 102)] [(1, 23, 400), (1, 21, (-1)), (1, 20, (-1)), (1, 19, 10), (1, 18, 10), (1, 1, 250)]) (zmk_new (by decide) (by decide)) ?_
  refine z_putR (ci := 11) (j := 27) X dX8_init_149 rfl rfl (by decide) hlk_77 (Or.inl rfl) (Or.inr ⟨rfl, rfl, rfl⟩) (fun _ => rfl) (fun _ => rfl) (fun _ => rfl) ?_
  refine z_mem (M' := zmk [(127, 20, 5), (116, 20, 4), (115, 21, 4), (114, 20, 4), (113, 22, 4), (112, 22, 4), (111, 22, 4), (110, 20, 4), (109, 23, 4), (108, 20, 4), (107, 20, 4), (106, 20, 4), (105, 20, 4), (104, 20, 4), (103, 20, 4), (102, 20, 4), (1, 12, 0)] [(1, 27, 127), (1, 16, 116), (1, 15, 115), (1, 14, 114), (1, 13, 113), (1, 12, 112), (1, 11, 111), (1, 10, 110), (1, 9, 109), (1, 8, 108), (1, 7, 107), (1, 6, 106), (1, 5, 105), (1, 4, 104), (1, 3, 103), (1, 2, 102)] [(1, 23, 400), (1, 21, (-1)), (1, 20, (-1)), (1, 19, 10), (1, 18, 10), (1, 1, 250)]) zmk_r ?_
  refine z_aload_n X 0 dX8_init_152 rfl rfl ?_
  refine z_iconst (v := 5) X dX8_init_153 (by decide) ?_
  refine z_newa (t := 0) (N := 5) X 128 dX8_init_154 rfl (by decide) hla_0 (by decide) (by decide) (by decide) rfl (by decide) (by decide) ⟨by decide, by decide⟩ ?_
  refine z_mem (M' := zmk [(128, 20, 5), (127, 20, 5), (116, 20, 4), (115, 21, 4), (114, 20, 4), (113, 22, 4), (112, 22, 4), (111, 22, 4), (110, 20, 4), (109, 23, 4), (108, 20, 4), (107, 20, 4), (106, 20, 4), (105, 20, 4), (104, 20, 4), (103, 20, 4), (102, 20, 4), (1, 12, 0)] [(1, 27, 127), (1, 16, 116), (1, 15, 115), (1, 14, 114), (1, 13, 113), (1, 12, 112), (1, 11, 111), (1, 10, 110), (1, 9, 109), (1, 8, 108), (1, 7, 107), (1, 6, 106), (1, 5, 105), (1, 4, 104), (1, 3, 103), (1, 2, 102)] [(1, 23, 400), (1, 21, (-1)), (1, 20, (-1)), (1, 19, 10), (1, 18, 10), (1, 1, 250)]) (zmk_new (by decide) (by decide)) ?_
  refine z_putR (ci := 11) (j := 28) X dX8_init_156 rfl rfl (by decide) hlk_80 (Or.inl rfl) (Or.inr ⟨rfl, rfl, rfl⟩) (fun _ => rfl) (fun _ => rfl) (fun _ => rfl) ?_
  refine z_mem (M' := zmk [(128, 20, 5), (127, 20, 5), (116, 20, 4), (115, 21, 4), (114, 20, 4), (113, 22, 4), (112, 22, 4), (111, 22, 4), (110, 20, 4), (109, 23, 4), (108, 20, 4), (107, 20, 4), (106, 20, 4), (105, 20, 4), (104, 20, 4), (103, 20, 4), (102, 20, 4), (1, 12, 0)] [(1, 28, 128), (1, 27, 127), (1, 16, 116), (1, 15, 115), (1, 14, 114), (1, 13, 113), (1, 12, 112), (1, 11, 111), (1, 10, 110), (1, 9, 109), (1, 8, 108), (1, 7, 107), (1, 6, 106), (1, 5, 105), (1, 4, 104), (1, 3, 103), (1, 2, 102)] [(1, 23, 400), (1, 21, (-1)), (1, 20, (-1)), (1, 19, 10), (1, 18, 10), (1, 1, 250)]) zmk_r ?_
  refine z_aload_n X 0 dX8_init_159 rfl rfl ?_
  refine z_iconst (v := 5) X dX8_init_160 (by decide) ?_
  refine z_newa (t := 0) (N := 5) X 129 dX8_init_161 rfl (by decide) hla_0 (by decide) (by decide) (by decide) rfl (by decide) (by decide) ⟨by decide, by decide⟩ ?_
  refine z_mem (M' := zmk [(129, 20, 5), (128, 20, 5), (127, 20, 5), (116, 20, 4), (115, 21, 4), (114, 20, 4), (113, 22, 4), (112, 22, 4), (111, 22, 4), (110, 20, 4), (109, 23, 4), (108, 20, 4), (107, 20, 4), (106, 20, 4), (105, 20, 4), (104, 20, 4), (103, 20, 4), (102, 20, 4), (1, 12, 0)] [(1, 28, 128), (1, 27, 127), (1, 16, 116), (1, 15, 115), (1, 14, 114), (1, 13, 113), (1, 12, 112), (1, 11, 111), (1, 10, 110), (1, 9, 109), (1, 8, 108), (1, 7, 107), (1, 6, 106), (1, 5, 105), (1, 4, 104), (1, 3, 103), (1, 2, 102)] [(1, 23, 400), (1, 21, (-1)), (1, 20, (-1)), (1, 19, 10), (1, 18, 10), (1, 1, 250)]) (zmk_new (by decide) (by decide)) ?_
  refine z_putR (ci := 11) (j := 29) X dX8_init_163 rfl rfl (by decide) hlk_83 (Or.inl rfl) (Or.inr ⟨rfl, rfl, rfl⟩) (fun _ => rfl) (fun _ => rfl) (fun _ => rfl) ?_
  refine z_mem (M' := zmk [(129, 20, 5), (128, 20, 5), (127, 20, 5), (116, 20, 4), (115, 21, 4), (114, 20, 4), (113, 22, 4), (112, 22, 4), (111, 22, 4), (110, 20, 4), (109, 23, 4), (108, 20, 4), (107, 20, 4), (106, 20, 4), (105, 20, 4), (104, 20, 4), (103, 20, 4), (102, 20, 4), (1, 12, 0)] [(1, 29, 129), (1, 28, 128), (1, 27, 127), (1, 16, 116), (1, 15, 115), (1, 14, 114), (1, 13, 113), (1, 12, 112), (1, 11, 111), (1, 10, 110), (1, 9, 109), (1, 8, 108), (1, 7, 107), (1, 6, 106), (1, 5, 105), (1, 4, 104), (1, 3, 103), (1, 2, 102)] [(1, 23, 400), (1, 21, (-1)), (1, 20, (-1)), (1, 19, 10), (1, 18, 10), (1, 1, 250)]) zmk_r ?_
  refine z_aload_n X 0 dX8_init_166 rfl rfl ?_
  refine z_bipush (v := 24) X dX8_init_167 (by decide) ?_
  refine z_newa (t := 0) (N := 24) X 131 dX8_init_169 rfl (by decide) hla_0 (by decide) (by decide) (by decide) rfl (by decide) (by decide) ⟨by decide, by decide⟩ ?_
  refine z_mem (M' := zmk [(131, 20, 24), (129, 20, 5), (128, 20, 5), (127, 20, 5), (116, 20, 4), (115, 21, 4), (114, 20, 4), (113, 22, 4), (112, 22, 4), (111, 22, 4), (110, 20, 4), (109, 23, 4), (108, 20, 4), (107, 20, 4), (106, 20, 4), (105, 20, 4), (104, 20, 4), (103, 20, 4), (102, 20, 4), (1, 12, 0)] [(1, 29, 129), (1, 28, 128), (1, 27, 127), (1, 16, 116), (1, 15, 115), (1, 14, 114), (1, 13, 113), (1, 12, 112), (1, 11, 111), (1, 10, 110), (1, 9, 109), (1, 8, 108), (1, 7, 107), (1, 6, 106), (1, 5, 105), (1, 4, 104), (1, 3, 103), (1, 2, 102)] [(1, 23, 400), (1, 21, (-1)), (1, 20, (-1)), (1, 19, 10), (1, 18, 10), (1, 1, 250)]) (zmk_new (by decide) (by decide)) ?_
  refine z_putR (ci := 11) (j := 31) X dX8_init_171 rfl rfl (by decide) hlk_86 (Or.inl rfl) (Or.inr ⟨rfl, rfl, rfl⟩) (fun _ => rfl) (fun _ => rfl) (fun _ => rfl) ?_
  refine z_mem (M' := zmk [(131, 20, 24), (129, 20, 5), (128, 20, 5), (127, 20, 5), (116, 20, 4), (115, 21, 4), (114, 20, 4), (113, 22, 4), (112, 22, 4), (111, 22, 4), (110, 20, 4), (109, 23, 4), (108, 20, 4), (107, 20, 4), (106, 20, 4), (105, 20, 4), (104, 20, 4), (103, 20, 4), (102, 20, 4), (1, 12, 0)] [(1, 31, 131), (1, 29, 129), (1, 28, 128), (1, 27, 127), (1, 16, 116), (1, 15, 115), (1, 14, 114), (1, 13, 113), (1, 12, 112), (1, 11, 111), (1, 10, 110), (1, 9, 109), (1, 8, 108), (1, 7, 107), (1, 6, 106), (1, 5, 105), (1, 4, 104), (1, 3, 103), (1, 2, 102)] [(1, 23, 400), (1, 21, (-1)), (1, 20, (-1)), (1, 19, 10), (1, 18, 10), (1, 1, 250)]) zmk_r ?_
  refine z_aload_n X 0 dX8_init_174 rfl rfl ?_
  refine z_bipush (v := 24) X dX8_init_175 (by decide) ?_
  refine z_newa (t := 0) (N := 24) X 132 dX8_init_177 rfl (by decide) hla_0 (by decide) (by decide) (by decide) rfl (by decide) (by decide) ⟨by decide, by decide⟩ ?_
  refine z_mem (M' := zmk [(132, 20, 24), (131, 20, 24), (129, 20, 5), (128, 20, 5), (127, 20, 5), (116, 20, 4), (115, 21, 4), (114, 20, 4), (113, 22, 4), (112, 22, 4), (111, 22, 4), (110, 20, 4), (109, 23, 4), (108, 20, 4), (107, 20, 4), (106, 20, 4), (105, 20, 4), (104, 20, 4), (103, 20, 4), (102, 20, 4), (1, 12, 0)] [(1, 31, 131), (1, 29, 129), (1, 28, 128), (1, 27, 127), (1, 16, 116), (1, 15, 115), (1, 14, 114), (1, 13, 113), (1, 12, 112), (1, 11, 111), (1, 10, 110), (1, 9, 109), (1, 8, 108), (1, 7, 107), (1, 6, 106), (1, 5, 105), (1, 4, 104), (1, 3, 103), (1, 2, 102)] [(1, 23, 400), (1, 21, (-1)), (1, 20, (-1)), (1, 19, 10), (1, 18, 10), (1, 1, 250)]) (zmk_new (by decide) (by decide)) ?_
  refine z_putR (ci := 11) (j := 32) X dX8_init_179 rfl rfl (by decide) hlk_89 (Or.inl rfl) (Or.inr ⟨rfl, rfl, rfl⟩) (fun _ => rfl) (fun _ => rfl) (fun _ => rfl) ?_
  refine z_mem (M' := zmk [(132, 20, 24), (131, 20, 24), (129, 20, 5), (128, 20, 5), (127, 20, 5), (116, 20, 4), (115, 21, 4), (114, 20, 4), (113, 22, 4), (112, 22, 4), (111, 22, 4), (110, 20, 4), (109, 23, 4), (108, 20, 4), (107, 20, 4), (106, 20, 4), (105, 20, 4), (104, 20, 4), (103, 20, 4), (102, 20, 4), (1, 12, 0)] [(1, 32, 132), (1, 31, 131), (1, 29, 129), (1, 28, 128), (1, 27, 127), (1, 16, 116), (1, 15, 115), (1, 14, 114), (1, 13, 113), (1, 12, 112), (1, 11, 111), (1, 10, 110), (1, 9, 109), (1, 8, 108), (1, 7, 107), (1, 6, 106), (1, 5, 105), (1, 4, 104), (1, 3, 103), (1, 2, 102)] [(1, 23, 400), (1, 21, (-1)), (1, 20, (-1)), (1, 19, 10), (1, 18, 10), (1, 1, 250)]) zmk_r ?_
  refine z_aload_n X 0 dX8_init_182 rfl rfl ?_
  refine z_bipush (v := 24) X dX8_init_183 (by decide) ?_
  refine z_newa (t := 0) (N := 24) X 133 dX8_init_185 rfl (by decide) hla_0 (by decide) (by decide) (by decide) rfl (by decide) (by decide) ⟨by decide, by decide⟩ ?_
  refine z_mem (M' := zmk [(133, 20, 24), (132, 20, 24), (131, 20, 24), (129, 20, 5), (128, 20, 5), (127, 20, 5), (116, 20, 4), (115, 21, 4), (114, 20, 4), (113, 22, 4), (112, 22, 4), (111, 22, 4), (110, 20, 4), (109, 23, 4), (108, 20, 4), (107, 20, 4), (106, 20, 4), (105, 20, 4), (104, 20, 4), (103, 20, 4), (102, 20, 4), (1, 12, 0)] [(1, 32, 132), (1, 31, 131), (1, 29, 129), (1, 28, 128), (1, 27, 127), (1, 16, 116), (1, 15, 115), (1, 14, 114), (1, 13, 113), (1, 12, 112), (1, 11, 111), (1, 10, 110), (1, 9, 109), (1, 8, 108), (1, 7, 107), (1, 6, 106), (1, 5, 105), (1, 4, 104), (1, 3, 103), (1, 2, 102)] [(1, 23, 400), (1, 21, (-1)), (1, 20, (-1)), (1, 19, 10), (1, 18, 10), (1, 1, 250)]) (zmk_new (by decide) (by decide)) ?_
  refine z_putR (ci := 11) (j := 33) X dX8_init_187 rfl rfl (by decide) hlk_92 (Or.inl rfl) (Or.inr ⟨rfl, rfl, rfl⟩) (fun _ => rfl) (fun _ => rfl) (fun _ => rfl) ?_
  refine z_mem (M' := zmk [(133, 20, 24), (132, 20, 24), (131, 20, 24), (129, 20, 5), (128, 20, 5), (127, 20, 5), (116, 20, 4), (115, 21, 4), (114, 20, 4), (113, 22, 4), (112, 22, 4), (111, 22, 4), (110, 20, 4), (109, 23, 4), (108, 20, 4), (107, 20, 4), (106, 20, 4), (105, 20, 4), (104, 20, 4), (103, 20, 4), (102, 20, 4), (1, 12, 0)] [(1, 33, 133), (1, 32, 132), (1, 31, 131), (1, 29, 129), (1, 28, 128), (1, 27, 127), (1, 16, 116), (1, 15, 115), (1, 14, 114), (1, 13, 113), (1, 12, 112), (1, 11, 111), (1, 10, 110), (1, 9, 109), (1, 8, 108), (1, 7, 107), (1, 6, 106), (1, 5, 105), (1, 4, 104), (1, 3, 103), (1, 2, 102)] [(1, 23, 400), (1, 21, (-1)), (1, 20, (-1)), (1, 19, 10), (1, 18, 10), (1, 1, 250)]) zmk_r ?_
  refine z_aload_n X 0 dX8_init_190 rfl rfl ?_
  refine z_bipush (v := 24) X dX8_init_191 (by decide) ?_
  refine z_newa (t := 3) (N := 24) X 134 dX8_init_193 rfl (by decide) hla_3 (by decide) (by decide) (by decide) rfl (by decide) (by decide) ⟨by decide, by decide⟩ ?_
  refine z_mem (M' := zmk [(134, 23, 24), (133, 20, 24), (132, 20, 24), (131, 20, 24), (129, 20, 5), (128, 20, 5), (127, 20, 5), (116, 20, 4), (115, 21, 4), (114, 20, 4), (113, 22, 4), (112, 22, 4), (111, 22, 4), (110, 20, 4), (109, 23, 4), (108, 20, 4), (107, 20, 4), (106, 20, 4), (105, 20, 4), (104, 20, 4), (103, 20, 4), (102, 20, 4), (1, 12, 0)] [(1, 33, 133), (1, 32, 132), (1, 31, 131), (1, 29, 129), (1, 28, 128), (1, 27, 127), (1, 16, 116), (1, 15, 115), (1, 14, 114), (1, 13, 113), (1, 12, 112), (1, 11, 111), (1, 10, 110), (1, 9, 109), (1, 8, 108), (1, 7, 107), (1, 6, 106), (1, 5, 105), (1, 4, 104), (1, 3, 103), (1, 2, 102)] [(1, 23, 400), (1, 21, (-1)), (1, 20, (-1)), (1, 19, 10), (1, 18, 10), (1, 1, 250)]) (zmk_new (by decide) (by decide)) ?_
  refine z_putR (ci := 11) (j := 34) X dX8_init_195 rfl rfl (by decide) hlk_95 (Or.inl rfl) (Or.inr ⟨rfl, rfl, rfl⟩) (fun _ => rfl) (fun _ => rfl) (fun _ => rfl) ?_
  refine z_mem (M' := zmk [(134, 23, 24), (133, 20, 24), (132, 20, 24), (131, 20, 24), (129, 20, 5), (128, 20, 5), (127, 20, 5), (116, 20, 4), (115, 21, 4), (114, 20, 4), (113, 22, 4), (112, 22, 4), (111, 22, 4), (110, 20, 4), (109, 23, 4), (108, 20, 4), (107, 20, 4), (106, 20, 4), (105, 20, 4), (104, 20, 4), (103, 20, 4), (102, 20, 4), (1, 12, 0)] [(1, 34, 134), (1, 33, 133), (1, 32, 132), (1, 31, 131), (1, 29, 129), (1, 28, 128), (1, 27, 127), (1, 16, 116), (1, 15, 115), (1, 14, 114), (1, 13, 113), (1, 12, 112), (1, 11, 111), (1, 10, 110), (1, 9, 109), (1, 8, 108), (1, 7, 107), (1, 6, 106), (1, 5, 105), (1, 4, 104), (1, 3, 103), (1, 2, 102)] [(1, 23, 400), (1, 21, (-1)), (1, 20, (-1)), (1, 19, 10), (1, 18, 10), (1, 1, 250)]) zmk_r ?_
  refine z_aload_n X 0 dX8_init_198 rfl rfl ?_
  refine z_bipush (v := 12) X dX8_init_199 (by decide) ?_
  refine z_newa (t := 0) (N := 12) X 136 dX8_init_201 rfl (by decide) hla_0 (by decide) (by decide) (by decide) rfl (by decide) (by decide) ⟨by decide, by decide⟩ ?_
  refine z_mem (M' := zmk [(136, 20, 12), (134, 23, 24), (133, 20, 24), (132, 20, 24), (131, 20, 24), (129, 20, 5), (128, 20, 5), (127, 20, 5), (116, 20, 4), (115, 21, 4), (114, 20, 4), (113, 22, 4), (112, 22, 4), (111, 22, 4), (110, 20, 4), (109, 23, 4), (108, 20, 4), (107, 20, 4), (106, 20, 4), (105, 20, 4), (104, 20, 4), (103, 20, 4), (102, 20, 4), (1, 12, 0)] [(1, 34, 134), (1, 33, 133), (1, 32, 132), (1, 31, 131), (1, 29, 129), (1, 28, 128), (1, 27, 127), (1, 16, 116), (1, 15, 115), (1, 14, 114), (1, 13, 113), (1, 12, 112), (1, 11, 111), (1, 10, 110), (1, 9, 109), (1, 8, 108), (1, 7, 107), (1, 6, 106), (1, 5, 105), (1, 4, 104), (1, 3, 103), (1, 2, 102)] [(1, 23, 400), (1, 21, (-1)), (1, 20, (-1)), (1, 19, 10), (1, 18, 10), (1, 1, 250)]) (zmk_new (by decide) (by decide)) ?_
  refine z_putR (ci := 11) (j := 36) X dX8_init_203 rfl rfl (by decide) hlk_98 (Or.inl rfl) (Or.inr ⟨rfl, rfl, rfl⟩) (fun _ => rfl) (fun _ => rfl) (fun _ => rfl) ?_
  refine z_mem (M' := zmk [(136, 20, 12), (134, 23, 24), (133, 20, 24), (132, 20, 24), (131, 20, 24), (129, 20, 5), (128, 20, 5), (127, 20, 5), (116, 20, 4), (115, 21, 4), (114, 20, 4), (113, 22, 4), (112, 22, 4), (111, 22, 4), (110, 20, 4), (109, 23, 4), (108, 20, 4), (107, 20, 4), (106, 20, 4), (105, 20, 4), (104, 20, 4), (103, 20, 4), (102, 20, 4), (1, 12, 0)] [(1, 36, 136), (1, 34, 134), (1, 33, 133), (1, 32, 132), (1, 31, 131), (1, 29, 129), (1, 28, 128), (1, 27, 127), (1, 16, 116), (1, 15, 115), (1, 14, 114), (1, 13, 113), (1, 12, 112), (1, 11, 111), (1, 10, 110), (1, 9, 109), (1, 8, 108), (1, 7, 107), (1, 6, 106), (1, 5, 105), (1, 4, 104), (1, 3, 103), (1, 2, 102)] [(1, 23, 400), (1, 21, (-1)), (1, 20, (-1)), (1, 19, 10), (1, 18, 10), (1, 1, 250)]) zmk_r ?_
  refine z_aload_n X 0 dX8_init_206 rfl rfl ?_
  refine z_bipush (v := 12) X dX8_init_207 (by decide) ?_
  refine z_newa (t := 0) (N := 12) X 137 dX8_init_209 rfl (by decide) hla_0 (by decide) (by decide) (by decide) rfl (by decide) (by decide) ⟨by decide, by decide⟩ ?_
  refine z_mem (M' := zmk [(137, 20, 12), (136, 20, 12), (134, 23, 24), (133, 20, 24), (132, 20, 24), (131, 20, 24), (129, 20, 5), (128, 20, 5), (127, 20, 5), (116, 20, 4), (115, 21, 4), (114, 20, 4), (113, 22, 4), (112, 22, 4), (111, 22, 4), (110, 20, 4), (109, 23, 4), (108, 20, 4), (107, 20, 4), (106, 20, 4), (105, 20, 4), (104, 20, 4), (103, 20, 4), (102, 20, 4), (1, 12, 0)] [(1, 36, 136), (1, 34, 134), (1, 33, 133), (1, 32, 132), (1, 31, 131), (1, 29, 129), (1, 28, 128), (1, 27, 127), (1, 16, 116), (1, 15, 115), (1, 14, 114), (1, 13, 113), (1, 12, 112), (1, 11, 111), (1, 10, 110), (1, 9, 109), (1, 8, 108), (1, 7, 107), (1, 6, 106), (1, 5, 105), (1, 4, 104), (1, 3, 103), (1, 2, 102)] [(1, 23, 400), (1, 21, (-1)), (1, 20, (-1)), (1, 19, 10), (1, 18, 10), (1, 1, 250)]) (zmk_new (by decide) (by decide)) ?_
  refine z_putR (ci := 11) (j := 37) X dX8_init_211 rfl rfl (by decide) hlk_101 (Or.inl rfl) (Or.inr ⟨rfl, rfl, rfl⟩) (fun _ => rfl) (fun _ => rfl) (fun _ => rfl) ?_
  refine z_mem (M' := zmk [(137, 20, 12), (136, 20, 12), (134, 23, 24), (133, 20, 24), (132, 20, 24), (131, 20, 24), (129, 20, 5), (128, 20, 5), (127, 20, 5), (116, 20, 4), (115, 21, 4), (114, 20, 4), (113, 22, 4), (112, 22, 4), (111, 22, 4), (110, 20, 4), (109, 23, 4), (108, 20, 4), (107, 20, 4), (106, 20, 4), (105, 20, 4), (104, 20, 4), (103, 20, 4), (102, 20, 4), (1, 12, 0)] [(1, 37, 137), (1, 36, 136), (1, 34, 134), (1, 33, 133), (1, 32, 132), (1, 31, 131), (1, 29, 129), (1, 28, 128), (1, 27, 127), (1, 16, 116), (1, 15, 115), (1, 14, 114), (1, 13, 113), (1, 12, 112), (1, 11, 111), (1, 10, 110), (1, 9, 109), (1, 8, 108), (1, 7, 107), (1, 6, 106), (1, 5, 105), (1, 4, 104), (1, 3, 103), (1, 2, 102)] [(1, 23, 400), (1, 21, (-1)), (1, 20, (-1)), (1, 19, 10), (1, 18, 10), (1, 1, 250)]) zmk_r ?_
  refine z_aload_n X 0 dX8_init_214 rfl rfl ?_
  refine z_bipush (v := 12) X dX8_init_215 (by decide) ?_
  refine z_newa (t := 0) (N := 12) X 138 dX8_init_217 rfl (by decide) hla_0 (by decide) (by decide) (by decide) rfl (by decide) (by decide) ⟨by decide, by decide⟩ ?_
  refine z_mem (M' := zmk [(138, 20, 12), (137, 20, 12), (136, 20, 12), (134, 23, 24), (133, 20, 24), (132, 20, 24), (131, 20, 24), (129, 20, 5), (128, 20, 5), (127, 20, 5), (116, 20, 4), (115, 21, 4), (114, 20, 4), (113, 22, 4), (112, 22, 4), (111, 22, 4), (110, 20, 4), (109, 23, 4), (108, 20, 4), (107, 20, 4), (106, 20, 4), (105, 20, 4), (104, 20, 4), (103, 20, 4), (102, 20, 4), (1, 12, 0)] [(1, 37, 137), (1, 36, 136), (1, 34, 134), (1, 33, 133), (1, 32, 132), (1, 31, 131), (1, 29, 129), (1, 28, 128), (1, 27, 127), (1, 16, 116), (1, 15, 115), (1, 14, 114), (1, 13, 113), (1, 12, 112), (1, 11, 111), (1, 10, 110), (1, 9, 109), (1, 8, 108), (1, 7, 107), (1, 6, 106), (1, 5, 105), (1, 4, 104), (1, 3, 103), (1, 2, 102)] [(1, 23, 400), (1, 21, (-1)), (1, 20, (-1)), (1, 19, 10), (1, 18, 10), (1, 1, 250)]) (zmk_new (by decide) (by decide)) ?_
  refine z_putR (ci := 11) (j := 38) X dX8_init_219 rfl rfl (by decide) hlk_104 (Or.inl rfl) (Or.inr ⟨rfl, rfl, rfl⟩) (fun _ => rfl) (fun _ => rfl) (fun _ => rfl) ?_
  refine z_mem (M' := zmk [(138, 20, 12), (137, 20, 12), (136, 20, 12), (134, 23, 24), (133, 20, 24), (132, 20, 24), (131, 20, 24), (129, 20, 5), (128, 20, 5), (127, 20, 5), (116, 20, 4), (115, 21, 4), (114, 20, 4), (113, 22, 4), (112, 22, 4), (111, 22, 4), (110, 20, 4), (109, 23, 4), (108, 20, 4), (107, 20, 4), (106, 20, 4), (105, 20, 4), (104, 20, 4), (103, 20, 4), (102, 20, 4), (1, 12, 0)] [(1, 38, 138), (1, 37, 137), (1, 36, 136), (1, 34, 134), (1, 33, 133), (1, 32, 132), (1, 31, 131), (1, 29, 129), (1, 28, 128), (1, 27, 127), (1, 16, 116), (1, 15, 115), (1, 14, 114), (1, 13, 113), (1, 12, 112), (1, 11, 111), (1, 10, 110), (1, 9, 109), (1, 8, 108), (1, 7, 107), (1, 6, 106), (1, 5, 105), (1, 4, 104), (1, 3, 103), (1, 2, 102)] [(1, 23, 400), (1, 21, (-1)), (1, 20, (-1)), (1, 19, 10), (1, 18, 10), (1, 1, 250)]) zmk_r ?_
  refine z_aload_n X 0 dX8_init_222 rfl rfl ?_
  refine z_bipush (v := 12) X dX8_init_223 (by decide) ?_
  refine z_newa (t := 0) (N := 12) X 139 dX8_init_225 rfl (by decide) hla_0 (by decide) (by decide) (by decide) rfl (by decide) (by decide) ⟨by decide, by decide⟩ ?_
  refine z_mem (M' := zmk [(139, 20, 12), (138, 20, 12), (137, 20, 12), (136, 20, 12), (134, 23, 24), (133, 20, 24), (132, 20, 24), (131, 20, 24), (129, 20, 5), (128, 20, 5), (127, 20, 5), (116, 20, 4), (115, 21, 4), (114, 20, 4), (113, 22, 4), (112, 22, 4), (111, 22, 4), (110, 20, 4), (109, 23, 4), (108, 20, 4), (107, 20, 4), (106, 20, 4), (105, 20, 4), (104, 20, 4), (103, 20, 4), (102, 20, 4), (1, 12, 0)] [(1, 38, 138), (1, 37, 137), (1, 36, 136), (1, 34, 134), (1, 33, 133), (1, 32, 132), (1, 31, 131), (1, 29, 129), (1, 28, 128), (1, 27, 127), (1, 16, 116), (1, 15, 115), (1, 14, 114), (1, 13, 113), (1, 12, 112), (1, 11, 111), (1, 10, 110), (1, 9, 109), (1, 8, 108), (1, 7, 107), (1, 6, 106), (1, 5, 105), (1, 4, 104), (1, 3, 103), (1, 2, 102)] [(1, 23, 400), (1, 21, (-1)), (1, 20, (-1)), (1, 19, 10), (1, 18, 10), (1, 1, 250)]) (zmk_new (by decide) (by decide)) ?_
  refine z_putR (ci := 11) (j := 39) X dX8_init_227 rfl rfl (by decide) hlk_107 (Or.inl rfl) (Or.inr ⟨rfl, rfl, rfl⟩) (fun _ => rfl) (fun _ => rfl) (fun _ => rfl) ?_
  refine z_mem (M' := zmk [(139, 20, 12), (138, 20, 12), (137, 20, 12), (136, 20, 12), (134, 23, 24), (133, 20, 24), (132, 20, 24), (131, 20, 24), (129, 20, 5), (128, 20, 5), (127, 20, 5), (116, 20, 4), (115, 21, 4), (114, 20, 4), (113, 22, 4), (112, 22, 4), (111, 22, 4), (110, 20, 4), (109, 23, 4), (108, 20, 4), (107, 20, 4), (106, 20, 4), (105, 20, 4), (104, 20, 4), (103, 20, 4), (102, 20, 4), (1, 12, 0)] [(1, 39, 139), (1, 38, 138), (1, 37, 137), (1, 36, 136), (1, 34, 134), (1, 33, 133), (1, 32, 132), (1, 31, 131), (1, 29, 129), (1, 28, 128), (1, 27, 127), (1, 16, 116), (1, 15, 115), (1, 14, 114), (1, 13, 113), (1, 12, 112), (1, 11, 111), (1, 10, 110), (1, 9, 109), (1, 8, 108), (1, 7, 107), (1, 6, 106), (1, 5, 105), (1, 4, 104), (1, 3, 103), (1, 2, 102)] [(1, 23, 400), (1, 21, (-1)), (1, 20, (-1)), (1, 19, 10), (1, 18, 10), (1, 1, 250)]) zmk_r ?_
  refine z_aload_n X 0 dX8_init_230 rfl rfl ?_
  refine z_bipush (v := 12) X dX8_init_231 (by decide) ?_
  refine z_newa (t := 3) (N := 12) X 140 dX8_init_233 rfl (by decide) hla_3 (by decide) (by decide) (by decide) rfl (by decide) (by decide) ⟨by decide, by decide⟩ ?_
  refine z_mem (M' := zmk [(140, 23, 12), (139, 20, 12), (138, 20, 12), (137, 20, 12), (136, 20, 12), (134, 23, 24), (133, 20, 24), (132, 20, 24), (131, 20, 24), (129, 20, 5), (128, 20, 5), (127, 20, 5), (116, 20, 4), (115, 21, 4), (114, 20, 4), (113, 22, 4), (112, 22, 4), (111, 22, 4), (110, 20, 4), (109, 23, 4), (108, 20, 4), (107, 20, 4), (106, 20, 4), (105, 20, 4), (104, 20, 4), (103, 20, 4), (102, 20, 4), (1, 12, 0)] [(1, 39, 139), (1, 38, 138), (1, 37, 137), (1, 36, 136), (1, 34, 134), (1, 33, 133), (1, 32, 132), (1, 31, 131), (1, 29, 129), (1, 28, 128), (1, 27, 127), (1, 16, 116), (1, 15, 115), (1, 14, 114), (1, 13, 113), (1, 12, 112), (1, 11, 111), (1, 10, 110), (1, 9, 109), (1, 8, 108), (1, 7, 107), (1, 6, 106), (1, 5, 105), (1, 4, 104), (1, 3, 103), (1, 2, 102)] [(1, 23, 400), (1, 21, (-1)), (1, 20, (-1)), (1, 19, 10), (1, 18, 10), (1, 1, 250)]) (zmk_new (by decide) (by decide)) ?_
  refine z_putR (ci := 11) (j := 40) X dX8_init_235 rfl rfl (by decide) hlk_110 (Or.inl rfl) (Or.inr ⟨rfl, rfl, rfl⟩) (fun _ => rfl) (fun _ => rfl) (fun _ => rfl) ?_
  refine z_mem (M' := zmk [(140, 23, 12), (139, 20, 12), (138, 20, 12), (137, 20, 12), (136, 20, 12), (134, 23, 24), (133, 20, 24), (132, 20, 24), (131, 20, 24), (129, 20, 5), (128, 20, 5), (127, 20, 5), (116, 20, 4), (115, 21, 4), (114, 20, 4), (113, 22, 4), (112, 22, 4), (111, 22, 4), (110, 20, 4), (109, 23, 4), (108, 20, 4), (107, 20, 4), (106, 20, 4), (105, 20, 4), (104, 20, 4), (103, 20, 4), (102, 20, 4), (1, 12, 0)] [(1, 40, 140), (1, 39, 139), (1, 38, 138), (1, 37, 137), (1, 36, 136), (1, 34, 134), (1, 33, 133), (1, 32, 132), (1, 31, 131), (1, 29, 129), (1, 28, 128), (1, 27, 127), (1, 16, 116), (1, 15, 115), (1, 14, 114), (1, 13, 113), (1, 12, 112), (1, 11, 111), (1, 10, 110), (1, 9, 109), (1, 8, 108), (1, 7, 107), (1, 6, 106), (1, 5, 105), (1, 4, 104), (1, 3, 103), (1, 2, 102)] [(1, 23, 400), (1, 21, (-1)), (1, 20, (-1)), (1, 19, 10), (1, 18, 10), (1, 1, 250)]) zmk_r ?_
  refine z_aload_n X 0 dX8_init_238 rfl rfl ?_
  refine z_bipush (v := 12) X dX8_init_239 (by decide) ?_
  refine z_newa (t := 0) (N := 12) X 141 dX8_init_241 rfl (by decide) hla_0 (by decide) (by decide) (by decide) rfl (by decide) (by decide) ⟨by decide, by decide⟩ ?_
  refine z_mem (M' := zmk [(141, 20, 12), (140, 23, 12), (139, 20, 12), (138, 20, 12), (137, 20, 12), (136, 20, 12), (134, 23, 24), (133, 20, 24), (132, 20, 24), (131, 20, 24), (129, 20, 5), (128, 20, 5), (127, 20, 5), (116, 20, 4), (115, 21, 4), (114, 20, 4), (113, 22, 4), (112, 22, 4), (111, 22, 4), (110, 20, 4), (109, 23, 4), (108, 20, 4), (107, 20, 4), (106, 20, 4), (105, 20, 4), (104, 20, 4), (103, 20, 4), (102, 20, 4), (1, 12, 0)] [(1, 40, 140), (1, 39, 139), (1, 38, 138), (1, 37, 137), (1, 36, 136), (1, 34, 134), (1, 33, 133), (1, 32, 132), (1, 31, 131), (1, 29, 129), (1, 28, 128), (1, 27, 127), (1, 16, 116), (1, 15, 115), (1, 14, 114), (1, 13, 113), (1, 12, 112), (1, 11, 111), (1, 10, 110), (1, 9, 109), (1, 8, 108), (1, 7, 107), (1, 6, 106), (1, 5, 105), (1, 4, 104), (1, 3, 103), (1, 2, 102)] [(1, 23, 400), (1, 21, (-1)), (1, 20, (-1)), (1, 19, 10), (1, 18, 10), (1, 1, 250)]) (zmk_new (by decide) (by decide)) ?_
  refine z_putR (ci := 11) (j := 41) X dX8_init_243 rfl rfl (by decide) hlk_113 (Or.inl rfl) (Or.inr ⟨rfl, rfl, rfl⟩) (fun _ => rfl) (fun _ => rfl) (fun _ => rfl) ?_
  refine z_mem (M' := zmk [(141, 20, 12), (140, 23, 12), (139, 20, 12), (138, 20, 12), (137, 20, 12), (136, 20, 12), (134, 23, 24), (133, 20, 24), (132, 20, 24), (131, 20, 24), (129, 20, 5), (128, 20, 5), (127, 20, 5), (116, 20, 4), (115, 21, 4), (114, 20, 4), (113, 22, 4), (112, 22, 4), (111, 22, 4), (110, 20, 4), (109, 23, 4), (108, 20, 4), (107, 20, 4), (106, 20, 4), (105, 20, 4), (104, 20, 4), (103, 20, 4), (102, 20, 4), (1, 12, 0)] [(1, 41, 141), (1, 40, 140), (1, 39, 139), (1, 38, 138), (1, 37, 137), (1, 36, 136), (1, 34, 134), (1, 33, 133), (1, 32, 132), (1, 31, 131), (1, 29, 129), (1, 28, 128), (1, 27, 127), (1, 16, 116), (1, 15, 115), (1, 14, 114), (1, 13, 113), (1, 12, 112), (1, 11, 111), (1, 10, 110), (1, 9, 109), (1, 8, 108), (1, 7, 107), (1, 6, 106), (1, 5, 105), (1, 4, 104), (1, 3, 103), (1, 2, 102)] [(1, 23, 400), (1, 21, (-1)), (1, 20, (-1)), (1, 19, 10), (1, 18, 10), (1, 1, 250)]) zmk_r ?_
  refine z_vret X rfl (by decide) (by decide) dX8_init_246 ?_
  exact ⟨rfl, m_init_mem⟩
