/-! PART 99c: what holds at the start -/
section ZST
variable {s : State} {args : Array Value}
theorem zs_arr {ty : FieldType} (h : (Cond.arrayClass ty).before args s = true) : ∃ cA : ClassId, ArrOfT s cA ty ∧ s.vm.findClass ("[" ++ ty.toString) = some cA := by
  obtain ⟨c, k, comp, h1, h2, h3⟩ := Cond.arrayClass_spec (args := args) (first := s) (o := none) (idx := []) h
  exact ⟨c, fun n z => ⟨fun q e => (by cases e), k, h2, comp, h3⟩, h1⟩
theorem zs_arrO {C : String} (h : (Cond.arrayOver (.object C)).before args s = true) : ∃ cA : ClassId, ArrOfT s cA (.object C) ∧ va_RA s cA (.object C) := by
  obtain ⟨comp, c, k, h1, h2, h3, h4, h5⟩ := Cond.arrayOver_spec (args := args) (first := s) (o := none) (idx := []) h
  exact ⟨c, fun n z => ⟨fun q e => (by cases e), k, h3, comp, h4⟩, k, comp, h3, h4, h1, h5⟩
theorem zs_cl : ∀ q ∈ vwCl, (∀ w ∈ u_ws q.1 q.2.1 q.2.2, w ∈ lw_tbl) ∧ ∃ n, Cond.instantiable q.1 n ∈ lw_tbl :=
  List.forall_mem_cons.mpr ⟨⟨wl_J00, 4, by decide +kernel⟩, List.forall_mem_cons.mpr ⟨⟨wl_Jx000600, 6, by decide +kernel⟩, List.forall_mem_cons.mpr ⟨⟨wl_Jx4a65c0, 3, by decide +kernel⟩, List.forall_mem_cons.mpr ⟨⟨wl_X00, 6, by decide +kernel⟩, List.forall_mem_cons.mpr ⟨⟨wl_X10, 3, by decide +kernel⟩, List.forall_mem_cons.mpr ⟨⟨wl_X20, 5, by decide +kernel⟩, List.forall_mem_cons.mpr ⟨⟨wl_X30, 6, by decide +kernel⟩, List.forall_mem_cons.mpr ⟨⟨wl_X40, 6, by decide +kernel⟩, List.forall_mem_cons.mpr ⟨⟨wl_X50, 17, by decide +kernel⟩, List.forall_mem_cons.mpr ⟨⟨wl_X60, 3, by decide +kernel⟩, List.forall_mem_cons.mpr ⟨⟨wl_X70, 8, by decide +kernel⟩, fun _ h => absurd h List.not_mem_nil⟩⟩⟩⟩⟩⟩⟩⟩⟩⟩⟩
theorem zs_K (hts : ∀ w ∈ lw_tbl, w.before args s = true) : ∃ D : zG, zK D s := by
  have hcl : ∀ c : Nat, ∃ p : ClassId × (Nat → Nat), ∀ q, vwCl[c]? = some q → u_Kn s q.1 q.2.1 q.2.2 p.1 p.2 := by
    intro c
    cases hq : vwCl[c]? with
    | none => exact ⟨(0, fun _ => 0), fun q h => by cases h⟩
    | some q =>
      obtain ⟨h1, n, h2⟩ := zs_cl q (List.mem_of_getElem? hq)
      obtain ⟨cC, iS, hk⟩ := u_known (ws := lw_tbl) hts h1 (hts _ h2)
      exact ⟨(cC, iS), fun q' h => by cases h; exact hk⟩
  have hcl' := fun c => Classical.choose_spec (hcl c)
  obtain ⟨a0, r0, n0⟩ := zs_arr (hts (.arrayClass .int) (by decide +kernel))
  obtain ⟨a5, r5, n5⟩ := zs_arrO (C := "java/lang/Object") (hts _ (by decide +kernel))
  refine ⟨((fun c => (Classical.choose (hcl c)).1, fun c => (Classical.choose (hcl c)).2), fun t => match t with | 0 => a0 | _ => a5), ⟨fun c q hq => hcl' c q hq, fun k q hk => ?_⟩, fun ci q hq w hw => ?_⟩
  · rcases k with _ | _ | _ | _ | _ | _ | k
    · cases hk; exact ⟨r0, n0⟩
    · cases hk; exact ⟨r0, n0⟩
    · cases hk; exact ⟨r0, n0⟩
    · cases hk; exact ⟨r0, n0⟩
    · cases hk; exact ⟨r0, n0⟩
    · cases hk; exact ⟨r5, n5⟩
    · cases hk
  · have hm := List.mem_of_getElem? hq
    exact va_tabs (zLay_tabs q hm w hw) rfl (hts w ((zs_cl q hm).1 w hw))
theorem zs_t {E : String} {ik ic : Nat} (h1 : Cond.classLink RX7 ik E ∈ lw_tbl) (h2 : Cond.initialized E ∈ lw_tbl) (h3 : ∀ w ∈ (vx_atS RX7 ic E zsup).filter goodWord, w ∈ lw_tbl) : ∀ w ∈ zthw (E, ik, ic), goodWord w = true → w ∈ lw_tbl := by
  intro w hw hg
  rcases List.mem_cons.mp hw with e | hw
  · rw [e]; exact h1
  · rcases List.mem_cons.mp hw with e | hw
    · rw [e]; exact h2
    · exact h3 w (List.mem_filter.mpr ⟨hw, hg⟩)
theorem zs_thr : ∀ q ∈ zthr, ∀ w ∈ zthw q, goodWord w = true → w ∈ lw_tbl :=
  List.forall_mem_cons.mpr ⟨zs_t (by decide +kernel) (by decide +kernel) wl_v4, List.forall_mem_cons.mpr ⟨zs_t (by decide +kernel) (by decide +kernel) wl_v6, List.forall_mem_cons.mpr ⟨zs_t (by decide +kernel) (by decide +kernel) wl_v3, List.forall_mem_cons.mpr ⟨zs_t (by decide +kernel) (by decide +kernel) wl_v7, List.forall_mem_cons.mpr ⟨zs_t (by decide +kernel) (by decide +kernel) wl_v5, List.forall_mem_cons.mpr ⟨zs_t (by decide +kernel) (by decide +kernel) wl_v2, fun _ h => absurd h List.not_mem_nil⟩⟩⟩⟩⟩⟩
theorem zs_dcl : ∀ w ∈ zdcl, w ∈ lw_tbl ∧ w.onTables = true := by decide +kernel
theorem zs_cst : ∀ q ∈ zstrs, Cond.stringRef RX7 q.1 q.2 ∈ lw_tbl := by decide +kernel
theorem zs_cas : ∀ E ∈ zex, Cond.castable E E ∈ lw_tbl := by decide +kernel
theorem zs_caO : ∀ C ∈ [RX1, RX3, RX4, RX5], Cond.castable C "java/lang/Object" ∈ lw_tbl := by decide +kernel
theorem zs_str (hts : ∀ w ∈ lw_tbl, w.before args s = true) (hn : ∀ E ∈ zex, ∀ F ∈ zex, E ≠ F → (Cond.not (.castable E F)).before args s = true) : zStr s := by
  have ha : ∀ w ∈ lw_tbl, w.onTables = true → w.before #[] s = true := fun w hw ho => va_tabs ho rfl (hts w hw)
  obtain ⟨c7, k7, h7, -⟩ := Cond.instantiable_spec (hts (.instantiable RX7 8) (by decide +kernel))
  refine ⟨⟨fun q hq w hw hg => ha w (zs_thr q hq w hw hg) (zthw_tabs q hq w hw), fun w hw => va_Nw.of (zs_dcl w hw).2 (hts w (zs_dcl w hw).1)⟩, fun q hq => ?_, ⟨va_Nw.of rfl (hts _ (by decide +kernel)), va_Nw.of rfl (hts _ (by decide +kernel))⟩, fun E hE => ⟨va_Nw.of rfl (hts _ (zs_cas E hE)), fun F hF hne => va_Nc.of (hn E hE F hF hne)⟩, fun C hC => va_Nw.of rfl (hts _ (zs_caO C hC)), va_AO.of (hts _ (by decide +kernel))⟩
  obtain ⟨k, cf, i, a, -, -, -, -, -, he⟩ := Cond.stringRef_spec (args := args) (first := s) (o := none) (idx := []) h7 (hts _ (zs_cst q hq))
  exact ⟨a, vk_R.of (hts _ (zs_cst q hq)) he⟩
end ZST
theorem zM0_c (o : Nat) : zc zM0 o = 0 ∨ (o = 31 ∧ zc zM0 o = 26) ∨ zc zM0 o = 19 := by
  rcases Nat.lt_or_ge o 96 with h | h
  · have : ∀ o : Fin 96, zc zM0 o.val = 0 ∨ (o.val = 31 ∧ zc zM0 o.val = 26) ∨ zc zM0 o.val = 19 := by decide +kernel
    exact this ⟨o, h⟩
  · refine Or.inl ?_
    show (if o % 32 = 16 then (if o / 32 = 1 ∨ o / 32 = 2 then 19 else 0) else if o = 17 then 19 else (zlk [(31, 26, 0), (63, 19, 0)] o).1) = 0
    rw [zlk_no (b := 64) (by decide) (by omega), if_neg (show ¬ o = 17 by omega), if_neg (show ¬ (o / 32 = 1 ∨ o / 32 = 2) by omega)]
    split <;> rfl
theorem zM0_r (o k : Nat) : zr zM0 o k = none := by
  show (if o % 32 = 16 then none else if o = 17 then none else none) = none
  split
  · rfl
  · split <;> rfl
theorem zM0_A {ad : Nat → Nat} {sz : Nat} : ∀ q, zA ad zM0 sz q → sz ≤ q := by
  rintro q (⟨o, h1, h2, h3, -⟩ | h)
  · rcases zM0_c o with e | ⟨-, e⟩ | e
    · exact absurd e h1
    · exact absurd e h2
    · exact absurd e h3
  · exact h
theorem zM0_rel {D : zG} {ad : Nat → Nat} {H : Heap} (h : ad 31 < H.size) : zrel D ad zM0 H := by
  refine ⟨fun o o' h1 h2 h3 h4 _ => ?_, fun o h1 h3 => ?_, fun o h1 => ?_, fun o k o' _ e => by rw [zM0_r] at e; cases e⟩
  · rcases zM0_c o with e | ⟨q, e⟩ | e
    · exact absurd e h1
    · rcases zM0_c o' with e' | ⟨q', e'⟩ | e'
      · exact absurd e' h2
      · rw [q, q']
      · exact absurd e' h4
    · exact absurd e h3
  · rcases zM0_c o with e | ⟨q, e⟩ | e
    · exact absurd e h1
    · rw [q]; exact h
    · exact absurd e h3
  · rcases zM0_c o with e | ⟨q, e⟩ | e
    · exact absurd e h1
    · refine ⟨fun ci q hci hq => ?_, fun t ht h5 => ?_⟩
      · rw [e] at hci
        have h12 : ci < 11 := (List.getElem?_eq_some_iff.mp hq).1
        omega
      · rw [e] at ht
        omega
    · exact zat_19 e
theorem zs_at {s : State} {ad : Nat → Nat} {sz : Nat} (hsz : s.heap.size = sz) : ∀ a : Nat, a < s.heap.size → ¬ zA ad zM0 sz a := fun a h e => by
  have := zM0_A a e
  omega
theorem zs_St {s : State} {args : Array Value} {ad : Nat → Nat} (hts : ∀ w ∈ lw_tbl, w.before args s = true)
    (hU : (Cond.isRef (.static Bundle.tN "UNASSIGNED_STACK" Bundle.steD)).before args s = true) (hN : (Cond.isRef (.static Bundle.tN "SUPPRESSED_SENTINEL" Bundle.listD)).before args s = true)
    (hE : (Term.static "java/util/ArrayList" "DEFAULTCAPACITY_EMPTY_ELEMENTDATA" "[Ljava/lang/Object;").eval args s none [] s = some (.ref (ad 31)))
    (hT : va_T (.object "java/lang/Object") (ad 31) 0 (fun _ => .null) (zA ad zM0 s.heap.size) s s.heap) (hM : va_Mi "[Ljava/lang/Object;" (ad 63) s) : zSt ad zM0 (zA ad zM0 s.heap.size) s s.heap :=
  ⟨vx_Zqof (hts _ (by decide +kernel)) (hts _ (by decide +kernel)) hU (zs_at rfl), vx_Zqof (hts _ (by decide +kernel)) (hts _ (by decide +kernel)) hN (zs_at rfl), fun _ => ⟨va_Zof (hts _ (by decide +kernel)) (hts _ (by decide +kernel)) hE (zs_at rfl), hT⟩, fun _ => hM⟩

/-! the texts at the start -/
def ztm (i : Nat) : Term := .string RL (if i = 0 then 224 else 235)
theorem zs_tx1 : ∀ i : Fin 2, Cond.exactly (ztm i.val) "java/lang/String" ∈ flatC (Jvm.Cond.and given_1 narrow_1) := by decide +kernel
theorem zs_tx2 : ∀ i : Fin 2, Cond.eq (.field (ztm i.val) "java/lang/String" "coder" "B") (.int 0) ∈ flatC (Jvm.Cond.and given_1 narrow_1) := by decide +kernel
theorem zs_tx3 : ∀ i : Fin 2, Cond.arrayOf (.field (ztm i.val) "java/lang/String" "value" "[B") .byte ∈ flatC (Jvm.Cond.and given_1 narrow_1) := by decide +kernel
theorem zs_tx4 : ∀ i : Fin 2, Cond.eq (.length (.field (ztm i.val) "java/lang/String" "value" "[B")) (.int (Int32.ofNat (xjl.getD i.val 0))) ∈ flatC (Jvm.Cond.and given_1 narrow_1) := by decide +kernel
theorem zs_tx5 : ∀ i : Fin 2, ∀ j : Fin 3, Cond.eq (.elem (.field (ztm i.val) "java/lang/String" "value" "[B") (.int (Int32.ofNat j.val))) (.int ((xjb.getD i.val []).getD j.val 0)) ∈ flatC (Jvm.Cond.and given_1 narrow_1) := by decide +kernel
theorem zs_tx6 : Cond.not (Cond.eq (ztm 0) (ztm 1)) ∈ flatC (Jvm.Cond.and given_1 narrow_1) := by decide +kernel
theorem zs_Stg {s : State} {args : Array Value} (hts : ∀ w ∈ lw_tbl, w.before args s = true) (hg : ∀ w ∈ flatC (Jvm.Cond.and given_1 narrow_1), w.before args s = true) :
    ∃ aK aV : Nat → Nat, xU aK aV (fun q => s.heap.size ≤ q) s s.heap ∧ vk_R RL 224 "aon" (aK 0) s ∧ vk_R RL 235 "ocp" (aK 1) s := by
  have hA : ∀ a : Nat, a < s.heap.size → ¬ s.heap.size ≤ a := fun a h e => by omega
  obtain ⟨aK, aV, hS, he⟩ := vk_Sof (args := args) (s := s) (N := 2) (tm := ztm) (len := xjl) (byt := xjb) (A := fun q => s.heap.size ≤ q)
    (fun i hi => by rw [xjl_3 hi]; decide) (fun i hi => hg _ (zs_tx1 ⟨i, hi⟩)) (fun i hi => hg _ (zs_tx2 ⟨i, hi⟩)) (fun i hi => hg _ (zs_tx3 ⟨i, hi⟩)) (fun i hi => hg _ (zs_tx4 ⟨i, hi⟩))
    (fun i hi j hj => hg _ (zs_tx5 ⟨i, hi⟩ ⟨j, by rw [xjl_3 hi] at hj; exact hj⟩))
    (fun i j hi hj hne => by
      rcases (show (i = 0 ∧ j = 1) ∨ (i = 1 ∧ j = 0) by omega) with ⟨rfl, rfl⟩ | ⟨rfl, rfl⟩
      · exact Or.inl (hg _ zs_tx6)
      · exact Or.inr (hg _ zs_tx6)) hA
  refine ⟨aK, aV, ⟨hS, va_Zof (hts _ (by decide +kernel)) (hts _ (by decide +kernel)) (va_eqi (hg _ (by decide +kernel))) hA, va_Zqof (hts _ (by decide +kernel)) (hts _ (by decide +kernel)) (hg _ (by decide +kernel)) hA⟩, vk_R.of (hts _ (by decide +kernel)) (he 0 (by decide)), vk_R.of (hts _ (by decide +kernel)) (he 1 (by decide))⟩
