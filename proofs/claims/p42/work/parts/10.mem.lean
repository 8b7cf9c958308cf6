/-! PART 02: a typed memory over logical names (zMem), how a heap holds it (zrel), what the tables give (zKS), contracts (zS), the judgement zE. -/
abbrev zMem : Type := (Nat → Nat) × (Nat → Nat) × (Nat → Nat → Option Nat) × (Nat → Nat → Int32) × (Nat → Nat → Int64) × (Nat → Nat → UInt64)
/-- kind of a name: 0 none, 1.. objects of vwCl, 20.. rows -/
def zc (M : zMem) : Nat → Nat := M.1
/-- length of a row -/
def zn (M : zMem) : Nat → Nat := M.2.1
def zr (M : zMem) : Nat → Nat → Option Nat := M.2.2.1
def zi (M : zMem) : Nat → Nat → Int32 := M.2.2.2.1
def zl (M : zMem) : Nat → Nat → Int64 := M.2.2.2.2.1
def zd (M : zMem) : Nat → Nat → UInt64 := M.2.2.2.2.2
def zup {α : Type} (f : Nat → Nat → α) (a b : Nat) (x : α) : Nat → Nat → α := fun p q => if p = a ∧ q = b then x else f p q
theorem zup_s {α : Type} {f : Nat → Nat → α} {a b : Nat} {x : α} : zup f a b x a b = x := if_pos ⟨rfl, rfl⟩
theorem zup_n {α : Type} {f : Nat → Nat → α} {a b p q : Nat} {x : α} (h : ¬ (p = a ∧ q = b)) : zup f a b x p q = f p q := if_neg h
def zwi (M : zMem) (o k : Nat) (x : Int32) : zMem := (M.1, M.2.1, M.2.2.1, zup M.2.2.2.1 o k x, M.2.2.2.2.1, M.2.2.2.2.2)
def zwl (M : zMem) (o k : Nat) (x : Int64) : zMem := (M.1, M.2.1, M.2.2.1, M.2.2.2.1, zup M.2.2.2.2.1 o k x, M.2.2.2.2.2)
def zwd (M : zMem) (o k : Nat) (x : UInt64) : zMem := (M.1, M.2.1, M.2.2.1, M.2.2.2.1, M.2.2.2.2.1, zup M.2.2.2.2.2 o k x)
def zwr (M : zMem) (o k : Nat) (x : Option Nat) : zMem := (M.1, M.2.1, zup M.2.2.1 o k x, M.2.2.2.1, M.2.2.2.2.1, M.2.2.2.2.2)
/-- a new name o of kind t and length n, all cells at their defaults -/
def znew (M : zMem) (o t n : Nat) : zMem := (fun p => if p = o then t else M.1 p, fun p => if p = o then n else M.2.1 p, fun p q => if p = o then none else M.2.2.1 p q, fun p q => if p = o then 0 else M.2.2.2.1 p q, fun p q => if p = o then 0 else M.2.2.2.2.1 p q, fun p q => if p = o then 0 else M.2.2.2.2.2 p q)
/-- what the fields of the classes of vwCl are -/
def zct (ci : Nat) : Nat → FieldType := match ci with
  | 0 => tyJ0
  | 1 => tyJx00060
  | 2 => tyJx4a65c
  | 3 => tyX0
  | 4 => tyX1
  | 5 => tyX2
  | 6 => tyX3
  | 7 => tyX4
  | 8 => tyX5
  | 9 => tyX6
  | 10 => tyX7
  | _ => tyX8
/-- what rows hold: kind 20 + t -/
def zaty (t : Nat) : FieldType := match t with
  | 0 => .int
  | 1 => .long
  | 2 => .boolean
  | 3 => .char
  | 4 => .double
  | _ => .object "java/lang/Object"
def zmv (ad : Nat → Nat) (M : zMem) (ty : FieldType) (o k : Nat) : Value := match ty with
  | .int => .int (zi M o k)
  | .boolean => .int (zi M o k)
  | .char => .int (zi M o k)
  | .byte => .int (zi M o k)
  | .short => .int (zi M o k)
  | .long => .long (zl M o k)
  | .double => .double (zd M o k)
  | .float => .float 0
  | .object _ => va_rf ((zr M o k).map ad)
  | .array _ => va_rf ((zr M o k).map ad)
abbrev zG : Type := va_G × (Nat → ClassId)
def zat (D : zG) (ad : Nat → Nat) (M : zMem) (o : Nat) (H : Heap) : Prop :=
  (∀ (ci : Nat) (q : vw_C), zc M o = ci + 1 → vwCl[ci]? = some q → t_OB (ad o) (D.1.1 ci) q.2.2 (D.1.2 ci) H (fun k => zmv ad M (zct ci k) o k)) ∧
  (∀ t : Nat, zc M o = t + 20 → t ≤ 5 → H[ad o]? = some (arrV (D.2 (if t = 6 then 5 else t)) (zn M o) (fun j => zmv ad M (zaty t) o j)))
def zrel (D : zG) (ad : Nat → Nat) (M : zMem) (H : Heap) : Prop :=
  (∀ o o' : Nat, zc M o ≠ 0 → zc M o' ≠ 0 → zc M o ≠ 19 → zc M o' ≠ 19 → ad o = ad o' → o = o') ∧ (∀ o : Nat, zc M o ≠ 0 → zc M o ≠ 19 → ad o < H.size) ∧
  (∀ o : Nat, zc M o ≠ 0 → zat D ad M o H) ∧ (∀ o k o' : Nat, zc M o ≠ 0 → zr M o k = some o' → zc M o' ≠ 0)
abbrev ztys (D : zG) : List (ClassId × FieldType) := [(D.2 0, .int), (D.2 0, .int), (D.2 0, .int), (D.2 0, .int), (D.2 0, .int), (D.2 5, .object "java/lang/Object")]
def zLay (U : State) : Prop := ∀ (ci : Nat) (q : vw_C), vwCl[ci]? = some q → ∀ w ∈ u_ws q.1 q.2.1 q.2.2, w.before #[] U = true
def zK (D : zG) (U : State) : Prop := va_K D.1 vwCl (ztys D) U ∧ zLay U
/-- the cells that a method may write: what its memory names, and new ones -/
def zA (ad : Nat → Nat) (M : zMem) (sz : Nat) : Nat → Prop := fun q => (∃ o : Nat, zc M o ≠ 0 ∧ zc M o ≠ 26 ∧ zc M o ≠ 19 ∧ q = ad o) ∨ sz ≤ q
/-- the name of ArrayList's empty row, that nobody writes: kind 26 -/
def zE0 : Nat := 31
/-- the name of the Class object of Object[], that nobody reads: kind 19 -/
def zMi : Nat := 63
def zx (ad0 : Nat → Nat) (M0 : zMem) (sz : Nat) (ad : Nat → Nat) (M : zMem) : Prop :=
  (∀ o : Nat, zc M0 o ≠ 0 → ad o = ad0 o ∧ zc M o = zc M0 o) ∧ (∀ o : Nat, zc M o ≠ 0 → zc M0 o ≠ 0 ∨ sz ≤ ad o) ∧ (zc M zE0 = 26 → zc M0 zE0 ≠ 0) ∧ (zc M zMi = 19 → zc M0 zMi ≠ 0)
/-- the static of ArrayList, and the row without cells that it holds -/
def zEz (a : Nat) (A : Nat → Prop) (U : State) (H : Heap) : Prop := va_Z "java/util/ArrayList" "DEFAULTCAPACITY_EMPTY_ELEMENTDATA" "[Ljava/lang/Object;" (.ref a) A U H ∧ va_T (.object "java/lang/Object") a 0 (fun _ => .null) A U H
theorem zEz.moved {a : Nat} {A : Nat → Prop} {u U : State} {H : Heap} (hvm : u.vm.Alike U.vm) (h : zEz a A u H) : zEz a A U H := ⟨va_Z.moved hvm h.1, va_T.moved hvm h.2⟩
theorem zEz.kept {a : Nat} {A : Nat → Prop} {U : State} {H H1 : Heap} (h : zEz a A U H) (hq : ∀ q : Nat, q < H.size → ¬ A q → H1[q]? = H[q]?) : zEz a A U H1 := ⟨va_Z.kept h.1 hq, va_T.kept h.2 hq⟩
theorem zEz.narrow {a : Nat} {A B : Nat → Prop} {U : State} {H : Heap} (h : zEz a A U H) (hAB : ∀ q, B q → A q) : zEz a B U H := ⟨va_Z.narrow h.1 hAB, va_T.narrow h.2 hAB⟩
def zSt (ad : Nat → Nat) (M : zMem) (A : Nat → Prop) (U : State) (H : Heap) : Prop :=
  vx_Zq Bundle.tN "UNASSIGNED_STACK" Bundle.steD A U H ∧ vx_Zq Bundle.tN "SUPPRESSED_SENTINEL" Bundle.listD A U H ∧
  (zc M zE0 = 26 → zEz (ad zE0) A U H) ∧
  (zc M zMi = 19 → va_Mi "[Ljava/lang/Object;" (ad zMi) U)
/-- the texts of the exceptions -/
def zstrs : List (Nat × String) := [(52, "the time would be greater than 960"), (64, "there are 4 rooms"), (87, "there is no such mode"), (112, "there was no tick since the room was added"), (162, "there are 5 kinds"), (172, "there are 24 pallets"), (246, "no pallet is in a room"), (252, "there are no pallets"), (254, "there are 12 orders"), (281, "there is no such candidate"), (289, "the order has too few candidates"), (295, "the order is not shipped"), (312, "a number is out of range"), (316, "there is no such room"), (319, "there is no such kind"), (321, "there is no such pallet"), (323, "there is no such order"), (325, "the room is full"), (327, "the pallet is not in a room"), (329, "the order is not open")]
/-- the exceptions -/
def zex : List String := ["java/lang/IllegalArgumentException", "java/lang/IllegalStateException", "java/lang/IndexOutOfBoundsException", "java/util/NoSuchElementException", "java/lang/ArithmeticException", "java/lang/UnsupportedOperationException"]
/-- the throws: the exception, its entry in ColdStore's pool, its constructor's -/
def zthr : List (String × Nat × Nat) := [("java/lang/IllegalStateException", 50, 54), ("java/lang/IllegalArgumentException", 85, 89), ("java/util/NoSuchElementException", 110, 114), ("java/lang/ArithmeticException", 118, 120), ("java/lang/UnsupportedOperationException", 287, 291), ("java/lang/IndexOutOfBoundsException", 314, 318)]
def zsup : List String := ["java/lang/RuntimeException", "java/lang/Exception"]
def zdcl : List Cond := [.declares (Bundle.initS "java/lang/RuntimeException"), .declares (Bundle.initS "java/lang/Exception"), .declares (Bundle.initS Bundle.tN), .declares ⟨"java/lang/Object", "getClass", "()Ljava/lang/Class;"⟩]
def zthw (q : String × Nat × Nat) : List Cond := Cond.classLink RX7 q.2.1 q.1 :: Cond.initialized q.1 :: vx_atS RX7 q.2.2 q.1 zsup
def zThr (U : State) : Prop := (∀ q ∈ zthr, ∀ w ∈ zthw q, goodWord w = true → w.before #[] U = true) ∧ ∀ w ∈ zdcl, va_Nw w U
/-- what the tables say of texts, nest mates and casts -/
def zStr (U : State) : Prop := zThr U ∧ (∀ q ∈ zstrs, ∃ a : Nat, vk_R RX7 q.1 q.2 a U) ∧ (va_Nw (.methodLinkNest RX7 27 yX0_init "ColdStore") U ∧ va_Nw (.methodLinkNest RX7 34 yX2_init "ColdStore") U) ∧
  (∀ E ∈ zex, va_Nw (.castable E E) U ∧ ∀ F ∈ zex, E ≠ F → va_Nc E F U) ∧ (∀ C ∈ [RX1, RX3, RX4, RX5], va_Nw (.castable C "java/lang/Object") U) ∧ va_AO "java/lang/Object" U
def zKS (D : zG) (ad : Nat → Nat) (M : zMem) (A : Nat → Prop) (U : State) (H : Heap) : Prop := zK D U ∧ zSt ad M A U H ∧ zStr U
theorem zalike {u U : State} (hv : u.vm = U.vm) : u.vm.Alike U.vm := hv ▸ Vm.Alike.refl u.vm
theorem zLay_good : ∀ q ∈ vwCl, ∀ w ∈ u_ws q.1 q.2.1 q.2.2, goodWord w = true := by decide +kernel
theorem zLay.warm {s U : State} (hW : s.WarmedH U.vm) (h : zLay s) : zLay U := fun ci q hq w hw =>
  word_at hW (good_of_word (zLay_good q (List.mem_of_getElem? hq) w hw)) (h ci q hq w hw)
theorem zK.warm {D : zG} {s U : State} (hW : s.WarmedH U.vm) (h : zK D s) : zK D U := ⟨va_K.moved hW.alike h.1, h.2.warm hW⟩
theorem zthw_tabs : ∀ q ∈ zthr, ∀ w ∈ zthw q, w.onTables = true := by decide +kernel
theorem zthw_good : ∀ q ∈ zthr, ∀ w ∈ zthw q, goodWord w = true ∨ w = .castable q.1 q.1 ∨ w ∈ zdcl := by decide +kernel
theorem zThr.warm {s U : State} (hW : s.WarmedH U.vm) (h : zThr s) : zThr U := by
  refine ⟨fun q hq w hw hg => word_at hW (good_of_word hg) (h.1 q hq w hw hg), fun w hw => ?_⟩
  have h1 := h.2 w hw
  simp only [zdcl, List.mem_cons, List.not_mem_nil, or_false] at hw
  rcases hw with rfl | rfl | rfl | rfl <;> exact h1.warmD hW
theorem zThr.same {u U : State} (hv : u.vm = U.vm) (h : zThr u) : zThr U := by
  refine ⟨fun q hq w hw hg => va_tabs (zthw_tabs q hq w hw) hv (h.1 q hq w hw hg), fun w hw => ?_⟩
  have h1 := h.2 w hw
  simp only [zdcl, List.mem_cons, List.not_mem_nil, or_false] at hw
  rcases hw with rfl | rfl | rfl | rfl <;> exact h1.same rfl hv
theorem zStr.warm {s U : State} (hW : s.WarmedH U.vm) (h : zStr s) : zStr U := by
  obtain ⟨h0, h1, ⟨h2, h3⟩, h4, h5, h6⟩ := h
  refine ⟨h0.warm hW, fun q hq => ?_, ⟨h2.warmM hW, h3.warmM hW⟩, fun E hE => ⟨(h4 E hE).1.warmC hW, fun F hF hne => ((h4 E hE).2 F hF hne).moved hW.alike⟩, fun C hC => (h5 C hC).warmC hW, h6.moved hW.alike⟩
  obtain ⟨a, ha⟩ := h1 q hq
  exact ⟨a, ha.warm hW⟩
theorem zLay_tabs : ∀ q ∈ vwCl, ∀ w ∈ u_ws q.1 q.2.1 q.2.2, w.onTables = true := by decide +kernel
theorem zLay.same {u U : State} (hv : u.vm = U.vm) (h : zLay u) : zLay U := fun ci q hq w hw => va_tabs (zLay_tabs q (List.mem_of_getElem? hq) w hw) hv (h ci q hq w hw)
theorem zK.same {D : zG} {u U : State} (hv : u.vm = U.vm) (h : zK D u) : zK D U := ⟨va_K.moved (zalike hv) h.1, h.2.same hv⟩
theorem zStr.same {u U : State} (hv : u.vm = U.vm) (h : zStr u) : zStr U := by
  obtain ⟨h0, h1, ⟨h2, h3⟩, h4, h5, h6⟩ := h
  refine ⟨h0.same hv, fun q hq => ?_, ⟨h2.same rfl hv, h3.same rfl hv⟩, fun E hE => ⟨(h4 E hE).1.same rfl hv, fun F hF hne => ((h4 E hE).2 F hF hne).moved (zalike hv)⟩, fun C hC => (h5 C hC).same rfl hv, h6.moved (zalike hv)⟩
  obtain ⟨a, ha⟩ := h1 q hq
  exact ⟨a, vk_R.same hv.symm ha⟩
theorem zSt.moved {ad : Nat → Nat} {M : zMem} {A : Nat → Prop} {u U : State} {H : Heap} (hvm : u.vm.Alike U.vm) (h : zSt ad M A u H) : zSt ad M A U H :=
  ⟨vx_Zq.moved hvm h.1, vx_Zq.moved hvm h.2.1, fun e => zEz.moved hvm (h.2.2.1 e), fun e => va_Mi.moved hvm (h.2.2.2 e)⟩
theorem zKS.same {D : zG} {ad : Nat → Nat} {M : zMem} {A : Nat → Prop} {u U : State} {H : Heap} (hv : u.vm = U.vm) (h : zKS D ad M A u H) : zKS D ad M A U H :=
  ⟨h.1.same hv, h.2.1.moved (zalike hv), h.2.2.same hv⟩
theorem zKS.warm {D : zG} {ad : Nat → Nat} {M : zMem} {A : Nat → Prop} {s U : State} {H : Heap} (hW : s.WarmedH U.vm) (h : zKS D ad M A s H) : zKS D ad M A U H :=
  ⟨h.1.warm hW, h.2.1.moved hW.alike, h.2.2.warm hW⟩
/-- the logical value seen in the heap -/
def zph (ad : Nat → Nat) (v : Value) : Value := match v with
  | .ref a => .ref (ad a)
  | w => w
def zpl (ad : Nat → Nat) (q : Nat × Value) : Nat × Value := (q.1, zph ad q.2)
theorem zph_cat (ad : Nat → Nat) (v : Value) : (zph ad v).category = v.category := by cases v <;> rfl
def zlv (M : zMem) (v : Value) : Prop := ∀ o : Nat, v = .ref o → zc M o ≠ 0
theorem zlv_int {M : zMem} {x : Int32} : zlv M (.int x) := fun _ h => nomatch h
theorem zlv_long {M : zMem} {x : Int64} : zlv M (.long x) := fun _ h => nomatch h
theorem zlv_float {M : zMem} {x : UInt32} : zlv M (.float x) := fun _ h => nomatch h
theorem zlv_double {M : zMem} {x : UInt64} : zlv M (.double x) := fun _ h => nomatch h
theorem zlv_null {M : zMem} : zlv M .null := fun _ h => nomatch h
theorem zlv_ref {M : zMem} {o : Nat} (h : zc M o ≠ 0) : zlv M (.ref o) := fun _ e => by cases e; exact h
def zls (M : zMem) (st : List Value) : Prop := ∀ v ∈ st, zlv M v
theorem zls_c {M : zMem} {v : Value} {st : List Value} (h1 : zlv M v) (h : zls M st) : zls M (v :: st) := fun w hw => (List.mem_cons.mp hw).elim (fun e => by rw [e]; exact h1) (h w)
theorem zls_t {M : zMem} {v : Value} {st : List Value} (h : zls M (v :: st)) : zls M st := fun w hw => h w (List.mem_cons_of_mem _ hw)
theorem zls_h {M : zMem} {v : Value} {st : List Value} (h : zls M (v :: st)) : zlv M v := h v List.mem_cons_self
def zll (M : zMem) (ls : List (Nat × Value)) : Prop := ∀ q ∈ ls, zlv M q.2
theorem zls_mono {M M' : zMem} {st : List Value} (h : ∀ o, zc M o ≠ 0 → zc M' o ≠ 0) (k : zls M st) : zls M' st := fun v hv o e => h o (k v hv o e)
theorem zll_mono {M M' : zMem} {ls : List (Nat × Value)} (h : ∀ o, zc M o ≠ 0 → zc M' o ≠ 0) (k : zll M ls) : zll M' ls := fun v hv o e => h o (k v hv o e)
theorem zmv_congr {ad ad' : Nat → Nat} {M : zMem} {H : Heap} {D : zG} (hr : zrel D ad M H) (he : ∀ o, zc M o ≠ 0 → ad' o = ad o) {o : Nat} (ho : zc M o ≠ 0) (ty : FieldType) (k : Nat) : zmv ad' M ty o k = zmv ad M ty o k := by
  have h1 : (zr M o k).map ad' = (zr M o k).map ad := by
    cases h : zr M o k with
    | none => rfl
    | some o' => exact congrArg some (he o' (hr.2.2.2 o k o' ho h))
  cases ty <;> first | rfl | (show va_rf _ = va_rf _; rw [h1])
theorem zat_19 {D : zG} {ad : Nat → Nat} {M : zMem} {H : Heap} {o : Nat} (h : zc M o = 19) : zat D ad M o H := by
  refine ⟨fun ci q hci hq => ?_, fun t ht h6 => ?_⟩
  · rw [h] at hci
    have h12 : ci < 11 := (List.getElem?_eq_some_iff.mp hq).1
    omega
  · rw [h] at ht
    omega
theorem zat_congr {ad ad' : Nat → Nat} {M : zMem} {H : Heap} {D : zG} (hr : zrel D ad M H) (he : ∀ o, zc M o ≠ 0 → ad' o = ad o) {o : Nat} (ho : zc M o ≠ 0) : zat D ad' M o H := by
  obtain ⟨h1, h2⟩ := hr.2.2.1 o ho
  refine ⟨fun ci q hc hq => ?_, fun t ht h6 => ?_⟩
  · rw [he o ho]
    exact (h1 ci q hc hq).to (fun k _ => (zmv_congr hr he ho _ k).symm)
  · rw [he o ho, h2 t ht h6]
    congr 2
    funext j
    exact (zmv_congr hr he ho _ j).symm
theorem zrel_congr {ad ad' : Nat → Nat} {M : zMem} {H : Heap} {D : zG} (hr : zrel D ad M H) (he : ∀ o, zc M o ≠ 0 → ad' o = ad o) : zrel D ad' M H :=
  ⟨fun o o' h h' k k' e => hr.1 o o' h h' k k' (by rw [← he o h, ← he o' h']; exact e), fun o h k => by rw [he o h]; exact hr.2.1 o h k, fun o h => zat_congr hr he h, hr.2.2.2⟩
theorem zph_congr {ad ad' : Nat → Nat} {M : zMem} (he : ∀ o, zc M o ≠ 0 → ad' o = ad o) {v : Value} (hv : zlv M v) : zph ad' v = zph ad v := by
  cases v with
  | ref o => exact congrArg Value.ref (he o (hv o rfl))
  | _ => rfl
theorem zst_congr {ad ad' : Nat → Nat} {M : zMem} (he : ∀ o, zc M o ≠ 0 → ad' o = ad o) {st : List Value} (hv : zls M st) : st.map (zph ad') = st.map (zph ad) :=
  List.map_congr_left fun v h => zph_congr he (hv v h)
theorem zll_congr {ad ad' : Nat → Nat} {M : zMem} (he : ∀ o, zc M o ≠ 0 → ad' o = ad o) {ls : List (Nat × Value)} (hv : zll M ls) : ls.map (zpl ad') = ls.map (zpl ad) :=
  List.map_congr_left fun q h => by show (q.1, zph ad' q.2) = (q.1, zph ad q.2); rw [zph_congr he (hv q h)]
theorem zx_rf {ad : Nat → Nat} {M : zMem} {sz : Nat} : zx ad M sz ad M := ⟨fun _ _ => ⟨rfl, rfl⟩, fun _ h => Or.inl h, fun e => by rw [e]; decide, fun e => by rw [e]; decide⟩
theorem zx_tr {ad0 ad ad' : Nat → Nat} {M0 M M' : zMem} {sz sz' : Nat} (h : zx ad0 M0 sz ad M) (hs : sz ≤ sz') (h' : zx ad M sz' ad' M') : zx ad0 M0 sz ad' M' := by
  refine ⟨fun o ho => ?_, fun o ho => ?_, fun e => ?_, fun e => ?_⟩
  · obtain ⟨a, b⟩ := h.1 o ho
    obtain ⟨a', b'⟩ := h'.1 o (by rw [b]; exact ho)
    exact ⟨a'.trans a, b'.trans b⟩
  · rcases h'.2.1 o ho with h1 | h1
    · rcases h.2.1 o h1 with h2 | h2
      · exact Or.inl h2
      · exact Or.inr (by rw [(h'.1 o h1).1]; exact h2)
    · exact Or.inr (Nat.le_trans hs h1)
  · have h1 := h'.2.2.1 e
    exact h.2.2.1 (by rw [← (h'.1 zE0 h1).2]; exact e)
  · have h1 := h'.2.2.2 e
    exact h.2.2.2 (by rw [← (h'.1 zMi h1).2]; exact e)
/-- what the present memory lets be written, the first one lets, too -/
theorem zA_sub {ad0 ad : Nat → Nat} {M0 M : zMem} {sz sz' : Nat} (h : zx ad0 M0 sz ad M) (hs : sz ≤ sz') : ∀ q, zA ad M sz' q → zA ad0 M0 sz q := by
  intro q hq
  rcases hq with ⟨o, h1, h2, h19, rfl⟩ | hq
  · rcases h.2.1 o h1 with h3 | h3
    · obtain ⟨a, b⟩ := h.1 o h3
      exact Or.inl ⟨o, h3, by rw [← b]; exact h2, by rw [← b]; exact h19, a⟩
    · exact Or.inr h3
  · exact Or.inr (Nat.le_trans hs hq)
/-- the statics stay, seen from a later memory -/
theorem zSt.on {ad0 ad : Nat → Nat} {M0 M : zMem} {U : State} {H0 H : Heap} {locs : List Loc} (h : zSt ad0 M0 (zA ad0 M0 H0.size) U H0) (hz : zx ad0 M0 H0.size ad M) (hS : va_S (zA ad0 M0 H0.size) H0 H locs) : zSt ad M (zA ad M H.size) U H := by
  have hs := zA_sub hz hS.1
  have hk : ∀ a : Nat, a < H0.size → ¬ zA ad0 M0 H0.size a → H[a]? = H0[a]? := hS.2.1
  refine ⟨(vx_Zq.kept h.1 hk).narrow hs, (vx_Zq.kept h.2.1 hk).narrow hs, fun e => ?_, fun e => ?_⟩
  · obtain ⟨a, b⟩ := hz.1 zE0 (hz.2.2.1 e)
    rw [a]
    exact (zEz.kept (h.2.2.1 (by rw [← b]; exact e)) hk).narrow hs
  · obtain ⟨a, b⟩ := hz.1 zMi (hz.2.2.2 e)
    rw [a]
    exact h.2.2.2 (by rw [← b]; exact e)
/-! contracts -/
def zPc (D : zG) (ad : Nat → Nat) (M : zMem) (av : List Value) (sz : Nat) : Array Value → State → Prop := fun v U =>
  v = (av.map (zph ad)).toArray ∧ U.heap.size = sz ∧ zrel D ad M U.heap ∧ zls M av ∧ zKS D ad M (zA ad M sz) U U.heap
def zQc (D : zG) (ad : Nat → Nat) (M : zMem) (sz : Nat) (post : Option Value → zMem → Prop) : Array Value → State → Outcome → State → Prop := fun _ st oc t =>
  (∃ (v : Option Value) (ad' : Nat → Nat) (M' : zMem), oc = .returned (v.map (zph ad')) ∧ post v M' ∧ zrel D ad' M' t.heap ∧ zx ad M sz ad' M' ∧ (∀ w, v = some w → zlv M' w)) ∧ va_F (zA ad M sz) st t
def zXC (D : zG) (ad : Nat → Nat) (M : zMem) (sz : Nat) (xp : String → Prop) : String → State → State → Prop := fun E st t =>
  xp E ∧ zrel D ad M t.heap ∧ va_F (zA ad M sz) st t
/-- y, called with the values av in the memory M, ends: with an answer and a memory of post, or with an exception of xp, the memory unchanged -/
def zS (l : Launch) (y : MethodName) (ws : List Cond) (fr lo mc ms : Nat) (av : List Value) (M : zMem) (post : Option Value → zMem → Prop) (xp : String → Prop) : Prop :=
  ∀ (D : zG) (ad : Nat → Nat) (sz : Nat), vx_Met l y ws { frames := fr, cells := mc, slots := ms, locals := lo } (zPc D ad M av sz) (zQc D ad M sz post) (zXC D ad M sz xp) mc ms (zA ad M sz)
abbrev zCtx : Type := Program × Launch × Env × Room × State × MethodId × Array Value × List Frame × Method × Code × zG × (Nat → Nat) × zMem × (State → Prop)
def zCx (g : zCtx) (l0 : Launch) (cc : ByteArray) (nL : Nat) (ret : Option FieldType) (own nm : String) (Ts : List Cond) (fr lo mc ms : Nat) (M00 : zMem) (post : Option Value → zMem → Prop) (xp : String → Prop) (tab : List ExceptionTableEntry) : Prop := match g with
  | (p, l, e, R, s, m, args, below, meth, c, D, ad0, M0, Q) => l = l0 ∧ p.tables.exec = Jvm.exec ∧ c.code = cc ∧ c.maxLocals = nL ∧ meth.sig.returnType = ret ∧ s.vm.findClass own = some m.cls ∧ meth.name = nm ∧ (∀ w ∈ Ts, w.before args s = true) ∧ R = { frames := fr, cells := mc, slots := ms, locals := lo } ∧ M0 = M00 ∧
    Q = vx_MQ below (zQc D ad0 M0 s.heap.size post) (zXC D ad0 M0 s.heap.size xp) args s mc ms (zA ad0 M0 s.heap.size) ∧ meth.locks = false ∧ c.exceptionTable.toList = tab ∧ zKS D ad0 M0 (zA ad0 M0 s.heap.size) s s.heap
/-- the machine, at pc with these locals and this stack over the memory M, comes to the method's end -/
def zE (g : zCtx) (nL pc : Nat) (ls : List (Nat × Value)) (st : List Value) (M : zMem) (k n : Nat) : Prop := match g with
  | (p, l, e, R, s, m, args, below, meth, c, D, ad0, M0, Q) => ∀ (ad : Nat → Nat) (H : Heap) (locs : List Loc) (lss : Array Slot), zrel D ad M H → zx ad0 M0 s.heap.size ad M → va_S (zA ad0 M0 s.heap.size) s.heap H locs → lv_has lss nL (ls.map (zpl ad)) → zll M ls → zls M st →
    W p l e R s m args below meth c H locs k n Q (F0 m pc lss (st.map (zph ad)))
theorem zPc.blind {D : zG} {ad : Nat → Nat} {M : zMem} {av : List Value} {sz : Nat} : FrameBlind (zPc D ad M av sz) := fun a U g mk h =>
  ⟨h.1, h.2.1, h.2.2.1, h.2.2.2.1, zKS.same (u := U) (U := U.calling g mk a) rfl h.2.2.2.2⟩
theorem zargs0 (ad : Nat → Nat) : ∀ (vs : List Value) (i : Nat), lv_args i (vs.map (zph ad)) = (lv_args i vs).map (zpl ad)
  | [], _ => rfl
  | v :: vs, i => by
    show lv_args i (zph ad v :: vs.map (zph ad)) = _
    simp only [lv_args, zph_cat, List.map_cons, zargs0 ad vs]
    rfl
theorem zargs_mem : ∀ (vs : List Value) (i : Nat) (q : Nat × Value), q ∈ lv_args i vs → q.2 ∈ vs
  | [], _, q, h => by cases h
  | v :: vs, i, q, h => by
    simp only [lv_args, List.mem_cons] at h
    rcases h with h | h
    · rw [h]; exact List.mem_cons_self
    · exact List.mem_cons_of_mem _ (zargs_mem vs _ q h)
