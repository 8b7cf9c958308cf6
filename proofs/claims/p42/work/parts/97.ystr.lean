/-! PART 97y: the script's and the texts' own methods, over the machine itself: the heap stays -/
theorem zchr (x : Int32) : narrow .char (.int (x.toUInt32 % 65536).toInt32) = .int (x.toUInt32 % 65536).toInt32 := by
  have e : (x.toUInt32 % 65536).toUInt16.toUInt32 = x.toUInt32 % 65536 := by
    refine UInt32.toNat_inj.mp ?_
    rw [UInt32.toUInt32_toUInt16, UInt32.toNat_mod, UInt32.toNat_mod]
    exact Nat.mod_mod _ _
  exact congrArg (fun w : UInt32 => Value.int w.toInt32) e
def xHp (Hp : Heap) : Int32 → State → Prop := fun _ t => t.heap = Hp
def xHA (Hp : Heap) : Nat → Prop := fun q => Hp.size ≤ q
/-- the two texts "aon" and "ocp" -/
def xjl : List Nat := [3, 3]
def xjb : List (List Int32) := [[97, 111, 110], [111, 99, 112]]
def xU (aK aV : Nat → Nat) (A : Nat → Prop) (U : State) (H : Heap) : Prop :=
  vk_S 2 xjl xjb aK aV A U H ∧ va_Z "java/lang/String" "COMPACT_STRINGS" "Z" (.int 1) A U H ∧ va_Zq "jdk/internal/util/Preconditions" "SIOOBE_FORMATTER" "Ljava/util/function/BiFunction;" A U H
theorem xU.moved {aK aV : Nat → Nat} {A : Nat → Prop} {u U : State} {H : Heap} (hvm : u.vm.Alike U.vm) (h : xU aK aV A u H) : xU aK aV A U H := ⟨vk_S.moved hvm h.1, va_Z.moved hvm h.2.1, va_Zq.moved hvm h.2.2⟩
theorem xU.kept {aK aV : Nat → Nat} {A : Nat → Prop} {U : State} {H H1 : Heap} (h : xU aK aV A U H) (hq : ∀ a : Nat, a < H.size → ¬ A a → H1[a]? = H[a]?) : xU aK aV A U H1 := ⟨h.1.kept hq, h.2.1.kept hq, h.2.2.kept hq⟩
theorem xU.narrow {aK aV : Nat → Nat} {A B : Nat → Prop} {U : State} {H : Heap} (h : xU aK aV A U H) (hAB : ∀ q, B q → A q) : xU aK aV B U H := ⟨h.1.narrow hAB, h.2.1.narrow hAB, h.2.2.narrow hAB⟩
def xPU (av : List Value) (aK aV : Nat → Nat) (Hp : Heap) : Array Value → State → Prop := va_Pc av (fun U => U.heap = Hp ∧ xU aK aV (xHA Hp) U Hp)
theorem xPU.blind {av : List Value} {aK aV : Nat → Nat} {Hp : Heap} : FrameBlind (xPU av aK aV Hp) := fun a U g mk q => ⟨q.1, q.2.1, xU.moved (u := U) (U := U.calling g mk a) (Vm.Alike.refl U.vm) q.2.2⟩
theorem xjl_3 {i : Nat} (hi : i < 2) : xjl.getD i 0 = 3 := by
  have : ∀ i : Fin 2, xjl.getD i.val 0 = 3 := by decide
  exact this ⟨i, hi⟩
/-- the char that the text i has at the place k -/
def xch (i k : Nat) : Int32 := (((xjb.getD i []).getD k 0 &&& 255).toUInt32 % 65536).toInt32
theorem xch_v : ∀ i : Fin 2, ∀ k : Fin 3, xch i.val k.val = (xjb.getD i.val []).getD k.val 0 := by decide +kernel
set_option maxHeartbeats 4000000 in
set_option maxRecDepth 100000 in
/-- an index in reach -/
theorem w_J3n (l : Launch) (a b : Int32) (h1 : ¬ a < 0) (h2 : a < b) (Hp : Heap) : Met l yJ3_checkIndex_8e157 wsJ3_checkIndex_8e157 { frames := 0, cells := 0, slots := 0, locals := 0 } (va_Pc [.int a, .int b, .null] (fun U => U.heap = Hp)) (va_Qi (fun (r : Int32) (_ : Int32) => r = a) (xHp Hp) (xHA Hp)) 0 0 (xHA Hp) := by
  refine Met.ofW (cc := cJ3_checkIndex_8e157) (maxL := 3) (ret := (some .int)) (by decide +kernel) rfl ?_
  intro p e s m args below meth c s₁ B hml hv
  obtain ⟨rfl, hH⟩ := hv
  subst hH
  have hx := B.exec
  have hb := B.bytes
  have hr := B.returns
  have hts := atoms_spec (ws := wsJ3_checkIndex_8e157) B.pre
  have hown : s.vm.findClass RJ3 = some m.cls := findClass_of_methodNamed B.named
  have hS : va_S (xHA s.heap) s.heap s.heap [] := va_S.rf
  have hl := lv_entry ([.int a, .int b, .null]) (n := 3) (Nat.le_of_ble_eq_true rfl)
  rw [lg_entry_eq]
  generalize (lg_sl ([.int a, .int b, .null]) ++ List.replicate (3 - (lg_sl ([.int a, .int b, .null])).length) Slot.unset).toArray = ls at hl ⊢
  have hl : lv_has ls 3 [(0, .int a), (1, .int b), (2, .null)] := hl
  refine lv_iload_n hx hb dJ3_checkIndex_8e157_0 rfl (lv_at hl 0 rfl) ?_
  refine lv_if_lt (tgt := 9) hx hb dJ3_checkIndex_8e157_1 (by decide) (fun z => absurd z h1) (fun _ => ?_)
  refine lv_iload_n hx hb dJ3_checkIndex_8e157_4 rfl (lv_at hl 0 rfl) ?_
  refine lv_iload_n hx hb dJ3_checkIndex_8e157_5 rfl (lv_at hl 1 rfl) ?_
  refine lv_icmp_lt (tgt := 16) hx hb dJ3_checkIndex_8e157_6 (by decide) (fun _ => ?_) (fun z => absurd h2 z)
  refine lv_iload_n hx hb dJ3_checkIndex_8e157_16 rfl (lv_at hl 0 rfl) ?_
  exact W.zret (v := a) hx hb hr rfl (fun t ht hW => ⟨⟨a, 0, rfl, rfl, ht⟩, hS.F ht⟩) hS.2.2 dJ3_checkIndex_8e157_17
set_option maxHeartbeats 4000000 in
set_option maxRecDepth 100000 in
/-- an index in reach -/
theorem w_J3r (l : Launch) (a b : Int32) (q : Nat) (h1 : ¬ a < 0) (h2 : a < b) (Hp : Heap) : Met l yJ3_checkIndex_8e157 wsJ3_checkIndex_8e157 { frames := 0, cells := 0, slots := 0, locals := 0 } (va_Pc [.int a, .int b, .ref q] (fun U => U.heap = Hp)) (va_Qi (fun (r : Int32) (_ : Int32) => r = a) (xHp Hp) (xHA Hp)) 0 0 (xHA Hp) := by
  refine Met.ofW (cc := cJ3_checkIndex_8e157) (maxL := 3) (ret := (some .int)) (by decide +kernel) rfl ?_
  intro p e s m args below meth c s₁ B hml hv
  obtain ⟨rfl, hH⟩ := hv
  subst hH
  have hx := B.exec
  have hb := B.bytes
  have hr := B.returns
  have hts := atoms_spec (ws := wsJ3_checkIndex_8e157) B.pre
  have hown : s.vm.findClass RJ3 = some m.cls := findClass_of_methodNamed B.named
  have hS : va_S (xHA s.heap) s.heap s.heap [] := va_S.rf
  have hl := lv_entry ([.int a, .int b, .ref q]) (n := 3) (Nat.le_of_ble_eq_true rfl)
  rw [lg_entry_eq]
  generalize (lg_sl ([.int a, .int b, .ref q]) ++ List.replicate (3 - (lg_sl ([.int a, .int b, .ref q])).length) Slot.unset).toArray = ls at hl ⊢
  have hl : lv_has ls 3 [(0, .int a), (1, .int b), (2, .ref q)] := hl
  refine lv_iload_n hx hb dJ3_checkIndex_8e157_0 rfl (lv_at hl 0 rfl) ?_
  refine lv_if_lt (tgt := 9) hx hb dJ3_checkIndex_8e157_1 (by decide) (fun z => absurd z h1) (fun _ => ?_)
  refine lv_iload_n hx hb dJ3_checkIndex_8e157_4 rfl (lv_at hl 0 rfl) ?_
  refine lv_iload_n hx hb dJ3_checkIndex_8e157_5 rfl (lv_at hl 1 rfl) ?_
  refine lv_icmp_lt (tgt := 16) hx hb dJ3_checkIndex_8e157_6 (by decide) (fun _ => ?_) (fun z => absurd h2 z)
  refine lv_iload_n hx hb dJ3_checkIndex_8e157_16 rfl (lv_at hl 0 rfl) ?_
  exact W.zret (v := a) hx hb hr rfl (fun t ht hW => ⟨⟨a, 0, rfl, rfl, ht⟩, hS.F ht⟩) hS.2.2 dJ3_checkIndex_8e157_17
set_option maxHeartbeats 4000000 in
set_option maxRecDepth 100000 in
/-- an index in reach -/
theorem w_ci (l : Launch) (a b : Int32) (h1 : ¬ a < 0) (h2 : a < b) (aK aV : Nat → Nat) (Hp : Heap) : Met l yJ0_checkIndex_df160 wsJ0_checkIndex_df160 { frames := 1, cells := 0, slots := 0, locals := 22 } (xPU [.int a, .int b] aK aV Hp) (va_Qv (fun (_ : Int32) => True) (xHp Hp) (xHA Hp)) 0 0 (xHA Hp) := by
  refine Met.ofW (cc := cJ0_checkIndex_df160) (maxL := 2) (ret := none) (by decide +kernel) rfl ?_
  intro p e s m args below meth c s₁ B hml hv
  obtain ⟨rfl, hH, hU⟩ := hv
  subst hH
  have hx := B.exec
  have hb := B.bytes
  have hr := B.returns
  have hts := atoms_spec (ws := wsJ0_checkIndex_df160) B.pre
  have hown : s.vm.findClass RJ0 = some m.cls := findClass_of_methodNamed B.named
  have hS : va_S (xHA s.heap) s.heap s.heap [] := va_S.rf
  have hl := lv_entry ([.int a, .int b]) (n := 2) (Nat.le_of_ble_eq_true rfl)
  rw [lg_entry_eq]
  generalize (lg_sl ([.int a, .int b]) ++ List.replicate (2 - (lg_sl ([.int a, .int b])).length) Slot.unset).toArray = ls at hl ⊢
  have hl : lv_has ls 2 [(0, .int a), (1, .int b)] := hl
  refine lv_iload_n hx hb dJ0_checkIndex_df160_0 rfl (lv_at hl 0 rfl) ?_
  refine lv_iload_n hx hb dJ0_checkIndex_df160_1 rfl (lv_at hl 1 rfl) ?_
  rcases hU.2.2 with hZ | ⟨q, hZ⟩
  · refine va_gets hx hb hZ hS hown (hts (.fieldLink RJ0 1053 "jdk/internal/util/Preconditions" "SIOOBE_FORMATTER" "Ljava/util/function/BiFunction;") (by decide +kernel)) (fun _ h9 => h9) dJ0_checkIndex_df160_2 ?_
    refine va_calli (va_runS (As := [.int a, .int b, .null]) (rest := []) ⟨hx, hb, hml, hown, hts⟩ (w_J3n l a b h1 h2 s.heap) (va_cwS 3 hts gJ0_checkIndex_df160_J3_checkIndex_8e157 rfl rfl rfl (by decide +kernel) ⟨Nat.le_of_ble_eq_true rfl, Nat.le_of_ble_eq_true rfl⟩) ⟨fun a9 U g mk z => ⟨z.1, z.2⟩, fun U hU9 hW => ⟨rfl, hU9⟩⟩ rfl rfl hl.1 rfl (Nat.le_of_ble_eq_true rfl) dJ0_checkIndex_df160_5 ⟨Nat.le_of_ble_eq_true rfl, Nat.le_of_ble_eq_true rfl⟩) hS (fun z _ h9 => h9) (fun z h9 => h9) (fun r u t H1 locs1 ht hvm hw hB hz1 hk1 hS1 => ?_)
    have hH1 : H1 = s.heap := ht.symm.trans hB
    subst hH1
    refine lv_pop hx hb dJ0_checkIndex_df160_8 rfl ?_
    exact W.vret hx hb hr (fun t9 ht9 hW => ⟨⟨0, rfl, trivial, ht9⟩, hS1.F ht9⟩) hS1.2.2 dJ0_checkIndex_df160_9
  · refine va_gets hx hb hZ hS hown (hts (.fieldLink RJ0 1053 "jdk/internal/util/Preconditions" "SIOOBE_FORMATTER" "Ljava/util/function/BiFunction;") (by decide +kernel)) (fun _ h9 => h9) dJ0_checkIndex_df160_2 ?_
    refine va_calli (va_runS (As := [.int a, .int b, .ref q]) (rest := []) ⟨hx, hb, hml, hown, hts⟩ (w_J3r l a b q h1 h2 s.heap) (va_cwS 3 hts gJ0_checkIndex_df160_J3_checkIndex_8e157 rfl rfl rfl (by decide +kernel) ⟨Nat.le_of_ble_eq_true rfl, Nat.le_of_ble_eq_true rfl⟩) ⟨fun a9 U g mk z => ⟨z.1, z.2⟩, fun U hU9 hW => ⟨rfl, hU9⟩⟩ rfl rfl hl.1 rfl (Nat.le_of_ble_eq_true rfl) dJ0_checkIndex_df160_5 ⟨Nat.le_of_ble_eq_true rfl, Nat.le_of_ble_eq_true rfl⟩) hS (fun z _ h9 => h9) (fun z h9 => h9) (fun r u t H1 locs1 ht hvm hw hB hz1 hk1 hS1 => ?_)
    have hH1 : H1 = s.heap := ht.symm.trans hB
    subst hH1
    refine lv_pop hx hb dJ0_checkIndex_df160_8 rfl ?_
    exact W.vret hx hb hr (fun t9 ht9 hW => ⟨⟨0, rfl, trivial, ht9⟩, hS1.F ht9⟩) hS1.2.2 dJ0_checkIndex_df160_9
set_option maxHeartbeats 4000000 in
set_option maxRecDepth 100000 in
/-- the char at a place in reach -/
theorem w_lat (l : Launch) (aK aV : Nat → Nat) (i k : Nat) (hi : i < 2) (hk : k < 3) (Hp : Heap) : Met l yJ1_charAt_3b067 wsJ1_charAt_3b067 { frames := 2, cells := 0, slots := 0, locals := 43 } (xPU [.ref (aV i), .int (nI k)] aK aV Hp) (va_Qi (fun (r : Int32) (_ : Int32) => r = xch i k) (xHp Hp) (xHA Hp)) 0 0 (xHA Hp) := by
  refine Met.ofW (cc := cJ1_charAt_3b067) (maxL := 2) (ret := (some .char)) (by decide +kernel) rfl ?_
  intro p e s m args below meth c s₁ B hml hv
  obtain ⟨rfl, hH, hU⟩ := hv
  subst hH
  have hx := B.exec
  have hb := B.bytes
  have hr := B.returns
  have hts := atoms_spec (ws := wsJ1_charAt_3b067) B.pre
  have hown : s.vm.findClass RJ1 = some m.cls := findClass_of_methodNamed B.named
  have hS : va_S (xHA s.heap) s.heap s.heap [] := va_S.rf
  have hl := lv_entry ([.ref (aV i), .int (nI k)]) (n := 2) (Nat.le_of_ble_eq_true rfl)
  rw [lg_entry_eq]
  generalize (lg_sl ([.ref (aV i), .int (nI k)]) ++ List.replicate (2 - (lg_sl ([.ref (aV i), .int (nI k)])).length) Slot.unset).toArray = ls at hl ⊢
  have hl : lv_has ls 2 [(0, .ref (aV i)), (1, .int (nI k))] := hl
  obtain ⟨cell, v1, v2, v3, v4, v5, v6, v7⟩ := (hU.1.1 i hi).2.2.2
  rw [xjl_3 hi] at v4 v5 v6
  refine lv_iload_n hx hb dJ1_charAt_3b067_0 rfl (lv_at hl 1 rfl) ?_
  refine lv_aload_n hx hb dJ1_charAt_3b067_1 rfl (lv_at hl 0 rfl) ?_
  refine W.alen (n := 3) hx hb v1 v2 (v5.trans (by decide)) rfl rfl dJ1_charAt_3b067_2 ?_
  have h1 : ¬ nI k < 0 := nI_nn k (by omega)
  have h2 : nI k < 3 := nI_lt (b := 3) hk (by omega)
  refine W.eq (g2 := F0 m 3 ls [.int 3, .int (nI k)]) rfl ?_
  refine va_callv (va_runS (As := [.int (nI k), .int 3]) (rest := []) ⟨hx, hb, hml, hown, hts⟩ (w_ci l (nI k) 3 h1 h2 aK aV s.heap) (va_cwS 2 hts gJ1_charAt_3b067_J0_checkIndex_df160 rfl rfl rfl (by decide +kernel) ⟨Nat.le_of_ble_eq_true rfl, Nat.le_of_ble_eq_true rfl⟩) ⟨xPU.blind, fun U hU9 hW => ⟨rfl, hU9, xU.moved hW.alike hU⟩⟩ rfl rfl hl.1 rfl (Nat.le_of_ble_eq_true rfl) dJ1_charAt_3b067_3 ⟨Nat.le_of_ble_eq_true rfl, Nat.le_of_ble_eq_true rfl⟩) hS (fun z _ h9 => h9) (fun z h9 => h9) (fun u t H1 locs1 ht hvm hw hB hz1 hk1 hS1 => ?_)
  have hH1 : H1 = s.heap := ht.symm.trans hB
  subst hH1
  refine lv_aload_n hx hb dJ1_charAt_3b067_6 rfl (lv_at hl 0 rfl) ?_
  refine lv_iload_n hx hb dJ1_charAt_3b067_7 rfl (lv_at hl 1 rfl) ?_
  have e9 : (nI k).toNatClampNeg = k := nI_clamp (by omega)
  refine W.bald (v := .int ((xjb.getD i []).getD k 0)) hx hb v1 v2 v3 (by rw [e9]; exact fun z => z.elim h1 (fun w => by omega)) (by rw [e9]; exact v6 k hk) rfl rfl dJ1_charAt_3b067_8 ?_
  refine W.eq (g2 := F0 m 9 ls [.int ((xjb.getD i []).getD k 0)]) rfl ?_
  refine lv_sipush (v := 255) hx hb dJ1_charAt_3b067_9 (by decide) ?_
  refine lv_iand hx hb dJ1_charAt_3b067_12 ?_
  refine lv_i2c hx hb dJ1_charAt_3b067_13 rfl ?_
  exact W.zret (v := xch i k) hx hb hr (zchr _) (fun t9 ht9 hW => ⟨⟨xch i k, 0, rfl, rfl, ht9⟩, hS1.F ht9⟩) hS1.2.2 dJ1_charAt_3b067_14
set_option maxHeartbeats 4000000 in
set_option maxRecDepth 100000 in
/-- a text of bytes -/
theorem w_isl (l : Launch) (aK aV : Nat → Nat) (i : Nat) (hi : i < 2) (Hp : Heap) : Met l yJ0_isLatin1_aae02 wsJ0_isLatin1_aae02 { frames := 0, cells := 0, slots := 0, locals := 0 } (xPU [.ref (aK i)] aK aV Hp) (va_Qi (fun (r : Int32) (_ : Int32) => r = 1) (xHp Hp) (xHA Hp)) 0 0 (xHA Hp) := by
  refine Met.ofW (cc := cJ0_isLatin1_aae02) (maxL := 1) (ret := (some .boolean)) (by decide +kernel) rfl ?_
  intro p e s m args below meth c s₁ B hml hv
  obtain ⟨rfl, hH, hU⟩ := hv
  subst hH
  have hx := B.exec
  have hb := B.bytes
  have hr := B.returns
  have hts := atoms_spec (ws := wsJ0_isLatin1_aae02) B.pre
  have hown : s.vm.findClass RJ0 = some m.cls := findClass_of_methodNamed B.named
  have hS : va_S (xHA s.heap) s.heap s.heap [] := va_S.rf
  have hl := lv_entry ([.ref (aK i)]) (n := 1) (Nat.le_of_ble_eq_true rfl)
  rw [lg_entry_eq]
  generalize (lg_sl ([.ref (aK i)]) ++ List.replicate (1 - (lg_sl ([.ref (aK i)])).length) Slot.unset).toArray = ls at hl ⊢
  have hl : lv_has ls 1 [(0, .ref (aK i))] := hl
  refine va_gets hx hb hU.2.1 hS hown (hts (.fieldLink RJ0 38 "java/lang/String" "COMPACT_STRINGS" "Z") (by decide +kernel)) (fun _ h9 => h9) dJ0_isLatin1_aae02_0 ?_
  refine lv_if_eq (tgt := 17) hx hb dJ0_isLatin1_aae02_3 (by decide) (fun z => absurd z (by decide)) (fun _ => ?_)
  refine lv_aload_n hx hb dJ0_isLatin1_aae02_6 rfl (lv_at hl 0 rfl) ?_
  refine vk_getf hx hb (hU.1.1 i hi).2.1 hS hown (hts (.fieldLink RJ0 15 "java/lang/String" "coder" "B") (by decide +kernel)) (fun _ h9 => h9) dJ0_isLatin1_aae02_7 ?_
  refine lv_if_ne (tgt := 17) hx hb dJ0_isLatin1_aae02_10 (by decide) (fun z => absurd rfl z) (fun _ => ?_)
  refine lv_iconst (v := 1) hx hb dJ0_isLatin1_aae02_13 (by decide) ?_
  refine lv_goto (tgt := 18) hx hb dJ0_isLatin1_aae02_14 (by decide) ?_
  exact W.zret (v := 1) hx hb hr rfl (fun t ht hW => ⟨⟨1, 0, rfl, rfl, ht⟩, hS.F ht⟩) hS.2.2 dJ0_isLatin1_aae02_18
set_option maxHeartbeats 4000000 in
set_option maxRecDepth 100000 in
/-- the char of a text at a place in reach -/
theorem w_chr (l : Launch) (aK aV : Nat → Nat) (i k : Nat) (hi : i < 2) (hk : k < 3) (Hp : Heap) : Met l yJ0_charAt_5068e wsJ0_charAt_5068e { frames := 3, cells := 0, slots := 0, locals := 64 } (xPU [.ref (aK i), .int (nI k)] aK aV Hp) (va_Qi (fun (r : Int32) (_ : Int32) => r = xch i k) (xHp Hp) (xHA Hp)) 0 0 (xHA Hp) := by
  refine Met.ofW (cc := cJ0_charAt_5068e) (maxL := 2) (ret := (some .char)) (by decide +kernel) rfl ?_
  intro p e s m args below meth c s₁ B hml hv
  obtain ⟨rfl, hH, hU⟩ := hv
  subst hH
  have hx := B.exec
  have hb := B.bytes
  have hr := B.returns
  have hts := atoms_spec (ws := wsJ0_charAt_5068e) B.pre
  have hown : s.vm.findClass RJ0 = some m.cls := findClass_of_methodNamed B.named
  have hS : va_S (xHA s.heap) s.heap s.heap [] := va_S.rf
  have hl := lv_entry ([.ref (aK i), .int (nI k)]) (n := 2) (Nat.le_of_ble_eq_true rfl)
  rw [lg_entry_eq]
  generalize (lg_sl ([.ref (aK i), .int (nI k)]) ++ List.replicate (2 - (lg_sl ([.ref (aK i), .int (nI k)])).length) Slot.unset).toArray = ls at hl ⊢
  have hl : lv_has ls 2 [(0, .ref (aK i)), (1, .int (nI k))] := hl
  refine lv_aload_n hx hb dJ0_charAt_5068e_0 rfl (lv_at hl 0 rfl) ?_
  refine va_calli (va_runV (As := []) (rest := []) ⟨hx, hb, hml, hown, hts⟩ (w_isl l aK aV i hi s.heap) (cwV 0 hts gJ0_charAt_5068e_J0_isLatin1_aae02 rfl rfl rfl (by decide +kernel) ⟨Nat.le_of_ble_eq_true rfl, Nat.le_of_ble_eq_true rfl⟩) ⟨xPU.blind, vk_recv hU.1 hi hS, fun U hU9 hW => ⟨rfl, hU9, xU.moved hW.alike hU⟩⟩ rfl rfl hl.1 rfl (Nat.le_of_ble_eq_true rfl) dJ0_charAt_5068e_1 ⟨Nat.le_of_ble_eq_true rfl, Nat.le_of_ble_eq_true rfl⟩) hS (fun z _ h9 => h9) (fun z h9 => h9) (fun r u t H1 locs1 ht hvm hw hB hz1 hk1 hS1 => ?_)
  have hH1 : H1 = s.heap := ht.symm.trans hB
  subst hH1
  rw [hw]
  refine lv_if_eq (tgt := 16) hx hb dJ0_charAt_5068e_4 (by decide) (fun z => absurd z (by decide)) (fun _ => ?_)
  refine lv_aload_n hx hb dJ0_charAt_5068e_7 rfl (lv_at hl 0 rfl) ?_
  refine vk_getf hx hb (hU.1.1 i hi).2.2.1 hS1 hown (hts (.fieldLink RJ0 9 "java/lang/String" "value" "[B") (by decide +kernel)) (fun _ h9 => h9) dJ0_charAt_5068e_8 ?_
  refine lv_iload_n hx hb dJ0_charAt_5068e_11 rfl (lv_at hl 1 rfl) ?_
  refine va_calli (va_runS (As := [.ref (aV i), .int (nI k)]) (rest := []) ⟨hx, hb, hml, hown, hts⟩ (w_lat l aK aV i k hi hk s.heap) (va_cwS 2 hts gJ0_charAt_5068e_J1_charAt_3b067 rfl rfl rfl (by decide +kernel) ⟨Nat.le_of_ble_eq_true rfl, Nat.le_of_ble_eq_true rfl⟩) ⟨xPU.blind, fun U hU9 hW => ⟨rfl, hU9, xU.moved hW.alike hU⟩⟩ rfl rfl hl.1 rfl (Nat.le_of_ble_eq_true rfl) dJ0_charAt_5068e_12 ⟨Nat.le_of_ble_eq_true rfl, Nat.le_of_ble_eq_true rfl⟩) hS1 (fun z _ h9 => h9) (fun z h9 => h9) (fun r9 u9 t9 H2 locs2 ht9 hvm9 hw9 hB9 hz9 hk9 hS2 => ?_)
  have hH2 : H2 = s.heap := ht9.symm.trans hB9
  subst hH2
  rw [hw9]
  exact W.zret (v := xch i k) hx hb hr (zchr _) (fun t8 ht8 hW => ⟨⟨xch i k, 0, rfl, rfl, ht8⟩, hS2.F ht8⟩) hS2.2.2 dJ0_charAt_5068e_15
set_option maxHeartbeats 4000000 in
set_option maxRecDepth 100000 in
/-- a place of the script, or 0 -/
theorem w_at (l : Launch) (b L : Nat) (xs : Nat → Int32) (k : Nat) (hk : k < 2 ^ 30) (hL : L < 2 ^ 30) (Hp : Heap) : Met l yL_at wsL_at { frames := 0, cells := 0, slots := 0, locals := 0 } (va_Pc [.ref b, .int (nI k)] (fun U => U.heap = Hp ∧ va_X b L xs U Hp ∧ b < Hp.size)) (va_Qi (fun (r : Int32) (_ : Int32) => True) (xHp Hp) (xHA Hp)) 0 0 (xHA Hp) := by
  refine Met.ofW (cc := cL_at) (maxL := 2) (ret := (some .int)) (by decide +kernel) rfl ?_
  intro p e s m args below meth c s₁ B hml hv
  obtain ⟨rfl, hH, hX, hbl⟩ := hv
  subst hH
  have hx := B.exec
  have hb := B.bytes
  have hr := B.returns
  have hts := atoms_spec (ws := wsL_at) B.pre
  have hown : s.vm.findClass RL = some m.cls := findClass_of_methodNamed B.named
  have hS : va_S (xHA s.heap) s.heap s.heap [] := va_S.rf
  have hl := lv_entry ([.ref b, .int (nI k)]) (n := 2) (Nat.le_of_ble_eq_true rfl)
  rw [lg_entry_eq]
  generalize (lg_sl ([.ref b, .int (nI k)]) ++ List.replicate (2 - (lg_sl ([.ref b, .int (nI k)])).length) Slot.unset).toArray = ls at hl ⊢
  have hl : lv_has ls 2 [(0, .ref b), (1, .int (nI k))] := hl
  have hbA : ¬ xHA s.heap b := Nat.not_le.mpr hbl
  refine lv_iload_n hx hb dL_at_0 rfl (lv_at hl 1 rfl) ?_
  refine lv_aload_n hx hb dL_at_1 rfl (lv_at hl 0 rfl) ?_
  refine va_slen hx hb hX hbl hbA hS dL_at_2 ?_
  refine lv_icmp_ge (tgt := 12) hx hb dL_at_3 (by decide) (fun _ => ?_) (fun z => ?_)
  · refine lv_iconst (v := 0) hx hb dL_at_12 (by decide) ?_
    exact W.zret (v := 0) hx hb hr rfl (fun t ht hW => ⟨⟨0, 0, rfl, trivial, ht⟩, hS.F ht⟩) hS.2.2 dL_at_13
  · have hlt : k < L := by
      have z9 : ¬ nI L ≤ nI k := z
      rw [nI_leI (by omega) (by omega)] at z9
      omega
    refine lv_aload_n hx hb dL_at_6 rfl (lv_at hl 0 rfl) ?_
    refine lv_iload_n hx hb dL_at_7 rfl (lv_at hl 1 rfl) ?_
    refine va_sld hx hb hX hbl hbA hS (vp_in_nI hlt (by omega)) dL_at_8 ?_
    refine lv_goto (tgt := 13) hx hb dL_at_9 (by decide) ?_
    exact W.zret hx hb hr rfl (fun t ht hW => ⟨⟨_, 0, rfl, trivial, ht⟩, hS.F ht⟩) hS.2.2 dL_at_13
