/-! PART 84c: caught exceptions, the handler walked like the rest -/
/-- the row x of the table takes E at pc: its handler stores the exception into a local; the walk goes on at pc' with the locals ls' -/
def zCtc (cc : ByteArray) (nL : Nat) (Ts : List Cond) (own : String) (tab : List ExceptionTableEntry) (pc : Nat) (E : String) (ls ls' : List (Nat × Value)) (pc' : Nat) : Prop :=
  ∃ (pre : List ExceptionTableEntry) (x : ExceptionTableEntry) (suf : List ExceptionTableEntry) (sl w : Nat), tab = pre ++ x :: suf ∧
    (∀ z ∈ pre, covers z pc = false ∨ (z.catchType ≠ 0 ∧ ∃ nm : String, Cond.classLink own z.catchType nm ∈ Ts ∧ nm ∈ zex ∧ E ≠ nm)) ∧ covers x pc = true ∧ x.catchType ≠ 0 ∧ Cond.classLink own x.catchType E ∈ Ts ∧ E ∈ zex ∧
    ((∃ f : Fin 4, decode cc x.handlerPc = .ok (.astore_n f, 1) ∧ (f : Nat) = sl ∧ w = 1) ∨ (decode cc x.handlerPc = .ok (.astore sl, 2) ∧ w = 2)) ∧ sl < nL ∧ zfl sl ls = ls' ∧ x.handlerPc + w = pc'
section ZLC
variable {g : zCtx} {l0 : Launch} {cc : ByteArray} {nL : Nat} {ret : Option FieldType} {own nm : String} {Ts : List Cond} {fr lo mc ms : Nat} {M00 : zMem} {post : Option Value → zMem → Prop} {xp : String → Prop} {tab : List ExceptionTableEntry}
variable {pc : Nat} {ls ls' : List (Nat × Value)} {st rest : List Value} {M : zMem} {k n : Nat}
theorem z_ofRunC {p : Program} {l : Launch} {e : Env} {R : Room} {s : State} {m : MethodId} {args : Array Value} {below : List Frame} {meth : Method} {c : Code} {D : zG} {ad0 : Nat → Nat} {M0 : zMem} {Q : State → Prop}
    (hx : p.tables.exec = Jvm.exec) (hb : c.code = cc) (hown : s.vm.findClass own = some m.cls) (hts : ∀ w ∈ Ts, w.before args s = true) (htab : c.exceptionTable.toList = tab) (hstr : zStr s) 
    {ad : Nat → Nat} {H : Heap} {locs : List Loc} {lss : Array Slot} (hr : zrel D ad M H) (hz : zx ad0 M0 s.heap.size ad M) (hS : va_S (zA ad0 M0 s.heap.size) s.heap H locs) (hl : lv_has lss nL (ls.map (zpl ad))) (hL : zll M ls) (hT : zls M rest)
    {st0 : List Value} {a : Array Value} {mc1 ms1 : Nat} {post1 : Option Value → zMem → Prop} {xp1 : String → Prop}
    (hrun : vx_Run p l e R s m args below meth c H locs k n mc1 ms1 (F0 m pc lss st0) (rest.map (zph ad)) (zQc D ad M H.size post1 a) (zXC D ad M H.size xp1) (zA ad M H.size))
    (hxp : ∀ E, xp1 E → ∃ (ls' : List (Nat × Value)) (pc' : Nat), zCtc cc nL Ts own tab pc E ls ls' pc' ∧ zE (p, l, e, R, s, m, args, below, meth, c, D, ad0, M0, Q) nL pc' ls' [] M (k + mc1) (n + ms1))
    (kk : ∀ (v : Option Value) (M1 : zMem), post1 v M1 → zE (p, l, e, R, s, m, args, below, meth, c, D, ad0, M0, Q) nL (pc + 3) ls (v.toList ++ rest) M1 (k + mc1) (n + ms1)) : W p l e R s m args below meth c H locs k n Q (F0 m pc lss st0) := by
  have hA := zA_sub hz hS.1
  intro T hT9 X
  rcases hrun T hT9 X with ⟨v, st₀, t, T', L, h0, X', hL', e1, e2, ⟨⟨v', ad', M', hv, hp, hr', hz', hlv⟩, hF⟩, stp⟩ | ⟨q, st₀, t, T', L, E, ce, h0, X', hL', e1, e2, ⟨hxe, hre, hFe⟩, hce, hcv, hcl, stp⟩
  · have hv9 : v = v'.map (zph ad') := by cases hv; rfl
    subst hv9
    obtain ⟨k1, k2, k3⟩ := vx_keep h0 e1 hS (fun q _ h => hA q h) hA hL' hF
    have he : ∀ o, zc M o ≠ 0 → ad' o = ad o := fun o ho => (hz'.1 o ho).1
    have hm : ∀ o, zc M o ≠ 0 → zc M' o ≠ 0 := fun o ho => by rw [(hz'.1 o ho).2]; exact ho
    have k9 := kk v' M' hp ad' T'.heap (locs ++ L) lss (by rw [e1]; exact hr') (zx_tr hz hS.1 hz') k3 (by rw [zll_congr he hL]; exact hl) (zll_mono hm hL) (fun w hw => by
      rcases List.mem_append.mp hw with h | h
      · exact hlv w (by cases v' with
          | none => cases h
          | some u => exact (congrArg some (List.mem_singleton.mp h)).symm)
      · exact zls_mono hm hT w h) T' rfl X'
    rw [zmp, zst_congr he hT] at k9
    obtain ⟨t2, a1, b1⟩ := k9
    exact ⟨t2, stp t2 a1, b1⟩
  · obtain ⟨k1, k2, k3⟩ := vx_keep h0 e1 hS (fun q _ h => hA q h) hA hL' hFe
    obtain ⟨ls', pc', ⟨pre, x, suf, sl, w, c1, c2, c3, c4, c5, c6, c7, c8, c9, c10⟩, hk⟩ := hxp E hxe
    subst c9
    subst c10
    have hsx := hstr.2.2.2.1 E c6
    have hret : W p l e R s m args below meth c T'.heap (locs ++ L) (k + mc1) (n + ms1) Q (F0 m x.handlerPc lss [.ref q]) := by
      have hend : ∀ ls9 : Array Slot, lv_has ls9 nL ((sl, .ref q) :: (zfl sl ls).map (zpl ad)) → W p l e R s m args below meth c T'.heap (locs ++ L) (k + mc1) (n + ms1) Q (F0 m (x.handlerPc + w) ls9 []) := fun ls9 h9 =>
        hk ad T'.heap (locs ++ L) ls9 (by rw [e1]; exact hre) hz k3 ⟨h9.1, h9.2.1, fun q hq => h9.2.2 q (List.mem_cons_of_mem _ hq)⟩ (fun q hq => hL q (List.mem_filter.mp hq).1) (fun v hv => by cases hv)
      rcases c7 with ⟨f, f1, f2, f3⟩ | ⟨f1, f3⟩
      · subst f3
        exact lv_astore_n hx hb f1 f2 hl c8 (lv' := (sl, .ref q) :: (zfl sl ls).map (zpl ad)) (by rw [← zfl_map]) hend
      · subst f3
        exact lv_astore hx hb f1 hl c8 (lv' := (sl, .ref q) :: (zfl sl ls).map (zpl ad)) (by rw [← zfl_map]) hend
    have ho := vx_catch (p := p) (l := l) (e := e) (R := R) (s := s) (m := m) (args := args) (below := below) (meth := meth) (c := c) (H := T'.heap) (locs := locs ++ L) (cells := k + mc1) (slots := n + ms1) (Q := Q) (ls := lss) (rest := rest.map (zph ad)) (pc := pc) (q := q) (name := E) hown pre x suf (htab.trans c1)
      (fun z hz9 => (c2 z hz9).imp id (fun h => ⟨h.1, by obtain ⟨-, nm9, g1, g2, g3⟩ := h; exact ⟨nm9, hts _ g1, hsx.2 nm9 g2 g3⟩⟩)) c3 c4 (hts _ c5) (va_tabs (A' := args) (by rfl) rfl hsx.1) (by rw [e1]; exact hce) hcv hcl hret
    obtain ⟨t2, a1, b1⟩ := ho T' rfl X'
    exact ⟨t2, stp.trans a1, b1⟩
theorem z_ctcVi (X : zCx g l0 cc nL ret own nm Ts fr lo mc ms M00 post xp tab) {C : String} {o ci N : Nat} {T : u_T} {index : Nat} {y : MethodName} {bytes : ByteArray} {maxL : Nat} {ret1 : Option FieldType} {ws1 ws1' : List Cond} {fr1 lo1 mc1 ms1 : Nat} {As : List Value} {xp1 : String → Prop} {P : Int32 → zMem → Prop} (d : decode cc pc = .ok (.invokevirtual index, 3)) (hM : zS l0 y ws1 fr1 lo1 mc1 ms1 (.ref o :: As) M (zpi P) xp1) (hT9 : GoodIn Ts (wsV own index C y ws1)) (hw : ws1 = Cond.code y bytes maxL ret1 :: ws1')
    {n1 : Nat} (hn1 : As.length = n1) (hd : y.cls = C ∧ y.cls ≠ "java/lang/invoke/MethodHandle" ∧ y.cls ≠ "java/lang/invoke/VarHandle" ∧ (parseMethodDescriptor y.desc).map (fun d => d.parameters.length) = some n1) (hR9 : fr1 + 1 ≤ fr ∧ 8 + (maxL + 11) + lo1 ≤ lo) (hc : zc M o = ci + 1) (hq : vwCl[ci]? = some (C, T, N)) (hst : st = As.reverse ++ .ref o :: rest) (hcat : (rest.map fun v => v.category).sum ≤ 8) (hk9 : k + mc1 ≤ mc ∧ n + ms1 ≤ ms) (hxp : ∀ E, xp1 E → ∃ (ls' : List (Nat × Value)) (pc' : Nat), zCtc cc nL Ts own tab pc E ls ls' pc' ∧ zE g nL pc' ls' [] M (k + mc1) (n + ms1))
    (kk : ∀ (r : Int32) (M1 : zMem), P r M1 → zE g nL (pc + 3) ls (.int r :: rest) M1 (k + mc1) (n + ms1)) : zE g nL pc ls st M k n := by
  subst hst
  subst hn1
  obtain ⟨p, l, e, R, s, m, args, below, meth, c, D, ad0, M0, Q⟩ := g
  obtain ⟨h0, hx, hb, hml, hrt, hown, hnm, hts, hR, hM0, hQ, hlk, htab, hks⟩ := X
  intro ad H locs lss hr hz hS hl hL hT
  subst h0; subst hR; subst hM0
  have ho : zc M o ≠ 0 := by rw [hc]; exact Nat.succ_ne_zero _
  obtain ⟨cell, q1, q2, q3, -⟩ := (hr.2.2.1 o ho).1 ci _ hc hq
  have hav : zls M (.ref o :: As) := zls_c (zlv_ref ho) (fun w hw => hT w (List.mem_append_left _ (List.mem_reverse.mpr hw)))
  have hrs : zls M rest := fun w hw => hT w (List.mem_append_right _ (List.mem_cons_of_mem _ hw))
  have hks' : zKS D ad M (zA ad M H.size) s H := ⟨hks.1, hks.2.1.on hz hS, hks.2.2⟩
  refine z_ofRunC hx hb hown hts htab hks.2.2 hr hz hS hl hL hrs (hrun := vx_runV (b := ad o) (As := As.map (zph ad)) (rest := rest.map (zph ad)) (H := H) (locs := locs) (cells := k) (slots := n) ⟨hx, hb, hml, hown, hts⟩ (hM D ad H.size) (cwV As.length hts hT9 hw rfl rfl hd hR9) ⟨zPc.blind, ⟨cell, q1, by rw [q3]; rfl, by rw [q2]; exact (hks.1.1.1 ci _ hq).2.1⟩, fun U hU hW => ⟨rfl, by rw [hU], by rw [hU]; exact hr, hav, by rw [hU]; exact hks'.warm hW⟩⟩ rfl (by rw [List.length_map]) hl.1 (by simp [zph]) (lv_room (by rw [zcats]; exact hcat)) d hk9) hxp ?_
  rintro v M1 ⟨r, rfl, hP⟩
  exact kk r M1 hP
theorem z_ctcVd (X : zCx g l0 cc nL ret own nm Ts fr lo mc ms M00 post xp tab) {C : String} {o ci N : Nat} {T : u_T} {index : Nat} {y : MethodName} {bytes : ByteArray} {maxL : Nat} {ret1 : Option FieldType} {ws1 ws1' : List Cond} {fr1 lo1 mc1 ms1 : Nat} {As : List Value} {xp1 : String → Prop} {P : UInt64 → zMem → Prop} (d : decode cc pc = .ok (.invokevirtual index, 3)) (hM : zS l0 y ws1 fr1 lo1 mc1 ms1 (.ref o :: As) M (zpd P) xp1) (hT9 : GoodIn Ts (wsV own index C y ws1)) (hw : ws1 = Cond.code y bytes maxL ret1 :: ws1')
    {n1 : Nat} (hn1 : As.length = n1) (hd : y.cls = C ∧ y.cls ≠ "java/lang/invoke/MethodHandle" ∧ y.cls ≠ "java/lang/invoke/VarHandle" ∧ (parseMethodDescriptor y.desc).map (fun d => d.parameters.length) = some n1) (hR9 : fr1 + 1 ≤ fr ∧ 8 + (maxL + 11) + lo1 ≤ lo) (hc : zc M o = ci + 1) (hq : vwCl[ci]? = some (C, T, N)) (hst : st = As.reverse ++ .ref o :: rest) (hcat : (rest.map fun v => v.category).sum ≤ 8) (hk9 : k + mc1 ≤ mc ∧ n + ms1 ≤ ms) (hxp : ∀ E, xp1 E → ∃ (ls' : List (Nat × Value)) (pc' : Nat), zCtc cc nL Ts own tab pc E ls ls' pc' ∧ zE g nL pc' ls' [] M (k + mc1) (n + ms1))
    (kk : ∀ (r : UInt64) (M1 : zMem), P r M1 → zE g nL (pc + 3) ls (.double r :: rest) M1 (k + mc1) (n + ms1)) : zE g nL pc ls st M k n := by
  subst hst
  subst hn1
  obtain ⟨p, l, e, R, s, m, args, below, meth, c, D, ad0, M0, Q⟩ := g
  obtain ⟨h0, hx, hb, hml, hrt, hown, hnm, hts, hR, hM0, hQ, hlk, htab, hks⟩ := X
  intro ad H locs lss hr hz hS hl hL hT
  subst h0; subst hR; subst hM0
  have ho : zc M o ≠ 0 := by rw [hc]; exact Nat.succ_ne_zero _
  obtain ⟨cell, q1, q2, q3, -⟩ := (hr.2.2.1 o ho).1 ci _ hc hq
  have hav : zls M (.ref o :: As) := zls_c (zlv_ref ho) (fun w hw => hT w (List.mem_append_left _ (List.mem_reverse.mpr hw)))
  have hrs : zls M rest := fun w hw => hT w (List.mem_append_right _ (List.mem_cons_of_mem _ hw))
  have hks' : zKS D ad M (zA ad M H.size) s H := ⟨hks.1, hks.2.1.on hz hS, hks.2.2⟩
  refine z_ofRunC hx hb hown hts htab hks.2.2 hr hz hS hl hL hrs (hrun := vx_runV (b := ad o) (As := As.map (zph ad)) (rest := rest.map (zph ad)) (H := H) (locs := locs) (cells := k) (slots := n) ⟨hx, hb, hml, hown, hts⟩ (hM D ad H.size) (cwV As.length hts hT9 hw rfl rfl hd hR9) ⟨zPc.blind, ⟨cell, q1, by rw [q3]; rfl, by rw [q2]; exact (hks.1.1.1 ci _ hq).2.1⟩, fun U hU hW => ⟨rfl, by rw [hU], by rw [hU]; exact hr, hav, by rw [hU]; exact hks'.warm hW⟩⟩ rfl (by rw [List.length_map]) hl.1 (by simp [zph]) (lv_room (by rw [zcats]; exact hcat)) d hk9) hxp ?_
  rintro v M1 ⟨r, rfl, hP⟩
  exact kk r M1 hP
theorem z_ctcVf (X : zCx g l0 cc nL ret own nm Ts fr lo mc ms M00 post xp tab) {C : String} {o ci N : Nat} {T : u_T} {index : Nat} {y : MethodName} {bytes : ByteArray} {maxL : Nat} {ret1 : Option FieldType} {ws1 ws1' : List Cond} {fr1 lo1 mc1 ms1 : Nat} {As : List Value} {xp1 : String → Prop} {P : UInt32 → zMem → Prop} (d : decode cc pc = .ok (.invokevirtual index, 3)) (hM : zS l0 y ws1 fr1 lo1 mc1 ms1 (.ref o :: As) M (zpf P) xp1) (hT9 : GoodIn Ts (wsV own index C y ws1)) (hw : ws1 = Cond.code y bytes maxL ret1 :: ws1')
    {n1 : Nat} (hn1 : As.length = n1) (hd : y.cls = C ∧ y.cls ≠ "java/lang/invoke/MethodHandle" ∧ y.cls ≠ "java/lang/invoke/VarHandle" ∧ (parseMethodDescriptor y.desc).map (fun d => d.parameters.length) = some n1) (hR9 : fr1 + 1 ≤ fr ∧ 8 + (maxL + 11) + lo1 ≤ lo) (hc : zc M o = ci + 1) (hq : vwCl[ci]? = some (C, T, N)) (hst : st = As.reverse ++ .ref o :: rest) (hcat : (rest.map fun v => v.category).sum ≤ 8) (hk9 : k + mc1 ≤ mc ∧ n + ms1 ≤ ms) (hxp : ∀ E, xp1 E → ∃ (ls' : List (Nat × Value)) (pc' : Nat), zCtc cc nL Ts own tab pc E ls ls' pc' ∧ zE g nL pc' ls' [] M (k + mc1) (n + ms1))
    (kk : ∀ (r : UInt32) (M1 : zMem), P r M1 → zE g nL (pc + 3) ls (.float r :: rest) M1 (k + mc1) (n + ms1)) : zE g nL pc ls st M k n := by
  subst hst
  subst hn1
  obtain ⟨p, l, e, R, s, m, args, below, meth, c, D, ad0, M0, Q⟩ := g
  obtain ⟨h0, hx, hb, hml, hrt, hown, hnm, hts, hR, hM0, hQ, hlk, htab, hks⟩ := X
  intro ad H locs lss hr hz hS hl hL hT
  subst h0; subst hR; subst hM0
  have ho : zc M o ≠ 0 := by rw [hc]; exact Nat.succ_ne_zero _
  obtain ⟨cell, q1, q2, q3, -⟩ := (hr.2.2.1 o ho).1 ci _ hc hq
  have hav : zls M (.ref o :: As) := zls_c (zlv_ref ho) (fun w hw => hT w (List.mem_append_left _ (List.mem_reverse.mpr hw)))
  have hrs : zls M rest := fun w hw => hT w (List.mem_append_right _ (List.mem_cons_of_mem _ hw))
  have hks' : zKS D ad M (zA ad M H.size) s H := ⟨hks.1, hks.2.1.on hz hS, hks.2.2⟩
  refine z_ofRunC hx hb hown hts htab hks.2.2 hr hz hS hl hL hrs (hrun := vx_runV (b := ad o) (As := As.map (zph ad)) (rest := rest.map (zph ad)) (H := H) (locs := locs) (cells := k) (slots := n) ⟨hx, hb, hml, hown, hts⟩ (hM D ad H.size) (cwV As.length hts hT9 hw rfl rfl hd hR9) ⟨zPc.blind, ⟨cell, q1, by rw [q3]; rfl, by rw [q2]; exact (hks.1.1.1 ci _ hq).2.1⟩, fun U hU hW => ⟨rfl, by rw [hU], by rw [hU]; exact hr, hav, by rw [hU]; exact hks'.warm hW⟩⟩ rfl (by rw [List.length_map]) hl.1 (by simp [zph]) (lv_room (by rw [zcats]; exact hcat)) d hk9) hxp ?_
  rintro v M1 ⟨r, rfl, hP⟩
  exact kk r M1 hP
end ZLC
