/-! PART 84: rows for the law's helpers: methods with handlers, calls whose exceptions are caught -/
theorem z_introW {l : Launch} {y : MethodName} {ws ws' : List Cond} {fr lo mc ms : Nat} {av : List Value} {M : zMem} {post : Option Value → zMem → Prop} {xp : String → Prop} {cc : ByteArray} {maxL : Nat} {ret : Option FieldType} {hh : List (Nat × Nat × Nat × Nat)}
    (hy : plainName y.cls = true) (hw : ws = Cond.codeWith y cc maxL ret hh :: ws') (hlen : (lg_sl av).length ≤ maxL)
    (body : ∀ g : zCtx, zCx g l cc maxL ret y.cls y.name ws fr lo mc ms M post xp (tableOf hh) → zE g maxL 0 (lv_args 0 av) [] M 0 0) : zS l y ws fr lo mc ms av M post xp := by
  intro D ad sz
  refine vx_ofWH hy hw ?_
  intro p e s m args below meth c s₁ B hml hv
  obtain ⟨hargs, hsz, hr, hlv, hks⟩ := hv
  subst hsz
  have htab' : c.exceptionTable.toList = tableOf hh := vx_table (x := y) B (atoms_spec (ws := ws) B.pre _ (by rw [hw]; exact List.mem_cons_self))
  have k := body (p, l, e, { frames := fr, cells := mc, slots := ms, locals := lo }, s, m, args, below, meth, c, D, ad, M, vx_MQ below (zQc D ad M s.heap.size post) (zXC D ad M s.heap.size xp) args s mc ms (zA ad M s.heap.size))
    ⟨rfl, B.exec, B.bytes, hml, B.returns, findClass_of_methodNamed B.named, (name_of_methodNamed B.named B.method).1, atoms_spec B.pre, rfl, rfl, rfl, B.notSynchronized, htab', hks⟩
    ad s.heap [] _ hr zx_rf va_S.rf (by rw [← zargs0]; exact lv_entry (av.map (zph ad)) (n := maxL) (by rw [zsl_len]; exact hlen)) (fun q hq => hlv _ (zargs_mem _ _ q hq)) (fun v hv => by cases hv)
  subst hargs
  rw [lg_entry_eq]
  exact k
/-- the row x of the table takes E at pc; its handler stores the exception and answers with code -/
def zCat (cc : ByteArray) (nL : Nat) (Ts : List Cond) (own : String) (tab : List ExceptionTableEntry) (pc : Nat) (E : String) (code : Int32) : Prop :=
  ∃ (pre : List ExceptionTableEntry) (x : ExceptionTableEntry) (suf : List ExceptionTableEntry) (sl w : Nat) (ci : Int), tab = pre ++ x :: suf ∧
    (∀ z ∈ pre, covers z pc = false ∨ (z.catchType ≠ 0 ∧ ∃ nm : String, Cond.classLink own z.catchType nm ∈ Ts ∧ nm ∈ zex ∧ E ≠ nm)) ∧ covers x pc = true ∧ x.catchType ≠ 0 ∧ Cond.classLink own x.catchType E ∈ Ts ∧ E ∈ zex ∧
    ((∃ f : Fin 4, decode cc x.handlerPc = .ok (.astore_n f, 1) ∧ (f : Nat) = sl ∧ w = 1) ∨ (decode cc x.handlerPc = .ok (.astore sl, 2) ∧ w = 2)) ∧ sl < nL ∧
    decode cc (x.handlerPc + w) = .ok (.iconst ci, 1) ∧ Int32.ofInt ci = code ∧ decode cc (x.handlerPc + w + 1) = .ok (.ireturn, 1)
section ZLR
variable {g : zCtx} {l0 : Launch} {cc : ByteArray} {nL : Nat} {ret : Option FieldType} {own nm : String} {Ts : List Cond} {fr lo mc ms : Nat} {M00 : zMem} {post : Option Value → zMem → Prop} {xp : String → Prop} {tab : List ExceptionTableEntry}
variable {pc : Nat} {ls ls' : List (Nat × Value)} {st rest : List Value} {M : zMem} {k n : Nat}
theorem z_ofRunT {p : Program} {l : Launch} {e : Env} {R : Room} {s : State} {m : MethodId} {args : Array Value} {below : List Frame} {meth : Method} {c : Code} {D : zG} {ad0 : Nat → Nat} {M0 : zMem} {Q : State → Prop}
    (hlk : meth.locks = false) (hx : p.tables.exec = Jvm.exec) (hb : c.code = cc) (hrt : meth.sig.returnType = some .int) (hown : s.vm.findClass own = some m.cls) (hts : ∀ w ∈ Ts, w.before args s = true) (htab : c.exceptionTable.toList = tab) (hstr : zStr s) (hQ : Q = vx_MQ below (zQc D ad0 M0 s.heap.size post) (zXC D ad0 M0 s.heap.size xp) args s mc ms (zA ad0 M0 s.heap.size))
    {ad : Nat → Nat} {H : Heap} {locs : List Loc} {lss : Array Slot} (hr : zrel D ad M H) (hz : zx ad0 M0 s.heap.size ad M) (hS : va_S (zA ad0 M0 s.heap.size) s.heap H locs) (hl : lv_has lss nL (ls.map (zpl ad))) (hL : zll M ls) (hT : zls M rest)
    {st0 : List Value} {a : Array Value} {mc1 ms1 : Nat} {post1 : Option Value → zMem → Prop} {xp1 : String → Prop}
    (hrun : vx_Run p l e R s m args below meth c H locs k n mc1 ms1 (F0 m pc lss st0) (rest.map (zph ad)) (zQc D ad M H.size post1 a) (zXC D ad M H.size xp1) (zA ad M H.size))
    (hk9 : k + mc1 ≤ mc ∧ n + ms1 ≤ ms) (hxp : ∀ E, xp1 E → ∃ code, zCat cc nL Ts own tab pc E code ∧ post (some (.int code)) M)
    (kk : ∀ (v : Option Value) (M1 : zMem), post1 v M1 → zE (p, l, e, R, s, m, args, below, meth, c, D, ad0, M0, Q) nL (pc + 3) ls (v.toList ++ rest) M1 (k + mc1) (n + ms1)) : W p l e R s m args below meth c H locs k n Q (F0 m pc lss st0) := by
  have hA := zA_sub hz hS.1
  intro T hT9 X
  rcases hrun T hT9 X with ⟨v, st₀, t, T', L, h0, X', hL', e1, e2, ⟨⟨v', ad', M', hv, hp, hr', hz', hlv⟩, hF⟩, stp⟩ | ⟨q, st₀, t, T', L, E, ce, h0, X', hL', e1, e2, ⟨hxe, hre, hFe⟩, hce, hcv, hcl, stp⟩
  · have hv9 : v = v'.map (zph ad') := by cases hv; rfl
    subst hv9
    obtain ⟨k1, k2, k3⟩ := vx_keep h0 e1 hS (fun q _ h => hA q h) hA hL' hF
    have he : ∀ o, zc M o ≠ 0 → ad' o = ad o := fun o ho => (hz'.1 o ho).1
    have hm : ∀ o, zc M o ≠ 0 → zc M' o ≠ 0 := fun o ho => by rw [(hz'.1 o ho).2]; exact ho
    have k9 := kk v' M' hp ad' T'.heap (locs ++ L) lss (by rw [e1]; exact hr') (zx_tr hz hS.1 hz') k3 (by rw [zll_congr he hL]; exact hl) (zll_mono hm hL) (fun w hw => by
      rcases List.mem_append.mp hw with h | h
      · exact hlv w (by cases v' with
          | none => cases h
          | some u => exact (congrArg some (List.mem_singleton.mp h)).symm)
      · exact zls_mono hm hT w h) T' rfl X'
    rw [zmp, zst_congr he hT] at k9
    obtain ⟨t2, a1, b1⟩ := k9
    exact ⟨t2, stp t2 a1, b1⟩
  · obtain ⟨k1, k2, k3⟩ := vx_keep h0 e1 hS (fun q _ h => hA q h) hA hL' hFe
    obtain ⟨code, ⟨pre, x, suf, sl, w, ci, c1, c2, c3, c4, c5, c6, c7, c8, c9, c10, c11⟩, hpost⟩ := hxp E hxe
    have hsx := hstr.2.2.2.1 E c6
    have hret : W p l e R s m args below meth c T'.heap (locs ++ L) (k + mc1) (n + ms1) Q (F0 m x.handlerPc lss [.ref q]) := by
      have hend : ∀ ls9 : Array Slot, W p l e R s m args below meth c T'.heap (locs ++ L) (k + mc1) (n + ms1) Q (F0 m (x.handlerPc + w) ls9 []) := fun ls9 => by
        refine lv_iconst hx hb c9 c10 ?_
        rw [hQ]
        refine vx_ret (W.widen hk9.1 hk9.2 ?_)
        exact W.zret hx hb hrt rfl (fun t9 ht hW => ⟨⟨some (.int code), ad, M, rfl, hpost, by rw [ht, e1]; exact hre, hz, zlvq zlv_int⟩, k3.F ht⟩) k3.2.2 c11
      rcases c7 with ⟨f, f1, f2, f3⟩ | ⟨f1, f3⟩
      · subst f3
        exact lv_astore_n hx hb f1 f2 hl c8 rfl (fun ls9 _ => hend ls9)
      · subst f3
        exact lv_astore hx hb f1 hl c8 rfl (fun ls9 _ => hend ls9)
    have ho := vx_catch (p := p) (l := l) (e := e) (R := R) (s := s) (m := m) (args := args) (below := below) (meth := meth) (c := c) (H := T'.heap) (locs := locs ++ L) (cells := k + mc1) (slots := n + ms1) (Q := Q) (ls := lss) (rest := rest.map (zph ad)) (pc := pc) (q := q) (name := E) hown pre x suf (htab.trans c1)
      (fun z hz9 => (c2 z hz9).imp id (fun h => ⟨h.1, by obtain ⟨-, nm9, g1, g2, g3⟩ := h; exact ⟨nm9, hts _ g1, hsx.2 nm9 g2 g3⟩⟩)) c3 c4 (hts _ c5) (va_tabs (A' := args) (by rfl) rfl hsx.1) (by rw [e1]; exact hce) hcv hcl hret
    obtain ⟨t2, a1, b1⟩ := ho T' rfl X'
    exact ⟨t2, stp.trans a1, b1⟩
theorem z_tryVi (X : zCx g l0 cc nL ret own nm Ts fr lo mc ms M00 post xp tab) {C : String} {o ci N : Nat} {T : u_T} {index : Nat} {y : MethodName} {bytes : ByteArray} {maxL : Nat} {ret1 : Option FieldType} {ws1 ws1' : List Cond} {fr1 lo1 mc1 ms1 : Nat} {As : List Value} {xp1 : String → Prop} {P : Int32 → zMem → Prop} (d : decode cc pc = .ok (.invokevirtual index, 3)) (hM : zS l0 y ws1 fr1 lo1 mc1 ms1 (.ref o :: As) M (zpi P) xp1) (hT9 : GoodIn Ts (wsV own index C y ws1)) (hw : ws1 = Cond.code y bytes maxL ret1 :: ws1')
    {n1 : Nat} (hn1 : As.length = n1) (hd : y.cls = C ∧ y.cls ≠ "java/lang/invoke/MethodHandle" ∧ y.cls ≠ "java/lang/invoke/VarHandle" ∧ (parseMethodDescriptor y.desc).map (fun d => d.parameters.length) = some n1) (hR9 : fr1 + 1 ≤ fr ∧ 8 + (maxL + 11) + lo1 ≤ lo) (hc : zc M o = ci + 1) (hq : vwCl[ci]? = some (C, T, N)) (hst : st = As.reverse ++ .ref o :: rest) (hcat : (rest.map fun v => v.category).sum ≤ 8) (hk9 : k + mc1 ≤ mc ∧ n + ms1 ≤ ms) (hret9 : ret = some .int) (hxp : ∀ E, xp1 E → ∃ code, zCat cc nL Ts own tab pc E code ∧ post (some (.int code)) M)
    (kk : ∀ (r : Int32) (M1 : zMem), P r M1 → zE g nL (pc + 3) ls (.int r :: rest) M1 (k + mc1) (n + ms1)) : zE g nL pc ls st M k n := by
  subst hst
  subst hn1
  obtain ⟨p, l, e, R, s, m, args, below, meth, c, D, ad0, M0, Q⟩ := g
  obtain ⟨h0, hx, hb, hml, hrt, hown, hnm, hts, hR, hM0, hQ, hlk, htab, hks⟩ := X
  intro ad H locs lss hr hz hS hl hL hT
  subst h0; subst hR; subst hM0
  have ho : zc M o ≠ 0 := by rw [hc]; exact Nat.succ_ne_zero _
  obtain ⟨cell, q1, q2, q3, -⟩ := (hr.2.2.1 o ho).1 ci _ hc hq
  have hav : zls M (.ref o :: As) := zls_c (zlv_ref ho) (fun w hw => hT w (List.mem_append_left _ (List.mem_reverse.mpr hw)))
  have hrs : zls M rest := fun w hw => hT w (List.mem_append_right _ (List.mem_cons_of_mem _ hw))
  have hks' : zKS D ad M (zA ad M H.size) s H := ⟨hks.1, hks.2.1.on hz hS, hks.2.2⟩
  refine z_ofRunT hlk hx hb (hrt.trans hret9) hown hts htab hks.2.2 hQ hr hz hS hl hL hrs (hrun := vx_runV (b := ad o) (As := As.map (zph ad)) (rest := rest.map (zph ad)) (H := H) (locs := locs) (cells := k) (slots := n) ⟨hx, hb, hml, hown, hts⟩ (hM D ad H.size) (cwV As.length hts hT9 hw rfl rfl hd hR9) ⟨zPc.blind, ⟨cell, q1, by rw [q3]; rfl, by rw [q2]; exact (hks.1.1.1 ci _ hq).2.1⟩, fun U hU hW => ⟨rfl, by rw [hU], by rw [hU]; exact hr, hav, by rw [hU]; exact hks'.warm hW⟩⟩ rfl (by rw [List.length_map]) hl.1 (by simp [zph]) (lv_room (by rw [zcats]; exact hcat)) d hk9) hk9 hxp ?_
  rintro v M1 ⟨r, rfl, hP⟩
  exact kk r M1 hP
theorem z_tryVd (X : zCx g l0 cc nL ret own nm Ts fr lo mc ms M00 post xp tab) {C : String} {o ci N : Nat} {T : u_T} {index : Nat} {y : MethodName} {bytes : ByteArray} {maxL : Nat} {ret1 : Option FieldType} {ws1 ws1' : List Cond} {fr1 lo1 mc1 ms1 : Nat} {As : List Value} {xp1 : String → Prop} {P : UInt64 → zMem → Prop} (d : decode cc pc = .ok (.invokevirtual index, 3)) (hM : zS l0 y ws1 fr1 lo1 mc1 ms1 (.ref o :: As) M (zpd P) xp1) (hT9 : GoodIn Ts (wsV own index C y ws1)) (hw : ws1 = Cond.code y bytes maxL ret1 :: ws1')
    {n1 : Nat} (hn1 : As.length = n1) (hd : y.cls = C ∧ y.cls ≠ "java/lang/invoke/MethodHandle" ∧ y.cls ≠ "java/lang/invoke/VarHandle" ∧ (parseMethodDescriptor y.desc).map (fun d => d.parameters.length) = some n1) (hR9 : fr1 + 1 ≤ fr ∧ 8 + (maxL + 11) + lo1 ≤ lo) (hc : zc M o = ci + 1) (hq : vwCl[ci]? = some (C, T, N)) (hst : st = As.reverse ++ .ref o :: rest) (hcat : (rest.map fun v => v.category).sum ≤ 8) (hk9 : k + mc1 ≤ mc ∧ n + ms1 ≤ ms) (hret9 : ret = some .int) (hxp : ∀ E, xp1 E → ∃ code, zCat cc nL Ts own tab pc E code ∧ post (some (.int code)) M)
    (kk : ∀ (r : UInt64) (M1 : zMem), P r M1 → zE g nL (pc + 3) ls (.double r :: rest) M1 (k + mc1) (n + ms1)) : zE g nL pc ls st M k n := by
  subst hst
  subst hn1
  obtain ⟨p, l, e, R, s, m, args, below, meth, c, D, ad0, M0, Q⟩ := g
  obtain ⟨h0, hx, hb, hml, hrt, hown, hnm, hts, hR, hM0, hQ, hlk, htab, hks⟩ := X
  intro ad H locs lss hr hz hS hl hL hT
  subst h0; subst hR; subst hM0
  have ho : zc M o ≠ 0 := by rw [hc]; exact Nat.succ_ne_zero _
  obtain ⟨cell, q1, q2, q3, -⟩ := (hr.2.2.1 o ho).1 ci _ hc hq
  have hav : zls M (.ref o :: As) := zls_c (zlv_ref ho) (fun w hw => hT w (List.mem_append_left _ (List.mem_reverse.mpr hw)))
  have hrs : zls M rest := fun w hw => hT w (List.mem_append_right _ (List.mem_cons_of_mem _ hw))
  have hks' : zKS D ad M (zA ad M H.size) s H := ⟨hks.1, hks.2.1.on hz hS, hks.2.2⟩
  refine z_ofRunT hlk hx hb (hrt.trans hret9) hown hts htab hks.2.2 hQ hr hz hS hl hL hrs (hrun := vx_runV (b := ad o) (As := As.map (zph ad)) (rest := rest.map (zph ad)) (H := H) (locs := locs) (cells := k) (slots := n) ⟨hx, hb, hml, hown, hts⟩ (hM D ad H.size) (cwV As.length hts hT9 hw rfl rfl hd hR9) ⟨zPc.blind, ⟨cell, q1, by rw [q3]; rfl, by rw [q2]; exact (hks.1.1.1 ci _ hq).2.1⟩, fun U hU hW => ⟨rfl, by rw [hU], by rw [hU]; exact hr, hav, by rw [hU]; exact hks'.warm hW⟩⟩ rfl (by rw [List.length_map]) hl.1 (by simp [zph]) (lv_room (by rw [zcats]; exact hcat)) d hk9) hk9 hxp ?_
  rintro v M1 ⟨r, rfl, hP⟩
  exact kk r M1 hP
theorem z_tryVf (X : zCx g l0 cc nL ret own nm Ts fr lo mc ms M00 post xp tab) {C : String} {o ci N : Nat} {T : u_T} {index : Nat} {y : MethodName} {bytes : ByteArray} {maxL : Nat} {ret1 : Option FieldType} {ws1 ws1' : List Cond} {fr1 lo1 mc1 ms1 : Nat} {As : List Value} {xp1 : String → Prop} {P : UInt32 → zMem → Prop} (d : decode cc pc = .ok (.invokevirtual index, 3)) (hM : zS l0 y ws1 fr1 lo1 mc1 ms1 (.ref o :: As) M (zpf P) xp1) (hT9 : GoodIn Ts (wsV own index C y ws1)) (hw : ws1 = Cond.code y bytes maxL ret1 :: ws1')
    {n1 : Nat} (hn1 : As.length = n1) (hd : y.cls = C ∧ y.cls ≠ "java/lang/invoke/MethodHandle" ∧ y.cls ≠ "java/lang/invoke/VarHandle" ∧ (parseMethodDescriptor y.desc).map (fun d => d.parameters.length) = some n1) (hR9 : fr1 + 1 ≤ fr ∧ 8 + (maxL + 11) + lo1 ≤ lo) (hc : zc M o = ci + 1) (hq : vwCl[ci]? = some (C, T, N)) (hst : st = As.reverse ++ .ref o :: rest) (hcat : (rest.map fun v => v.category).sum ≤ 8) (hk9 : k + mc1 ≤ mc ∧ n + ms1 ≤ ms) (hret9 : ret = some .int) (hxp : ∀ E, xp1 E → ∃ code, zCat cc nL Ts own tab pc E code ∧ post (some (.int code)) M)
    (kk : ∀ (r : UInt32) (M1 : zMem), P r M1 → zE g nL (pc + 3) ls (.float r :: rest) M1 (k + mc1) (n + ms1)) : zE g nL pc ls st M k n := by
  subst hst
  subst hn1
  obtain ⟨p, l, e, R, s, m, args, below, meth, c, D, ad0, M0, Q⟩ := g
  obtain ⟨h0, hx, hb, hml, hrt, hown, hnm, hts, hR, hM0, hQ, hlk, htab, hks⟩ := X
  intro ad H locs lss hr hz hS hl hL hT
  subst h0; subst hR; subst hM0
  have ho : zc M o ≠ 0 := by rw [hc]; exact Nat.succ_ne_zero _
  obtain ⟨cell, q1, q2, q3, -⟩ := (hr.2.2.1 o ho).1 ci _ hc hq
  have hav : zls M (.ref o :: As) := zls_c (zlv_ref ho) (fun w hw => hT w (List.mem_append_left _ (List.mem_reverse.mpr hw)))
  have hrs : zls M rest := fun w hw => hT w (List.mem_append_right _ (List.mem_cons_of_mem _ hw))
  have hks' : zKS D ad M (zA ad M H.size) s H := ⟨hks.1, hks.2.1.on hz hS, hks.2.2⟩
  refine z_ofRunT hlk hx hb (hrt.trans hret9) hown hts htab hks.2.2 hQ hr hz hS hl hL hrs (hrun := vx_runV (b := ad o) (As := As.map (zph ad)) (rest := rest.map (zph ad)) (H := H) (locs := locs) (cells := k) (slots := n) ⟨hx, hb, hml, hown, hts⟩ (hM D ad H.size) (cwV As.length hts hT9 hw rfl rfl hd hR9) ⟨zPc.blind, ⟨cell, q1, by rw [q3]; rfl, by rw [q2]; exact (hks.1.1.1 ci _ hq).2.1⟩, fun U hU hW => ⟨rfl, by rw [hU], by rw [hU]; exact hr, hav, by rw [hU]; exact hks'.warm hW⟩⟩ rfl (by rw [List.length_map]) hl.1 (by simp [zph]) (lv_room (by rw [zcats]; exact hcat)) d hk9) hk9 hxp ?_
  rintro v M1 ⟨r, rfl, hP⟩
  exact kk r M1 hP
theorem z_callSWi (X : zCx g l0 cc nL ret own nm Ts fr lo mc ms M00 post xp []) {index : Nat} {y : MethodName} {bytes : ByteArray} {maxL : Nat} {ret1 : Option FieldType} {ws1 ws1' : List Cond} {hh : List (Nat × Nat × Nat × Nat)} {fr1 lo1 mc1 ms1 : Nat} {As : List Value} {xp1 : String → Prop} {P : Int32 → zMem → Prop} (d : decode cc pc = .ok (.invokestatic index, 3)) (hM : zS l0 y ws1 fr1 lo1 mc1 ms1 As M (zpi P) xp1) (hT9 : GoodIn Ts (va_wsS own index y ws1)) (hw : ws1 = Cond.codeWith y bytes maxL ret1 hh :: ws1')
    {n1 : Nat} (hn1 : As.length = n1) (hd : y.cls ≠ "java/lang/invoke/MethodHandle" ∧ y.cls ≠ "java/lang/invoke/VarHandle" ∧ (parseMethodDescriptor y.desc).map (fun d => d.parameters.length) = some n1) (hR9 : fr1 + 1 ≤ fr ∧ 8 + (maxL + 11) + lo1 ≤ lo) (hst : st = As.reverse ++ rest) (hcat : (rest.map fun v => v.category).sum ≤ 8) (hk9 : k + mc1 ≤ mc ∧ n + ms1 ≤ ms) (hxp : ∀ E, xp1 E → xp E ∧ M = M00)
    (kk : ∀ (r : Int32) (M1 : zMem), P r M1 → zE g nL (pc + 3) ls (.int r :: rest) M1 (k + mc1) (n + ms1)) : zE g nL pc ls st M k n := by
  subst hst
  subst hn1
  obtain ⟨p, l, e, R, s, m, args, below, meth, c, D, ad0, M0, Q⟩ := g
  obtain ⟨h0, hx, hb, hml, hrt, hown, hnm, hts, hR, hM0, hQ, hlk, htab, hks⟩ := X
  intro ad H locs lss hr hz hS hl hL hT
  subst h0; subst hR; subst hM0
  have hav : zls M As := fun w hw => hT w (List.mem_append_left _ (List.mem_reverse.mpr hw))
  have hrs : zls M rest := fun w hw => hT w (List.mem_append_right _ hw)
  have hks' : zKS D ad M (zA ad M H.size) s H := ⟨hks.1, hks.2.1.on hz hS, hks.2.2⟩
  refine z_ofRun hlk htab hQ hr hz hS hl hL hrs (hrun := vx_runSX (As := As.map (zph ad)) (rest := rest.map (zph ad)) (H := H) (locs := locs) (cells := k) (slots := n) ⟨hx, hb, hml, hown, hts⟩ (hM D ad H.size) (vx_cwSW As.length hts hT9 hw rfl rfl hd hR9) ⟨zPc.blind, fun U hU hW => ⟨rfl, by rw [hU], by rw [hU]; exact hr, hav, by rw [hU]; exact hks'.warm hW⟩⟩ rfl (by rw [List.length_map]) hl.1 (by simp) (lv_room (by rw [zcats]; exact hcat)) d hk9) hk9 hxp ?_
  rintro v M1 ⟨r, rfl, hP⟩
  exact kk r M1 hP
end ZLR
