/-! PART 05: rows of zE: calls, throws, new objects (by program) -/
def zpv (P : zMem → Prop) : Option Value → zMem → Prop := fun v M' => v = none ∧ P M'
def zpi (P : Int32 → zMem → Prop) : Option Value → zMem → Prop := fun v M' => ∃ r : Int32, v = some (.int r) ∧ P r M'
def zpl (P : Int64 → zMem → Prop) : Option Value → zMem → Prop := fun v M' => ∃ r : Int64, v = some (.long r) ∧ P r M'
def zpf (P : UInt32 → zMem → Prop) : Option Value → zMem → Prop := fun v M' => ∃ r : UInt32, v = some (.float r) ∧ P r M'
def zpd (P : UInt64 → zMem → Prop) : Option Value → zMem → Prop := fun v M' => ∃ r : UInt64, v = some (.double r) ∧ P r M'
def zpr (P : Nat → zMem → Prop) : Option Value → zMem → Prop := fun v M' => ∃ r : Nat, v = some (.ref r) ∧ P r M'
def zpq (P : Option Nat → zMem → Prop) : Option Value → zMem → Prop := fun v M' => ∃ r : Option Nat, v = some (va_rf r) ∧ P r M'
def zno : String → Prop := fun _ => False
theorem zmp (ad : Nat → Nat) (v : Option Value) (rest : List Value) : (v.toList ++ rest).map (zph ad) = (v.map (zph ad)).toList ++ rest.map (zph ad) := by cases v <;> rfl
theorem zcats (ad : Nat → Nat) (rest : List Value) : ((rest.map (zph ad)).map fun v => v.category) = rest.map fun v => v.category := by
  rw [List.map_map]
  exact List.map_congr_left fun v _ => zph_cat ad v
section ZC
variable {g : zCtx} {l0 : Launch} {cc : ByteArray} {nL : Nat} {ret : Option FieldType} {own nm : String} {Ts : List Cond} {fr lo mc ms : Nat} {M00 : zMem} {post : Option Value → zMem → Prop} {xp : String → Prop}
variable {pc : Nat} {ls ls' : List (Nat × Value)} {st rest : List Value} {M : zMem} {k n : Nat}
/-- behind a call's run -/
theorem z_ofRun {p : Program} {l : Launch} {e : Env} {R : Room} {s : State} {m : MethodId} {args : Array Value} {below : List Frame} {meth : Method} {c : Code} {D : zG} {ad0 : Nat → Nat} {M0 : zMem} {Q : State → Prop} (hlk : meth.locks = false) (htab : c.exceptionTable.toList = []) (hQ : Q = vx_MQ below (zQc D ad0 M0 s.heap.size post) (zXC D ad0 M0 s.heap.size xp) args s mc ms (zA ad0 M0 s.heap.size))
    {ad : Nat → Nat} {H : Heap} {locs : List Loc} {lss : Array Slot} (hr : zrel D ad M H) (hz : zx ad0 M0 s.heap.size ad M) (hS : va_S (zA ad0 M0 s.heap.size) s.heap H locs) (hl : lv_has lss nL (ls.map (zpl ad))) (hL : zll M ls) (hT : zls M rest)
    {st0 : List Value} {a : Array Value} {mc1 ms1 : Nat} {post1 : Option Value → zMem → Prop} {xp1 : String → Prop}
    (hrun : vx_Run p l e R s m args below meth c H locs k n mc1 ms1 (F0 m pc lss st0) (rest.map (zph ad)) (zQc D ad M H.size post1 a) (zXC D ad M H.size xp1) (zA ad M H.size))
    (hk9 : k + mc1 ≤ mc ∧ n + ms1 ≤ ms) (hxp : ∀ E, xp1 E → xp E ∧ M = M0)
    (kk : ∀ (v : Option Value) (M1 : zMem), post1 v M1 → zE (p, l, e, R, s, m, args, below, meth, c, D, ad0, M0, Q) nL (pc + 3) ls (v.toList ++ rest) M1 (k + mc1) (n + ms1)) : W p l e R s m args below meth c H locs k n Q (F0 m pc lss st0) := by
  have hA := zA_sub hz hS.1
  intro T hT9 X
  rcases hrun T hT9 X with ⟨v, st₀, t, T', L, h0, X', hL', e1, e2, ⟨⟨v', ad', M', hv, hp, hr', hz', hlv⟩, hF⟩, stp⟩ | ⟨q, st₀, t, T', L, E, ce, h0, X', hL', e1, e2, ⟨hxe, hre, hFe⟩, hce, hcv, hcl, stp⟩
  · have hv9 : v = v'.map (zph ad') := by cases hv; rfl
    subst hv9
    obtain ⟨k1, k2, k3⟩ := vx_keep h0 e1 hS (fun q _ h => hA q h) hA hL' hF
    have he : ∀ o, zc M o ≠ 0 → ad' o = ad o := fun o ho => (hz'.1 o ho).1
    have hm : ∀ o, zc M o ≠ 0 → zc M' o ≠ 0 := fun o ho => by rw [(hz'.1 o ho).2]; exact ho
    have k9 := kk v' M' hp ad' T'.heap (locs ++ L) lss (by rw [e1]; exact hr') (zx_tr hz hS.1 hz') k3 (by rw [zll_congr he hL]; exact hl) (zll_mono hm hL) (fun w hw => by
      rcases List.mem_append.mp hw with h | h
      · exact hlv w (by cases v' with
          | none => cases h
          | some u => exact (congrArg some (List.mem_singleton.mp h)).symm)
      · exact zls_mono hm hT w h) T' rfl X'
    rw [zmp, zst_congr he hT] at k9
    obtain ⟨t2, a1, b1⟩ := k9
    exact ⟨t2, stp t2 a1, b1⟩
  · obtain ⟨k1, k2, k3⟩ := vx_keep h0 e1 hS (fun q _ h => hA q h) hA hL' hFe
    obtain ⟨hxe9, hM9⟩ := hxp E hxe
    subst hM9
    subst hQ
    have ho := vx_out (p := p) (l := l) (e := e) (R := R) (s := s) (m := m) (args := args) (below := below) (meth := meth) (c := c) (H := T'.heap) (locs := locs ++ L) (cells := k + mc1) (slots := n + ms1) (free := zA ad0 M s.heap.size) (ls := lss) (rest := rest.map (zph ad)) (Qc := zQc D ad0 M s.heap.size post) (XC := zXC D ad0 M s.heap.size xp) (pc := pc) (E := E) (ce := ce) (q := q) (mc := mc) (ms := ms) (fun x hx => by rw [htab] at hx; cases hx) hlk (by rw [e1]; exact hce) hcv hcl
      (fun t' ht' hal => ⟨hxe9, by rw [ht', e1]; exact zrel_congr hre (fun o ho => ((hz.1 o ho).1).symm), k3.F ht'⟩) k3.2.2 hk9.1 hk9.2
    obtain ⟨t2, a1, b1⟩ := ho T' rfl X'
    exact ⟨t2, stp.trans a1, b1⟩
theorem z_callVv (X : zCx g l0 cc nL ret own nm Ts fr lo mc ms M00 post xp []) {C : String} {o ci N : Nat} {T : u_T} {index : Nat} {y : MethodName} {bytes : ByteArray} {maxL : Nat} {ret1 : Option FieldType} {ws1 ws1' : List Cond} {fr1 lo1 mc1 ms1 : Nat} {As : List Value} {xp1 : String → Prop} {P : zMem → Prop} (d : decode cc pc = .ok (.invokevirtual index, 3)) (hM : zS l0 y ws1 fr1 lo1 mc1 ms1 (.ref o :: As) M (zpv P) xp1) (hT9 : GoodIn Ts (wsV own index C y ws1)) (hw : ws1 = Cond.code y bytes maxL ret1 :: ws1')
    (hd : y.cls = C ∧ y.cls ≠ "java/lang/invoke/MethodHandle" ∧ y.cls ≠ "java/lang/invoke/VarHandle" ∧ (parseMethodDescriptor y.desc).map (fun d => d.parameters.length) = some As.length) (hR9 : fr1 + 1 ≤ fr ∧ 8 + (maxL + 11) + lo1 ≤ lo) (hc : zc M o = ci + 1) (hq : vwCl[ci]? = some (C, T, N)) (hst : st = As.reverse ++ .ref o :: rest) (hcat : (rest.map fun v => v.category).sum ≤ 8) (hk9 : k + mc1 ≤ mc ∧ n + ms1 ≤ ms) (hxp : ∀ E, xp1 E → xp E ∧ M = M00)
    (kk : ∀ (M1 : zMem), P M1 → zE g nL (pc + 3) ls rest M1 (k + mc1) (n + ms1)) : zE g nL pc ls st M k n := by
  subst hst
  obtain ⟨p, l, e, R, s, m, args, below, meth, c, D, ad0, M0, Q⟩ := g
  obtain ⟨h0, hx, hb, hml, hrt, hown, hnm, hts, hR, hM0, hQ, hlk, htab, hks⟩ := X
  intro ad H locs lss hr hz hS hl hL hT
  subst h0; subst hR; subst hM0
  have ho : zc M o ≠ 0 := by rw [hc]; exact Nat.succ_ne_zero _
  obtain ⟨cell, q1, q2, q3, -⟩ := (hr.2.2.1 o ho).1 ci _ hc hq
  have hav : zls M (.ref o :: As) := zls_c (zlv_ref ho) (fun w hw => hT w (List.mem_append_left _ (List.mem_reverse.mpr hw)))
  have hrs : zls M rest := fun w hw => hT w (List.mem_append_right _ (List.mem_cons_of_mem _ hw))
  have hks' : zKS D ad M (zA ad M H.size) s H := ⟨hks.1, hks.2.1.on hz hS, hks.2.2⟩
  refine z_ofRun hlk htab hQ hr hz hS hl hL hrs (hrun := vx_runV (b := ad o) (As := As.map (zph ad)) (rest := rest.map (zph ad)) (H := H) (locs := locs) (cells := k) (slots := n) ⟨hx, hb, hml, hown, hts⟩ (hM D ad H.size) (cwV As.length hts hT9 hw rfl rfl hd hR9) ⟨zPc.blind, ⟨cell, q1, by rw [q3]; rfl, by rw [q2]; exact (hks.1.1.1 ci _ hq).2.1⟩, fun U hU hW => ⟨rfl, by rw [hU], by rw [hU]; exact hr, hav, by rw [hU]; exact hks'.warm hW⟩⟩ rfl (by rw [List.length_map]) hl.1 (by simp [zph]) (lv_room (by rw [zcats]; exact hcat)) d hk9) hk9 hxp ?_
  rintro v M1 ⟨rfl, hP⟩
  exact kk M1 hP
theorem z_callVi (X : zCx g l0 cc nL ret own nm Ts fr lo mc ms M00 post xp []) {C : String} {o ci N : Nat} {T : u_T} {index : Nat} {y : MethodName} {bytes : ByteArray} {maxL : Nat} {ret1 : Option FieldType} {ws1 ws1' : List Cond} {fr1 lo1 mc1 ms1 : Nat} {As : List Value} {xp1 : String → Prop} {P : Int32 → zMem → Prop} (d : decode cc pc = .ok (.invokevirtual index, 3)) (hM : zS l0 y ws1 fr1 lo1 mc1 ms1 (.ref o :: As) M (zpi P) xp1) (hT9 : GoodIn Ts (wsV own index C y ws1)) (hw : ws1 = Cond.code y bytes maxL ret1 :: ws1')
    (hd : y.cls = C ∧ y.cls ≠ "java/lang/invoke/MethodHandle" ∧ y.cls ≠ "java/lang/invoke/VarHandle" ∧ (parseMethodDescriptor y.desc).map (fun d => d.parameters.length) = some As.length) (hR9 : fr1 + 1 ≤ fr ∧ 8 + (maxL + 11) + lo1 ≤ lo) (hc : zc M o = ci + 1) (hq : vwCl[ci]? = some (C, T, N)) (hst : st = As.reverse ++ .ref o :: rest) (hcat : (rest.map fun v => v.category).sum ≤ 8) (hk9 : k + mc1 ≤ mc ∧ n + ms1 ≤ ms) (hxp : ∀ E, xp1 E → xp E ∧ M = M00)
    (kk : ∀ (r : Int32) (M1 : zMem), P r M1 → zE g nL (pc + 3) ls (.int r :: rest) M1 (k + mc1) (n + ms1)) : zE g nL pc ls st M k n := by
  subst hst
  obtain ⟨p, l, e, R, s, m, args, below, meth, c, D, ad0, M0, Q⟩ := g
  obtain ⟨h0, hx, hb, hml, hrt, hown, hnm, hts, hR, hM0, hQ, hlk, htab, hks⟩ := X
  intro ad H locs lss hr hz hS hl hL hT
  subst h0; subst hR; subst hM0
  have ho : zc M o ≠ 0 := by rw [hc]; exact Nat.succ_ne_zero _
  obtain ⟨cell, q1, q2, q3, -⟩ := (hr.2.2.1 o ho).1 ci _ hc hq
  have hav : zls M (.ref o :: As) := zls_c (zlv_ref ho) (fun w hw => hT w (List.mem_append_left _ (List.mem_reverse.mpr hw)))
  have hrs : zls M rest := fun w hw => hT w (List.mem_append_right _ (List.mem_cons_of_mem _ hw))
  have hks' : zKS D ad M (zA ad M H.size) s H := ⟨hks.1, hks.2.1.on hz hS, hks.2.2⟩
  refine z_ofRun hlk htab hQ hr hz hS hl hL hrs (hrun := vx_runV (b := ad o) (As := As.map (zph ad)) (rest := rest.map (zph ad)) (H := H) (locs := locs) (cells := k) (slots := n) ⟨hx, hb, hml, hown, hts⟩ (hM D ad H.size) (cwV As.length hts hT9 hw rfl rfl hd hR9) ⟨zPc.blind, ⟨cell, q1, by rw [q3]; rfl, by rw [q2]; exact (hks.1.1.1 ci _ hq).2.1⟩, fun U hU hW => ⟨rfl, by rw [hU], by rw [hU]; exact hr, hav, by rw [hU]; exact hks'.warm hW⟩⟩ rfl (by rw [List.length_map]) hl.1 (by simp [zph]) (lv_room (by rw [zcats]; exact hcat)) d hk9) hk9 hxp ?_
  rintro v M1 ⟨r, rfl, hP⟩
  exact kk r M1 hP
theorem z_callVl (X : zCx g l0 cc nL ret own nm Ts fr lo mc ms M00 post xp []) {C : String} {o ci N : Nat} {T : u_T} {index : Nat} {y : MethodName} {bytes : ByteArray} {maxL : Nat} {ret1 : Option FieldType} {ws1 ws1' : List Cond} {fr1 lo1 mc1 ms1 : Nat} {As : List Value} {xp1 : String → Prop} {P : Int64 → zMem → Prop} (d : decode cc pc = .ok (.invokevirtual index, 3)) (hM : zS l0 y ws1 fr1 lo1 mc1 ms1 (.ref o :: As) M (zpl P) xp1) (hT9 : GoodIn Ts (wsV own index C y ws1)) (hw : ws1 = Cond.code y bytes maxL ret1 :: ws1')
    (hd : y.cls = C ∧ y.cls ≠ "java/lang/invoke/MethodHandle" ∧ y.cls ≠ "java/lang/invoke/VarHandle" ∧ (parseMethodDescriptor y.desc).map (fun d => d.parameters.length) = some As.length) (hR9 : fr1 + 1 ≤ fr ∧ 8 + (maxL + 11) + lo1 ≤ lo) (hc : zc M o = ci + 1) (hq : vwCl[ci]? = some (C, T, N)) (hst : st = As.reverse ++ .ref o :: rest) (hcat : (rest.map fun v => v.category).sum ≤ 8) (hk9 : k + mc1 ≤ mc ∧ n + ms1 ≤ ms) (hxp : ∀ E, xp1 E → xp E ∧ M = M00)
    (kk : ∀ (r : Int64) (M1 : zMem), P r M1 → zE g nL (pc + 3) ls (.long r :: rest) M1 (k + mc1) (n + ms1)) : zE g nL pc ls st M k n := by
  subst hst
  obtain ⟨p, l, e, R, s, m, args, below, meth, c, D, ad0, M0, Q⟩ := g
  obtain ⟨h0, hx, hb, hml, hrt, hown, hnm, hts, hR, hM0, hQ, hlk, htab, hks⟩ := X
  intro ad H locs lss hr hz hS hl hL hT
  subst h0; subst hR; subst hM0
  have ho : zc M o ≠ 0 := by rw [hc]; exact Nat.succ_ne_zero _
  obtain ⟨cell, q1, q2, q3, -⟩ := (hr.2.2.1 o ho).1 ci _ hc hq
  have hav : zls M (.ref o :: As) := zls_c (zlv_ref ho) (fun w hw => hT w (List.mem_append_left _ (List.mem_reverse.mpr hw)))
  have hrs : zls M rest := fun w hw => hT w (List.mem_append_right _ (List.mem_cons_of_mem _ hw))
  have hks' : zKS D ad M (zA ad M H.size) s H := ⟨hks.1, hks.2.1.on hz hS, hks.2.2⟩
  refine z_ofRun hlk htab hQ hr hz hS hl hL hrs (hrun := vx_runV (b := ad o) (As := As.map (zph ad)) (rest := rest.map (zph ad)) (H := H) (locs := locs) (cells := k) (slots := n) ⟨hx, hb, hml, hown, hts⟩ (hM D ad H.size) (cwV As.length hts hT9 hw rfl rfl hd hR9) ⟨zPc.blind, ⟨cell, q1, by rw [q3]; rfl, by rw [q2]; exact (hks.1.1.1 ci _ hq).2.1⟩, fun U hU hW => ⟨rfl, by rw [hU], by rw [hU]; exact hr, hav, by rw [hU]; exact hks'.warm hW⟩⟩ rfl (by rw [List.length_map]) hl.1 (by simp [zph]) (lv_room (by rw [zcats]; exact hcat)) d hk9) hk9 hxp ?_
  rintro v M1 ⟨r, rfl, hP⟩
  exact kk r M1 hP
theorem z_callVf (X : zCx g l0 cc nL ret own nm Ts fr lo mc ms M00 post xp []) {C : String} {o ci N : Nat} {T : u_T} {index : Nat} {y : MethodName} {bytes : ByteArray} {maxL : Nat} {ret1 : Option FieldType} {ws1 ws1' : List Cond} {fr1 lo1 mc1 ms1 : Nat} {As : List Value} {xp1 : String → Prop} {P : UInt32 → zMem → Prop} (d : decode cc pc = .ok (.invokevirtual index, 3)) (hM : zS l0 y ws1 fr1 lo1 mc1 ms1 (.ref o :: As) M (zpf P) xp1) (hT9 : GoodIn Ts (wsV own index C y ws1)) (hw : ws1 = Cond.code y bytes maxL ret1 :: ws1')
    (hd : y.cls = C ∧ y.cls ≠ "java/lang/invoke/MethodHandle" ∧ y.cls ≠ "java/lang/invoke/VarHandle" ∧ (parseMethodDescriptor y.desc).map (fun d => d.parameters.length) = some As.length) (hR9 : fr1 + 1 ≤ fr ∧ 8 + (maxL + 11) + lo1 ≤ lo) (hc : zc M o = ci + 1) (hq : vwCl[ci]? = some (C, T, N)) (hst : st = As.reverse ++ .ref o :: rest) (hcat : (rest.map fun v => v.category).sum ≤ 8) (hk9 : k + mc1 ≤ mc ∧ n + ms1 ≤ ms) (hxp : ∀ E, xp1 E → xp E ∧ M = M00)
    (kk : ∀ (r : UInt32) (M1 : zMem), P r M1 → zE g nL (pc + 3) ls (.float r :: rest) M1 (k + mc1) (n + ms1)) : zE g nL pc ls st M k n := by
  subst hst
  obtain ⟨p, l, e, R, s, m, args, below, meth, c, D, ad0, M0, Q⟩ := g
  obtain ⟨h0, hx, hb, hml, hrt, hown, hnm, hts, hR, hM0, hQ, hlk, htab, hks⟩ := X
  intro ad H locs lss hr hz hS hl hL hT
  subst h0; subst hR; subst hM0
  have ho : zc M o ≠ 0 := by rw [hc]; exact Nat.succ_ne_zero _
  obtain ⟨cell, q1, q2, q3, -⟩ := (hr.2.2.1 o ho).1 ci _ hc hq
  have hav : zls M (.ref o :: As) := zls_c (zlv_ref ho) (fun w hw => hT w (List.mem_append_left _ (List.mem_reverse.mpr hw)))
  have hrs : zls M rest := fun w hw => hT w (List.mem_append_right _ (List.mem_cons_of_mem _ hw))
  have hks' : zKS D ad M (zA ad M H.size) s H := ⟨hks.1, hks.2.1.on hz hS, hks.2.2⟩
  refine z_ofRun hlk htab hQ hr hz hS hl hL hrs (hrun := vx_runV (b := ad o) (As := As.map (zph ad)) (rest := rest.map (zph ad)) (H := H) (locs := locs) (cells := k) (slots := n) ⟨hx, hb, hml, hown, hts⟩ (hM D ad H.size) (cwV As.length hts hT9 hw rfl rfl hd hR9) ⟨zPc.blind, ⟨cell, q1, by rw [q3]; rfl, by rw [q2]; exact (hks.1.1.1 ci _ hq).2.1⟩, fun U hU hW => ⟨rfl, by rw [hU], by rw [hU]; exact hr, hav, by rw [hU]; exact hks'.warm hW⟩⟩ rfl (by rw [List.length_map]) hl.1 (by simp [zph]) (lv_room (by rw [zcats]; exact hcat)) d hk9) hk9 hxp ?_
  rintro v M1 ⟨r, rfl, hP⟩
  exact kk r M1 hP
theorem z_callVd (X : zCx g l0 cc nL ret own nm Ts fr lo mc ms M00 post xp []) {C : String} {o ci N : Nat} {T : u_T} {index : Nat} {y : MethodName} {bytes : ByteArray} {maxL : Nat} {ret1 : Option FieldType} {ws1 ws1' : List Cond} {fr1 lo1 mc1 ms1 : Nat} {As : List Value} {xp1 : String → Prop} {P : UInt64 → zMem → Prop} (d : decode cc pc = .ok (.invokevirtual index, 3)) (hM : zS l0 y ws1 fr1 lo1 mc1 ms1 (.ref o :: As) M (zpd P) xp1) (hT9 : GoodIn Ts (wsV own index C y ws1)) (hw : ws1 = Cond.code y bytes maxL ret1 :: ws1')
    (hd : y.cls = C ∧ y.cls ≠ "java/lang/invoke/MethodHandle" ∧ y.cls ≠ "java/lang/invoke/VarHandle" ∧ (parseMethodDescriptor y.desc).map (fun d => d.parameters.length) = some As.length) (hR9 : fr1 + 1 ≤ fr ∧ 8 + (maxL + 11) + lo1 ≤ lo) (hc : zc M o = ci + 1) (hq : vwCl[ci]? = some (C, T, N)) (hst : st = As.reverse ++ .ref o :: rest) (hcat : (rest.map fun v => v.category).sum ≤ 8) (hk9 : k + mc1 ≤ mc ∧ n + ms1 ≤ ms) (hxp : ∀ E, xp1 E → xp E ∧ M = M00)
    (kk : ∀ (r : UInt64) (M1 : zMem), P r M1 → zE g nL (pc + 3) ls (.double r :: rest) M1 (k + mc1) (n + ms1)) : zE g nL pc ls st M k n := by
  subst hst
  obtain ⟨p, l, e, R, s, m, args, below, meth, c, D, ad0, M0, Q⟩ := g
  obtain ⟨h0, hx, hb, hml, hrt, hown, hnm, hts, hR, hM0, hQ, hlk, htab, hks⟩ := X
  intro ad H locs lss hr hz hS hl hL hT
  subst h0; subst hR; subst hM0
  have ho : zc M o ≠ 0 := by rw [hc]; exact Nat.succ_ne_zero _
  obtain ⟨cell, q1, q2, q3, -⟩ := (hr.2.2.1 o ho).1 ci _ hc hq
  have hav : zls M (.ref o :: As) := zls_c (zlv_ref ho) (fun w hw => hT w (List.mem_append_left _ (List.mem_reverse.mpr hw)))
  have hrs : zls M rest := fun w hw => hT w (List.mem_append_right _ (List.mem_cons_of_mem _ hw))
  have hks' : zKS D ad M (zA ad M H.size) s H := ⟨hks.1, hks.2.1.on hz hS, hks.2.2⟩
  refine z_ofRun hlk htab hQ hr hz hS hl hL hrs (hrun := vx_runV (b := ad o) (As := As.map (zph ad)) (rest := rest.map (zph ad)) (H := H) (locs := locs) (cells := k) (slots := n) ⟨hx, hb, hml, hown, hts⟩ (hM D ad H.size) (cwV As.length hts hT9 hw rfl rfl hd hR9) ⟨zPc.blind, ⟨cell, q1, by rw [q3]; rfl, by rw [q2]; exact (hks.1.1.1 ci _ hq).2.1⟩, fun U hU hW => ⟨rfl, by rw [hU], by rw [hU]; exact hr, hav, by rw [hU]; exact hks'.warm hW⟩⟩ rfl (by rw [List.length_map]) hl.1 (by simp [zph]) (lv_room (by rw [zcats]; exact hcat)) d hk9) hk9 hxp ?_
  rintro v M1 ⟨r, rfl, hP⟩
  exact kk r M1 hP
theorem z_callVr (X : zCx g l0 cc nL ret own nm Ts fr lo mc ms M00 post xp []) {C : String} {o ci N : Nat} {T : u_T} {index : Nat} {y : MethodName} {bytes : ByteArray} {maxL : Nat} {ret1 : Option FieldType} {ws1 ws1' : List Cond} {fr1 lo1 mc1 ms1 : Nat} {As : List Value} {xp1 : String → Prop} {P : Nat → zMem → Prop} (d : decode cc pc = .ok (.invokevirtual index, 3)) (hM : zS l0 y ws1 fr1 lo1 mc1 ms1 (.ref o :: As) M (zpr P) xp1) (hT9 : GoodIn Ts (wsV own index C y ws1)) (hw : ws1 = Cond.code y bytes maxL ret1 :: ws1')
    (hd : y.cls = C ∧ y.cls ≠ "java/lang/invoke/MethodHandle" ∧ y.cls ≠ "java/lang/invoke/VarHandle" ∧ (parseMethodDescriptor y.desc).map (fun d => d.parameters.length) = some As.length) (hR9 : fr1 + 1 ≤ fr ∧ 8 + (maxL + 11) + lo1 ≤ lo) (hc : zc M o = ci + 1) (hq : vwCl[ci]? = some (C, T, N)) (hst : st = As.reverse ++ .ref o :: rest) (hcat : (rest.map fun v => v.category).sum ≤ 8) (hk9 : k + mc1 ≤ mc ∧ n + ms1 ≤ ms) (hxp : ∀ E, xp1 E → xp E ∧ M = M00)
    (kk : ∀ (r : Nat) (M1 : zMem), P r M1 → zE g nL (pc + 3) ls (.ref r :: rest) M1 (k + mc1) (n + ms1)) : zE g nL pc ls st M k n := by
  subst hst
  obtain ⟨p, l, e, R, s, m, args, below, meth, c, D, ad0, M0, Q⟩ := g
  obtain ⟨h0, hx, hb, hml, hrt, hown, hnm, hts, hR, hM0, hQ, hlk, htab, hks⟩ := X
  intro ad H locs lss hr hz hS hl hL hT
  subst h0; subst hR; subst hM0
  have ho : zc M o ≠ 0 := by rw [hc]; exact Nat.succ_ne_zero _
  obtain ⟨cell, q1, q2, q3, -⟩ := (hr.2.2.1 o ho).1 ci _ hc hq
  have hav : zls M (.ref o :: As) := zls_c (zlv_ref ho) (fun w hw => hT w (List.mem_append_left _ (List.mem_reverse.mpr hw)))
  have hrs : zls M rest := fun w hw => hT w (List.mem_append_right _ (List.mem_cons_of_mem _ hw))
  have hks' : zKS D ad M (zA ad M H.size) s H := ⟨hks.1, hks.2.1.on hz hS, hks.2.2⟩
  refine z_ofRun hlk htab hQ hr hz hS hl hL hrs (hrun := vx_runV (b := ad o) (As := As.map (zph ad)) (rest := rest.map (zph ad)) (H := H) (locs := locs) (cells := k) (slots := n) ⟨hx, hb, hml, hown, hts⟩ (hM D ad H.size) (cwV As.length hts hT9 hw rfl rfl hd hR9) ⟨zPc.blind, ⟨cell, q1, by rw [q3]; rfl, by rw [q2]; exact (hks.1.1.1 ci _ hq).2.1⟩, fun U hU hW => ⟨rfl, by rw [hU], by rw [hU]; exact hr, hav, by rw [hU]; exact hks'.warm hW⟩⟩ rfl (by rw [List.length_map]) hl.1 (by simp [zph]) (lv_room (by rw [zcats]; exact hcat)) d hk9) hk9 hxp ?_
  rintro v M1 ⟨r, rfl, hP⟩
  exact kk r M1 hP
theorem z_callVq (X : zCx g l0 cc nL ret own nm Ts fr lo mc ms M00 post xp []) {C : String} {o ci N : Nat} {T : u_T} {index : Nat} {y : MethodName} {bytes : ByteArray} {maxL : Nat} {ret1 : Option FieldType} {ws1 ws1' : List Cond} {fr1 lo1 mc1 ms1 : Nat} {As : List Value} {xp1 : String → Prop} {P : Option Nat → zMem → Prop} (d : decode cc pc = .ok (.invokevirtual index, 3)) (hM : zS l0 y ws1 fr1 lo1 mc1 ms1 (.ref o :: As) M (zpq P) xp1) (hT9 : GoodIn Ts (wsV own index C y ws1)) (hw : ws1 = Cond.code y bytes maxL ret1 :: ws1')
    (hd : y.cls = C ∧ y.cls ≠ "java/lang/invoke/MethodHandle" ∧ y.cls ≠ "java/lang/invoke/VarHandle" ∧ (parseMethodDescriptor y.desc).map (fun d => d.parameters.length) = some As.length) (hR9 : fr1 + 1 ≤ fr ∧ 8 + (maxL + 11) + lo1 ≤ lo) (hc : zc M o = ci + 1) (hq : vwCl[ci]? = some (C, T, N)) (hst : st = As.reverse ++ .ref o :: rest) (hcat : (rest.map fun v => v.category).sum ≤ 8) (hk9 : k + mc1 ≤ mc ∧ n + ms1 ≤ ms) (hxp : ∀ E, xp1 E → xp E ∧ M = M00)
    (kk : ∀ (r : Option Nat) (M1 : zMem), P r M1 → zE g nL (pc + 3) ls (va_rf r :: rest) M1 (k + mc1) (n + ms1)) : zE g nL pc ls st M k n := by
  subst hst
  obtain ⟨p, l, e, R, s, m, args, below, meth, c, D, ad0, M0, Q⟩ := g
  obtain ⟨h0, hx, hb, hml, hrt, hown, hnm, hts, hR, hM0, hQ, hlk, htab, hks⟩ := X
  intro ad H locs lss hr hz hS hl hL hT
  subst h0; subst hR; subst hM0
  have ho : zc M o ≠ 0 := by rw [hc]; exact Nat.succ_ne_zero _
  obtain ⟨cell, q1, q2, q3, -⟩ := (hr.2.2.1 o ho).1 ci _ hc hq
  have hav : zls M (.ref o :: As) := zls_c (zlv_ref ho) (fun w hw => hT w (List.mem_append_left _ (List.mem_reverse.mpr hw)))
  have hrs : zls M rest := fun w hw => hT w (List.mem_append_right _ (List.mem_cons_of_mem _ hw))
  have hks' : zKS D ad M (zA ad M H.size) s H := ⟨hks.1, hks.2.1.on hz hS, hks.2.2⟩
  refine z_ofRun hlk htab hQ hr hz hS hl hL hrs (hrun := vx_runV (b := ad o) (As := As.map (zph ad)) (rest := rest.map (zph ad)) (H := H) (locs := locs) (cells := k) (slots := n) ⟨hx, hb, hml, hown, hts⟩ (hM D ad H.size) (cwV As.length hts hT9 hw rfl rfl hd hR9) ⟨zPc.blind, ⟨cell, q1, by rw [q3]; rfl, by rw [q2]; exact (hks.1.1.1 ci _ hq).2.1⟩, fun U hU hW => ⟨rfl, by rw [hU], by rw [hU]; exact hr, hav, by rw [hU]; exact hks'.warm hW⟩⟩ rfl (by rw [List.length_map]) hl.1 (by simp [zph]) (lv_room (by rw [zcats]; exact hcat)) d hk9) hk9 hxp ?_
  rintro v M1 ⟨r, rfl, hP⟩
  exact kk r M1 hP
theorem z_callSv (X : zCx g l0 cc nL ret own nm Ts fr lo mc ms M00 post xp []) {index : Nat} {y : MethodName} {bytes : ByteArray} {maxL : Nat} {ret1 : Option FieldType} {ws1 ws1' : List Cond} {fr1 lo1 mc1 ms1 : Nat} {As : List Value} {xp1 : String → Prop} {P : zMem → Prop} (d : decode cc pc = .ok (.invokestatic index, 3)) (hM : zS l0 y ws1 fr1 lo1 mc1 ms1 As M (zpv P) xp1) (hT9 : GoodIn Ts (va_wsS own index y ws1)) (hw : ws1 = Cond.code y bytes maxL ret1 :: ws1')
    (hd : y.cls ≠ "java/lang/invoke/MethodHandle" ∧ y.cls ≠ "java/lang/invoke/VarHandle" ∧ (parseMethodDescriptor y.desc).map (fun d => d.parameters.length) = some As.length) (hR9 : fr1 + 1 ≤ fr ∧ 8 + (maxL + 11) + lo1 ≤ lo) (hst : st = As.reverse ++ rest) (hcat : (rest.map fun v => v.category).sum ≤ 8) (hk9 : k + mc1 ≤ mc ∧ n + ms1 ≤ ms) (hxp : ∀ E, xp1 E → xp E ∧ M = M00)
    (kk : ∀ (M1 : zMem), P M1 → zE g nL (pc + 3) ls rest M1 (k + mc1) (n + ms1)) : zE g nL pc ls st M k n := by
  subst hst
  obtain ⟨p, l, e, R, s, m, args, below, meth, c, D, ad0, M0, Q⟩ := g
  obtain ⟨h0, hx, hb, hml, hrt, hown, hnm, hts, hR, hM0, hQ, hlk, htab, hks⟩ := X
  intro ad H locs lss hr hz hS hl hL hT
  subst h0; subst hR; subst hM0
  have hav : zls M As := fun w hw => hT w (List.mem_append_left _ (List.mem_reverse.mpr hw))
  have hrs : zls M rest := fun w hw => hT w (List.mem_append_right _ hw)
  have hks' : zKS D ad M (zA ad M H.size) s H := ⟨hks.1, hks.2.1.on hz hS, hks.2.2⟩
  refine z_ofRun hlk htab hQ hr hz hS hl hL hrs (hrun := vx_runS (As := As.map (zph ad)) (rest := rest.map (zph ad)) (H := H) (locs := locs) (cells := k) (slots := n) ⟨hx, hb, hml, hown, hts⟩ (hM D ad H.size) (va_cwS As.length hts hT9 hw rfl rfl hd hR9) ⟨zPc.blind, fun U hU hW => ⟨rfl, by rw [hU], by rw [hU]; exact hr, hav, by rw [hU]; exact hks'.warm hW⟩⟩ rfl (by rw [List.length_map]) hl.1 (by simp) (lv_room (by rw [zcats]; exact hcat)) d hk9) hk9 hxp ?_
  rintro v M1 ⟨rfl, hP⟩
  exact kk M1 hP
theorem z_callSi (X : zCx g l0 cc nL ret own nm Ts fr lo mc ms M00 post xp []) {index : Nat} {y : MethodName} {bytes : ByteArray} {maxL : Nat} {ret1 : Option FieldType} {ws1 ws1' : List Cond} {fr1 lo1 mc1 ms1 : Nat} {As : List Value} {xp1 : String → Prop} {P : Int32 → zMem → Prop} (d : decode cc pc = .ok (.invokestatic index, 3)) (hM : zS l0 y ws1 fr1 lo1 mc1 ms1 As M (zpi P) xp1) (hT9 : GoodIn Ts (va_wsS own index y ws1)) (hw : ws1 = Cond.code y bytes maxL ret1 :: ws1')
    (hd : y.cls ≠ "java/lang/invoke/MethodHandle" ∧ y.cls ≠ "java/lang/invoke/VarHandle" ∧ (parseMethodDescriptor y.desc).map (fun d => d.parameters.length) = some As.length) (hR9 : fr1 + 1 ≤ fr ∧ 8 + (maxL + 11) + lo1 ≤ lo) (hst : st = As.reverse ++ rest) (hcat : (rest.map fun v => v.category).sum ≤ 8) (hk9 : k + mc1 ≤ mc ∧ n + ms1 ≤ ms) (hxp : ∀ E, xp1 E → xp E ∧ M = M00)
    (kk : ∀ (r : Int32) (M1 : zMem), P r M1 → zE g nL (pc + 3) ls (.int r :: rest) M1 (k + mc1) (n + ms1)) : zE g nL pc ls st M k n := by
  subst hst
  obtain ⟨p, l, e, R, s, m, args, below, meth, c, D, ad0, M0, Q⟩ := g
  obtain ⟨h0, hx, hb, hml, hrt, hown, hnm, hts, hR, hM0, hQ, hlk, htab, hks⟩ := X
  intro ad H locs lss hr hz hS hl hL hT
  subst h0; subst hR; subst hM0
  have hav : zls M As := fun w hw => hT w (List.mem_append_left _ (List.mem_reverse.mpr hw))
  have hrs : zls M rest := fun w hw => hT w (List.mem_append_right _ hw)
  have hks' : zKS D ad M (zA ad M H.size) s H := ⟨hks.1, hks.2.1.on hz hS, hks.2.2⟩
  refine z_ofRun hlk htab hQ hr hz hS hl hL hrs (hrun := vx_runS (As := As.map (zph ad)) (rest := rest.map (zph ad)) (H := H) (locs := locs) (cells := k) (slots := n) ⟨hx, hb, hml, hown, hts⟩ (hM D ad H.size) (va_cwS As.length hts hT9 hw rfl rfl hd hR9) ⟨zPc.blind, fun U hU hW => ⟨rfl, by rw [hU], by rw [hU]; exact hr, hav, by rw [hU]; exact hks'.warm hW⟩⟩ rfl (by rw [List.length_map]) hl.1 (by simp) (lv_room (by rw [zcats]; exact hcat)) d hk9) hk9 hxp ?_
  rintro v M1 ⟨r, rfl, hP⟩
  exact kk r M1 hP
theorem z_callSl (X : zCx g l0 cc nL ret own nm Ts fr lo mc ms M00 post xp []) {index : Nat} {y : MethodName} {bytes : ByteArray} {maxL : Nat} {ret1 : Option FieldType} {ws1 ws1' : List Cond} {fr1 lo1 mc1 ms1 : Nat} {As : List Value} {xp1 : String → Prop} {P : Int64 → zMem → Prop} (d : decode cc pc = .ok (.invokestatic index, 3)) (hM : zS l0 y ws1 fr1 lo1 mc1 ms1 As M (zpl P) xp1) (hT9 : GoodIn Ts (va_wsS own index y ws1)) (hw : ws1 = Cond.code y bytes maxL ret1 :: ws1')
    (hd : y.cls ≠ "java/lang/invoke/MethodHandle" ∧ y.cls ≠ "java/lang/invoke/VarHandle" ∧ (parseMethodDescriptor y.desc).map (fun d => d.parameters.length) = some As.length) (hR9 : fr1 + 1 ≤ fr ∧ 8 + (maxL + 11) + lo1 ≤ lo) (hst : st = As.reverse ++ rest) (hcat : (rest.map fun v => v.category).sum ≤ 8) (hk9 : k + mc1 ≤ mc ∧ n + ms1 ≤ ms) (hxp : ∀ E, xp1 E → xp E ∧ M = M00)
    (kk : ∀ (r : Int64) (M1 : zMem), P r M1 → zE g nL (pc + 3) ls (.long r :: rest) M1 (k + mc1) (n + ms1)) : zE g nL pc ls st M k n := by
  subst hst
  obtain ⟨p, l, e, R, s, m, args, below, meth, c, D, ad0, M0, Q⟩ := g
  obtain ⟨h0, hx, hb, hml, hrt, hown, hnm, hts, hR, hM0, hQ, hlk, htab, hks⟩ := X
  intro ad H locs lss hr hz hS hl hL hT
  subst h0; subst hR; subst hM0
  have hav : zls M As := fun w hw => hT w (List.mem_append_left _ (List.mem_reverse.mpr hw))
  have hrs : zls M rest := fun w hw => hT w (List.mem_append_right _ hw)
  have hks' : zKS D ad M (zA ad M H.size) s H := ⟨hks.1, hks.2.1.on hz hS, hks.2.2⟩
  refine z_ofRun hlk htab hQ hr hz hS hl hL hrs (hrun := vx_runS (As := As.map (zph ad)) (rest := rest.map (zph ad)) (H := H) (locs := locs) (cells := k) (slots := n) ⟨hx, hb, hml, hown, hts⟩ (hM D ad H.size) (va_cwS As.length hts hT9 hw rfl rfl hd hR9) ⟨zPc.blind, fun U hU hW => ⟨rfl, by rw [hU], by rw [hU]; exact hr, hav, by rw [hU]; exact hks'.warm hW⟩⟩ rfl (by rw [List.length_map]) hl.1 (by simp) (lv_room (by rw [zcats]; exact hcat)) d hk9) hk9 hxp ?_
  rintro v M1 ⟨r, rfl, hP⟩
  exact kk r M1 hP
theorem z_callSf (X : zCx g l0 cc nL ret own nm Ts fr lo mc ms M00 post xp []) {index : Nat} {y : MethodName} {bytes : ByteArray} {maxL : Nat} {ret1 : Option FieldType} {ws1 ws1' : List Cond} {fr1 lo1 mc1 ms1 : Nat} {As : List Value} {xp1 : String → Prop} {P : UInt32 → zMem → Prop} (d : decode cc pc = .ok (.invokestatic index, 3)) (hM : zS l0 y ws1 fr1 lo1 mc1 ms1 As M (zpf P) xp1) (hT9 : GoodIn Ts (va_wsS own index y ws1)) (hw : ws1 = Cond.code y bytes maxL ret1 :: ws1')
    (hd : y.cls ≠ "java/lang/invoke/MethodHandle" ∧ y.cls ≠ "java/lang/invoke/VarHandle" ∧ (parseMethodDescriptor y.desc).map (fun d => d.parameters.length) = some As.length) (hR9 : fr1 + 1 ≤ fr ∧ 8 + (maxL + 11) + lo1 ≤ lo) (hst : st = As.reverse ++ rest) (hcat : (rest.map fun v => v.category).sum ≤ 8) (hk9 : k + mc1 ≤ mc ∧ n + ms1 ≤ ms) (hxp : ∀ E, xp1 E → xp E ∧ M = M00)
    (kk : ∀ (r : UInt32) (M1 : zMem), P r M1 → zE g nL (pc + 3) ls (.float r :: rest) M1 (k + mc1) (n + ms1)) : zE g nL pc ls st M k n := by
  subst hst
  obtain ⟨p, l, e, R, s, m, args, below, meth, c, D, ad0, M0, Q⟩ := g
  obtain ⟨h0, hx, hb, hml, hrt, hown, hnm, hts, hR, hM0, hQ, hlk, htab, hks⟩ := X
  intro ad H locs lss hr hz hS hl hL hT
  subst h0; subst hR; subst hM0
  have hav : zls M As := fun w hw => hT w (List.mem_append_left _ (List.mem_reverse.mpr hw))
  have hrs : zls M rest := fun w hw => hT w (List.mem_append_right _ hw)
  have hks' : zKS D ad M (zA ad M H.size) s H := ⟨hks.1, hks.2.1.on hz hS, hks.2.2⟩
  refine z_ofRun hlk htab hQ hr hz hS hl hL hrs (hrun := vx_runS (As := As.map (zph ad)) (rest := rest.map (zph ad)) (H := H) (locs := locs) (cells := k) (slots := n) ⟨hx, hb, hml, hown, hts⟩ (hM D ad H.size) (va_cwS As.length hts hT9 hw rfl rfl hd hR9) ⟨zPc.blind, fun U hU hW => ⟨rfl, by rw [hU], by rw [hU]; exact hr, hav, by rw [hU]; exact hks'.warm hW⟩⟩ rfl (by rw [List.length_map]) hl.1 (by simp) (lv_room (by rw [zcats]; exact hcat)) d hk9) hk9 hxp ?_
  rintro v M1 ⟨r, rfl, hP⟩
  exact kk r M1 hP
theorem z_callSd (X : zCx g l0 cc nL ret own nm Ts fr lo mc ms M00 post xp []) {index : Nat} {y : MethodName} {bytes : ByteArray} {maxL : Nat} {ret1 : Option FieldType} {ws1 ws1' : List Cond} {fr1 lo1 mc1 ms1 : Nat} {As : List Value} {xp1 : String → Prop} {P : UInt64 → zMem → Prop} (d : decode cc pc = .ok (.invokestatic index, 3)) (hM : zS l0 y ws1 fr1 lo1 mc1 ms1 As M (zpd P) xp1) (hT9 : GoodIn Ts (va_wsS own index y ws1)) (hw : ws1 = Cond.code y bytes maxL ret1 :: ws1')
    (hd : y.cls ≠ "java/lang/invoke/MethodHandle" ∧ y.cls ≠ "java/lang/invoke/VarHandle" ∧ (parseMethodDescriptor y.desc).map (fun d => d.parameters.length) = some As.length) (hR9 : fr1 + 1 ≤ fr ∧ 8 + (maxL + 11) + lo1 ≤ lo) (hst : st = As.reverse ++ rest) (hcat : (rest.map fun v => v.category).sum ≤ 8) (hk9 : k + mc1 ≤ mc ∧ n + ms1 ≤ ms) (hxp : ∀ E, xp1 E → xp E ∧ M = M00)
    (kk : ∀ (r : UInt64) (M1 : zMem), P r M1 → zE g nL (pc + 3) ls (.double r :: rest) M1 (k + mc1) (n + ms1)) : zE g nL pc ls st M k n := by
  subst hst
  obtain ⟨p, l, e, R, s, m, args, below, meth, c, D, ad0, M0, Q⟩ := g
  obtain ⟨h0, hx, hb, hml, hrt, hown, hnm, hts, hR, hM0, hQ, hlk, htab, hks⟩ := X
  intro ad H locs lss hr hz hS hl hL hT
  subst h0; subst hR; subst hM0
  have hav : zls M As := fun w hw => hT w (List.mem_append_left _ (List.mem_reverse.mpr hw))
  have hrs : zls M rest := fun w hw => hT w (List.mem_append_right _ hw)
  have hks' : zKS D ad M (zA ad M H.size) s H := ⟨hks.1, hks.2.1.on hz hS, hks.2.2⟩
  refine z_ofRun hlk htab hQ hr hz hS hl hL hrs (hrun := vx_runS (As := As.map (zph ad)) (rest := rest.map (zph ad)) (H := H) (locs := locs) (cells := k) (slots := n) ⟨hx, hb, hml, hown, hts⟩ (hM D ad H.size) (va_cwS As.length hts hT9 hw rfl rfl hd hR9) ⟨zPc.blind, fun U hU hW => ⟨rfl, by rw [hU], by rw [hU]; exact hr, hav, by rw [hU]; exact hks'.warm hW⟩⟩ rfl (by rw [List.length_map]) hl.1 (by simp) (lv_room (by rw [zcats]; exact hcat)) d hk9) hk9 hxp ?_
  rintro v M1 ⟨r, rfl, hP⟩
  exact kk r M1 hP
theorem z_callSr (X : zCx g l0 cc nL ret own nm Ts fr lo mc ms M00 post xp []) {index : Nat} {y : MethodName} {bytes : ByteArray} {maxL : Nat} {ret1 : Option FieldType} {ws1 ws1' : List Cond} {fr1 lo1 mc1 ms1 : Nat} {As : List Value} {xp1 : String → Prop} {P : Nat → zMem → Prop} (d : decode cc pc = .ok (.invokestatic index, 3)) (hM : zS l0 y ws1 fr1 lo1 mc1 ms1 As M (zpr P) xp1) (hT9 : GoodIn Ts (va_wsS own index y ws1)) (hw : ws1 = Cond.code y bytes maxL ret1 :: ws1')
    (hd : y.cls ≠ "java/lang/invoke/MethodHandle" ∧ y.cls ≠ "java/lang/invoke/VarHandle" ∧ (parseMethodDescriptor y.desc).map (fun d => d.parameters.length) = some As.length) (hR9 : fr1 + 1 ≤ fr ∧ 8 + (maxL + 11) + lo1 ≤ lo) (hst : st = As.reverse ++ rest) (hcat : (rest.map fun v => v.category).sum ≤ 8) (hk9 : k + mc1 ≤ mc ∧ n + ms1 ≤ ms) (hxp : ∀ E, xp1 E → xp E ∧ M = M00)
    (kk : ∀ (r : Nat) (M1 : zMem), P r M1 → zE g nL (pc + 3) ls (.ref r :: rest) M1 (k + mc1) (n + ms1)) : zE g nL pc ls st M k n := by
  subst hst
  obtain ⟨p, l, e, R, s, m, args, below, meth, c, D, ad0, M0, Q⟩ := g
  obtain ⟨h0, hx, hb, hml, hrt, hown, hnm, hts, hR, hM0, hQ, hlk, htab, hks⟩ := X
  intro ad H locs lss hr hz hS hl hL hT
  subst h0; subst hR; subst hM0
  have hav : zls M As := fun w hw => hT w (List.mem_append_left _ (List.mem_reverse.mpr hw))
  have hrs : zls M rest := fun w hw => hT w (List.mem_append_right _ hw)
  have hks' : zKS D ad M (zA ad M H.size) s H := ⟨hks.1, hks.2.1.on hz hS, hks.2.2⟩
  refine z_ofRun hlk htab hQ hr hz hS hl hL hrs (hrun := vx_runS (As := As.map (zph ad)) (rest := rest.map (zph ad)) (H := H) (locs := locs) (cells := k) (slots := n) ⟨hx, hb, hml, hown, hts⟩ (hM D ad H.size) (va_cwS As.length hts hT9 hw rfl rfl hd hR9) ⟨zPc.blind, fun U hU hW => ⟨rfl, by rw [hU], by rw [hU]; exact hr, hav, by rw [hU]; exact hks'.warm hW⟩⟩ rfl (by rw [List.length_map]) hl.1 (by simp) (lv_room (by rw [zcats]; exact hcat)) d hk9) hk9 hxp ?_
  rintro v M1 ⟨r, rfl, hP⟩
  exact kk r M1 hP
theorem z_callSq (X : zCx g l0 cc nL ret own nm Ts fr lo mc ms M00 post xp []) {index : Nat} {y : MethodName} {bytes : ByteArray} {maxL : Nat} {ret1 : Option FieldType} {ws1 ws1' : List Cond} {fr1 lo1 mc1 ms1 : Nat} {As : List Value} {xp1 : String → Prop} {P : Option Nat → zMem → Prop} (d : decode cc pc = .ok (.invokestatic index, 3)) (hM : zS l0 y ws1 fr1 lo1 mc1 ms1 As M (zpq P) xp1) (hT9 : GoodIn Ts (va_wsS own index y ws1)) (hw : ws1 = Cond.code y bytes maxL ret1 :: ws1')
    (hd : y.cls ≠ "java/lang/invoke/MethodHandle" ∧ y.cls ≠ "java/lang/invoke/VarHandle" ∧ (parseMethodDescriptor y.desc).map (fun d => d.parameters.length) = some As.length) (hR9 : fr1 + 1 ≤ fr ∧ 8 + (maxL + 11) + lo1 ≤ lo) (hst : st = As.reverse ++ rest) (hcat : (rest.map fun v => v.category).sum ≤ 8) (hk9 : k + mc1 ≤ mc ∧ n + ms1 ≤ ms) (hxp : ∀ E, xp1 E → xp E ∧ M = M00)
    (kk : ∀ (r : Option Nat) (M1 : zMem), P r M1 → zE g nL (pc + 3) ls (va_rf r :: rest) M1 (k + mc1) (n + ms1)) : zE g nL pc ls st M k n := by
  subst hst
  obtain ⟨p, l, e, R, s, m, args, below, meth, c, D, ad0, M0, Q⟩ := g
  obtain ⟨h0, hx, hb, hml, hrt, hown, hnm, hts, hR, hM0, hQ, hlk, htab, hks⟩ := X
  intro ad H locs lss hr hz hS hl hL hT
  subst h0; subst hR; subst hM0
  have hav : zls M As := fun w hw => hT w (List.mem_append_left _ (List.mem_reverse.mpr hw))
  have hrs : zls M rest := fun w hw => hT w (List.mem_append_right _ hw)
  have hks' : zKS D ad M (zA ad M H.size) s H := ⟨hks.1, hks.2.1.on hz hS, hks.2.2⟩
  refine z_ofRun hlk htab hQ hr hz hS hl hL hrs (hrun := vx_runS (As := As.map (zph ad)) (rest := rest.map (zph ad)) (H := H) (locs := locs) (cells := k) (slots := n) ⟨hx, hb, hml, hown, hts⟩ (hM D ad H.size) (va_cwS As.length hts hT9 hw rfl rfl hd hR9) ⟨zPc.blind, fun U hU hW => ⟨rfl, by rw [hU], by rw [hU]; exact hr, hav, by rw [hU]; exact hks'.warm hW⟩⟩ rfl (by rw [List.length_map]) hl.1 (by simp) (lv_room (by rw [zcats]; exact hcat)) d hk9) hk9 hxp ?_
  rintro v M1 ⟨r, rfl, hP⟩
  exact kk r M1 hP
theorem z_callIv (X : zCx g l0 cc nL ret own nm Ts fr lo mc ms M00 post xp []) {o : Nat} {index : Nat} {y : MethodName} {bytes : ByteArray} {maxL : Nat} {ws1 ws1' : List Cond} {fr1 lo1 mc1 ms1 : Nat} {As : List Value} {xp1 : String → Prop} {P : zMem → Prop} (d : decode cc pc = .ok (.invokespecial index, 3)) (hM : zS l0 y ws1 fr1 lo1 mc1 ms1 (.ref o :: As) M (zpv P) xp1) (hT9 : GoodIn Ts (ws1)) (hw : ws1 = Cond.code y bytes maxL none :: ws1') (hini : Cond.initialized y.cls ∈ Ts) (hlink : Cond.methodLink own index y ∈ Ts) (hins : Cond.instanceMethod y ∈ Ts) (hy1 : y.name = "<init>")
    (hd : y.cls ≠ "java/lang/invoke/MethodHandle" ∧ y.cls ≠ "java/lang/invoke/VarHandle" ∧ (parseMethodDescriptor y.desc).map (fun d => d.parameters.length) = some As.length) (hR9 : fr1 + 1 ≤ fr ∧ 8 + (maxL + 11) + lo1 ≤ lo) (hst : st = As.reverse ++ .ref o :: rest) (hcat : (rest.map fun v => v.category).sum ≤ 8) (hk9 : k + mc1 ≤ mc ∧ n + ms1 ≤ ms) (hxp : ∀ E, xp1 E → xp E ∧ M = M00)
    (kk : ∀ (M1 : zMem), P M1 → zE g nL (pc + 3) ls rest M1 (k + mc1) (n + ms1)) : zE g nL pc ls st M k n := by
  subst hst
  obtain ⟨p, l, e, R, s, m, args, below, meth, c, D, ad0, M0, Q⟩ := g
  obtain ⟨h0, hx, hb, hml, hrt, hown, hnm, hts, hR, hM0, hQ, hlk, htab, hks⟩ := X
  intro ad H locs lss hr hz hS hl hL hT
  subst h0; subst hR; subst hM0
  have hav : zls M (.ref o :: As) := zls_c (hT _ (List.mem_append_right _ List.mem_cons_self)) (fun w hw => hT w (List.mem_append_left _ (List.mem_reverse.mpr hw)))
  have hrs : zls M rest := fun w hw => hT w (List.mem_append_right _ (List.mem_cons_of_mem _ hw))
  have hks' : zKS D ad M (zA ad M H.size) s H := ⟨hks.1, hks.2.1.on hz hS, hks.2.2⟩
  refine z_ofRun hlk htab hQ hr hz hS hl hL hrs (hrun := vx_runI (b := ad o) (As := As.map (zph ad)) (rest := rest.map (zph ad)) (H := H) (locs := locs) (cells := k) (slots := n) ⟨hx, hb, hml, hown, hts⟩ (hM D ad H.size) (cwI As.length hts hT9 hw rfl rfl (hts _ hini) (hts _ hlink) (hts _ hins) hy1 hd hR9) ⟨zPc.blind, fun U hU hW => ⟨rfl, by rw [hU], by rw [hU]; exact hr, hav, by rw [hU]; exact hks'.warm hW⟩⟩ rfl (by rw [List.length_map]) hl.1 (by simp [zph]) (lv_room (by rw [zcats]; exact hcat)) d hk9) hk9 hxp ?_
  rintro v M1 ⟨rfl, hP⟩
  exact kk M1 hP
end ZC
