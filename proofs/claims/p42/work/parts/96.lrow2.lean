/-! PART 96: rows for the law: no table known, the script, two memories -/
section ZL6
variable {g : zCtx} {l0 : Launch} {cc : ByteArray} {nL : Nat} {ret : Option FieldType} {own nm : String} {Ts : List Cond} {fr lo mc ms : Nat} {M00 : zMem} {post : Option Value → zMem → Prop} {xp : String → Prop} {tab : List ExceptionTableEntry}
variable {pc : Nat} {ls ls' : List (Nat × Value)} {st rest : List Value} {M : zMem} {k n : Nat}
theorem z_iand (X : zCx g l0 cc nL ret own nm Ts fr lo mc ms M00 post xp tab) {x y : Int32} (d : decode cc pc = .ok (.iand, 1))
    (kk : zE g nL (pc + 1) ls (.int (x &&& y) :: rest) M k n) : zE g nL pc ls (.int y :: .int x :: rest) M k n := by
  obtain ⟨p, l, e, R, s, m, args, below, meth, c, D, ad0, M0, Q⟩ := g
  obtain ⟨h0, hx, hb, hml, hrt, hown, hnm, hts, hR, hM0, hQ, hlk, htab, hks⟩ := X
  intro ad H locs lss hr hz hS hl hL hT
  exact lv_iand hx hb d (kk ad H locs lss hr hz hS hl hL (zls_c zlv_int (zls_t (zls_t hT))))
theorem z_dcmp (X : zCx g l0 cc nL ret own nm Ts fr lo mc ms M00 post xp tab) {x y : UInt64} {op : CmpOp} (d : decode cc pc = .ok (.dcmp op, 1))
    (kk : zE g nL (pc + 1) ls (.int (Op.cmpValue (FP.dcmp x y) op) :: rest) M k n) : zE g nL pc ls (.double y :: .double x :: rest) M k n := by
  obtain ⟨p, l, e, R, s, m, args, below, meth, c, D, ad0, M0, Q⟩ := g
  obtain ⟨h0, hx, hb, hml, hrt, hown, hnm, hts, hR, hM0, hQ, hlk, htab, hks⟩ := X
  intro ad H locs lss hr hz hS hl hL hT
  exact lv_dcmp hx hb d (kk ad H locs lss hr hz hS hl hL (zls_c zlv_int (zls_t (zls_t hT))))
theorem z_dload (X : zCx g l0 cc nL ret own nm Ts fr lo mc ms M00 post xp tab) {i : Nat} {x : UInt64} (j : Nat) (d : decode cc pc = .ok (.dload i, 2)) (hl9 : ls[j]? = some (i, .double x))
    (kk : zE g nL (pc + 2) ls (.double x :: st) M k n) : zE g nL pc ls st M k n := by
  obtain ⟨p, l, e, R, s, m, args, below, meth, c, D, ad0, M0, Q⟩ := g
  obtain ⟨h0, hx, hb, hml, hrt, hown, hnm, hts, hR, hM0, hQ, hlk, htab, hks⟩ := X
  intro ad H locs lss hr hz hS hl hL hT
  exact lv_dload hx hb d (lv_at hl j (zat_l ad hl9)) (kk ad H locs lss hr hz hS hl hL (zls_c zlv_double hT))
theorem z_fload (X : zCx g l0 cc nL ret own nm Ts fr lo mc ms M00 post xp tab) {i : Nat} {x : UInt32} (j : Nat) (d : decode cc pc = .ok (.fload i, 2)) (hl9 : ls[j]? = some (i, .float x))
    (kk : zE g nL (pc + 2) ls (.float x :: st) M k n) : zE g nL pc ls st M k n := by
  obtain ⟨p, l, e, R, s, m, args, below, meth, c, D, ad0, M0, Q⟩ := g
  obtain ⟨h0, hx, hb, hml, hrt, hown, hnm, hts, hR, hM0, hQ, hlk, htab, hks⟩ := X
  intro ad H locs lss hr hz hS hl hL hT
  exact lv_fload hx hb d (lv_at hl j (zat_l ad hl9)) (kk ad H locs lss hr hz hS hl hL (zls_c zlv_float hT))
theorem z_dstore (X : zCx g l0 cc nL ret own nm Ts fr lo mc ms M00 post xp tab) {i : Nat} {x : UInt64} (d : decode cc pc = .ok (.dstore i, 2)) (hn9 : i + 1 < nL) (hls : (i, .double x) :: zfl2 i ls = ls')
    (kk : zE g nL (pc + 2) ls' rest M k n) : zE g nL pc ls (.double x :: rest) M k n := by
  obtain ⟨p, l, e, R, s, m, args, below, meth, c, D, ad0, M0, Q⟩ := g
  obtain ⟨h0, hx, hb, hml, hrt, hown, hnm, hts, hR, hM0, hQ, hlk, htab, hks⟩ := X
  intro ad H locs lss hr hz hS hl hL hT
  exact lv_dstore hx hb d hl hn9 (lv' := ls'.map (zpl ad)) (by rw [zfl2_map, ← hls]; rfl) (fun lss' hl' => kk ad H locs lss' hr hz hS hl' (zll_st2 hL zlv_double hls) (zls_t hT))
theorem z_fstore (X : zCx g l0 cc nL ret own nm Ts fr lo mc ms M00 post xp tab) {i : Nat} {x : UInt32} (d : decode cc pc = .ok (.fstore i, 2)) (hn9 : i < nL) (hls : (i, .float x) :: zfl i ls = ls')
    (kk : zE g nL (pc + 2) ls' rest M k n) : zE g nL pc ls (.float x :: rest) M k n := by
  obtain ⟨p, l, e, R, s, m, args, below, meth, c, D, ad0, M0, Q⟩ := g
  obtain ⟨h0, hx, hb, hml, hrt, hown, hnm, hts, hR, hM0, hQ, hlk, htab, hks⟩ := X
  intro ad H locs lss hr hz hS hl hL hT
  exact lv_fstore hx hb d hl hn9 (lv' := ls'.map (zpl ad)) (by rw [zfl_map, ← hls]; rfl) (fun lss' hl' => kk ad H locs lss' hr hz hS hl' (zll_st hL zlv_float hls) (zls_t hT))
theorem z_tableOut (X : zCx g l0 cc nL ret own nm Ts fr lo mc ms M00 post xp tab) {dflt lo9 hi : Int} {offs : Array Int} {len : Nat} {x : Int32} {tgt : Nat} (d : decode cc pc = .ok (.tableswitch dflt lo9 hi offs, len)) (h : x.toInt < lo9 ∨ hi < x.toInt) (ht : (pc : Int) + dflt = (tgt : Int))
    (kk : zE g nL tgt ls rest M k n) : zE g nL pc ls (.int x :: rest) M k n := by
  obtain ⟨p, l, e, R, s, m, args, below, meth, c, D, ad0, M0, Q⟩ := g
  obtain ⟨h0, hx, hb, hml, hrt, hown, hnm, hts, hR, hM0, hQ, hlk, htab, hks⟩ := X
  intro ad H locs lss hr hz hS hl hL hT
  exact lv_tableOut hx hb d h ht (kk ad H locs lss hr hz hS hl hL (zls_t hT))
theorem z_tableIn (X : zCx g l0 cc nL ret own nm Ts fr lo mc ms M00 post xp tab) {dflt lo9 hi : Int} {offs : Array Int} {len : Nat} {x : Int32} {off : Int} {tgt : Nat} (d : decode cc pc = .ok (.tableswitch dflt lo9 hi offs, len)) (h1 : ¬ x.toInt < lo9) (h2 : ¬ hi < x.toInt) (ho : offs[(x.toInt - lo9).toNat]? = some off) (ht : (pc : Int) + off = (tgt : Int))
    (kk : zE g nL tgt ls rest M k n) : zE g nL pc ls (.int x :: rest) M k n := by
  obtain ⟨p, l, e, R, s, m, args, below, meth, c, D, ad0, M0, Q⟩ := g
  obtain ⟨h0, hx, hb, hml, hrt, hown, hnm, hts, hR, hM0, hQ, hlk, htab, hks⟩ := X
  intro ad H locs lss hr hz hS hl hL hT
  exact lv_tableIn hx hb d h1 h2 ho ht (kk ad H locs lss hr hz hS hl hL (zls_t hT))
theorem z_wide {a b : Nat} (kk : zE g nL pc ls st M (k + a) (n + b)) : zE g nL pc ls st M k n := by
  obtain ⟨p, l, e, R, s, m, args, below, meth, c, D, ad0, M0, Q⟩ := g
  intro ad H locs lss hr hz hS hl hL hT
  exact W.widen (Nat.le_add_right _ _) (Nat.le_add_right _ _) (kk ad H locs lss hr hz hS hl hL hT)
/-- the script of L ints xs lies at the name 17, and nobody writes it -/
def zScr (g : zCtx) (L : Nat) (xs : Nat → Int32) : Prop := match g with
  | (_, _, _, _, s, _, _, _, _, _, _, ad0, M0, _) => zc M0 17 ≠ 0 ∧ va_X (ad0 17) L xs s s.heap ∧ ad0 17 < s.heap.size ∧ ¬ zA ad0 M0 s.heap.size (ad0 17)
theorem z_sld (X : zCx g l0 cc nL ret own nm Ts fr lo mc ms M00 post xp tab) {L : Nat} {xs : Nat → Int32} (S : zScr g L xs) {i v : Int32} (d : decode cc pc = .ok (.iaload, 1)) (hin : vp_in i L) (hv : xs i.toNatClampNeg = v)
    (kk : zE g nL (pc + 1) ls (.int v :: rest) M k n) : zE g nL pc ls (.int i :: .ref 17 :: rest) M k n := by
  subst hv
  obtain ⟨p, l, e, R, s, m, args, below, meth, c, D, ad0, M0, Q⟩ := g
  obtain ⟨h0, hx, hb, hml, hrt, hown, hnm, hts, hR, hM0, hQ, hlk, htab, hks⟩ := X
  intro ad H locs lss hr hz hS hl hL hT
  have e17 : ad 17 = ad0 17 := (hz.1 17 S.1).1
  show W p l e R s m args below meth c H locs k n Q (F0 m pc lss (.int i :: .ref (ad 17) :: rest.map (zph ad)))
  rw [e17]
  exact va_sld hx hb S.2.1 S.2.2.1 S.2.2.2 hS hin d (kk ad H locs lss hr hz hS hl hL (zls_c zlv_int (zls_t (zls_t hT))))
theorem z_slen (X : zCx g l0 cc nL ret own nm Ts fr lo mc ms M00 post xp tab) {L : Nat} {xs : Nat → Int32} (S : zScr g L xs) {v : Int32} (d : decode cc pc = .ok (.arraylength, 1)) (hv : Int32.ofNat L = v)
    (kk : zE g nL (pc + 1) ls (.int v :: rest) M k n) : zE g nL pc ls (.ref 17 :: rest) M k n := by
  subst hv
  obtain ⟨p, l, e, R, s, m, args, below, meth, c, D, ad0, M0, Q⟩ := g
  obtain ⟨h0, hx, hb, hml, hrt, hown, hnm, hts, hR, hM0, hQ, hlk, htab, hks⟩ := X
  intro ad H locs lss hr hz hS hl hL hT
  have e17 : ad 17 = ad0 17 := (hz.1 17 S.1).1
  show W p l e R s m args below meth c H locs k n Q (F0 m pc lss (.ref (ad 17) :: rest.map (zph ad)))
  rw [e17]
  exact va_slen hx hb S.2.1 S.2.2.1 S.2.2.2 hS d (kk ad H locs lss hr hz hS hl hL (zls_c zlv_int (zls_t hT)))
theorem z_ofRunN {p : Program} {l : Launch} {e : Env} {R : Room} {s : State} {m : MethodId} {args : Array Value} {below : List Frame} {meth : Method} {c : Code} {D : zG} {ad0 : Nat → Nat} {M0 : zMem} {Q : State → Prop} 
    {ad : Nat → Nat} {H : Heap} {locs : List Loc} {lss : Array Slot} (hr : zrel D ad M H) (hz : zx ad0 M0 s.heap.size ad M) (hS : va_S (zA ad0 M0 s.heap.size) s.heap H locs) (hl : lv_has lss nL (ls.map (zpl ad))) (hL : zll M ls) (hT : zls M rest)
    {st0 : List Value} {a : Array Value} {mc1 ms1 : Nat} {post1 : Option Value → zMem → Prop}
    (hrun : vx_Run p l e R s m args below meth c H locs k n mc1 ms1 (F0 m pc lss st0) (rest.map (zph ad)) (zQc D ad M H.size post1 a) (zXC D ad M H.size zno) (zA ad M H.size))
    
    (kk : ∀ (v : Option Value) (M1 : zMem), post1 v M1 → zE (p, l, e, R, s, m, args, below, meth, c, D, ad0, M0, Q) nL (pc + 3) ls (v.toList ++ rest) M1 (k + mc1) (n + ms1)) : W p l e R s m args below meth c H locs k n Q (F0 m pc lss st0) := by
  have hA := zA_sub hz hS.1
  intro T hT9 X
  rcases hrun T hT9 X with ⟨v, st₀, t, T', L, h0, X', hL', e1, e2, ⟨⟨v', ad', M', hv, hp, hr', hz', hlv⟩, hF⟩, stp⟩ | ⟨q, st₀, t, T', L, E, ce, h0, X', hL', e1, e2, ⟨hxe, hre, hFe⟩, hce, hcv, hcl, stp⟩
  · have hv9 : v = v'.map (zph ad') := by cases hv; rfl
    subst hv9
    obtain ⟨k1, k2, k3⟩ := vx_keep h0 e1 hS (fun q _ h => hA q h) hA hL' hF
    have he : ∀ o, zc M o ≠ 0 → ad' o = ad o := fun o ho => (hz'.1 o ho).1
    have hm : ∀ o, zc M o ≠ 0 → zc M' o ≠ 0 := fun o ho => by rw [(hz'.1 o ho).2]; exact ho
    have k9 := kk v' M' hp ad' T'.heap (locs ++ L) lss (by rw [e1]; exact hr') (zx_tr hz hS.1 hz') k3 (by rw [zll_congr he hL]; exact hl) (zll_mono hm hL) (fun w hw => by
      rcases List.mem_append.mp hw with h | h
      · exact hlv w (by cases v' with
          | none => cases h
          | some u => exact (congrArg some (List.mem_singleton.mp h)).symm)
      · exact zls_mono hm hT w h) T' rfl X'
    rw [zmp, zst_congr he hT] at k9
    obtain ⟨t2, a1, b1⟩ := k9
    exact ⟨t2, stp t2 a1, b1⟩
  · exact hxe.elim
theorem z_callViN (X : zCx g l0 cc nL ret own nm Ts fr lo mc ms M00 post xp tab) {C : String} {o ci N : Nat} {T : u_T} {index : Nat} {y : MethodName} {bytes : ByteArray} {maxL : Nat} {ret1 : Option FieldType} {ws1 ws1' : List Cond} {fr1 lo1 mc1 ms1 : Nat} {As : List Value} {P : Int32 → zMem → Prop} (d : decode cc pc = .ok (.invokevirtual index, 3)) (hM : zS l0 y ws1 fr1 lo1 mc1 ms1 (.ref o :: As) M (zpi P) zno) (hT9 : GoodIn Ts (wsV own index C y ws1)) (hw : ws1 = Cond.code y bytes maxL ret1 :: ws1')
    {n1 : Nat} (hn1 : As.length = n1) (hd : y.cls = C ∧ y.cls ≠ "java/lang/invoke/MethodHandle" ∧ y.cls ≠ "java/lang/invoke/VarHandle" ∧ (parseMethodDescriptor y.desc).map (fun d => d.parameters.length) = some n1) (hR9 : fr1 + 1 ≤ fr ∧ 8 + (maxL + 11) + lo1 ≤ lo) (hc : zc M o = ci + 1) (hq : vwCl[ci]? = some (C, T, N)) (hst : st = As.reverse ++ .ref o :: rest) (hcat : (rest.map fun v => v.category).sum ≤ 8) (hk9 : k + mc1 ≤ mc ∧ n + ms1 ≤ ms) 
    (kk : ∀ (r : Int32) (M1 : zMem), P r M1 → zE g nL (pc + 3) ls (.int r :: rest) M1 (k + mc1) (n + ms1)) : zE g nL pc ls st M k n := by
  subst hst
  subst hn1
  obtain ⟨p, l, e, R, s, m, args, below, meth, c, D, ad0, M0, Q⟩ := g
  obtain ⟨h0, hx, hb, hml, hrt, hown, hnm, hts, hR, hM0, hQ, hlk, htab, hks⟩ := X
  intro ad H locs lss hr hz hS hl hL hT
  subst h0; subst hR; subst hM0
  have ho : zc M o ≠ 0 := by rw [hc]; exact Nat.succ_ne_zero _
  obtain ⟨cell, q1, q2, q3, -⟩ := (hr.2.2.1 o ho).1 ci _ hc hq
  have hav : zls M (.ref o :: As) := zls_c (zlv_ref ho) (fun w hw => hT w (List.mem_append_left _ (List.mem_reverse.mpr hw)))
  have hrs : zls M rest := fun w hw => hT w (List.mem_append_right _ (List.mem_cons_of_mem _ hw))
  have hks' : zKS D ad M (zA ad M H.size) s H := ⟨hks.1, hks.2.1.on hz hS, hks.2.2⟩
  refine z_ofRunN hr hz hS hl hL hrs (hrun := vx_runV (b := ad o) (As := As.map (zph ad)) (rest := rest.map (zph ad)) (H := H) (locs := locs) (cells := k) (slots := n) ⟨hx, hb, hml, hown, hts⟩ (hM D ad H.size) (cwV As.length hts hT9 hw rfl rfl hd hR9) ⟨zPc.blind, ⟨cell, q1, by rw [q3]; rfl, by rw [q2]; exact (hks.1.1.1 ci _ hq).2.1⟩, fun U hU hW => ⟨rfl, by rw [hU], by rw [hU]; exact hr, hav, by rw [hU]; exact hks'.warm hW⟩⟩ rfl (by rw [List.length_map]) hl.1 (by simp [zph]) (lv_room (by rw [zcats]; exact hcat)) d hk9) ?_
  rintro v M1 ⟨r, rfl, hP⟩
  exact kk r M1 hP
theorem z_callVlN (X : zCx g l0 cc nL ret own nm Ts fr lo mc ms M00 post xp tab) {C : String} {o ci N : Nat} {T : u_T} {index : Nat} {y : MethodName} {bytes : ByteArray} {maxL : Nat} {ret1 : Option FieldType} {ws1 ws1' : List Cond} {fr1 lo1 mc1 ms1 : Nat} {As : List Value} {P : Int64 → zMem → Prop} (d : decode cc pc = .ok (.invokevirtual index, 3)) (hM : zS l0 y ws1 fr1 lo1 mc1 ms1 (.ref o :: As) M (zpj P) zno) (hT9 : GoodIn Ts (wsV own index C y ws1)) (hw : ws1 = Cond.code y bytes maxL ret1 :: ws1')
    {n1 : Nat} (hn1 : As.length = n1) (hd : y.cls = C ∧ y.cls ≠ "java/lang/invoke/MethodHandle" ∧ y.cls ≠ "java/lang/invoke/VarHandle" ∧ (parseMethodDescriptor y.desc).map (fun d => d.parameters.length) = some n1) (hR9 : fr1 + 1 ≤ fr ∧ 8 + (maxL + 11) + lo1 ≤ lo) (hc : zc M o = ci + 1) (hq : vwCl[ci]? = some (C, T, N)) (hst : st = As.reverse ++ .ref o :: rest) (hcat : (rest.map fun v => v.category).sum ≤ 8) (hk9 : k + mc1 ≤ mc ∧ n + ms1 ≤ ms) 
    (kk : ∀ (r : Int64) (M1 : zMem), P r M1 → zE g nL (pc + 3) ls (.long r :: rest) M1 (k + mc1) (n + ms1)) : zE g nL pc ls st M k n := by
  subst hst
  subst hn1
  obtain ⟨p, l, e, R, s, m, args, below, meth, c, D, ad0, M0, Q⟩ := g
  obtain ⟨h0, hx, hb, hml, hrt, hown, hnm, hts, hR, hM0, hQ, hlk, htab, hks⟩ := X
  intro ad H locs lss hr hz hS hl hL hT
  subst h0; subst hR; subst hM0
  have ho : zc M o ≠ 0 := by rw [hc]; exact Nat.succ_ne_zero _
  obtain ⟨cell, q1, q2, q3, -⟩ := (hr.2.2.1 o ho).1 ci _ hc hq
  have hav : zls M (.ref o :: As) := zls_c (zlv_ref ho) (fun w hw => hT w (List.mem_append_left _ (List.mem_reverse.mpr hw)))
  have hrs : zls M rest := fun w hw => hT w (List.mem_append_right _ (List.mem_cons_of_mem _ hw))
  have hks' : zKS D ad M (zA ad M H.size) s H := ⟨hks.1, hks.2.1.on hz hS, hks.2.2⟩
  refine z_ofRunN hr hz hS hl hL hrs (hrun := vx_runV (b := ad o) (As := As.map (zph ad)) (rest := rest.map (zph ad)) (H := H) (locs := locs) (cells := k) (slots := n) ⟨hx, hb, hml, hown, hts⟩ (hM D ad H.size) (cwV As.length hts hT9 hw rfl rfl hd hR9) ⟨zPc.blind, ⟨cell, q1, by rw [q3]; rfl, by rw [q2]; exact (hks.1.1.1 ci _ hq).2.1⟩, fun U hU hW => ⟨rfl, by rw [hU], by rw [hU]; exact hr, hav, by rw [hU]; exact hks'.warm hW⟩⟩ rfl (by rw [List.length_map]) hl.1 (by simp [zph]) (lv_room (by rw [zcats]; exact hcat)) d hk9) ?_
  rintro v M1 ⟨r, rfl, hP⟩
  exact kk r M1 hP
theorem z_callVfN (X : zCx g l0 cc nL ret own nm Ts fr lo mc ms M00 post xp tab) {C : String} {o ci N : Nat} {T : u_T} {index : Nat} {y : MethodName} {bytes : ByteArray} {maxL : Nat} {ret1 : Option FieldType} {ws1 ws1' : List Cond} {fr1 lo1 mc1 ms1 : Nat} {As : List Value} {P : UInt32 → zMem → Prop} (d : decode cc pc = .ok (.invokevirtual index, 3)) (hM : zS l0 y ws1 fr1 lo1 mc1 ms1 (.ref o :: As) M (zpf P) zno) (hT9 : GoodIn Ts (wsV own index C y ws1)) (hw : ws1 = Cond.code y bytes maxL ret1 :: ws1')
    {n1 : Nat} (hn1 : As.length = n1) (hd : y.cls = C ∧ y.cls ≠ "java/lang/invoke/MethodHandle" ∧ y.cls ≠ "java/lang/invoke/VarHandle" ∧ (parseMethodDescriptor y.desc).map (fun d => d.parameters.length) = some n1) (hR9 : fr1 + 1 ≤ fr ∧ 8 + (maxL + 11) + lo1 ≤ lo) (hc : zc M o = ci + 1) (hq : vwCl[ci]? = some (C, T, N)) (hst : st = As.reverse ++ .ref o :: rest) (hcat : (rest.map fun v => v.category).sum ≤ 8) (hk9 : k + mc1 ≤ mc ∧ n + ms1 ≤ ms) 
    (kk : ∀ (r : UInt32) (M1 : zMem), P r M1 → zE g nL (pc + 3) ls (.float r :: rest) M1 (k + mc1) (n + ms1)) : zE g nL pc ls st M k n := by
  subst hst
  subst hn1
  obtain ⟨p, l, e, R, s, m, args, below, meth, c, D, ad0, M0, Q⟩ := g
  obtain ⟨h0, hx, hb, hml, hrt, hown, hnm, hts, hR, hM0, hQ, hlk, htab, hks⟩ := X
  intro ad H locs lss hr hz hS hl hL hT
  subst h0; subst hR; subst hM0
  have ho : zc M o ≠ 0 := by rw [hc]; exact Nat.succ_ne_zero _
  obtain ⟨cell, q1, q2, q3, -⟩ := (hr.2.2.1 o ho).1 ci _ hc hq
  have hav : zls M (.ref o :: As) := zls_c (zlv_ref ho) (fun w hw => hT w (List.mem_append_left _ (List.mem_reverse.mpr hw)))
  have hrs : zls M rest := fun w hw => hT w (List.mem_append_right _ (List.mem_cons_of_mem _ hw))
  have hks' : zKS D ad M (zA ad M H.size) s H := ⟨hks.1, hks.2.1.on hz hS, hks.2.2⟩
  refine z_ofRunN hr hz hS hl hL hrs (hrun := vx_runV (b := ad o) (As := As.map (zph ad)) (rest := rest.map (zph ad)) (H := H) (locs := locs) (cells := k) (slots := n) ⟨hx, hb, hml, hown, hts⟩ (hM D ad H.size) (cwV As.length hts hT9 hw rfl rfl hd hR9) ⟨zPc.blind, ⟨cell, q1, by rw [q3]; rfl, by rw [q2]; exact (hks.1.1.1 ci _ hq).2.1⟩, fun U hU hW => ⟨rfl, by rw [hU], by rw [hU]; exact hr, hav, by rw [hU]; exact hks'.warm hW⟩⟩ rfl (by rw [List.length_map]) hl.1 (by simp [zph]) (lv_room (by rw [zcats]; exact hcat)) d hk9) ?_
  rintro v M1 ⟨r, rfl, hP⟩
  exact kk r M1 hP
theorem z_callVdN (X : zCx g l0 cc nL ret own nm Ts fr lo mc ms M00 post xp tab) {C : String} {o ci N : Nat} {T : u_T} {index : Nat} {y : MethodName} {bytes : ByteArray} {maxL : Nat} {ret1 : Option FieldType} {ws1 ws1' : List Cond} {fr1 lo1 mc1 ms1 : Nat} {As : List Value} {P : UInt64 → zMem → Prop} (d : decode cc pc = .ok (.invokevirtual index, 3)) (hM : zS l0 y ws1 fr1 lo1 mc1 ms1 (.ref o :: As) M (zpd P) zno) (hT9 : GoodIn Ts (wsV own index C y ws1)) (hw : ws1 = Cond.code y bytes maxL ret1 :: ws1')
    {n1 : Nat} (hn1 : As.length = n1) (hd : y.cls = C ∧ y.cls ≠ "java/lang/invoke/MethodHandle" ∧ y.cls ≠ "java/lang/invoke/VarHandle" ∧ (parseMethodDescriptor y.desc).map (fun d => d.parameters.length) = some n1) (hR9 : fr1 + 1 ≤ fr ∧ 8 + (maxL + 11) + lo1 ≤ lo) (hc : zc M o = ci + 1) (hq : vwCl[ci]? = some (C, T, N)) (hst : st = As.reverse ++ .ref o :: rest) (hcat : (rest.map fun v => v.category).sum ≤ 8) (hk9 : k + mc1 ≤ mc ∧ n + ms1 ≤ ms) 
    (kk : ∀ (r : UInt64) (M1 : zMem), P r M1 → zE g nL (pc + 3) ls (.double r :: rest) M1 (k + mc1) (n + ms1)) : zE g nL pc ls st M k n := by
  subst hst
  subst hn1
  obtain ⟨p, l, e, R, s, m, args, below, meth, c, D, ad0, M0, Q⟩ := g
  obtain ⟨h0, hx, hb, hml, hrt, hown, hnm, hts, hR, hM0, hQ, hlk, htab, hks⟩ := X
  intro ad H locs lss hr hz hS hl hL hT
  subst h0; subst hR; subst hM0
  have ho : zc M o ≠ 0 := by rw [hc]; exact Nat.succ_ne_zero _
  obtain ⟨cell, q1, q2, q3, -⟩ := (hr.2.2.1 o ho).1 ci _ hc hq
  have hav : zls M (.ref o :: As) := zls_c (zlv_ref ho) (fun w hw => hT w (List.mem_append_left _ (List.mem_reverse.mpr hw)))
  have hrs : zls M rest := fun w hw => hT w (List.mem_append_right _ (List.mem_cons_of_mem _ hw))
  have hks' : zKS D ad M (zA ad M H.size) s H := ⟨hks.1, hks.2.1.on hz hS, hks.2.2⟩
  refine z_ofRunN hr hz hS hl hL hrs (hrun := vx_runV (b := ad o) (As := As.map (zph ad)) (rest := rest.map (zph ad)) (H := H) (locs := locs) (cells := k) (slots := n) ⟨hx, hb, hml, hown, hts⟩ (hM D ad H.size) (cwV As.length hts hT9 hw rfl rfl hd hR9) ⟨zPc.blind, ⟨cell, q1, by rw [q3]; rfl, by rw [q2]; exact (hks.1.1.1 ci _ hq).2.1⟩, fun U hU hW => ⟨rfl, by rw [hU], by rw [hU]; exact hr, hav, by rw [hU]; exact hks'.warm hW⟩⟩ rfl (by rw [List.length_map]) hl.1 (by simp [zph]) (lv_room (by rw [zcats]; exact hcat)) d hk9) ?_
  rintro v M1 ⟨r, rfl, hP⟩
  exact kk r M1 hP
theorem z_callIvM (X : zCx g l0 cc nL ret own nm Ts fr lo mc ms M00 post xp tab) {o : Nat} {index : Nat} {y : MethodName} {bytes : ByteArray} {maxL : Nat} {ws1 ws1' : List Cond} {fr1 lo1 mc1 ms1 : Nat} {As : List Value} {P : zMem → Prop} (d : decode cc pc = .ok (.invokespecial index, 3)) (hM : zS l0 y ws1 fr1 lo1 mc1 ms1 (.ref o :: As) M (zpv P) zno) (hT9 : GoodIn Ts (ws1)) (hw : ws1 = Cond.code y bytes maxL none :: ws1') (hini : Cond.initialized y.cls ∈ Ts) (hlink : Cond.methodLink own index y ∈ Ts) (hins : Cond.instanceMethod y ∈ Ts) (hy1 : y.name = "<init>")
    {n1 : Nat} (hn1 : As.length = n1) (hd : y.cls ≠ "java/lang/invoke/MethodHandle" ∧ y.cls ≠ "java/lang/invoke/VarHandle" ∧ (parseMethodDescriptor y.desc).map (fun d => d.parameters.length) = some n1) (hR9 : fr1 + 1 ≤ fr ∧ 8 + (maxL + 11) + lo1 ≤ lo) (hst : st = As.reverse ++ .ref o :: rest) (hcat : (rest.map fun v => v.category).sum ≤ 8) (hk9 : k + mc1 ≤ mc ∧ n + ms1 ≤ ms) 
    (kk : ∀ (M1 : zMem), P M1 → zE g nL (pc + 3) ls rest M1 (k + mc1) (n + ms1)) : zE g nL pc ls st M k n := by
  subst hst
  subst hn1
  obtain ⟨p, l, e, R, s, m, args, below, meth, c, D, ad0, M0, Q⟩ := g
  obtain ⟨h0, hx, hb, hml, hrt, hown, hnm, hts, hR, hM0, hQ, hlk, htab, hks⟩ := X
  intro ad H locs lss hr hz hS hl hL hT
  subst h0; subst hR; subst hM0
  have hav : zls M (.ref o :: As) := zls_c (hT _ (List.mem_append_right _ List.mem_cons_self)) (fun w hw => hT w (List.mem_append_left _ (List.mem_reverse.mpr hw)))
  have hrs : zls M rest := fun w hw => hT w (List.mem_append_right _ (List.mem_cons_of_mem _ hw))
  have hks' : zKS D ad M (zA ad M H.size) s H := ⟨hks.1, hks.2.1.on hz hS, hks.2.2⟩
  refine z_ofRunN hr hz hS hl hL hrs (hrun := vx_runI (b := ad o) (As := As.map (zph ad)) (rest := rest.map (zph ad)) (H := H) (locs := locs) (cells := k) (slots := n) ⟨hx, hb, hml, hown, hts⟩ (hM D ad H.size) (cwI As.length hts hT9 hw rfl rfl (hts _ hini) (hts _ hlink) (hts _ hins) hy1 hd hR9) ⟨zPc.blind, fun U hU hW => ⟨rfl, by rw [hU], by rw [hU]; exact hr, hav, by rw [hU]; exact hks'.warm hW⟩⟩ rfl (by rw [List.length_map]) hl.1 (by simp [zph]) (lv_room (by rw [zcats]; exact hcat)) d hk9) ?_
  rintro v M1 ⟨rfl, hP⟩
  exact kk M1 hP
theorem z_callSWiN (X : zCx g l0 cc nL ret own nm Ts fr lo mc ms M00 post xp tab) {index : Nat} {y : MethodName} {bytes : ByteArray} {maxL : Nat} {ret1 : Option FieldType} {ws1 ws1' : List Cond} {hh : List (Nat × Nat × Nat × Nat)} {fr1 lo1 mc1 ms1 : Nat} {As : List Value} {P : Int32 → zMem → Prop} (d : decode cc pc = .ok (.invokestatic index, 3)) (hM : zS l0 y ws1 fr1 lo1 mc1 ms1 As M (zpi P) zno) (hT9 : GoodIn Ts (va_wsS own index y ws1)) (hw : ws1 = Cond.codeWith y bytes maxL ret1 hh :: ws1')
    {n1 : Nat} (hn1 : As.length = n1) (hd : y.cls ≠ "java/lang/invoke/MethodHandle" ∧ y.cls ≠ "java/lang/invoke/VarHandle" ∧ (parseMethodDescriptor y.desc).map (fun d => d.parameters.length) = some n1) (hR9 : fr1 + 1 ≤ fr ∧ 8 + (maxL + 11) + lo1 ≤ lo) (hst : st = As.reverse ++ rest) (hcat : (rest.map fun v => v.category).sum ≤ 8) (hk9 : k + mc1 ≤ mc ∧ n + ms1 ≤ ms) 
    (kk : ∀ (r : Int32) (M1 : zMem), P r M1 → zE g nL (pc + 3) ls (.int r :: rest) M1 (k + mc1) (n + ms1)) : zE g nL pc ls st M k n := by
  subst hst
  subst hn1
  obtain ⟨p, l, e, R, s, m, args, below, meth, c, D, ad0, M0, Q⟩ := g
  obtain ⟨h0, hx, hb, hml, hrt, hown, hnm, hts, hR, hM0, hQ, hlk, htab, hks⟩ := X
  intro ad H locs lss hr hz hS hl hL hT
  subst h0; subst hR; subst hM0
  have hav : zls M As := fun w hw => hT w (List.mem_append_left _ (List.mem_reverse.mpr hw))
  have hrs : zls M rest := fun w hw => hT w (List.mem_append_right _ hw)
  have hks' : zKS D ad M (zA ad M H.size) s H := ⟨hks.1, hks.2.1.on hz hS, hks.2.2⟩
  refine z_ofRunN hr hz hS hl hL hrs (hrun := vx_runSX (As := As.map (zph ad)) (rest := rest.map (zph ad)) (H := H) (locs := locs) (cells := k) (slots := n) ⟨hx, hb, hml, hown, hts⟩ (hM D ad H.size) (vx_cwSW As.length hts hT9 hw rfl rfl hd hR9) ⟨zPc.blind, fun U hU hW => ⟨rfl, by rw [hU], by rw [hU]; exact hr, hav, by rw [hU]; exact hks'.warm hW⟩⟩ rfl (by rw [List.length_map]) hl.1 (by simp) (lv_room (by rw [zcats]; exact hcat)) d hk9) ?_
  rintro v M1 ⟨r, rfl, hP⟩
  exact kk r M1 hP
theorem z_newN (X : zCx g l0 cc nL ret own nm Ts fr lo mc ms M00 post xp tab) {ci index N : Nat} {C : String} {T : u_T} (o : Nat) (d : decode cc pc = .ok (.new index, 3)) (hq : vwCl[ci]? = some (C, T, N)) (hcl : Cond.classLink own index C ∈ Ts) (hinst : Cond.instantiable C N ∈ Ts) (hini : Cond.initialized C ∈ Ts) (ho : zc M o = 0) (ho31 : o ≠ zE0) (ho63 : o ≠ zMi) (hk9 : k + 1 ≤ mc ∧ n + N ≤ ms)
    (kk : zE g nL (pc + 3) ls (.ref o :: rest) (znew M o (ci + 1) 0) (k + 1) (n + N)) : zE g nL pc ls rest M k n := by
  obtain ⟨p, l, e, R, s, m, args, below, meth, c, D, ad0, M0, Q⟩ := g
  obtain ⟨h0, hx, hb, hml, hrt, hown, hnm, hts, hR, hM0, hQ, hlk, htab, hks⟩ := X
  intro ad H locs lss hr hz hS hl hL hT
  subst hR
  have hKn := hks.1.1.1 ci _ hq
  have hlay := hks.1.2 ci _ hq
  obtain ⟨hty, -⟩ := zokC_all ci _ hq
  have hci : ci < 11 := (List.getElem?_eq_some_iff.mp hq).1
  refine W.newcK hx hb hown (hts _ hcl) (hts _ hinst) (hts _ hini) rfl d hk9.1 hk9.2 hKn.2.1 rfl fun H1 kC hkC e1 z1 o1 => ?_
  have hb9 := u_born (zct ci) hlay (fun _ h => h) hKn hkC e1 hty
  have he : ∀ a, zc M a ≠ 0 → (fun a => if a = o then H.size else ad a) a = ad a := fun a ha => if_neg (fun e => ha (by rw [e]; exact ho))
  have hr9 : zrel D (fun a => if a = o then H.size else ad a) (znew M o (ci + 1) 0) H1 := zrel_new hr ho (Nat.succ_ne_zero _) z1 o1 ⟨fun ci' q' hc' hq' => (by
    have hcc : ci = ci' := by
      have h9 : zc (znew M o (ci + 1) 0) o = ci + 1 := if_pos rfl
      rw [h9] at hc'
      exact Nat.succ.inj hc'
    subst hcc
    rw [hq] at hq'
    cases hq'
    show t_OB (if o = o then H.size else ad o) _ _ _ _ _
    rw [if_pos rfl]
    exact hb9.to (fun j _ => (zmv_new _ _).symm)), fun t ht h6 => (by
    have h9 : zc (znew M o (ci + 1) 0) o = ci + 1 := if_pos rfl
    rw [h9] at ht
    omega)⟩
  have k9 := kk _ H1 locs lss hr9 (zx_new hz ho (Nat.succ_ne_zero _) hS.1 ho31 ho63) ⟨Nat.le_trans hS.1 (by omega), fun x h1 h2 => (o1 x (Nat.lt_of_lt_of_le h1 hS.1)).trans (hS.2.1 x h1 h2), hS.2.2⟩ (by rw [zll_congr he hL]; exact hl) (zll_mono (fun a ha => zc_new ha ho) hL) (zls_c (zlv_ref (by show zc (znew M o (ci + 1) 0) o ≠ 0; rw [show zc (znew M o (ci + 1) 0) o = ci + 1 from if_pos rfl]; exact Nat.succ_ne_zero _)) (zls_mono (fun a ha => zc_new ha ho) hT))
  have e9 : (Value.ref o :: rest).map (zph (fun a => if a = o then H.size else ad a)) = .ref H.size :: rest.map (zph ad) := by
    rw [List.map_cons, zst_congr he hT]
    show Value.ref (if o = o then H.size else ad o) :: _ = _
    rw [if_pos rfl]
  rw [e9] at k9
  exact k9
end ZL6
/-! contracts in the two memories -/
theorem rnm_id (av : List Value) : av.map (rnm id) = av := by
  induction av with
  | nil => rfl
  | cons v av ih =>
    rw [List.map_cons, ih]
    cases v <;> rfl
def zavC : List Value → Bool
  | [] => true
  | .ref o :: av => decide (o % 32 ≠ 16 ∧ o ≠ 17) && zavC av
  | _ :: av => zavC av
theorem zavC_h : ∀ {av : List Value}, zavC av = true → ∀ v ∈ av, ∀ o, v = .ref o → o % 32 ≠ 16 ∧ o ≠ 17
  | [], _, _, hv, _, _ => nomatch hv
  | u :: av, h, v, hv, o, e => by
    rcases List.mem_cons.mp hv with e1 | e1
    · subst e1
      subst e
      have h9 : (decide (o % 32 ≠ 16 ∧ o ≠ 17) && zavC av) = true := h
      exact of_decide_eq_true ((Bool.and_eq_true _ _ ▸ h9 : _ ∧ _).1)
    · have h9 : zavC av = true := by
        cases u with
        | ref q =>
          have h8 : (decide (q % 32 ≠ 16 ∧ q ≠ 17) && zavC av) = true := h
          exact (Bool.and_eq_true _ _ ▸ h8 : _ ∧ _).2
        | _ => exact h
      exact zavC_h h9 v e1 o e
section ZTM
variable {l : Launch} {y : MethodName} {ws : List Cond} {fr lo mc ms : Nat} {av av' : List Value} {C M : zMem}
theorem zC_i {P : Int32 → zMem → Prop} (h : zS l y ws fr lo mc ms av C (zpi P) zno) (hC : zCok C) (hp : ∀ v C', P v C' → zCok C') (hav : zavC av = true) : zS l y ws fr lo mc ms av (zmg C M) (zpi (fun v G => ∃ C', P v C' ∧ G = zmg C' M)) zno := by
  have h9 := zS_C (M := M) h hC (fun v C' hv => by obtain ⟨r, -, hr⟩ := hv; exact hp r C' hr) (zavC_h hav)
  rw [rnm_id] at h9
  refine zS_imp h9 ?_
  rintro v G ⟨v0, C', ⟨r, rfl, hr⟩, rfl, rfl⟩
  exact ⟨r, rfl, C', hr, rfl⟩
theorem zC_l {P : Int64 → zMem → Prop} (h : zS l y ws fr lo mc ms av C (zpj P) zno) (hC : zCok C) (hp : ∀ v C', P v C' → zCok C') (hav : zavC av = true) : zS l y ws fr lo mc ms av (zmg C M) (zpj (fun v G => ∃ C', P v C' ∧ G = zmg C' M)) zno := by
  have h9 := zS_C (M := M) h hC (fun v C' hv => by obtain ⟨r, -, hr⟩ := hv; exact hp r C' hr) (zavC_h hav)
  rw [rnm_id] at h9
  refine zS_imp h9 ?_
  rintro v G ⟨v0, C', ⟨r, rfl, hr⟩, rfl, rfl⟩
  exact ⟨r, rfl, C', hr, rfl⟩
theorem zC_v {P : zMem → Prop} (h : zS l y ws fr lo mc ms av C (zpv P) zno) (hC : zCok C) (hp : ∀ C', P C' → zCok C') (hav : zavC av = true) : zS l y ws fr lo mc ms av (zmg C M) (zpv (fun G => ∃ C', P C' ∧ G = zmg C' M)) zno := by
  have h9 := zS_C (M := M) h hC (fun v C' hv => hp C' hv.2) (zavC_h hav)
  rw [rnm_id] at h9
  refine zS_imp h9 ?_
  rintro v G ⟨v0, C', ⟨rfl, hr⟩, rfl, rfl⟩
  exact ⟨rfl, C', hr, rfl⟩
theorem zM_v {P : zMem → Prop} (h : zS l y ws fr lo mc ms av M (zpv P) zno) (hC : zCok C) (k31 : zc M zE0 ≠ 26) (k63 : zc M zMi ≠ 19) (hav : av.map (rnm (fun o => 32 * o + 16)) = av') : zS l y ws fr lo mc ms av' (zmg C M) (zpv (fun G => ∃ M', P M' ∧ G = zmg C M')) zno := by
  subst hav
  refine zS_imp (zS_M h hC k31 k63) ?_
  rintro v G ⟨v0, M', ⟨rfl, hr⟩, rfl, rfl⟩
  exact ⟨rfl, M', hr, rfl⟩
end ZTM
section ZTM2
variable {l : Launch} {y : MethodName} {ws : List Cond} {fr lo mc ms : Nat} {av av' : List Value} {C : zMem} {i F : Nat → Nat → Int32} {lm L : Nat → Nat → Int64}
theorem zmm_31 : zc (zmm i lm) zE0 ≠ 26 := by show ¬ zmC 31 = 26; decide +kernel
theorem zmm_63 : zc (zmm i lm) zMi ≠ 19 := by show ¬ zmC 63 = 19; decide +kernel
theorem zM_i {V : Int32} (h : zS l y ws fr lo mc ms av (zmm i lm) (zpi (fun r M1 => r = V ∧ M1 = zmm F L)) zno) (hC : zCok C) (hav : av.map (rnm (fun o => 32 * o + 16)) = av') : zS l y ws fr lo mc ms av' (zmg C (zmm i lm)) (zpi (fun r G => r = V ∧ G = zmg C (zmm F L))) zno := by
  subst hav
  refine zS_imp (zS_M h hC zmm_31 zmm_63) ?_
  rintro v G ⟨v0, M', ⟨r, rfl, rfl, rfl⟩, rfl, rfl⟩
  exact ⟨_, rfl, rfl, rfl⟩
theorem zM_l {V : Int64} (h : zS l y ws fr lo mc ms av (zmm i lm) (zpj (fun r M1 => r = V ∧ M1 = zmm F L)) zno) (hC : zCok C) (hav : av.map (rnm (fun o => 32 * o + 16)) = av') : zS l y ws fr lo mc ms av' (zmg C (zmm i lm)) (zpj (fun r G => r = V ∧ G = zmg C (zmm F L))) zno := by
  subst hav
  refine zS_imp (zS_M h hC zmm_31 zmm_63) ?_
  rintro v G ⟨v0, M', ⟨r, rfl, rfl, rfl⟩, rfl, rfl⟩
  exact ⟨_, rfl, rfl, rfl⟩
theorem zM_d {V : UInt64} (h : zS l y ws fr lo mc ms av (zmm i lm) (zpd (fun r M1 => r = V ∧ M1 = zmm F L)) zno) (hC : zCok C) (hav : av.map (rnm (fun o => 32 * o + 16)) = av') : zS l y ws fr lo mc ms av' (zmg C (zmm i lm)) (zpd (fun r G => r = V ∧ G = zmg C (zmm F L))) zno := by
  subst hav
  refine zS_imp (zS_M h hC zmm_31 zmm_63) ?_
  rintro v G ⟨v0, M', ⟨r, rfl, rfl, rfl⟩, rfl, rfl⟩
  exact ⟨_, rfl, rfl, rfl⟩
theorem zM_f {V : UInt32} (h : zS l y ws fr lo mc ms av (zmm i lm) (zpf (fun r M1 => r = V ∧ M1 = zmm F L)) zno) (hC : zCok C) (hav : av.map (rnm (fun o => 32 * o + 16)) = av') : zS l y ws fr lo mc ms av' (zmg C (zmm i lm)) (zpf (fun r G => r = V ∧ G = zmg C (zmm F L))) zno := by
  subst hav
  refine zS_imp (zS_M h hC zmm_31 zmm_63) ?_
  rintro v G ⟨v0, M', ⟨r, rfl, rfl, rfl⟩, rfl, rfl⟩
  exact ⟨_, rfl, rfl, rfl⟩
end ZTM2
