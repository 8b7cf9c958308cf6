/-! PART 39: a few more rows -/
section ZR3
variable {g : zCtx} {l0 : Launch} {cc : ByteArray} {nL : Nat} {ret : Option FieldType} {own nm : String} {Ts : List Cond} {fr lo mc ms : Nat} {M00 : zMem} {post : Option Value → zMem → Prop} {xp : String → Prop} {tab : List ExceptionTableEntry}
variable {pc : Nat} {ls ls' : List (Nat × Value)} {st rest : List Value} {M : zMem} {k n : Nat}
theorem zW_ishr {p : Program} {l : Launch} {e : Env} {R : Room} {s : State} {m : MethodId} {args : Array Value} {below : List Frame} {meth : Method} {c : Code} {H : Heap} {locs : List Loc} {cells slots : Nat} {Q : State → Prop} {cc : ByteArray} (hexec : p.tables.exec = Jvm.exec) (hb : c.code = cc) {x y : Int32} {pc : Nat} {ls : Array Slot} {rest : List Value} (hdg : decode cc pc = .ok (.ishr, 1))
    (k : W p l e R s m args below meth c H locs cells slots Q (F0 m (pc + 1) ls (.int (x >>> (y &&& 31)) :: rest))) : W p l e R s m args below meth c H locs cells slots Q (F0 m pc ls (.int y :: .int x :: rest)) := by
  intro T hT X
  obtain ⟨t, a, b⟩ := k T hT X
  refine ⟨t, ?_, b⟩
  jvm_step X.here [X.here.top, hexec, hb, hdg]
  exact a
theorem z_ishr (X : zCx g l0 cc nL ret own nm Ts fr lo mc ms M00 post xp tab) {x y : Int32} (d : decode cc pc = .ok (.ishr, 1))
    (kk : zE g nL (pc + 1) ls (.int (x >>> (y &&& 31)) :: rest) M k n) : zE g nL pc ls (.int y :: .int x :: rest) M k n := by
  obtain ⟨p, l, e, R, s, m, args, below, meth, c, D, ad0, M0, Q⟩ := g
  obtain ⟨h0, hx, hb, hml, hrt, hown, hnm, hts, hR, hM0, hQ, hlk, htab, hks⟩ := X
  intro ad H locs lss hr hz hS hl hL hT
  exact zW_ishr hx hb d (kk ad H locs lss hr hz hS hl hL (zls_c zlv_int (zls_t (zls_t hT))))
theorem z_lcmp (X : zCx g l0 cc nL ret own nm Ts fr lo mc ms M00 post xp tab) {x y : Int64} (d : decode cc pc = .ok (.lcmp, 1))
    (kk : zE g nL (pc + 1) ls (.int (lg_cmp x y) :: rest) M k n) : zE g nL pc ls (.long y :: .long x :: rest) M k n := by
  obtain ⟨p, l, e, R, s, m, args, below, meth, c, D, ad0, M0, Q⟩ := g
  obtain ⟨h0, hx, hb, hml, hrt, hown, hnm, hts, hR, hM0, hQ, hlk, htab, hks⟩ := X
  intro ad H locs lss hr hz hS hl hL hT
  exact W.lcmp hx hb d (kk ad H locs lss hr hz hS hl hL (zls_c zlv_int (zls_t (zls_t hT))))
theorem z_ldcI (X : zCx g l0 cc nL ret own nm Ts fr lo mc ms M00 post xp tab) {index : Nat} {v : Int32} (d : decode cc pc = .ok (.ldc index, 2)) (hcst : Cond.constant own index v ∈ Ts)
    (kk : zE g nL (pc + 2) ls (.int v :: st) M k n) : zE g nL pc ls st M k n := by
  obtain ⟨p, l, e, R, s, m, args, below, meth, c, D, ad0, M0, Q⟩ := g
  obtain ⟨h0, hx, hb, hml, hrt, hown, hnm, hts, hR, hM0, hQ, hlk, htab, hks⟩ := X
  intro ad H locs lss hr hz hS hl hL hT
  exact W.ldc hx hb hown (hts _ hcst) rfl d (kk ad H locs lss hr hz hS hl hL (zls_c zlv_int hT))
end ZR3
