/-! PART 96c: constants, compares, longs -/
section ZLD
variable {g : zCtx} {l0 : Launch} {cc : ByteArray} {nL : Nat} {ret : Option FieldType} {own nm : String} {Ts : List Cond} {fr lo mc ms : Nat} {M00 : zMem} {post : Option Value → zMem → Prop} {xp : String → Prop} {tab : List ExceptionTableEntry}
variable {pc : Nat} {ls ls' : List (Nat × Value)} {st rest : List Value} {M : zMem} {k n : Nat}
theorem z_ldcF (X : zCx g l0 cc nL ret own nm Ts fr lo mc ms M00 post xp tab) {index : Nat} {v : UInt32} (d : decode cc pc = .ok (.ldc index, 2)) (hcst : Cond.constantFloat own index v ∈ Ts)
    (kk : zE g nL (pc + 2) ls (.float v :: st) M k n) : zE g nL pc ls st M k n := by
  obtain ⟨p, l, e, R, s, m, args, below, meth, c, D, ad0, M0, Q⟩ := g
  obtain ⟨h0, hx, hb, hml, hrt, hown, hnm, hts, hR, hM0, hQ, hlk, htab, hks⟩ := X
  intro ad H locs lss hr hz hS hl hL hT
  exact lv_ldcf hx hb hown (hts _ hcst) d (kk ad H locs lss hr hz hS hl hL (zls_c zlv_float hT))
theorem z_ldcD (X : zCx g l0 cc nL ret own nm Ts fr lo mc ms M00 post xp tab) {index : Nat} {v : UInt64} (d : decode cc pc = .ok (.ldc2_w index, 3)) (hcst : Cond.constantDouble own index v ∈ Ts)
    (kk : zE g nL (pc + 3) ls (.double v :: st) M k n) : zE g nL pc ls st M k n := by
  obtain ⟨p, l, e, R, s, m, args, below, meth, c, D, ad0, M0, Q⟩ := g
  obtain ⟨h0, hx, hb, hml, hrt, hown, hnm, hts, hR, hM0, hQ, hlk, htab, hks⟩ := X
  intro ad H locs lss hr hz hS hl hL hT
  exact lv_ldc2d hx hb hown (hts _ hcst) d (kk ad H locs lss hr hz hS hl hL (zls_c zlv_double hT))
theorem z_ldcJ (X : zCx g l0 cc nL ret own nm Ts fr lo mc ms M00 post xp tab) {index : Nat} {v : Int64} (d : decode cc pc = .ok (.ldc2_w index, 3)) (hcst : Cond.constantLong own index v ∈ Ts)
    (kk : zE g nL (pc + 3) ls (.long v :: st) M k n) : zE g nL pc ls st M k n := by
  obtain ⟨p, l, e, R, s, m, args, below, meth, c, D, ad0, M0, Q⟩ := g
  obtain ⟨h0, hx, hb, hml, hrt, hown, hnm, hts, hR, hM0, hQ, hlk, htab, hks⟩ := X
  intro ad H locs lss hr hz hS hl hL hT
  exact lv_ldc2 hx hb hown (hts _ hcst) d (kk ad H locs lss hr hz hS hl hL (zls_c zlv_long hT))
theorem z_fconst1 (X : zCx g l0 cc nL ret own nm Ts fr lo mc ms M00 post xp tab) (d : decode cc pc = .ok (.fconst 1, 1))
    (kk : zE g nL (pc + 1) ls (.float FP.fconst1 :: st) M k n) : zE g nL pc ls st M k n := by
  obtain ⟨p, l, e, R, s, m, args, below, meth, c, D, ad0, M0, Q⟩ := g
  obtain ⟨h0, hx, hb, hml, hrt, hown, hnm, hts, hR, hM0, hQ, hlk, htab, hks⟩ := X
  intro ad H locs lss hr hz hS hl hL hT
  exact lv_fconst1 hx hb d (kk ad H locs lss hr hz hS hl hL (zls_c zlv_float hT))
theorem z_fcmp (X : zCx g l0 cc nL ret own nm Ts fr lo mc ms M00 post xp tab) {x y : UInt32} {op : CmpOp} (d : decode cc pc = .ok (.fcmp op, 1))
    (kk : zE g nL (pc + 1) ls (.int (Op.cmpValue (FP.fcmp x y) op) :: rest) M k n) : zE g nL pc ls (.float y :: .float x :: rest) M k n := by
  obtain ⟨p, l, e, R, s, m, args, below, meth, c, D, ad0, M0, Q⟩ := g
  obtain ⟨h0, hx, hb, hml, hrt, hown, hnm, hts, hR, hM0, hQ, hlk, htab, hks⟩ := X
  intro ad H locs lss hr hz hS hl hL hT
  exact lv_fcmp hx hb d (kk ad H locs lss hr hz hS hl hL (zls_c zlv_int (zls_t (zls_t hT))))
theorem z_lload (X : zCx g l0 cc nL ret own nm Ts fr lo mc ms M00 post xp tab) {i : Nat} {x : Int64} (j : Nat) (d : decode cc pc = .ok (.lload i, 2)) (hl9 : ls[j]? = some (i, .long x))
    (kk : zE g nL (pc + 2) ls (.long x :: st) M k n) : zE g nL pc ls st M k n := by
  obtain ⟨p, l, e, R, s, m, args, below, meth, c, D, ad0, M0, Q⟩ := g
  obtain ⟨h0, hx, hb, hml, hrt, hown, hnm, hts, hR, hM0, hQ, hlk, htab, hks⟩ := X
  intro ad H locs lss hr hz hS hl hL hT
  exact lv_lload hx hb d (lv_at hl j (zat_l ad hl9)) (kk ad H locs lss hr hz hS hl hL (zls_c zlv_long hT))
theorem z_lstore (X : zCx g l0 cc nL ret own nm Ts fr lo mc ms M00 post xp tab) {i : Nat} {x : Int64} (d : decode cc pc = .ok (.lstore i, 2)) (hn9 : i + 1 < nL) (hls : (i, .long x) :: zfl2 i ls = ls')
    (kk : zE g nL (pc + 2) ls' rest M k n) : zE g nL pc ls (.long x :: rest) M k n := by
  obtain ⟨p, l, e, R, s, m, args, below, meth, c, D, ad0, M0, Q⟩ := g
  obtain ⟨h0, hx, hb, hml, hrt, hown, hnm, hts, hR, hM0, hQ, hlk, htab, hks⟩ := X
  intro ad H locs lss hr hz hS hl hL hT
  exact lv_lstore hx hb d hl hn9 (lv' := ls'.map (zpl ad)) (by rw [zfl2_map, ← hls]; rfl) (fun lss' hl' => kk ad H locs lss' hr hz hS hl' (zll_st2 hL zlv_long hls) (zls_t hT))
end ZLD
