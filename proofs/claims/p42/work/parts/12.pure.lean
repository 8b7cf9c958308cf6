/-! PART 04: rows of zE that touch no heap (by program) -/
def zfl (i : Nat) (ls : List (Nat × Value)) : List (Nat × Value) := ls.filter (fun q => !(q.1 == i) && !(q.1 + 1 == i && q.2.category == 2))
def zfl2 (i : Nat) (ls : List (Nat × Value)) : List (Nat × Value) := ls.filter (fun q => !(q.1 == i) && (!(q.1 == i + 1) && !(q.1 + 1 == i && q.2.category == 2)))
theorem zfl_map (ad : Nat → Nat) (i : Nat) (ls : List (Nat × Value)) : (ls.map (zpl ad)).filter (fun q => !(q.1 == i) && !(q.1 + 1 == i && q.2.category == 2)) = (zfl i ls).map (zpl ad) := by
  unfold zfl
  rw [List.filter_map]
  congr 1
  congr 1
  funext q
  show (!(q.1 == i) && !(q.1 + 1 == i && (zph ad q.2).category == 2)) = _
  rw [zph_cat]
theorem zfl2_map (ad : Nat → Nat) (i : Nat) (ls : List (Nat × Value)) : (ls.map (zpl ad)).filter (fun q => !(q.1 == i) && (!(q.1 == i + 1) && !(q.1 + 1 == i && q.2.category == 2))) = (zfl2 i ls).map (zpl ad) := by
  unfold zfl2
  rw [List.filter_map]
  congr 1
  congr 1
  funext q
  show (!(q.1 == i) && (!(q.1 == i + 1) && !(q.1 + 1 == i && (zph ad q.2).category == 2))) = _
  rw [zph_cat]
theorem zat_l {ls : List (Nat × Value)} {j i : Nat} {v : Value} (ad : Nat → Nat) (h : ls[j]? = some (i, v)) : (ls.map (zpl ad))[j]? = some (i, zph ad v) := by
  rw [List.getElem?_map, h]
  rfl
theorem zll_st {M : zMem} {ls ls' : List (Nat × Value)} {i : Nat} {v : Value} (hL : zll M ls) (hv : zlv M v) (h : (i, v) :: zfl i ls = ls') : zll M ls' := by
  subst h
  intro q hq
  rcases List.mem_cons.mp hq with e | h
  · rw [e]; exact hv
  · exact hL q (List.mem_filter.mp h).1
theorem zll_st2 {M : zMem} {ls ls' : List (Nat × Value)} {i : Nat} {v : Value} (hL : zll M ls) (hv : zlv M v) (h : (i, v) :: zfl2 i ls = ls') : zll M ls' := by
  subst h
  intro q hq
  rcases List.mem_cons.mp hq with e | h
  · rw [e]; exact hv
  · exact hL q (List.mem_filter.mp h).1
section ZPR
variable {g : zCtx} {l0 : Launch} {cc : ByteArray} {nL : Nat} {ret : Option FieldType} {own nm : String} {Ts : List Cond} {fr lo mc ms : Nat} {M00 : zMem} {post : Option Value → zMem → Prop} {xp : String → Prop} {tab : List ExceptionTableEntry}
variable {pc : Nat} {ls ls' : List (Nat × Value)} {st rest : List Value} {M : zMem} {k n : Nat}
theorem z_iconst (X : zCx g l0 cc nL ret own nm Ts fr lo mc ms M00 post xp tab) {i : Int} {v : Int32} (d : decode cc pc = .ok (.iconst i, 1)) (hv : Int32.ofInt i = v)
    (kk : zE g nL (pc + 1) ls (.int v :: st) M k n) : zE g nL pc ls st M k n := by
  obtain ⟨p, l, e, R, s, m, args, below, meth, c, D, ad0, M0, Q⟩ := g
  obtain ⟨h0, hx, hb, hml, hrt, hown, hnm, hts, hR, hM0, hQ, hlk, htab, hks⟩ := X
  intro ad H locs lss hr hz hS hl hL hT
  exact lv_iconst hx hb d hv (kk ad H locs lss hr hz hS hl hL (zls_c zlv_int hT))
theorem z_bipush (X : zCx g l0 cc nL ret own nm Ts fr lo mc ms M00 post xp tab) {i : Int} {v : Int32} (d : decode cc pc = .ok (.bipush i, 2)) (hv : (Int8.ofInt i).toInt32 = v)
    (kk : zE g nL (pc + 2) ls (.int v :: st) M k n) : zE g nL pc ls st M k n := by
  obtain ⟨p, l, e, R, s, m, args, below, meth, c, D, ad0, M0, Q⟩ := g
  obtain ⟨h0, hx, hb, hml, hrt, hown, hnm, hts, hR, hM0, hQ, hlk, htab, hks⟩ := X
  intro ad H locs lss hr hz hS hl hL hT
  exact lv_bipush hx hb d hv (kk ad H locs lss hr hz hS hl hL (zls_c zlv_int hT))
theorem z_sipush (X : zCx g l0 cc nL ret own nm Ts fr lo mc ms M00 post xp tab) {i : Int} {v : Int32} (d : decode cc pc = .ok (.sipush i, 3)) (hv : (Int16.ofInt i).toInt32 = v)
    (kk : zE g nL (pc + 3) ls (.int v :: st) M k n) : zE g nL pc ls st M k n := by
  obtain ⟨p, l, e, R, s, m, args, below, meth, c, D, ad0, M0, Q⟩ := g
  obtain ⟨h0, hx, hb, hml, hrt, hown, hnm, hts, hR, hM0, hQ, hlk, htab, hks⟩ := X
  intro ad H locs lss hr hz hS hl hL hT
  exact lv_sipush hx hb d hv (kk ad H locs lss hr hz hS hl hL (zls_c zlv_int hT))
theorem z_lconst (X : zCx g l0 cc nL ret own nm Ts fr lo mc ms M00 post xp tab) {i : Fin 2} {v : Int64} (d : decode cc pc = .ok (.lconst i, 1)) (hv : Int64.ofNat (i : Nat) = v)
    (kk : zE g nL (pc + 1) ls (.long v :: st) M k n) : zE g nL pc ls st M k n := by
  obtain ⟨p, l, e, R, s, m, args, below, meth, c, D, ad0, M0, Q⟩ := g
  obtain ⟨h0, hx, hb, hml, hrt, hown, hnm, hts, hR, hM0, hQ, hlk, htab, hks⟩ := X
  intro ad H locs lss hr hz hS hl hL hT
  exact lv_lconst hx hb d hv (kk ad H locs lss hr hz hS hl hL (zls_c zlv_long hT))
theorem z_dconst0 (X : zCx g l0 cc nL ret own nm Ts fr lo mc ms M00 post xp tab) (d : decode cc pc = .ok (.dconst 0, 1))
    (kk : zE g nL (pc + 1) ls (.double FP.dconst0 :: st) M k n) : zE g nL pc ls st M k n := by
  obtain ⟨p, l, e, R, s, m, args, below, meth, c, D, ad0, M0, Q⟩ := g
  obtain ⟨h0, hx, hb, hml, hrt, hown, hnm, hts, hR, hM0, hQ, hlk, htab, hks⟩ := X
  intro ad H locs lss hr hz hS hl hL hT
  exact lv_dconst0 hx hb d (kk ad H locs lss hr hz hS hl hL (zls_c zlv_double hT))
theorem z_fconst0 (X : zCx g l0 cc nL ret own nm Ts fr lo mc ms M00 post xp tab) (d : decode cc pc = .ok (.fconst 0, 1))
    (kk : zE g nL (pc + 1) ls (.float FP.fconst0 :: st) M k n) : zE g nL pc ls st M k n := by
  obtain ⟨p, l, e, R, s, m, args, below, meth, c, D, ad0, M0, Q⟩ := g
  obtain ⟨h0, hx, hb, hml, hrt, hown, hnm, hts, hR, hM0, hQ, hlk, htab, hks⟩ := X
  intro ad H locs lss hr hz hS hl hL hT
  exact lv_fconst0 hx hb d (kk ad H locs lss hr hz hS hl hL (zls_c zlv_float hT))
theorem z_null (X : zCx g l0 cc nL ret own nm Ts fr lo mc ms M00 post xp tab) (d : decode cc pc = .ok (.aconst_null, 1))
    (kk : zE g nL (pc + 1) ls (.null :: st) M k n) : zE g nL pc ls st M k n := by
  obtain ⟨p, l, e, R, s, m, args, below, meth, c, D, ad0, M0, Q⟩ := g
  obtain ⟨h0, hx, hb, hml, hrt, hown, hnm, hts, hR, hM0, hQ, hlk, htab, hks⟩ := X
  intro ad H locs lss hr hz hS hl hL hT
  exact lv_null hx hb d (kk ad H locs lss hr hz hS hl hL (zls_c zlv_null hT))
theorem z_iload_n (X : zCx g l0 cc nL ret own nm Ts fr lo mc ms M00 post xp tab) {i : Nat} {f : Fin 4} {x : Int32} (j : Nat) (d : decode cc pc = .ok (.iload_n f, 1)) (hi : (f : Nat) = i) (hl9 : ls[j]? = some (i, .int x))
    (kk : zE g nL (pc + 1) ls (.int x :: st) M k n) : zE g nL pc ls st M k n := by
  obtain ⟨p, l, e, R, s, m, args, below, meth, c, D, ad0, M0, Q⟩ := g
  obtain ⟨h0, hx, hb, hml, hrt, hown, hnm, hts, hR, hM0, hQ, hlk, htab, hks⟩ := X
  intro ad H locs lss hr hz hS hl hL hT
  exact lv_iload_n hx hb d hi (lv_at hl j (zat_l ad hl9)) (kk ad H locs lss hr hz hS hl hL (zls_c zlv_int hT))
theorem z_iload (X : zCx g l0 cc nL ret own nm Ts fr lo mc ms M00 post xp tab) {i : Nat} {x : Int32} (j : Nat) (d : decode cc pc = .ok (.iload i, 2)) (hl9 : ls[j]? = some (i, .int x))
    (kk : zE g nL (pc + 2) ls (.int x :: st) M k n) : zE g nL pc ls st M k n := by
  obtain ⟨p, l, e, R, s, m, args, below, meth, c, D, ad0, M0, Q⟩ := g
  obtain ⟨h0, hx, hb, hml, hrt, hown, hnm, hts, hR, hM0, hQ, hlk, htab, hks⟩ := X
  intro ad H locs lss hr hz hS hl hL hT
  exact lv_iload hx hb d (lv_at hl j (zat_l ad hl9)) (kk ad H locs lss hr hz hS hl hL (zls_c zlv_int hT))
theorem z_lload_n (X : zCx g l0 cc nL ret own nm Ts fr lo mc ms M00 post xp tab) {i : Nat} {f : Fin 4} {x : Int64} (j : Nat) (d : decode cc pc = .ok (.lload_n f, 1)) (hi : (f : Nat) = i) (hl9 : ls[j]? = some (i, .long x))
    (kk : zE g nL (pc + 1) ls (.long x :: st) M k n) : zE g nL pc ls st M k n := by
  obtain ⟨p, l, e, R, s, m, args, below, meth, c, D, ad0, M0, Q⟩ := g
  obtain ⟨h0, hx, hb, hml, hrt, hown, hnm, hts, hR, hM0, hQ, hlk, htab, hks⟩ := X
  intro ad H locs lss hr hz hS hl hL hT
  exact lv_lload_n hx hb d hi (lv_at hl j (zat_l ad hl9)) (kk ad H locs lss hr hz hS hl hL (zls_c zlv_long hT))
theorem z_aload_n (X : zCx g l0 cc nL ret own nm Ts fr lo mc ms M00 post xp tab) {i : Nat} {f : Fin 4} {x : Nat} (j : Nat) (d : decode cc pc = .ok (.aload_n f, 1)) (hi : (f : Nat) = i) (hl9 : ls[j]? = some (i, .ref x))
    (kk : zE g nL (pc + 1) ls (.ref x :: st) M k n) : zE g nL pc ls st M k n := by
  obtain ⟨p, l, e, R, s, m, args, below, meth, c, D, ad0, M0, Q⟩ := g
  obtain ⟨h0, hx, hb, hml, hrt, hown, hnm, hts, hR, hM0, hQ, hlk, htab, hks⟩ := X
  intro ad H locs lss hr hz hS hl hL hT
  exact lv_aload_n hx hb d hi (lv_at hl j (zat_l ad hl9)) (kk ad H locs lss hr hz hS hl hL (zls_c (hL _ (List.mem_of_getElem? hl9)) hT))
theorem z_aload (X : zCx g l0 cc nL ret own nm Ts fr lo mc ms M00 post xp tab) {i : Nat} {x : Nat} (j : Nat) (d : decode cc pc = .ok (.aload i, 2)) (hl9 : ls[j]? = some (i, .ref x))
    (kk : zE g nL (pc + 2) ls (.ref x :: st) M k n) : zE g nL pc ls st M k n := by
  obtain ⟨p, l, e, R, s, m, args, below, meth, c, D, ad0, M0, Q⟩ := g
  obtain ⟨h0, hx, hb, hml, hrt, hown, hnm, hts, hR, hM0, hQ, hlk, htab, hks⟩ := X
  intro ad H locs lss hr hz hS hl hL hT
  exact lv_aload hx hb d (lv_at hl j (zat_l ad hl9)) (kk ad H locs lss hr hz hS hl hL (zls_c (hL _ (List.mem_of_getElem? hl9)) hT))
theorem z_aload_nN (X : zCx g l0 cc nL ret own nm Ts fr lo mc ms M00 post xp tab) {i : Nat} {f : Fin 4} (j : Nat) (d : decode cc pc = .ok (.aload_n f, 1)) (hi : (f : Nat) = i) (hl9 : ls[j]? = some (i, .null))
    (kk : zE g nL (pc + 1) ls (.null :: st) M k n) : zE g nL pc ls st M k n := by
  obtain ⟨p, l, e, R, s, m, args, below, meth, c, D, ad0, M0, Q⟩ := g
  obtain ⟨h0, hx, hb, hml, hrt, hown, hnm, hts, hR, hM0, hQ, hlk, htab, hks⟩ := X
  intro ad H locs lss hr hz hS hl hL hT
  exact lv_aload_nN hx hb d hi (lv_at hl j (zat_l ad hl9)) (kk ad H locs lss hr hz hS hl hL (zls_c zlv_null hT))
theorem z_aloadN (X : zCx g l0 cc nL ret own nm Ts fr lo mc ms M00 post xp tab) {i : Nat} (j : Nat) (d : decode cc pc = .ok (.aload i, 2)) (hl9 : ls[j]? = some (i, .null))
    (kk : zE g nL (pc + 2) ls (.null :: st) M k n) : zE g nL pc ls st M k n := by
  obtain ⟨p, l, e, R, s, m, args, below, meth, c, D, ad0, M0, Q⟩ := g
  obtain ⟨h0, hx, hb, hml, hrt, hown, hnm, hts, hR, hM0, hQ, hlk, htab, hks⟩ := X
  intro ad H locs lss hr hz hS hl hL hT
  exact lv_aloadN hx hb d (lv_at hl j (zat_l ad hl9)) (kk ad H locs lss hr hz hS hl hL (zls_c zlv_null hT))
theorem z_istore_n (X : zCx g l0 cc nL ret own nm Ts fr lo mc ms M00 post xp tab) {i : Nat} {f : Fin 4} {x : Int32} (d : decode cc pc = .ok (.istore_n f, 1)) (hi : (f : Nat) = i) (hn9 : i < nL) (hls : (i, .int x) :: zfl i ls = ls')
    (kk : zE g nL (pc + 1) ls' rest M k n) : zE g nL pc ls (.int x :: rest) M k n := by
  obtain ⟨p, l, e, R, s, m, args, below, meth, c, D, ad0, M0, Q⟩ := g
  obtain ⟨h0, hx, hb, hml, hrt, hown, hnm, hts, hR, hM0, hQ, hlk, htab, hks⟩ := X
  intro ad H locs lss hr hz hS hl hL hT
  exact lv_istore_n hx hb d hi hl hn9 (lv' := ls'.map (zpl ad)) (by rw [zfl_map, ← hls]; rfl) (fun lss' hl' => kk ad H locs lss' hr hz hS hl' (zll_st hL zlv_int hls) (zls_t hT))
theorem z_istore (X : zCx g l0 cc nL ret own nm Ts fr lo mc ms M00 post xp tab) {i : Nat} {x : Int32} (d : decode cc pc = .ok (.istore i, 2)) (hn9 : i < nL) (hls : (i, .int x) :: zfl i ls = ls')
    (kk : zE g nL (pc + 2) ls' rest M k n) : zE g nL pc ls (.int x :: rest) M k n := by
  obtain ⟨p, l, e, R, s, m, args, below, meth, c, D, ad0, M0, Q⟩ := g
  obtain ⟨h0, hx, hb, hml, hrt, hown, hnm, hts, hR, hM0, hQ, hlk, htab, hks⟩ := X
  intro ad H locs lss hr hz hS hl hL hT
  exact lv_istore hx hb d hl hn9 (lv' := ls'.map (zpl ad)) (by rw [zfl_map, ← hls]; rfl) (fun lss' hl' => kk ad H locs lss' hr hz hS hl' (zll_st hL zlv_int hls) (zls_t hT))
theorem z_lstore_n (X : zCx g l0 cc nL ret own nm Ts fr lo mc ms M00 post xp tab) {i : Nat} {f : Fin 4} {x : Int64} (d : decode cc pc = .ok (.lstore_n f, 1)) (hi : (f : Nat) = i) (hn9 : i + 1 < nL) (hls : (i, .long x) :: zfl2 i ls = ls')
    (kk : zE g nL (pc + 1) ls' rest M k n) : zE g nL pc ls (.long x :: rest) M k n := by
  obtain ⟨p, l, e, R, s, m, args, below, meth, c, D, ad0, M0, Q⟩ := g
  obtain ⟨h0, hx, hb, hml, hrt, hown, hnm, hts, hR, hM0, hQ, hlk, htab, hks⟩ := X
  intro ad H locs lss hr hz hS hl hL hT
  exact lv_lstore_n hx hb d hi hl hn9 (lv' := ls'.map (zpl ad)) (by rw [zfl2_map, ← hls]; rfl) (fun lss' hl' => kk ad H locs lss' hr hz hS hl' (zll_st2 hL zlv_long hls) (zls_t hT))
theorem z_astore_n (X : zCx g l0 cc nL ret own nm Ts fr lo mc ms M00 post xp tab) {i : Nat} {f : Fin 4} {x : Nat} (d : decode cc pc = .ok (.astore_n f, 1)) (hi : (f : Nat) = i) (hn9 : i < nL) (hls : (i, .ref x) :: zfl i ls = ls')
    (kk : zE g nL (pc + 1) ls' rest M k n) : zE g nL pc ls (.ref x :: rest) M k n := by
  obtain ⟨p, l, e, R, s, m, args, below, meth, c, D, ad0, M0, Q⟩ := g
  obtain ⟨h0, hx, hb, hml, hrt, hown, hnm, hts, hR, hM0, hQ, hlk, htab, hks⟩ := X
  intro ad H locs lss hr hz hS hl hL hT
  exact lv_astore_n hx hb d hi hl hn9 (lv' := ls'.map (zpl ad)) (by rw [zfl_map, ← hls]; rfl) (fun lss' hl' => kk ad H locs lss' hr hz hS hl' (zll_st hL (zls_h hT) hls) (zls_t hT))
theorem z_astore (X : zCx g l0 cc nL ret own nm Ts fr lo mc ms M00 post xp tab) {i : Nat} {x : Nat} (d : decode cc pc = .ok (.astore i, 2)) (hn9 : i < nL) (hls : (i, .ref x) :: zfl i ls = ls')
    (kk : zE g nL (pc + 2) ls' rest M k n) : zE g nL pc ls (.ref x :: rest) M k n := by
  obtain ⟨p, l, e, R, s, m, args, below, meth, c, D, ad0, M0, Q⟩ := g
  obtain ⟨h0, hx, hb, hml, hrt, hown, hnm, hts, hR, hM0, hQ, hlk, htab, hks⟩ := X
  intro ad H locs lss hr hz hS hl hL hT
  exact lv_astore hx hb d hl hn9 (lv' := ls'.map (zpl ad)) (by rw [zfl_map, ← hls]; rfl) (fun lss' hl' => kk ad H locs lss' hr hz hS hl' (zll_st hL (zls_h hT) hls) (zls_t hT))
theorem z_astore_nN (X : zCx g l0 cc nL ret own nm Ts fr lo mc ms M00 post xp tab) {i : Nat} {f : Fin 4} (d : decode cc pc = .ok (.astore_n f, 1)) (hi : (f : Nat) = i) (hn9 : i < nL) (hls : (i, .null) :: zfl i ls = ls')
    (kk : zE g nL (pc + 1) ls' rest M k n) : zE g nL pc ls (.null :: rest) M k n := by
  obtain ⟨p, l, e, R, s, m, args, below, meth, c, D, ad0, M0, Q⟩ := g
  obtain ⟨h0, hx, hb, hml, hrt, hown, hnm, hts, hR, hM0, hQ, hlk, htab, hks⟩ := X
  intro ad H locs lss hr hz hS hl hL hT
  exact lv_astore_nN hx hb d hi hl hn9 (lv' := ls'.map (zpl ad)) (by rw [zfl_map, ← hls]; rfl) (fun lss' hl' => kk ad H locs lss' hr hz hS hl' (zll_st hL zlv_null hls) (zls_t hT))
theorem z_astoreN (X : zCx g l0 cc nL ret own nm Ts fr lo mc ms M00 post xp tab) {i : Nat} (d : decode cc pc = .ok (.astore i, 2)) (hn9 : i < nL) (hls : (i, .null) :: zfl i ls = ls')
    (kk : zE g nL (pc + 2) ls' rest M k n) : zE g nL pc ls (.null :: rest) M k n := by
  obtain ⟨p, l, e, R, s, m, args, below, meth, c, D, ad0, M0, Q⟩ := g
  obtain ⟨h0, hx, hb, hml, hrt, hown, hnm, hts, hR, hM0, hQ, hlk, htab, hks⟩ := X
  intro ad H locs lss hr hz hS hl hL hT
  exact lv_astoreN hx hb d hl hn9 (lv' := ls'.map (zpl ad)) (by rw [zfl_map, ← hls]; rfl) (fun lss' hl' => kk ad H locs lss' hr hz hS hl' (zll_st hL zlv_null hls) (zls_t hT))
theorem z_iinc (X : zCx g l0 cc nL ret own nm Ts fr lo mc ms M00 post xp tab) {i : Nat} {a : Int} {x v : Int32} (j : Nat) (d : decode cc pc = .ok (.iinc i a, 3)) (hl9 : ls[j]? = some (i, .int x)) (hv : x + Int32.ofInt a = v) (hn9 : i < nL) (hls : (i, .int v) :: zfl i ls = ls')
    (kk : zE g nL (pc + 3) ls' st M k n) : zE g nL pc ls st M k n := by
  obtain ⟨p, l, e, R, s, m, args, below, meth, c, D, ad0, M0, Q⟩ := g
  obtain ⟨h0, hx, hb, hml, hrt, hown, hnm, hts, hR, hM0, hQ, hlk, htab, hks⟩ := X
  intro ad H locs lss hr hz hS hl hL hT
  exact lv_iinc hx hb d hl (k := j) (zat_l ad hl9) hv hn9 (lv' := ls'.map (zpl ad)) (by rw [zfl_map, ← hls]; rfl) (fun lss' hl' => kk ad H locs lss' hr hz hS hl' (zll_st hL zlv_int hls) hT)
theorem z_iadd (X : zCx g l0 cc nL ret own nm Ts fr lo mc ms M00 post xp tab) {x y : Int32} (d : decode cc pc = .ok (.iadd, 1))
    (kk : zE g nL (pc + 1) ls (.int (x + y) :: rest) M k n) : zE g nL pc ls (.int y :: .int x :: rest) M k n := by
  obtain ⟨p, l, e, R, s, m, args, below, meth, c, D, ad0, M0, Q⟩ := g
  obtain ⟨h0, hx, hb, hml, hrt, hown, hnm, hts, hR, hM0, hQ, hlk, htab, hks⟩ := X
  intro ad H locs lss hr hz hS hl hL hT
  exact lv_iadd hx hb d (kk ad H locs lss hr hz hS hl hL (zls_c zlv_int (zls_t (zls_t hT))))
theorem z_isub (X : zCx g l0 cc nL ret own nm Ts fr lo mc ms M00 post xp tab) {x y : Int32} (d : decode cc pc = .ok (.isub, 1))
    (kk : zE g nL (pc + 1) ls (.int (x - y) :: rest) M k n) : zE g nL pc ls (.int y :: .int x :: rest) M k n := by
  obtain ⟨p, l, e, R, s, m, args, below, meth, c, D, ad0, M0, Q⟩ := g
  obtain ⟨h0, hx, hb, hml, hrt, hown, hnm, hts, hR, hM0, hQ, hlk, htab, hks⟩ := X
  intro ad H locs lss hr hz hS hl hL hT
  exact lv_isub hx hb d (kk ad H locs lss hr hz hS hl hL (zls_c zlv_int (zls_t (zls_t hT))))
theorem z_imul (X : zCx g l0 cc nL ret own nm Ts fr lo mc ms M00 post xp tab) {x y : Int32} (d : decode cc pc = .ok (.imul, 1))
    (kk : zE g nL (pc + 1) ls (.int (x * y) :: rest) M k n) : zE g nL pc ls (.int y :: .int x :: rest) M k n := by
  obtain ⟨p, l, e, R, s, m, args, below, meth, c, D, ad0, M0, Q⟩ := g
  obtain ⟨h0, hx, hb, hml, hrt, hown, hnm, hts, hR, hM0, hQ, hlk, htab, hks⟩ := X
  intro ad H locs lss hr hz hS hl hL hT
  exact lv_imul hx hb d (kk ad H locs lss hr hz hS hl hL (zls_c zlv_int (zls_t (zls_t hT))))
theorem z_idiv (X : zCx g l0 cc nL ret own nm Ts fr lo mc ms M00 post xp tab) {x y : Int32} (d : decode cc pc = .ok (.idiv, 1)) (hne : ¬ y = 0)
    (kk : zE g nL (pc + 1) ls (.int (x / y) :: rest) M k n) : zE g nL pc ls (.int y :: .int x :: rest) M k n := by
  obtain ⟨p, l, e, R, s, m, args, below, meth, c, D, ad0, M0, Q⟩ := g
  obtain ⟨h0, hx, hb, hml, hrt, hown, hnm, hts, hR, hM0, hQ, hlk, htab, hks⟩ := X
  intro ad H locs lss hr hz hS hl hL hT
  exact lv_idiv hx hb d hne (kk ad H locs lss hr hz hS hl hL (zls_c zlv_int (zls_t (zls_t hT))))
theorem z_irem (X : zCx g l0 cc nL ret own nm Ts fr lo mc ms M00 post xp tab) {x y : Int32} (d : decode cc pc = .ok (.irem, 1)) (hne : ¬ y = 0)
    (kk : zE g nL (pc + 1) ls (.int (x - x / y * y) :: rest) M k n) : zE g nL pc ls (.int y :: .int x :: rest) M k n := by
  obtain ⟨p, l, e, R, s, m, args, below, meth, c, D, ad0, M0, Q⟩ := g
  obtain ⟨h0, hx, hb, hml, hrt, hown, hnm, hts, hR, hM0, hQ, hlk, htab, hks⟩ := X
  intro ad H locs lss hr hz hS hl hL hT
  exact lv_irem hx hb d hne (kk ad H locs lss hr hz hS hl hL (zls_c zlv_int (zls_t (zls_t hT))))
theorem z_ineg (X : zCx g l0 cc nL ret own nm Ts fr lo mc ms M00 post xp tab) {x : Int32} (d : decode cc pc = .ok (.ineg, 1))
    (kk : zE g nL (pc + 1) ls (.int (-x) :: rest) M k n) : zE g nL pc ls (.int x :: rest) M k n := by
  obtain ⟨p, l, e, R, s, m, args, below, meth, c, D, ad0, M0, Q⟩ := g
  obtain ⟨h0, hx, hb, hml, hrt, hown, hnm, hts, hR, hM0, hQ, hlk, htab, hks⟩ := X
  intro ad H locs lss hr hz hS hl hL hT
  exact lv_ineg hx hb d (kk ad H locs lss hr hz hS hl hL (zls_c zlv_int (zls_t hT)))
theorem z_ladd (X : zCx g l0 cc nL ret own nm Ts fr lo mc ms M00 post xp tab) {x y : Int64} (d : decode cc pc = .ok (.ladd, 1))
    (kk : zE g nL (pc + 1) ls (.long (x + y) :: rest) M k n) : zE g nL pc ls (.long y :: .long x :: rest) M k n := by
  obtain ⟨p, l, e, R, s, m, args, below, meth, c, D, ad0, M0, Q⟩ := g
  obtain ⟨h0, hx, hb, hml, hrt, hown, hnm, hts, hR, hM0, hQ, hlk, htab, hks⟩ := X
  intro ad H locs lss hr hz hS hl hL hT
  exact lv_ladd hx hb d (kk ad H locs lss hr hz hS hl hL (zls_c zlv_long (zls_t (zls_t hT))))
theorem z_lmul (X : zCx g l0 cc nL ret own nm Ts fr lo mc ms M00 post xp tab) {x y : Int64} (d : decode cc pc = .ok (.lmul, 1))
    (kk : zE g nL (pc + 1) ls (.long (x * y) :: rest) M k n) : zE g nL pc ls (.long y :: .long x :: rest) M k n := by
  obtain ⟨p, l, e, R, s, m, args, below, meth, c, D, ad0, M0, Q⟩ := g
  obtain ⟨h0, hx, hb, hml, hrt, hown, hnm, hts, hR, hM0, hQ, hlk, htab, hks⟩ := X
  intro ad H locs lss hr hz hS hl hL hT
  exact lv_lmul hx hb d (kk ad H locs lss hr hz hS hl hL (zls_c zlv_long (zls_t (zls_t hT))))
theorem z_i2l (X : zCx g l0 cc nL ret own nm Ts fr lo mc ms M00 post xp tab) {x : Int32} (d : decode cc pc = .ok (.i2l, 1))
    (kk : zE g nL (pc + 1) ls (.long x.toInt64 :: rest) M k n) : zE g nL pc ls (.int x :: rest) M k n := by
  obtain ⟨p, l, e, R, s, m, args, below, meth, c, D, ad0, M0, Q⟩ := g
  obtain ⟨h0, hx, hb, hml, hrt, hown, hnm, hts, hR, hM0, hQ, hlk, htab, hks⟩ := X
  intro ad H locs lss hr hz hS hl hL hT
  exact lv_i2l hx hb d rfl (kk ad H locs lss hr hz hS hl hL (zls_c zlv_long (zls_t hT)))
theorem z_i2c (X : zCx g l0 cc nL ret own nm Ts fr lo mc ms M00 post xp tab) {x : Int32} (d : decode cc pc = .ok (.i2c, 1))
    (kk : zE g nL (pc + 1) ls (.int (x.toUInt32 % 65536).toInt32 :: rest) M k n) : zE g nL pc ls (.int x :: rest) M k n := by
  obtain ⟨p, l, e, R, s, m, args, below, meth, c, D, ad0, M0, Q⟩ := g
  obtain ⟨h0, hx, hb, hml, hrt, hown, hnm, hts, hR, hM0, hQ, hlk, htab, hks⟩ := X
  intro ad H locs lss hr hz hS hl hL hT
  exact lv_i2c hx hb d rfl (kk ad H locs lss hr hz hS hl hL (zls_c zlv_int (zls_t hT)))
theorem z_i2d (X : zCx g l0 cc nL ret own nm Ts fr lo mc ms M00 post xp tab) {x : Int32} (d : decode cc pc = .ok (.i2d, 1))
    (kk : zE g nL (pc + 1) ls (.double (FP.i2d x) :: rest) M k n) : zE g nL pc ls (.int x :: rest) M k n := by
  obtain ⟨p, l, e, R, s, m, args, below, meth, c, D, ad0, M0, Q⟩ := g
  obtain ⟨h0, hx, hb, hml, hrt, hown, hnm, hts, hR, hM0, hQ, hlk, htab, hks⟩ := X
  intro ad H locs lss hr hz hS hl hL hT
  exact lv_i2d hx hb d (kk ad H locs lss hr hz hS hl hL (zls_c zlv_double (zls_t hT)))
theorem z_i2f (X : zCx g l0 cc nL ret own nm Ts fr lo mc ms M00 post xp tab) {x : Int32} (d : decode cc pc = .ok (.i2f, 1))
    (kk : zE g nL (pc + 1) ls (.float (FP.i2f x) :: rest) M k n) : zE g nL pc ls (.int x :: rest) M k n := by
  obtain ⟨p, l, e, R, s, m, args, below, meth, c, D, ad0, M0, Q⟩ := g
  obtain ⟨h0, hx, hb, hml, hrt, hown, hnm, hts, hR, hM0, hQ, hlk, htab, hks⟩ := X
  intro ad H locs lss hr hz hS hl hL hT
  exact lv_i2f hx hb d (kk ad H locs lss hr hz hS hl hL (zls_c zlv_float (zls_t hT)))
theorem z_l2d (X : zCx g l0 cc nL ret own nm Ts fr lo mc ms M00 post xp tab) {x : Int64} (d : decode cc pc = .ok (.l2d, 1))
    (kk : zE g nL (pc + 1) ls (.double (FP.l2d x) :: rest) M k n) : zE g nL pc ls (.long x :: rest) M k n := by
  obtain ⟨p, l, e, R, s, m, args, below, meth, c, D, ad0, M0, Q⟩ := g
  obtain ⟨h0, hx, hb, hml, hrt, hown, hnm, hts, hR, hM0, hQ, hlk, htab, hks⟩ := X
  intro ad H locs lss hr hz hS hl hL hT
  exact lv_l2d hx hb d (kk ad H locs lss hr hz hS hl hL (zls_c zlv_double (zls_t hT)))
theorem z_ddiv (X : zCx g l0 cc nL ret own nm Ts fr lo mc ms M00 post xp tab) {x y : UInt64} (d : decode cc pc = .ok (.ddiv, 1)) (hne : vf_n64 (FP.ddiv x y))
    (kk : zE g nL (pc + 1) ls (.double (FP.ddiv x y) :: rest) M k n) : zE g nL pc ls (.double y :: .double x :: rest) M k n := by
  obtain ⟨p, l, e, R, s, m, args, below, meth, c, D, ad0, M0, Q⟩ := g
  obtain ⟨h0, hx, hb, hml, hrt, hown, hnm, hts, hR, hM0, hQ, hlk, htab, hks⟩ := X
  intro ad H locs lss hr hz hS hl hL hT
  exact lv_ddiv hx hb d hne (kk ad H locs lss hr hz hS hl hL (zls_c zlv_double (zls_t (zls_t hT))))
theorem z_fdiv (X : zCx g l0 cc nL ret own nm Ts fr lo mc ms M00 post xp tab) {x y : UInt32} (d : decode cc pc = .ok (.fdiv, 1)) (hne : vf_n32 (FP.fdiv x y))
    (kk : zE g nL (pc + 1) ls (.float (FP.fdiv x y) :: rest) M k n) : zE g nL pc ls (.float y :: .float x :: rest) M k n := by
  obtain ⟨p, l, e, R, s, m, args, below, meth, c, D, ad0, M0, Q⟩ := g
  obtain ⟨h0, hx, hb, hml, hrt, hown, hnm, hts, hR, hM0, hQ, hlk, htab, hks⟩ := X
  intro ad H locs lss hr hz hS hl hL hT
  exact lv_fdiv hx hb d hne (kk ad H locs lss hr hz hS hl hL (zls_c zlv_float (zls_t (zls_t hT))))
theorem z_f2d (X : zCx g l0 cc nL ret own nm Ts fr lo mc ms M00 post xp tab) {x : UInt32} (d : decode cc pc = .ok (.f2d, 1)) (hne : vf_n64 (FP.f2d x))
    (kk : zE g nL (pc + 1) ls (.double (FP.f2d x) :: rest) M k n) : zE g nL pc ls (.float x :: rest) M k n := by
  obtain ⟨p, l, e, R, s, m, args, below, meth, c, D, ad0, M0, Q⟩ := g
  obtain ⟨h0, hx, hb, hml, hrt, hown, hnm, hts, hR, hM0, hQ, hlk, htab, hks⟩ := X
  intro ad H locs lss hr hz hS hl hL hT
  exact lv_f2d hx hb d hne (kk ad H locs lss hr hz hS hl hL (zls_c zlv_double (zls_t hT)))
theorem z_dup (X : zCx g l0 cc nL ret own nm Ts fr lo mc ms M00 post xp tab) {v : Value} (d : decode cc pc = .ok (.dup, 1)) (hv : v.category = 1)
    (kk : zE g nL (pc + 1) ls (v :: v :: rest) M k n) : zE g nL pc ls (v :: rest) M k n := by
  obtain ⟨p, l, e, R, s, m, args, below, meth, c, D, ad0, M0, Q⟩ := g
  obtain ⟨h0, hx, hb, hml, hrt, hown, hnm, hts, hR, hM0, hQ, hlk, htab, hks⟩ := X
  intro ad H locs lss hr hz hS hl hL hT
  exact lv_dup hx hb d ((zph_cat ad v).trans hv) (kk ad H locs lss hr hz hS hl hL (zls_c (zls_h hT) hT))
theorem z_dup2 (X : zCx g l0 cc nL ret own nm Ts fr lo mc ms M00 post xp tab) {v w : Value} (d : decode cc pc = .ok (.dup2, 1)) (hv : v.category = 1) (hw : w.category = 1)
    (kk : zE g nL (pc + 1) ls (v :: w :: v :: w :: rest) M k n) : zE g nL pc ls (v :: w :: rest) M k n := by
  obtain ⟨p, l, e, R, s, m, args, below, meth, c, D, ad0, M0, Q⟩ := g
  obtain ⟨h0, hx, hb, hml, hrt, hown, hnm, hts, hR, hM0, hQ, hlk, htab, hks⟩ := X
  intro ad H locs lss hr hz hS hl hL hT
  exact lv_dup2_11 hx hb d ((zph_cat ad v).trans hv) ((zph_cat ad w).trans hw) (kk ad H locs lss hr hz hS hl hL (zls_c (zls_h hT) (zls_c (zls_h (zls_t hT)) hT)))
theorem z_dup_x1 (X : zCx g l0 cc nL ret own nm Ts fr lo mc ms M00 post xp tab) {v w : Value} (d : decode cc pc = .ok (.dup_x1, 1)) (hv : v.category = 1) (hw : w.category = 1)
    (kk : zE g nL (pc + 1) ls (v :: w :: v :: rest) M k n) : zE g nL pc ls (v :: w :: rest) M k n := by
  obtain ⟨p, l, e, R, s, m, args, below, meth, c, D, ad0, M0, Q⟩ := g
  obtain ⟨h0, hx, hb, hml, hrt, hown, hnm, hts, hR, hM0, hQ, hlk, htab, hks⟩ := X
  intro ad H locs lss hr hz hS hl hL hT
  exact lv_dup_x1 hx hb d ((zph_cat ad v).trans hv) ((zph_cat ad w).trans hw) (kk ad H locs lss hr hz hS hl hL (zls_c (zls_h hT) (zls_c (zls_h (zls_t hT)) (zls_c (zls_h hT) (zls_t (zls_t hT))))))
theorem z_pop (X : zCx g l0 cc nL ret own nm Ts fr lo mc ms M00 post xp tab) {v : Value} (d : decode cc pc = .ok (.pop, 1)) (hv : v.category = 1)
    (kk : zE g nL (pc + 1) ls rest M k n) : zE g nL pc ls (v :: rest) M k n := by
  obtain ⟨p, l, e, R, s, m, args, below, meth, c, D, ad0, M0, Q⟩ := g
  obtain ⟨h0, hx, hb, hml, hrt, hown, hnm, hts, hR, hM0, hQ, hlk, htab, hks⟩ := X
  intro ad H locs lss hr hz hS hl hL hT
  exact lv_pop hx hb d ((zph_cat ad v).trans hv) (kk ad H locs lss hr hz hS hl hL (zls_t hT))
theorem z_goto (X : zCx g l0 cc nL ret own nm Ts fr lo mc ms M00 post xp tab) {off : Int} {tgt : Nat} (d : decode cc pc = .ok (.goto off, 3)) (ht : (pc : Int) + off = (tgt : Int))
    (kk : zE g nL tgt ls st M k n) : zE g nL pc ls st M k n := by
  obtain ⟨p, l, e, R, s, m, args, below, meth, c, D, ad0, M0, Q⟩ := g
  obtain ⟨h0, hx, hb, hml, hrt, hown, hnm, hts, hR, hM0, hQ, hlk, htab, hks⟩ := X
  intro ad H locs lss hr hz hS hl hL hT
  exact lv_goto hx hb d ht (kk ad H locs lss hr hz hS hl hL hT)
theorem z_icmp_eq (X : zCx g l0 cc nL ret own nm Ts fr lo mc ms M00 post xp tab) {x y : Int32} {off : Int} (tgt : Nat) (d : decode cc pc = .ok (.if_icmp .eq off, 3)) (ht : (pc : Int) + off = (tgt : Int))
    (kt : x = y → zE g nL tgt ls rest M k n) (kf : ¬ x = y → zE g nL (pc + 3) ls rest M k n) : zE g nL pc ls (.int y :: .int x :: rest) M k n := by
  obtain ⟨p, l, e, R, s, m, args, below, meth, c, D, ad0, M0, Q⟩ := g
  obtain ⟨h0, hx, hb, hml, hrt, hown, hnm, hts, hR, hM0, hQ, hlk, htab, hks⟩ := X
  intro ad H locs lss hr hz hS hl hL hT
  exact lv_icmp_eq hx hb d ht (fun q => kt q ad H locs lss hr hz hS hl hL (zls_t (zls_t hT))) (fun q => kf q ad H locs lss hr hz hS hl hL (zls_t (zls_t hT)))
theorem z_icmp_ne (X : zCx g l0 cc nL ret own nm Ts fr lo mc ms M00 post xp tab) {x y : Int32} {off : Int} (tgt : Nat) (d : decode cc pc = .ok (.if_icmp .ne off, 3)) (ht : (pc : Int) + off = (tgt : Int))
    (kt : ¬ x = y → zE g nL tgt ls rest M k n) (kf : x = y → zE g nL (pc + 3) ls rest M k n) : zE g nL pc ls (.int y :: .int x :: rest) M k n := by
  obtain ⟨p, l, e, R, s, m, args, below, meth, c, D, ad0, M0, Q⟩ := g
  obtain ⟨h0, hx, hb, hml, hrt, hown, hnm, hts, hR, hM0, hQ, hlk, htab, hks⟩ := X
  intro ad H locs lss hr hz hS hl hL hT
  exact lv_icmp_ne hx hb d ht (fun q => kt q ad H locs lss hr hz hS hl hL (zls_t (zls_t hT))) (fun q => kf q ad H locs lss hr hz hS hl hL (zls_t (zls_t hT)))
theorem z_icmp_lt (X : zCx g l0 cc nL ret own nm Ts fr lo mc ms M00 post xp tab) {x y : Int32} {off : Int} (tgt : Nat) (d : decode cc pc = .ok (.if_icmp .lt off, 3)) (ht : (pc : Int) + off = (tgt : Int))
    (kt : x < y → zE g nL tgt ls rest M k n) (kf : ¬ x < y → zE g nL (pc + 3) ls rest M k n) : zE g nL pc ls (.int y :: .int x :: rest) M k n := by
  obtain ⟨p, l, e, R, s, m, args, below, meth, c, D, ad0, M0, Q⟩ := g
  obtain ⟨h0, hx, hb, hml, hrt, hown, hnm, hts, hR, hM0, hQ, hlk, htab, hks⟩ := X
  intro ad H locs lss hr hz hS hl hL hT
  exact lv_icmp_lt hx hb d ht (fun q => kt q ad H locs lss hr hz hS hl hL (zls_t (zls_t hT))) (fun q => kf q ad H locs lss hr hz hS hl hL (zls_t (zls_t hT)))
theorem z_icmp_ge (X : zCx g l0 cc nL ret own nm Ts fr lo mc ms M00 post xp tab) {x y : Int32} {off : Int} (tgt : Nat) (d : decode cc pc = .ok (.if_icmp .ge off, 3)) (ht : (pc : Int) + off = (tgt : Int))
    (kt : y ≤ x → zE g nL tgt ls rest M k n) (kf : ¬ y ≤ x → zE g nL (pc + 3) ls rest M k n) : zE g nL pc ls (.int y :: .int x :: rest) M k n := by
  obtain ⟨p, l, e, R, s, m, args, below, meth, c, D, ad0, M0, Q⟩ := g
  obtain ⟨h0, hx, hb, hml, hrt, hown, hnm, hts, hR, hM0, hQ, hlk, htab, hks⟩ := X
  intro ad H locs lss hr hz hS hl hL hT
  exact lv_icmp_ge hx hb d ht (fun q => kt q ad H locs lss hr hz hS hl hL (zls_t (zls_t hT))) (fun q => kf q ad H locs lss hr hz hS hl hL (zls_t (zls_t hT)))
theorem z_icmp_gt (X : zCx g l0 cc nL ret own nm Ts fr lo mc ms M00 post xp tab) {x y : Int32} {off : Int} (tgt : Nat) (d : decode cc pc = .ok (.if_icmp .gt off, 3)) (ht : (pc : Int) + off = (tgt : Int))
    (kt : y < x → zE g nL tgt ls rest M k n) (kf : ¬ y < x → zE g nL (pc + 3) ls rest M k n) : zE g nL pc ls (.int y :: .int x :: rest) M k n := by
  obtain ⟨p, l, e, R, s, m, args, below, meth, c, D, ad0, M0, Q⟩ := g
  obtain ⟨h0, hx, hb, hml, hrt, hown, hnm, hts, hR, hM0, hQ, hlk, htab, hks⟩ := X
  intro ad H locs lss hr hz hS hl hL hT
  exact lv_icmp_gt hx hb d ht (fun q => kt q ad H locs lss hr hz hS hl hL (zls_t (zls_t hT))) (fun q => kf q ad H locs lss hr hz hS hl hL (zls_t (zls_t hT)))
theorem z_icmp_le (X : zCx g l0 cc nL ret own nm Ts fr lo mc ms M00 post xp tab) {x y : Int32} {off : Int} (tgt : Nat) (d : decode cc pc = .ok (.if_icmp .le off, 3)) (ht : (pc : Int) + off = (tgt : Int))
    (kt : x ≤ y → zE g nL tgt ls rest M k n) (kf : ¬ x ≤ y → zE g nL (pc + 3) ls rest M k n) : zE g nL pc ls (.int y :: .int x :: rest) M k n := by
  obtain ⟨p, l, e, R, s, m, args, below, meth, c, D, ad0, M0, Q⟩ := g
  obtain ⟨h0, hx, hb, hml, hrt, hown, hnm, hts, hR, hM0, hQ, hlk, htab, hks⟩ := X
  intro ad H locs lss hr hz hS hl hL hT
  exact lv_icmp_le hx hb d ht (fun q => kt q ad H locs lss hr hz hS hl hL (zls_t (zls_t hT))) (fun q => kf q ad H locs lss hr hz hS hl hL (zls_t (zls_t hT)))
theorem z_if_eq (X : zCx g l0 cc nL ret own nm Ts fr lo mc ms M00 post xp tab) {x : Int32} {off : Int} (tgt : Nat) (d : decode cc pc = .ok (.ifCond .eq off, 3)) (ht : (pc : Int) + off = (tgt : Int))
    (kt : x = 0 → zE g nL tgt ls rest M k n) (kf : ¬ x = 0 → zE g nL (pc + 3) ls rest M k n) : zE g nL pc ls (.int x :: rest) M k n := by
  obtain ⟨p, l, e, R, s, m, args, below, meth, c, D, ad0, M0, Q⟩ := g
  obtain ⟨h0, hx, hb, hml, hrt, hown, hnm, hts, hR, hM0, hQ, hlk, htab, hks⟩ := X
  intro ad H locs lss hr hz hS hl hL hT
  exact lv_if_eq hx hb d ht (fun q => kt q ad H locs lss hr hz hS hl hL (zls_t hT)) (fun q => kf q ad H locs lss hr hz hS hl hL (zls_t hT))
theorem z_if_ne (X : zCx g l0 cc nL ret own nm Ts fr lo mc ms M00 post xp tab) {x : Int32} {off : Int} (tgt : Nat) (d : decode cc pc = .ok (.ifCond .ne off, 3)) (ht : (pc : Int) + off = (tgt : Int))
    (kt : ¬ x = 0 → zE g nL tgt ls rest M k n) (kf : x = 0 → zE g nL (pc + 3) ls rest M k n) : zE g nL pc ls (.int x :: rest) M k n := by
  obtain ⟨p, l, e, R, s, m, args, below, meth, c, D, ad0, M0, Q⟩ := g
  obtain ⟨h0, hx, hb, hml, hrt, hown, hnm, hts, hR, hM0, hQ, hlk, htab, hks⟩ := X
  intro ad H locs lss hr hz hS hl hL hT
  exact lv_if_ne hx hb d ht (fun q => kt q ad H locs lss hr hz hS hl hL (zls_t hT)) (fun q => kf q ad H locs lss hr hz hS hl hL (zls_t hT))
theorem z_if_lt (X : zCx g l0 cc nL ret own nm Ts fr lo mc ms M00 post xp tab) {x : Int32} {off : Int} (tgt : Nat) (d : decode cc pc = .ok (.ifCond .lt off, 3)) (ht : (pc : Int) + off = (tgt : Int))
    (kt : x < 0 → zE g nL tgt ls rest M k n) (kf : ¬ x < 0 → zE g nL (pc + 3) ls rest M k n) : zE g nL pc ls (.int x :: rest) M k n := by
  obtain ⟨p, l, e, R, s, m, args, below, meth, c, D, ad0, M0, Q⟩ := g
  obtain ⟨h0, hx, hb, hml, hrt, hown, hnm, hts, hR, hM0, hQ, hlk, htab, hks⟩ := X
  intro ad H locs lss hr hz hS hl hL hT
  exact lv_if_lt hx hb d ht (fun q => kt q ad H locs lss hr hz hS hl hL (zls_t hT)) (fun q => kf q ad H locs lss hr hz hS hl hL (zls_t hT))
theorem z_if_ge (X : zCx g l0 cc nL ret own nm Ts fr lo mc ms M00 post xp tab) {x : Int32} {off : Int} (tgt : Nat) (d : decode cc pc = .ok (.ifCond .ge off, 3)) (ht : (pc : Int) + off = (tgt : Int))
    (kt : 0 ≤ x → zE g nL tgt ls rest M k n) (kf : ¬ 0 ≤ x → zE g nL (pc + 3) ls rest M k n) : zE g nL pc ls (.int x :: rest) M k n := by
  obtain ⟨p, l, e, R, s, m, args, below, meth, c, D, ad0, M0, Q⟩ := g
  obtain ⟨h0, hx, hb, hml, hrt, hown, hnm, hts, hR, hM0, hQ, hlk, htab, hks⟩ := X
  intro ad H locs lss hr hz hS hl hL hT
  exact lv_if_ge hx hb d ht (fun q => kt q ad H locs lss hr hz hS hl hL (zls_t hT)) (fun q => kf q ad H locs lss hr hz hS hl hL (zls_t hT))
theorem z_if_gt (X : zCx g l0 cc nL ret own nm Ts fr lo mc ms M00 post xp tab) {x : Int32} {off : Int} (tgt : Nat) (d : decode cc pc = .ok (.ifCond .gt off, 3)) (ht : (pc : Int) + off = (tgt : Int))
    (kt : 0 < x → zE g nL tgt ls rest M k n) (kf : ¬ 0 < x → zE g nL (pc + 3) ls rest M k n) : zE g nL pc ls (.int x :: rest) M k n := by
  obtain ⟨p, l, e, R, s, m, args, below, meth, c, D, ad0, M0, Q⟩ := g
  obtain ⟨h0, hx, hb, hml, hrt, hown, hnm, hts, hR, hM0, hQ, hlk, htab, hks⟩ := X
  intro ad H locs lss hr hz hS hl hL hT
  exact lv_if_gt hx hb d ht (fun q => kt q ad H locs lss hr hz hS hl hL (zls_t hT)) (fun q => kf q ad H locs lss hr hz hS hl hL (zls_t hT))
theorem z_if_le (X : zCx g l0 cc nL ret own nm Ts fr lo mc ms M00 post xp tab) {x : Int32} {off : Int} (tgt : Nat) (d : decode cc pc = .ok (.ifCond .le off, 3)) (ht : (pc : Int) + off = (tgt : Int))
    (kt : x ≤ 0 → zE g nL tgt ls rest M k n) (kf : ¬ x ≤ 0 → zE g nL (pc + 3) ls rest M k n) : zE g nL pc ls (.int x :: rest) M k n := by
  obtain ⟨p, l, e, R, s, m, args, below, meth, c, D, ad0, M0, Q⟩ := g
  obtain ⟨h0, hx, hb, hml, hrt, hown, hnm, hts, hR, hM0, hQ, hlk, htab, hks⟩ := X
  intro ad H locs lss hr hz hS hl hL hT
  exact lv_if_le hx hb d ht (fun q => kt q ad H locs lss hr hz hS hl hL (zls_t hT)) (fun q => kf q ad H locs lss hr hz hS hl hL (zls_t hT))
theorem z_acmp_eq (X : zCx g l0 cc nL ret own nm Ts fr lo mc ms M00 post xp tab) {x y : Nat} {off : Int} (tgt : Nat) (hx19 : zc M x ≠ 19) (hy19 : zc M y ≠ 19) (d : decode cc pc = .ok (.if_acmp .eq off, 3)) (ht : (pc : Int) + off = (tgt : Int))
    (kt : x = y → zE g nL tgt ls rest M k n) (kf : ¬ x = y → zE g nL (pc + 3) ls rest M k n) : zE g nL pc ls (.ref y :: .ref x :: rest) M k n := by
  obtain ⟨p, l, e, R, s, m, args, below, meth, c, D, ad0, M0, Q⟩ := g
  obtain ⟨h0, hx, hb, hml, hrt, hown, hnm, hts, hR, hM0, hQ, hlk, htab, hks⟩ := X
  intro ad H locs lss hr hz hS hl hL hT
  have hy := zls_h hT y rfl
  have hx9 := zls_h (zls_t hT) x rfl
  have hT' := zls_t (zls_t hT)
  exact lv_acmp_eq (rx := some (ad x)) (ry := some (ad y)) hx hb d ht (fun q => kt (hr.1 x y hx9 hy hx19 hy19 (Option.some.inj q)) ad H locs lss hr hz hS hl hL hT') (fun q => kf (fun e => q (by rw [e])) ad H locs lss hr hz hS hl hL hT')
theorem z_acmp_ne (X : zCx g l0 cc nL ret own nm Ts fr lo mc ms M00 post xp tab) {x y : Nat} {off : Int} (tgt : Nat) (hx19 : zc M x ≠ 19) (hy19 : zc M y ≠ 19) (d : decode cc pc = .ok (.if_acmp .ne off, 3)) (ht : (pc : Int) + off = (tgt : Int))
    (kt : ¬ x = y → zE g nL tgt ls rest M k n) (kf : x = y → zE g nL (pc + 3) ls rest M k n) : zE g nL pc ls (.ref y :: .ref x :: rest) M k n := by
  obtain ⟨p, l, e, R, s, m, args, below, meth, c, D, ad0, M0, Q⟩ := g
  obtain ⟨h0, hx, hb, hml, hrt, hown, hnm, hts, hR, hM0, hQ, hlk, htab, hks⟩ := X
  intro ad H locs lss hr hz hS hl hL hT
  have hy := zls_h hT y rfl
  have hx9 := zls_h (zls_t hT) x rfl
  have hT' := zls_t (zls_t hT)
  exact lv_acmp_ne (rx := some (ad x)) (ry := some (ad y)) hx hb d ht (fun q => kt (fun e => q (by rw [e])) ad H locs lss hr hz hS hl hL hT') (fun q => kf (hr.1 x y hx9 hy hx19 hy19 (Option.some.inj q)) ad H locs lss hr hz hS hl hL hT')
theorem z_acmp_neS (X : zCx g l0 cc nL ret own nm Ts fr lo mc ms M00 post xp tab) {x : Nat} {off : Int} (tgt : Nat) (d : decode cc pc = .ok (.if_acmp .ne off, 3)) (ht : (pc : Int) + off = (tgt : Int))
    (kf : zE g nL (pc + 3) ls rest M k n) : zE g nL pc ls (.ref x :: .ref x :: rest) M k n := by
  obtain ⟨p, l, e, R, s, m, args, below, meth, c, D, ad0, M0, Q⟩ := g
  obtain ⟨h0, hx, hb, hml, hrt, hown, hnm, hts, hR, hM0, hQ, hlk, htab, hks⟩ := X
  intro ad H locs lss hr hz hS hl hL hT
  exact lv_acmp_ne (rx := some (ad x)) (ry := some (ad x)) hx hb d ht (fun q => absurd rfl q) (fun _ => kf ad H locs lss hr hz hS hl hL (zls_t (zls_t hT)))
theorem z_ifnull (X : zCx g l0 cc nL ret own nm Ts fr lo mc ms M00 post xp tab) {x : Nat} {off : Int} (d : decode cc pc = .ok (.ifnull off, 3)) (kk : zE g nL (pc + 3) ls rest M k n) : zE g nL pc ls (.ref x :: rest) M k n := by
  obtain ⟨p, l, e, R, s, m, args, below, meth, c, D, ad0, M0, Q⟩ := g
  obtain ⟨h0, hx, hb, hml, hrt, hown, hnm, hts, hR, hM0, hQ, hlk, htab, hks⟩ := X
  intro ad H locs lss hr hz hS hl hL hT
  exact lv_ifnull hx hb d (kk ad H locs lss hr hz hS hl hL (zls_t hT))
theorem z_ifnullN (X : zCx g l0 cc nL ret own nm Ts fr lo mc ms M00 post xp tab) {off : Int} (tgt : Nat) (d : decode cc pc = .ok (.ifnull off, 3)) (ht : (pc : Int) + off = (tgt : Int)) (kk : zE g nL tgt ls rest M k n) : zE g nL pc ls (.null :: rest) M k n := by
  obtain ⟨p, l, e, R, s, m, args, below, meth, c, D, ad0, M0, Q⟩ := g
  obtain ⟨h0, hx, hb, hml, hrt, hown, hnm, hts, hR, hM0, hQ, hlk, htab, hks⟩ := X
  intro ad H locs lss hr hz hS hl hL hT
  exact lv_ifnullN hx hb d ht (kk ad H locs lss hr hz hS hl hL (zls_t hT))
theorem z_ifnonnull (X : zCx g l0 cc nL ret own nm Ts fr lo mc ms M00 post xp tab) {x : Nat} {off : Int} (tgt : Nat) (d : decode cc pc = .ok (.ifnonnull off, 3)) (ht : (pc : Int) + off = (tgt : Int)) (kk : zE g nL tgt ls rest M k n) : zE g nL pc ls (.ref x :: rest) M k n := by
  obtain ⟨p, l, e, R, s, m, args, below, meth, c, D, ad0, M0, Q⟩ := g
  obtain ⟨h0, hx, hb, hml, hrt, hown, hnm, hts, hR, hM0, hQ, hlk, htab, hks⟩ := X
  intro ad H locs lss hr hz hS hl hL hT
  exact lv_ifnonnull hx hb d ht (kk ad H locs lss hr hz hS hl hL (zls_t hT))
theorem z_ifnonnullN (X : zCx g l0 cc nL ret own nm Ts fr lo mc ms M00 post xp tab) {off : Int} (d : decode cc pc = .ok (.ifnonnull off, 3)) (kk : zE g nL (pc + 3) ls rest M k n) : zE g nL pc ls (.null :: rest) M k n := by
  obtain ⟨p, l, e, R, s, m, args, below, meth, c, D, ad0, M0, Q⟩ := g
  obtain ⟨h0, hx, hb, hml, hrt, hown, hnm, hts, hR, hM0, hQ, hlk, htab, hks⟩ := X
  intro ad H locs lss hr hz hS hl hL hT
  exact lv_ifnonnullN hx hb d (kk ad H locs lss hr hz hS hl hL (zls_t hT))
end ZPR
