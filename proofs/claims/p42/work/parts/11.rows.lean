/-! PART 03: rows of zE: entry, ends, fields, rows of arrays. -/
theorem zsl_len (ad : Nat → Nat) (vs : List Value) : (lg_sl (vs.map (zph ad))).length = (lg_sl vs).length := by
  induction vs with
  | nil => rfl
  | cons v vs ih =>
    simp only [lg_sl, List.map_cons, List.flatMap_cons, List.length_append, zph_cat] at ih ⊢
    rw [ih]
    split <;> rfl
theorem z_intro {l : Launch} {y : MethodName} {ws ws' : List Cond} {fr lo mc ms : Nat} {av : List Value} {M : zMem} {post : Option Value → zMem → Prop} {xp : String → Prop} {cc : ByteArray} {maxL : Nat} {ret : Option FieldType}
    (hy : plainName y.cls = true) (hw : ws = Cond.code y cc maxL ret :: ws') (hlen : (lg_sl av).length ≤ maxL)
    (body : ∀ g : zCtx, zCx g l cc maxL ret y.cls y.name ws fr lo mc ms M post xp [] → zE g maxL 0 (lv_args 0 av) [] M 0 0) : zS l y ws fr lo mc ms av M post xp := by
  intro D ad sz
  refine vx_ofW hy hw ?_
  intro p e s m args below meth c s₁ B hml htab hv
  obtain ⟨hargs, hsz, hr, hlv, hks⟩ := hv
  subst hsz
  have htab' : c.exceptionTable.toList = [] := List.eq_nil_iff_forall_not_mem.mpr (fun x hx => htab x hx)
  have k := body (p, l, e, { frames := fr, cells := mc, slots := ms, locals := lo }, s, m, args, below, meth, c, D, ad, M, vx_MQ below (zQc D ad M s.heap.size post) (zXC D ad M s.heap.size xp) args s mc ms (zA ad M s.heap.size))
    ⟨rfl, B.exec, B.bytes, hml, B.returns, findClass_of_methodNamed B.named, (name_of_methodNamed B.named B.method).1, atoms_spec B.pre, rfl, rfl, rfl, B.notSynchronized, htab', hks⟩
    ad s.heap [] _ hr zx_rf va_S.rf (by rw [← zargs0]; exact lv_entry (av.map (zph ad)) (n := maxL) (by rw [zsl_len]; exact hlen)) (fun q hq => hlv _ (zargs_mem _ _ q hq)) (fun v hv => by cases hv)
  subst hargs
  rw [lg_entry_eq]
  exact k
theorem zlvq {M : zMem} {v : Value} (h : zlv M v) : ∀ w, some v = some w → zlv M w := fun w e => by cases e; exact h
section ZR
variable {g : zCtx} {l0 : Launch} {cc : ByteArray} {nL : Nat} {ret : Option FieldType} {own nm : String} {Ts : List Cond} {fr lo mc ms : Nat} {M00 : zMem} {post : Option Value → zMem → Prop} {xp : String → Prop} {tab : List ExceptionTableEntry}
variable {pc : Nat} {ls : List (Nat × Value)} {st rest : List Value} {M : zMem} {k n : Nat}
theorem z_nm {x : Int32} (kk : ∀ f : Int32, f = x → zE g nL pc ls (.int f :: st) M k n) : zE g nL pc ls (.int x :: st) M k n := kk x rfl
theorem z_mem {M' : zMem} (h : M = M') (kk : zE g nL pc ls st M' k n) : zE g nL pc ls st M k n := h ▸ kk
theorem z_top {v w : Value} (h : v = w) (kk : zE g nL pc ls (w :: st) M k n) : zE g nL pc ls (v :: st) M k n := h ▸ kk
theorem z_sub {ls' : List (Nat × Value)} (ks : List Nat) (hl : lv_pick ls ks = ls') (kk : zE g nL pc ls' st M k n) : zE g nL pc ls st M k n := by
  obtain ⟨p, l, e, R, s, m, args, below, meth, c, D, ad0, M0, Q⟩ := g
  intro ad H locs lss hr hz hS hl' hL hT
  refine kk ad H locs lss hr hz hS (lv_sub hl' ks ?_) (fun q hq => ?_) hT
  · rw [← hl]
    simp only [lv_pick, List.map_filterMap, List.getElem?_map]
  · rw [← hl] at hq
    obtain ⟨i, -, hi⟩ := List.mem_filterMap.mp hq
    exact hL q (List.mem_of_getElem? hi)
/-! ends -/
theorem z_iret (X : zCx g l0 cc nL ret own nm Ts fr lo mc ms M00 post xp tab) {ty : FieldType} {v : Int32} (hret : ret = some ty) (hn : narrow ty (.int v) = .int v) (hk : k ≤ mc) (hn' : n ≤ ms) (d : decode cc pc = .ok (.ireturn, 1)) (hp : post (some (.int v)) M) : zE g nL pc ls [.int v] M k n := by
  obtain ⟨p, l, e, R, s, m, args, below, meth, c, D, ad0, M0, Q⟩ := g
  obtain ⟨h0, hx, hb, hml, hrt, hown, hnm, hts, hR, hM0, hQ, hlk, htab, hks⟩ := X
  intro ad H locs lss hr hz hS hl hL hT
  subst hQ
  refine vx_ret (W.widen hk hn' ?_)
  exact W.zret hx hb (hrt.trans hret) hn (fun t ht hW => ⟨⟨some (.int v), ad, M, rfl, hp, by rw [ht]; exact hr, hz, zlvq zlv_int⟩, hS.F ht⟩) hS.2.2 d
theorem z_lret (X : zCx g l0 cc nL ret own nm Ts fr lo mc ms M00 post xp tab) {v : Int64} (hret : ret = some .long) (hk : k ≤ mc) (hn' : n ≤ ms) (d : decode cc pc = .ok (.lreturn, 1)) (hp : post (some (.long v)) M) : zE g nL pc ls [.long v] M k n := by
  obtain ⟨p, l, e, R, s, m, args, below, meth, c, D, ad0, M0, Q⟩ := g
  obtain ⟨h0, hx, hb, hml, hrt, hown, hnm, hts, hR, hM0, hQ, hlk, htab, hks⟩ := X
  intro ad H locs lss hr hz hS hl hL hT
  subst hQ
  refine vx_ret (W.widen hk hn' ?_)
  exact W.lret hx hb (hrt.trans hret) (fun t ht hW => ⟨⟨some (.long v), ad, M, rfl, hp, by rw [ht]; exact hr, hz, zlvq zlv_long⟩, hS.F ht⟩) hS.2.2 d
theorem z_fret (X : zCx g l0 cc nL ret own nm Ts fr lo mc ms M00 post xp tab) {v : UInt32} (hret : ret = some .float) (hk : k ≤ mc) (hn' : n ≤ ms) (d : decode cc pc = .ok (.freturn, 1)) (hp : post (some (.float v)) M) : zE g nL pc ls [.float v] M k n := by
  obtain ⟨p, l, e, R, s, m, args, below, meth, c, D, ad0, M0, Q⟩ := g
  obtain ⟨h0, hx, hb, hml, hrt, hown, hnm, hts, hR, hM0, hQ, hlk, htab, hks⟩ := X
  intro ad H locs lss hr hz hS hl hL hT
  subst hQ
  refine vx_ret (W.widen hk hn' ?_)
  exact W.fret hx hb (hrt.trans hret) (fun t ht hW => ⟨⟨some (.float v), ad, M, rfl, hp, by rw [ht]; exact hr, hz, zlvq zlv_float⟩, hS.F ht⟩) hS.2.2 d
theorem z_dret (X : zCx g l0 cc nL ret own nm Ts fr lo mc ms M00 post xp tab) {v : UInt64} (hret : ret = some .double) (hk : k ≤ mc) (hn' : n ≤ ms) (d : decode cc pc = .ok (.dreturn, 1)) (hp : post (some (.double v)) M) : zE g nL pc ls [.double v] M k n := by
  obtain ⟨p, l, e, R, s, m, args, below, meth, c, D, ad0, M0, Q⟩ := g
  obtain ⟨h0, hx, hb, hml, hrt, hown, hnm, hts, hR, hM0, hQ, hlk, htab, hks⟩ := X
  intro ad H locs lss hr hz hS hl hL hT
  subst hQ
  refine vx_ret (W.widen hk hn' ?_)
  exact W.dret hx hb (hrt.trans hret) (fun t ht hW => ⟨⟨some (.double v), ad, M, rfl, hp, by rw [ht]; exact hr, hz, zlvq zlv_double⟩, hS.F ht⟩) hS.2.2 d
theorem z_vret (X : zCx g l0 cc nL ret own nm Ts fr lo mc ms M00 post xp tab) (hret : ret = none) (hk : k ≤ mc) (hn' : n ≤ ms) (d : decode cc pc = .ok (.return_, 1)) (hp : post none M) : zE g nL pc ls [] M k n := by
  obtain ⟨p, l, e, R, s, m, args, below, meth, c, D, ad0, M0, Q⟩ := g
  obtain ⟨h0, hx, hb, hml, hrt, hown, hnm, hts, hR, hM0, hQ, hlk, htab, hks⟩ := X
  intro ad H locs lss hr hz hS hl hL hT
  subst hQ
  refine vx_ret (W.widen hk hn' ?_)
  exact W.vret hx hb (hrt.trans hret) (fun t ht hW => ⟨⟨none, ad, M, rfl, hp, by rw [ht]; exact hr, hz, fun w e => nomatch e⟩, hS.F ht⟩) hS.2.2 d
theorem z_aret (X : zCx g l0 cc nL ret own nm Ts fr lo mc ms M00 post xp tab) {v : Value} {rt : FieldType} (hret : ret = some rt) (hrt' : (∃ n, rt = .object n) ∨ ∃ t, rt = .array t) (hv : v = .null ∨ ∃ a, v = .ref a) (hk : k ≤ mc) (hn' : n ≤ ms) (d : decode cc pc = .ok (.areturn, 1)) (hp : post (some v) M) : zE g nL pc ls [v] M k n := by
  obtain ⟨p, l, e, R, s, m, args, below, meth, c, D, ad0, M0, Q⟩ := g
  obtain ⟨h0, hx, hb, hml, hrt, hown, hnm, hts, hR, hM0, hQ, hlk, htab, hks⟩ := X
  intro ad H locs lss hr hz hS hl hL hT
  subst hQ
  refine vx_ret (W.widen hk hn' ?_)
  refine W.aret hx hb (hrt.trans hret) hrt' ?_ (fun t ht hW => ⟨⟨some v, ad, M, rfl, hp, by rw [ht]; exact hr, hz, zlvq (zls_h hT)⟩, hS.F ht⟩) hS.2.2 d
  rcases hv with rfl | ⟨a, rfl⟩
  · exact Or.inl rfl
  · exact Or.inr ⟨_, rfl⟩
/-! fields -/
theorem z_get0 (X : zCx g l0 cc nL ret own nm Ts fr lo mc ms M00 post xp tab) {o ci j index N : Nat} {C ref : String} {T : u_T} (d : decode cc pc = .ok (.getfield index, 3)) (hc : zc M o = ci + 1) (hq : vwCl[ci]? = some (C, T, N)) (hj : j < N)
    (hlink : Cond.fieldLink own index ref (T j).2.1 (T j).2.2.1 ∈ Ts) (hsame : ref = (T j).1 ∨ Cond.sameField ref (T j).1 (T j).2.1 (T j).2.2.1 ∈ Ts) {v : Value} (hv : ∀ ad, zmv ad M (zct ci j) o j = zph ad v) (hlv : zlv M v)
    (kk : zE g nL (pc + 3) ls (v :: rest) M k n) : zE g nL pc ls (.ref o :: rest) M k n := by
  obtain ⟨p, l, e, R, s, m, args, below, meth, c, D, ad0, M0, Q⟩ := g
  obtain ⟨h0, hx, hb, hml, hrt, hown, hnm, hts, hR, hM0, hQ, hlk, htab, hks⟩ := X
  intro ad H locs lss hr hz hS hl hL hT
  have ho : zc M o ≠ 0 := by rw [hc]; exact Nat.succ_ne_zero _
  obtain ⟨cell, q1, q2, q3, q4⟩ := (hr.2.2.1 o ho).1 ci _ hc hq
  obtain ⟨hSl, hfc, kC, hkC, hkind⟩ := hks.1.1.1 ci _ hq
  obtain ⟨cf, kf, fi, f, hi, hsl⟩ := hSl j hj
  have hlay := hks.1.2 ci _ hq
  have hi' : s.fieldFound? ref (T j).2.1 (T j).2.2.1 = some (cf, kf, fi, f) := by
    rcases hsame with e | e
    · rw [e]; exact hi
    · exact u_same (hts _ e) _ hi
  refine W.getf hx hb hown (hts _ hlink) hi' (u_facts hfc hkC (u_lays hlay (fun _ h => h) hj) hi).1 q1 (by rw [q3]; exact fun h => by cases h) (v := zph ad v) ?_ rfl rfl d (kk ad H locs lss hr hz hS hl hL (zls_c hlv (zls_t hT)))
  rw [hsl, q4 j hj]
  exact congrArg some (hv ad)
theorem z_getI (X : zCx g l0 cc nL ret own nm Ts fr lo mc ms M00 post xp tab) {o ci j index N : Nat} {C ref : String} {T : u_T} (d : decode cc pc = .ok (.getfield index, 3)) (hc : zc M o = ci + 1) (hq : vwCl[ci]? = some (C, T, N)) (hj : j < N)
    (hlink : Cond.fieldLink own index ref (T j).2.1 (T j).2.2.1 ∈ Ts) (hsame : ref = (T j).1 ∨ Cond.sameField ref (T j).1 (T j).2.1 (T j).2.2.1 ∈ Ts) (hv : ∀ ad, zmv ad M (zct ci j) o j = .int (zi M o j)) {x : Int32} (hx : zi M o j = x)
    (kk : zE g nL (pc + 3) ls (.int x :: rest) M k n) : zE g nL pc ls (.ref o :: rest) M k n := by
  subst hx
  exact z_get0 (v := .int (zi M o j)) X d hc hq hj hlink hsame hv zlv_int kk
theorem z_getL (X : zCx g l0 cc nL ret own nm Ts fr lo mc ms M00 post xp tab) {o ci j index N : Nat} {C ref : String} {T : u_T} (d : decode cc pc = .ok (.getfield index, 3)) (hc : zc M o = ci + 1) (hq : vwCl[ci]? = some (C, T, N)) (hj : j < N)
    (hlink : Cond.fieldLink own index ref (T j).2.1 (T j).2.2.1 ∈ Ts) (hsame : ref = (T j).1 ∨ Cond.sameField ref (T j).1 (T j).2.1 (T j).2.2.1 ∈ Ts) (hv : ∀ ad, zmv ad M (zct ci j) o j = .long (zl M o j)) {x : Int64} (hx : zl M o j = x)
    (kk : zE g nL (pc + 3) ls (.long x :: rest) M k n) : zE g nL pc ls (.ref o :: rest) M k n := by
  subst hx
  exact z_get0 (v := .long (zl M o j)) X d hc hq hj hlink hsame hv zlv_long kk
theorem z_getR (X : zCx g l0 cc nL ret own nm Ts fr lo mc ms M00 post xp tab) {o ci j index N : Nat} {C ref : String} {T : u_T} (d : decode cc pc = .ok (.getfield index, 3)) (hc : zc M o = ci + 1) (hq : vwCl[ci]? = some (C, T, N)) (hj : j < N)
    (hlink : Cond.fieldLink own index ref (T j).2.1 (T j).2.2.1 ∈ Ts) (hsame : ref = (T j).1 ∨ Cond.sameField ref (T j).1 (T j).2.1 (T j).2.2.1 ∈ Ts) (hv : ∀ ad, zmv ad M (zct ci j) o j = va_rf ((zr M o j).map ad)) {o' : Nat} (hx : zr M o j = some o')
    (kk : zE g nL (pc + 3) ls (.ref o' :: rest) M k n) : zE g nL pc ls (.ref o :: rest) M k n := by
  obtain ⟨p, l, e, R, s, m, args, below, meth, c, D, ad0, M0, Q⟩ := g
  intro ad H locs lss hr hz hS hl hL hT
  refine z_get0 (g := (p, l, e, R, s, m, args, below, meth, c, D, ad0, M0, Q)) X d hc hq hj hlink hsame (v := .ref o') (fun ad => by rw [hv ad, hx]; rfl) (zlv_ref (hr.2.2.2 o j o' (by rw [hc]; exact Nat.succ_ne_zero _) hx)) kk ad H locs lss hr hz hS hl hL hT
theorem z_getN (X : zCx g l0 cc nL ret own nm Ts fr lo mc ms M00 post xp tab) {o ci j index N : Nat} {C ref : String} {T : u_T} (d : decode cc pc = .ok (.getfield index, 3)) (hc : zc M o = ci + 1) (hq : vwCl[ci]? = some (C, T, N)) (hj : j < N)
    (hlink : Cond.fieldLink own index ref (T j).2.1 (T j).2.2.1 ∈ Ts) (hsame : ref = (T j).1 ∨ Cond.sameField ref (T j).1 (T j).2.1 (T j).2.2.1 ∈ Ts) (hv : ∀ ad, zmv ad M (zct ci j) o j = va_rf ((zr M o j).map ad)) (hx : zr M o j = none)
    (kk : zE g nL (pc + 3) ls (.null :: rest) M k n) : zE g nL pc ls (.ref o :: rest) M k n :=
  z_get0 X d hc hq hj hlink hsame (v := .null) (fun ad => by rw [hv ad, hx]; rfl) zlv_null kk
end ZR
/-- M' is M but at the place (o, j) -/
def zoff (M M' : zMem) (o j : Nat) : Prop := zc M' = zc M ∧ zn M' = zn M ∧ ∀ p q, ¬ (p = o ∧ q = j) → zr M' p q = zr M p q ∧ zi M' p q = zi M p q ∧ zl M' p q = zl M p q ∧ zd M' p q = zd M p q
theorem zwi_off {M : zMem} {o j : Nat} {x : Int32} : zoff M (zwi M o j x) o j := ⟨rfl, rfl, fun _ _ h => ⟨rfl, zup_n h, rfl, rfl⟩⟩
theorem zwl_off {M : zMem} {o j : Nat} {x : Int64} : zoff M (zwl M o j x) o j := ⟨rfl, rfl, fun _ _ h => ⟨rfl, rfl, zup_n h, rfl⟩⟩
theorem zwd_off {M : zMem} {o j : Nat} {x : UInt64} : zoff M (zwd M o j x) o j := ⟨rfl, rfl, fun _ _ h => ⟨rfl, rfl, rfl, zup_n h⟩⟩
theorem zwr_off {M : zMem} {o j : Nat} {x : Option Nat} : zoff M (zwr M o j x) o j := ⟨rfl, rfl, fun _ _ h => ⟨zup_n h, rfl, rfl, rfl⟩⟩
theorem zmv_off {ad : Nat → Nat} {M M' : zMem} {o j : Nat} (h : zoff M M' o j) {p q : Nat} (hne : ¬ (p = o ∧ q = j)) (ty : FieldType) : zmv ad M' ty p q = zmv ad M ty p q := by
  obtain ⟨h1, h2, h3, h4⟩ := h.2.2 p q hne
  cases ty <;> simp only [zmv, h1, h2, h3, h4]
theorem zrel_off {D : zG} {ad : Nat → Nat} {M M' : zMem} {H H1 : Heap} {o j : Nat} (hr : zrel D ad M H) (hf : zoff M M' o j) (ho : zc M o ≠ 0) (h19 : zc M o ≠ 19) (hcl : ∀ o', zr M' o j = some o' → zc M o' ≠ 0) (e2 : H1.size = H.size) (e3 : ∀ q : Nat, q ≠ ad o → H1[q]? = H[q]?) (hat : zat D ad M' o H1) : zrel D ad M' H1 := by
  have hc : zc M' = zc M := hf.1
  refine ⟨fun a b h h' k k' => by rw [hc] at h h' k k'; exact hr.1 a b h h' k k', fun a h k => by rw [hc] at h k; rw [e2]; exact hr.2.1 a h k, fun a h => ?_, fun a q b h hb => ?_⟩
  · rw [hc] at h
    by_cases hao : a = o
    · rw [hao]; exact hat
    · by_cases ha19 : zc M a = 19
      · refine ⟨fun ci q hci hq => ?_, fun t ht h6 => ?_⟩
        · rw [hc, ha19] at hci
          have h12 : ci < 11 := (List.getElem?_eq_some_iff.mp hq).1
          omega
        · rw [hc, ha19] at ht
          omega
      have hne : ad a ≠ ad o := fun e => hao (hr.1 a o h ho ha19 h19 e)
      have hm : ∀ ty q, zmv ad M' ty a q = zmv ad M ty a q := fun ty q => zmv_off hf (fun e => hao e.1) ty
      obtain ⟨h1, h2⟩ := hr.2.2.1 a h
      refine ⟨fun ci q hci hq => ?_, fun t ht h6 => ?_⟩
      · rw [hc] at hci
        exact ((h1 ci q hci hq).kept (e3 _ hne)).to (fun x _ => (hm _ _).symm)
      · rw [hc] at ht
        rw [e3 _ hne, h2 t ht h6, hf.2.1]
        congr 2
        funext x
        exact (hm _ _).symm
  · rw [hc] at h ⊢
    by_cases hne : a = o ∧ q = j
    · obtain ⟨rfl, rfl⟩ := hne
      exact hcl b hb
    · rw [(hf.2.2 a q hne).1] at hb
      exact hr.2.2.2 a q b h hb
theorem zx_off {ad0 ad : Nat → Nat} {M0 M M' : zMem} {sz o j : Nat} (h : zx ad0 M0 sz ad M) (hf : zoff M M' o j) : zx ad0 M0 sz ad M' :=
  ⟨fun a ha => by rw [hf.1]; exact h.1 a ha, fun a ha => h.2.1 a (by rw [← hf.1]; exact ha), fun e => h.2.2.1 (by rw [← hf.1]; exact e), fun e => h.2.2.2 (by rw [← hf.1]; exact e)⟩
theorem zA_in {ad0 ad : Nat → Nat} {M0 M : zMem} {sz o : Nat} (h : zx ad0 M0 sz ad M) (ho : zc M o ≠ 0) (h26 : zc M o ≠ 26) (h19 : zc M o ≠ 19) : zA ad0 M0 sz (ad o) := by
  rcases h.2.1 o ho with h1 | h1
  · obtain ⟨a, b⟩ := h.1 o h1
    exact Or.inl ⟨o, h1, by rw [← b]; exact h26, by rw [← b]; exact h19, a⟩
  · exact Or.inr h1
theorem zls_off {M M' : zMem} {o j : Nat} (hf : zoff M M' o j) {st : List Value} (h : zls M st) : zls M' st := zls_mono (fun a ha => by rw [hf.1]; exact ha) h
theorem zll_off {M M' : zMem} {o j : Nat} (hf : zoff M M' o j) {ls : List (Nat × Value)} (h : zll M ls) : zll M' ls := zll_mono (fun a ha => by rw [hf.1]; exact ha) h
section ZP
variable {g : zCtx} {l0 : Launch} {cc : ByteArray} {nL : Nat} {ret : Option FieldType} {own nm : String} {Ts : List Cond} {fr lo mc ms : Nat} {M00 : zMem} {post : Option Value → zMem → Prop} {xp : String → Prop} {tab : List ExceptionTableEntry}
variable {pc : Nat} {ls : List (Nat × Value)} {st rest : List Value} {M : zMem} {k n : Nat}
/-- what the tables say of the slots: they lie apart -/
theorem z_apart {D : zG} {s : State} (hK : zK D s) {ci N : Nat} {C : String} {T : u_T} (hq : vwCl[ci]? = some (C, T, N)) (ty : Nat → FieldType) (hty : ∀ k, k < N → parseFieldDescriptor (T k).2.2.1 = some (ty k)) (hnm : ∀ a, a < N → ∀ b, b < N → a ≠ b → (T a).2.1 ≠ (T b).2.1) : ∀ x y, x < N → y < N → x ≠ y → (D.1.2 ci) x ≠ (D.1.2 ci) y := by
  intro x y hx hy hne
  obtain ⟨hS, -⟩ := hK.1.1 ci _ hq
  have hlay := hK.2 ci _ hq
  obtain ⟨_, _, _, fa, hia, ea⟩ := hS x hx
  obtain ⟨_, _, _, fb, hib, eb⟩ := hS y hy
  rw [← ea, ← eb]
  refine u_apart (u_lays hlay (fun _ h => h) hx) (u_lays hlay (fun _ h => h) hy) hia hib ?_
  rw [(State.fieldFound?_type hia (hty x hx)).1, (State.fieldFound?_type hib (hty y hy)).1]
  exact hnm x hx y hy hne
/-- the names and types of the fields of the classes of vwCl -/
def zokC (ci : Nat) (q : vw_C) : Prop := (∀ k, k < q.2.2 → parseFieldDescriptor (q.2.1 k).2.2.1 = some (zct ci k)) ∧ (∀ a, a < q.2.2 → ∀ b, b < q.2.2 → a ≠ b → (q.2.1 a).2.1 ≠ (q.2.1 b).2.1)
theorem zokC_all : ∀ ci : Nat, ∀ q, vwCl[ci]? = some q → zokC ci q := by
  intro ci q hq
  have hci : ci < 11 := (List.getElem?_eq_some_iff.mp hq).1
  rcases ci with _ | _ | _ | _ | _ | _ | _ | _ | _ | _ | _ | ci
  · cases hq; exact ⟨tyJ0_ok, nmJ0⟩
  · cases hq; exact ⟨tyJx00060_ok, nmJx00060⟩
  · cases hq; exact ⟨tyJx4a65c_ok, nmJx4a65c⟩
  · cases hq; exact ⟨tyX0_ok, nmX0⟩
  · cases hq; exact ⟨tyX1_ok, nmX1⟩
  · cases hq; exact ⟨tyX2_ok, nmX2⟩
  · cases hq; exact ⟨tyX3_ok, nmX3⟩
  · cases hq; exact ⟨tyX4_ok, nmX4⟩
  · cases hq; exact ⟨tyX5_ok, nmX5⟩
  · cases hq; exact ⟨tyX6_ok, nmX6⟩
  · cases hq; exact ⟨tyX7_ok, nmX7⟩
  · omega
/-- a field's new value -/
theorem z_put0 (X : zCx g l0 cc nL ret own nm Ts fr lo mc ms M00 post xp tab) {o ci j index N : Nat} {C ref : String} {T : u_T} (d : decode cc pc = .ok (.putfield index, 3)) (hc : zc M o = ci + 1) (hq : vwCl[ci]? = some (C, T, N)) (hj : j < N)
    (hlink : Cond.fieldLink own index ref (T j).2.1 (T j).2.2.1 ∈ Ts) (hsame : ref = (T j).1 ∨ Cond.sameField ref (T j).1 (T j).2.1 (T j).2.2.1 ∈ Ts) (hfin : (T j).2.2.2 = false ∨ ((T j).2.2.2 = true ∧ nm = "<init>" ∧ (T j).1 = own))
    {M' : zMem} {v : Value} (hoff : zoff M M' o j) (hcl : ∀ o', zr M' o j = some o' → zc M o' ≠ 0) (hv : ∀ ad, zmv ad M' (zct ci j) o j = zph ad v) (hn9 : ∀ ad, narrow (zct ci j) (zph ad v) = zph ad v) (hf9 : ∀ ad, fits (zct ci j) (zph ad v) = true)
    (kk : zE g nL (pc + 3) ls rest M' k n) : zE g nL pc ls (v :: .ref o :: rest) M k n := by
  obtain ⟨p, l, e, R, s, m, args, below, meth, c, D, ad0, M0, Q⟩ := g
  obtain ⟨h0, hx, hb, hml, hrt, hown, hnm, hts, hR, hM0, hQ, hlk, htab, hks⟩ := X
  intro ad H locs lss hr hz hS hl hL hT
  have ho : zc M o ≠ 0 := by rw [hc]; exact Nat.succ_ne_zero _
  have hci : ci < 11 := (List.getElem?_eq_some_iff.mp hq).1
  obtain ⟨hty, hnm9⟩ := zokC_all ci _ hq
  have hap := z_apart hks.1 hq (zct ci) hty hnm9
  obtain ⟨hat1, hat2⟩ := hr.2.2.1 o ho
  obtain ⟨cell, q1, q2, q3, q4⟩ := hat1 ci _ hc hq
  obtain ⟨hSl, hfc, kC, hkC, hkind⟩ := hks.1.1.1 ci _ hq
  obtain ⟨cf, kf, fi, f, hi, hsl⟩ := hSl j hj
  have hlay := hks.1.2 ci _ hq
  have hi' : s.fieldFound? ref (T j).2.1 (T j).2.2.1 = some (cf, kf, fi, f) := by
    rcases hsame with e | e
    · rw [e]; exact hi
    · exact u_same (hts _ e) _ hi
  have hst := (u_facts hfc hkC (u_lays hlay (fun _ h => h) hj) hi).1
  have hA := zA_in hz ho (by rw [hc]; omega) (by rw [hc]; omega)
  have key : ∀ H' : Heap, H'[ad o]? = some (cell.setSlot f.slot (zph ad v)) → H'.size = H.size → (∀ q, q ≠ ad o → H'[q]? = H[q]?) → W p l e R s m args below meth c H' (locs ++ [⟨ad o, f.slot⟩]) k n Q { F0 m pc lss (zph ad v :: .ref (ad o) :: rest.map (zph ad)) with pc := pc + 3, stack := rest.map (zph ad) } := by
    intro H' e1 e2 e3
    rw [hsl] at e1 ⊢
    refine kk ad H' _ lss (zrel_off hr hoff ho (by rw [hc]; omega) hcl e2 e3 ⟨fun ci' q' hc' hq' => ?_, fun t ht h6 => ?_⟩) (zx_off hz hoff) (hS.put e2 e3 hA) hl (zll_off hoff hL) (zls_off hoff (zls_t (zls_t hT)))
    · rw [hoff.1, hc] at hc'
      have hcc : ci = ci' := Nat.succ.inj hc'
      subst hcc
      rw [hq] at hq'
      cases hq'
      refine t_OB.to (V := updV (fun x => zmv ad M (zct ci x) o x) j (zph ad v)) ⟨_, e1, q2, q3, t_set q4 hap hj (zph ad v)⟩ (fun x _ => ?_)
      by_cases hxj : x = j
      · subst hxj
        show updV _ _ _ _ = _
        simp only [updV, if_pos rfl]
        exact (hv ad).symm
      · show updV _ _ _ _ = _
        simp only [updV, if_neg hxj]
        exact (zmv_off hoff (fun e => hxj e.2) _).symm
    · rw [hoff.1, hc] at ht
      omega
  rcases hfin with hfin | ⟨hfin, hin2, hdecl⟩
  · have hl9 := hlay _ (u_in_lay hj)
    unfold u_lay at hl9
    rw [if_neg (by rw [hfin]; decide)] at hl9
    have h6 := u_store hfc hkC hkind hl9 hi (hty j hj) (hn9 ad) (hf9 ad)
    exact W.putK hx hb (f := f) ⟨hown, hts _ hlink, ⟨_, _, _, hi'⟩, hst⟩ (by rw [q2]; exact h6) q1 q3 (by rw [hsl]; exact k2_hasslot (q4 j hj)) rfl rfl d key
  · have hl9 := hlay _ (u_in_lay hj)
    unfold u_lay at hl9
    rw [if_pos hfin] at hl9
    have hcf : m.cls = cf := by
      obtain ⟨_, _, c', _, _, _, -, -, hf', -, -, -, hown2, -⟩ := Cond.laysFinal_spec hl9
      have e1 : c' = cf := by have := hi.symm.trans hf'; simp at this; exact this.1.symm
      rw [hdecl] at hown2
      rw [← e1]; exact Option.some.inj (hown.symm.trans hown2)
    have h6 := u_fits hfc hkC hkind (Or.inr hl9) hi (hty j hj) (hn9 ad) (hf9 ad)
    exact W.putFinK hx hb hown (hts _ hlink) hi' hst hcf (hnm.trans hin2) (by rw [q2]; exact h6) q1 q3 (by rw [hsl]; exact k2_hasslot (q4 j hj)) rfl rfl d key
theorem z_putI (X : zCx g l0 cc nL ret own nm Ts fr lo mc ms M00 post xp tab) {o ci j index N : Nat} {C ref : String} {T : u_T} (d : decode cc pc = .ok (.putfield index, 3)) (hc : zc M o = ci + 1) (hq : vwCl[ci]? = some (C, T, N)) (hj : j < N)
    (hlink : Cond.fieldLink own index ref (T j).2.1 (T j).2.2.1 ∈ Ts) (hsame : ref = (T j).1 ∨ Cond.sameField ref (T j).1 (T j).2.1 (T j).2.2.1 ∈ Ts) (hfin : (T j).2.2.2 = false ∨ ((T j).2.2.2 = true ∧ nm = "<init>" ∧ (T j).1 = own))
    {x : Int32} (hv : ∀ ad, zmv ad (zwi M o j x) (zct ci j) o j = .int (zi (zwi M o j x) o j)) (hn9 : narrow (zct ci j) (.int x) = .int x) (hf9 : fits (zct ci j) (.int x) = true)
    (kk : zE g nL (pc + 3) ls rest (zwi M o j x) k n) : zE g nL pc ls (.int x :: .ref o :: rest) M k n := by
  obtain ⟨p, l, e, R, s, m, args, below, meth, c, D, ad0, M0, Q⟩ := g
  intro ad H locs lss hr hz hS hl hL hT
  exact z_put0 (g := (p, l, e, R, s, m, args, below, meth, c, D, ad0, M0, Q)) X d hc hq hj hlink hsame hfin (v := .int x) zwi_off (fun o' h => hr.2.2.2 o j o' (by rw [hc]; exact Nat.succ_ne_zero _) h) (fun ad => by rw [hv ad]; exact congrArg Value.int zup_s) (fun _ => hn9) (fun _ => hf9) kk ad H locs lss hr hz hS hl hL hT
theorem z_putL (X : zCx g l0 cc nL ret own nm Ts fr lo mc ms M00 post xp tab) {o ci j index N : Nat} {C ref : String} {T : u_T} (d : decode cc pc = .ok (.putfield index, 3)) (hc : zc M o = ci + 1) (hq : vwCl[ci]? = some (C, T, N)) (hj : j < N)
    (hlink : Cond.fieldLink own index ref (T j).2.1 (T j).2.2.1 ∈ Ts) (hsame : ref = (T j).1 ∨ Cond.sameField ref (T j).1 (T j).2.1 (T j).2.2.1 ∈ Ts) (hfin : (T j).2.2.2 = false ∨ ((T j).2.2.2 = true ∧ nm = "<init>" ∧ (T j).1 = own))
    {x : Int64} (hv : ∀ ad, zmv ad (zwl M o j x) (zct ci j) o j = .long (zl (zwl M o j x) o j)) (hn9 : narrow (zct ci j) (.long x) = .long x) (hf9 : fits (zct ci j) (.long x) = true)
    (kk : zE g nL (pc + 3) ls rest (zwl M o j x) k n) : zE g nL pc ls (.long x :: .ref o :: rest) M k n := by
  obtain ⟨p, l, e, R, s, m, args, below, meth, c, D, ad0, M0, Q⟩ := g
  intro ad H locs lss hr hz hS hl hL hT
  exact z_put0 (g := (p, l, e, R, s, m, args, below, meth, c, D, ad0, M0, Q)) X d hc hq hj hlink hsame hfin (v := .long x) zwl_off (fun o' h => hr.2.2.2 o j o' (by rw [hc]; exact Nat.succ_ne_zero _) h) (fun ad => by rw [hv ad]; exact congrArg Value.long zup_s) (fun _ => hn9) (fun _ => hf9) kk ad H locs lss hr hz hS hl hL hT
theorem z_putR (X : zCx g l0 cc nL ret own nm Ts fr lo mc ms M00 post xp tab) {o ci j index N : Nat} {C ref : String} {T : u_T} (d : decode cc pc = .ok (.putfield index, 3)) (hc : zc M o = ci + 1) (hq : vwCl[ci]? = some (C, T, N)) (hj : j < N)
    (hlink : Cond.fieldLink own index ref (T j).2.1 (T j).2.2.1 ∈ Ts) (hsame : ref = (T j).1 ∨ Cond.sameField ref (T j).1 (T j).2.1 (T j).2.2.1 ∈ Ts) (hfin : (T j).2.2.2 = false ∨ ((T j).2.2.2 = true ∧ nm = "<init>" ∧ (T j).1 = own))
    {x : Nat} (hv : ∀ ad, zmv ad (zwr M o j (some x)) (zct ci j) o j = va_rf ((zr (zwr M o j (some x)) o j).map ad)) (hn9 : ∀ a, narrow (zct ci j) (.ref a) = .ref a) (hf9 : ∀ a, fits (zct ci j) (.ref a) = true)
    (kk : zE g nL (pc + 3) ls rest (zwr M o j (some x)) k n) : zE g nL pc ls (.ref x :: .ref o :: rest) M k n := by
  obtain ⟨p, l, e, R, s, m, args, below, meth, c, D, ad0, M0, Q⟩ := g
  intro ad H locs lss hr hz hS hl hL hT
  have e9 : zr (zwr M o j (some x)) o j = some x := zup_s
  refine z_put0 (g := (p, l, e, R, s, m, args, below, meth, c, D, ad0, M0, Q)) X d hc hq hj hlink hsame hfin (v := .ref x) zwr_off (fun o' h => ?_) (fun ad => by rw [hv ad, e9]; rfl) (fun ad => hn9 _) (fun ad => hf9 _) kk ad H locs lss hr hz hS hl hL hT
  rw [e9] at h
  cases h
  exact zls_h hT _ rfl
theorem z_putN (X : zCx g l0 cc nL ret own nm Ts fr lo mc ms M00 post xp tab) {o ci j index N : Nat} {C ref : String} {T : u_T} (d : decode cc pc = .ok (.putfield index, 3)) (hc : zc M o = ci + 1) (hq : vwCl[ci]? = some (C, T, N)) (hj : j < N)
    (hlink : Cond.fieldLink own index ref (T j).2.1 (T j).2.2.1 ∈ Ts) (hsame : ref = (T j).1 ∨ Cond.sameField ref (T j).1 (T j).2.1 (T j).2.2.1 ∈ Ts) (hfin : (T j).2.2.2 = false ∨ ((T j).2.2.2 = true ∧ nm = "<init>" ∧ (T j).1 = own))
    (hv : ∀ ad, zmv ad (zwr M o j none) (zct ci j) o j = va_rf ((zr (zwr M o j none) o j).map ad)) (hn9 : narrow (zct ci j) .null = .null) (hf9 : fits (zct ci j) .null = true)
    (kk : zE g nL (pc + 3) ls rest (zwr M o j none) k n) : zE g nL pc ls (.null :: .ref o :: rest) M k n := by
  have e9 : zr (zwr M o j none) o j = none := zup_s
  exact z_put0 X d hc hq hj hlink hsame hfin (v := .null) zwr_off (fun o' h => by rw [e9] at h; cases h) (fun ad => by rw [hv ad, e9]; rfl) (fun _ => hn9) (fun _ => hf9) kk
end ZP
section ZA
variable {g : zCtx} {l0 : Launch} {cc : ByteArray} {nL : Nat} {ret : Option FieldType} {own nm : String} {Ts : List Cond} {fr lo mc ms : Nat} {M00 : zMem} {post : Option Value → zMem → Prop} {xp : String → Prop} {tab : List ExceptionTableEntry}
variable {pc : Nat} {ls : List (Nat × Value)} {st rest : List Value} {M : zMem} {k n : Nat}
theorem z_iald (X : zCx g l0 cc nL ret own nm Ts fr lo mc ms M00 post xp tab) {o : Nat} {i : Int32} {j : Nat} {x : Int32} (d : decode cc pc = .ok (.iaload, 1)) (hc : zc M o = 20) (hin : vp_in i (zn M o)) (hj : i.toNatClampNeg = j) (hx9 : zi M o j = x)
    (kk : zE g nL (pc + 1) ls (.int x :: rest) M k n) : zE g nL pc ls (.int i :: .ref o :: rest) M k n := by
  subst hj; subst hx9
  obtain ⟨p, l, e, R, s, m, args, below, meth, c, D, ad0, M0, Q⟩ := g
  obtain ⟨h0, hx, hb, hml, hrt, hown, hnm, hts, hR, hM0, hQ, hlk, htab, hks⟩ := X
  intro ad H locs lss hr hz hS hl hL hT
  have ho : zc M o ≠ 0 := by rw [hc]; decide
  have hlt : i.toNatClampNeg < zn M o := Nat.not_le.mp fun q => hin (Or.inr q)
  have hcell := (hr.2.2.1 o ho).2 0 hc (by decide)
  exact W.iald (v := .int (zi M o i.toNatClampNeg)) hx hb hcell ((hks.1.1.2 0 _ rfl).1 (zn M o) (fun j => .int (zi M o j))) (fun q => by cases q) (by rw [arrV_size]; exact hin) (by rw [arrV_read _ _ hlt]; rfl) rfl rfl d (kk ad H locs lss hr hz hS hl hL (zls_c zlv_int (zls_t (zls_t hT))))
theorem z_iast (X : zCx g l0 cc nL ret own nm Ts fr lo mc ms M00 post xp tab) {o : Nat} {i : Int32} {j : Nat} {x : Int32} (d : decode cc pc = .ok (.iastore, 1)) (hc : zc M o = 20) (hin : vp_in i (zn M o)) (hj : i.toNatClampNeg = j)
    (kk : zE g nL (pc + 1) ls rest (zwi M o j x) k n) : zE g nL pc ls (.int x :: .int i :: .ref o :: rest) M k n := by
  subst hj
  obtain ⟨p, l, e, R, s, m, args, below, meth, c, D, ad0, M0, Q⟩ := g
  obtain ⟨h0, hx, hb, hml, hrt, hown, hnm, hts, hR, hM0, hQ, hlk, htab, hks⟩ := X
  intro ad H locs lss hr hz hS hl hL hT
  have ho : zc M o ≠ 0 := by rw [hc]; decide
  have hcell := (hr.2.2.1 o ho).2 0 hc (by decide)
  have hA := zA_in hz ho (by rw [hc]; decide) (by rw [hc]; decide)
  refine W.iast hx hb hcell ((hks.1.1.2 0 _ rfl).1 (zn M o) (fun j => .int (zi M o j))) (fun q => by cases q) (by rw [arrV_size]; exact hin) rfl rfl d fun H1 e1 e2 e3 => ?_
  have hoff : zoff M (zwi M o i.toNatClampNeg x) o i.toNatClampNeg := zwi_off
  refine kk ad H1 _ lss (zrel_off hr hoff ho (by rw [hc]; decide) (fun o' h => hr.2.2.2 o _ o' ho h) e2 e3 ⟨fun ci' q' hc' hq' => ?_, fun t ht h6 => ?_⟩) (zx_off hz hoff) (hS.put e2 e3 hA) hl (zll_off hoff hL) (zls_off hoff (zls_t (zls_t (zls_t hT))))
  · rw [hoff.1, hc] at hc'
    have h12 : ci' < 11 := (List.getElem?_eq_some_iff.mp hq').1
    omega
  · rw [hoff.1, hc] at ht
    have et : t = 0 := by omega
    subst et
    rw [e1, arrV_store]
    show some (arrV _ _ _) = some (arrV _ _ _)
    congr 2
    funext q
    by_cases hq : q = i.toNatClampNeg
    · subst hq
      simp only [updV, if_pos rfl]
      exact (congrArg Value.int zup_s).symm
    · simp only [updV, if_neg hq]
      exact (zmv_off hoff (fun e => hq e.2) _).symm
theorem z_alen (X : zCx g l0 cc nL ret own nm Ts fr lo mc ms M00 post xp tab) {o t : Nat} {v : Int32} (d : decode cc pc = .ok (.arraylength, 1)) (hc : zc M o = t + 20) (ht6 : t = 0 ∨ t = 5) (hv : Int32.ofNat (zn M o) = v)
    (kk : zE g nL (pc + 1) ls (.int v :: rest) M k n) : zE g nL pc ls (.ref o :: rest) M k n := by
  subst hv
  obtain ⟨p, l, e, R, s, m, args, below, meth, c, D, ad0, M0, Q⟩ := g
  obtain ⟨h0, hx, hb, hml, hrt, hown, hnm, hts, hR, hM0, hQ, hlk, htab, hks⟩ := X
  intro ad H locs lss hr hz hS hl hL hT
  have ho : zc M o ≠ 0 := by rw [hc]; omega
  have hcell := (hr.2.2.1 o ho).2 t hc (by omega)
  have harr : ∃ ty, s.isArrayOf (arrV (D.2 (if t = 6 then 5 else t)) (zn M o) (fun j => zmv ad M (zaty t) o j)) ty := by
    rcases ht6 with rfl | rfl
    · exact ⟨_, (hks.1.1.2 0 _ rfl).1 _ _⟩
    · exact ⟨_, (hks.1.1.2 5 _ rfl).1 _ _⟩
  obtain ⟨ty, harr⟩ := harr
  exact W.alen (n := Int32.ofNat (zn M o)) hx hb hcell harr (by rw [arrV_size]; try rfl) rfl rfl d (kk ad H locs lss hr hz hS hl hL (zls_c zlv_int (zls_t hT)))
/-- the length of the row without cells -/
theorem z_alenE (X : zCx g l0 cc nL ret own nm Ts fr lo mc ms M00 post xp tab) {v : Int32} (d : decode cc pc = .ok (.arraylength, 1)) (hE : zc M00 zE0 = 26) (hv : (0 : Int32) = v)
    (kk : zE g nL (pc + 1) ls (.int v :: rest) M k n) : zE g nL pc ls (.ref zE0 :: rest) M k n := by
  subst hv
  obtain ⟨p, l, e, R, s, m, args, below, meth, c, D, ad0, M0, Q⟩ := g
  obtain ⟨h0, hx, hb, hml, hrt, hown, hnm, hts, hR, hM0, hQ, hlk, htab, hks⟩ := X
  intro ad H locs lss hr hz hS hl hL hT
  subst hM0
  obtain ⟨-, ce, h1, h2, -, -, h3, -⟩ := (hks.2.1.on hz hS).2.2.1 (((hz.1 zE0 (by rw [hE]; decide)).2).trans hE)
  exact W.alen (n := 0) hx hb h1 h2 h3 rfl rfl d (kk ad H locs lss hr hz hS hl hL (zls_c zlv_int (zls_t hT)))
theorem z_aald (X : zCx g l0 cc nL ret own nm Ts fr lo mc ms M00 post xp tab) {o : Nat} {i : Int32} {j o' : Nat} (d : decode cc pc = .ok (.aaload, 1)) (hc : zc M o = 25) (hin : vp_in i (zn M o)) (hj : i.toNatClampNeg = j) (hx9 : zr M o j = some o')
    (kk : zE g nL (pc + 1) ls (.ref o' :: rest) M k n) : zE g nL pc ls (.int i :: .ref o :: rest) M k n := by
  subst hj
  obtain ⟨p, l, e, R, s, m, args, below, meth, c, D, ad0, M0, Q⟩ := g
  obtain ⟨h0, hx, hb, hml, hrt, hown, hnm, hts, hR, hM0, hQ, hlk, htab, hks⟩ := X
  intro ad H locs lss hr hz hS hl hL hT
  have ho : zc M o ≠ 0 := by rw [hc]; decide
  have hlt : i.toNatClampNeg < zn M o := Nat.not_le.mp fun q => hin (Or.inr q)
  have hcell := (hr.2.2.1 o ho).2 5 hc (by decide)
  exact W.aald (v := .ref (ad o')) (ty := .object "java/lang/Object") hx hb hcell ((hks.1.1.2 5 _ rfl).1 (zn M o) (fun j => zmv ad M (zaty 5) o j)) rfl (fun q => by cases q) (by rw [arrV_size]; exact hin) (by rw [arrV_read _ _ hlt]; show some (va_rf ((zr M o _).map ad)) = _; rw [hx9]; rfl) rfl rfl d (kk ad H locs lss hr hz hS hl hL (zls_c (zlv_ref (hr.2.2.2 o _ o' ho hx9)) (zls_t (zls_t hT))))
end ZA
