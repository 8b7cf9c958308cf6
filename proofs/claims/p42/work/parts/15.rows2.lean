/-! PART 15: rows of zE: new rows, Object's constructor, casts, what ArrayList needs -/
theorem zaty_RA {D : zG} {s : State} (hK : zK D s) {t : Nat} (ht : t = 0) : s.vm.findClass ("[" ++ (zaty t).toString) = some (D.2 t) := by
  subst ht
  exact (hK.1.2 0 _ rfl).2
/-- M' is M but at the name o -/
def zoffO (M M' : zMem) (o : Nat) : Prop := zc M' = zc M ∧ zn M' = zn M ∧ ∀ p q, p ≠ o → zr M' p q = zr M p q ∧ zi M' p q = zi M p q ∧ zl M' p q = zl M p q ∧ zd M' p q = zd M p q
theorem zmv_offO {ad : Nat → Nat} {M M' : zMem} {o : Nat} (h : zoffO M M' o) {p q : Nat} (hne : p ≠ o) (ty : FieldType) : zmv ad M' ty p q = zmv ad M ty p q := by
  obtain ⟨h1, h2, h3, h4⟩ := h.2.2 p q hne
  cases ty <;> simp only [zmv, h1, h2, h3, h4]
theorem zrel_offO {D : zG} {ad : Nat → Nat} {M M' : zMem} {H H1 : Heap} {o : Nat} (hr : zrel D ad M H) (hf : zoffO M M' o) (ho : zc M o ≠ 0) (h19 : zc M o ≠ 19) (hcl : ∀ j o', zr M' o j = some o' → zc M o' ≠ 0) (e2 : H1.size = H.size) (e3 : ∀ q : Nat, q ≠ ad o → H1[q]? = H[q]?) (hat : zat D ad M' o H1) : zrel D ad M' H1 := by
  have hc : zc M' = zc M := hf.1
  refine ⟨fun a b h h' k k' => by rw [hc] at h h' k k'; exact hr.1 a b h h' k k', fun a h k => by rw [hc] at h k; rw [e2]; exact hr.2.1 a h k, fun a h => ?_, fun a q b h hb => ?_⟩
  · rw [hc] at h
    by_cases hao : a = o
    · rw [hao]; exact hat
    · by_cases ha19 : zc M a = 19
      · refine ⟨fun ci q hci hq => ?_, fun t ht h6 => ?_⟩
        · rw [hc, ha19] at hci
          have h12 : ci < 11 := (List.getElem?_eq_some_iff.mp hq).1
          omega
        · rw [hc, ha19] at ht
          omega
      have hne : ad a ≠ ad o := fun e => hao (hr.1 a o h ho ha19 h19 e)
      have hm : ∀ ty q, zmv ad M' ty a q = zmv ad M ty a q := fun ty q => zmv_offO hf hao ty
      obtain ⟨h1, h2⟩ := hr.2.2.1 a h
      refine ⟨fun ci q hci hq => ?_, fun t ht h6 => ?_⟩
      · rw [hc] at hci
        exact ((h1 ci q hci hq).kept (e3 _ hne)).to (fun x _ => (hm _ _).symm)
      · rw [hc] at ht
        rw [e3 _ hne, h2 t ht h6, hf.2.1]
        congr 2
        funext x
        exact (hm _ _).symm
  · rw [hc] at h ⊢
    by_cases hao : a = o
    · rw [hao] at hb
      exact hcl q b hb
    · rw [(hf.2.2 a q hao).1] at hb
      exact hr.2.2.2 a q b h hb
theorem zx_offO {ad0 ad : Nat → Nat} {M0 M M' : zMem} {sz o : Nat} (h : zx ad0 M0 sz ad M) (hf : zoffO M M' o) : zx ad0 M0 sz ad M' :=
  ⟨fun a ha => by rw [hf.1]; exact h.1 a ha, fun a ha => h.2.1 a (by rw [← hf.1]; exact ha), fun e => h.2.2.1 (by rw [← hf.1]; exact e), fun e => h.2.2.2 (by rw [← hf.1]; exact e)⟩
/-- the first n cells of the row src copied into the row dst -/
def zcpy (M : zMem) (src dst n : Nat) : zMem := (M.1, M.2.1, fun p q => if p = dst ∧ q < n then M.2.2.1 src q else M.2.2.1 p q, M.2.2.2.1, M.2.2.2.2.1, M.2.2.2.2.2)
section ZR2
variable {g : zCtx} {l0 : Launch} {cc : ByteArray} {nL : Nat} {ret : Option FieldType} {own nm : String} {Ts : List Cond} {fr lo mc ms : Nat} {M00 : zMem} {post : Option Value → zMem → Prop} {xp : String → Prop} {tab : List ExceptionTableEntry}
variable {pc : Nat} {ls ls' : List (Nat × Value)} {st rest : List Value} {M : zMem} {k n : Nat}
theorem z_newa (X : zCx g l0 cc nL ret own nm Ts fr lo mc ms M00 post xp tab) {atype : ArrayType} {t : Nat} {x : Int32} {N : Nat} (o : Nat) (d : decode cc pc = .ok (.newarray atype, 2)) (ht : newarray.typeOf atype = zaty t) (ht4 : t = 0) (harr : Cond.arrayClass (newarray.typeOf atype) ∈ Ts) (hx9 : ¬ x < 0) (hN : x.toNatClampNeg = N) (hby : N * componentBytes (newarray.typeOf atype) ≤ 536870912) (ho : zc M o = 0) (ho31 : o ≠ zE0) (ho63 : o ≠ zMi) (hk9 : k + 1 ≤ mc ∧ n + N ≤ ms)
    (kk : zE g nL (pc + 2) ls (.ref o :: rest) (znew M o (t + 20) N) (k + 1) (n + N)) : zE g nL pc ls (.int x :: rest) M k n := by
  obtain ⟨p, l, e, R, s, m, args, below, meth, c, D, ad0, M0, Q⟩ := g
  obtain ⟨h0, hx, hb, hml, hrt, hown, hnm, hts, hR, hM0, hQ, hlk, htab, hks⟩ := X
  intro ad H locs lss hr hz hS hl hL hT
  subst hR
  refine va_newaK hx hb (hts _ harr) rfl d rfl hx9 hN hby hk9.1 hk9.2 rfl fun H1 cA e1 z1 o1 hAr hNm => ?_
  have hcA : cA = D.2 t := by
    rw [ht] at hNm
    exact Option.some.inj (hNm.symm.trans (zaty_RA hks.1 ht4))
  have hT' := zls_t hT
  have he : ∀ a, zc M a ≠ 0 → (fun a => if a = o then H.size else ad a) a = ad a := fun a ha => if_neg (fun e => ha (by rw [e]; exact ho))
  have hkind : zc (znew M o (t + 20) N) o = t + 20 := if_pos rfl
  have hr9 : zrel D (fun a => if a = o then H.size else ad a) (znew M o (t + 20) N) H1 := zrel_new hr ho (by omega) z1 o1 ⟨fun ci' q' hc' hq' => (by
    rw [hkind] at hc'
    have h12 : ci' < 11 := (List.getElem?_eq_some_iff.mp hq').1
    omega), fun t' ht' h6 => (by
    rw [hkind] at ht'
    have htt : t' = t := by omega
    subst htt
    show H1[if o = o then H.size else ad o]? = some (arrV _ (if o = o then N else _) _)
    rw [if_pos rfl, if_pos rfl, e1, hcA, if_neg (by omega), ht]
    congr 2
    funext j
    exact (zmv_new _ _).symm)⟩
  have k9 := kk _ H1 locs lss hr9 (zx_new hz ho (by omega) hS.1 ho31 ho63) ⟨Nat.le_trans hS.1 (by omega), fun x h1 h2 => (o1 x (Nat.lt_of_lt_of_le h1 hS.1)).trans (hS.2.1 x h1 h2), hS.2.2⟩ (by rw [zll_congr he hL]; exact hl) (zll_mono (fun a ha => zc_new ha ho) hL) (zls_c (zlv_ref (by rw [hkind]; omega)) (zls_mono (fun a ha => zc_new ha ho) hT'))
  have e9 : (Value.ref o :: rest).map (zph (fun a => if a = o then H.size else ad a)) = .ref H.size :: rest.map (zph ad) := by
    rw [List.map_cons, zst_congr he hT']
    show Value.ref (if o = o then H.size else ad o) :: _ = _
    rw [if_pos rfl]
  rw [e9] at k9
  exact k9
theorem z_objInit (X : zCx g l0 cc nL ret own nm Ts fr lo mc ms M00 post xp tab) {index : Nat} {v : Value} {o : Nat} (d : decode cc pc = .ok (.invokespecial index, 3)) (hlink : Cond.methodLink own index Lib.objectInit ∈ Ts) (hinst : Cond.instanceMethod Lib.objectInit ∈ Ts) (hcode : Cond.code Lib.objectInit ⟨#[0xb1]⟩ 1 none ∈ Ts) (hfr : 1 ≤ fr) (hlo : (rest.map fun v => v.category).sum + 12 ≤ lo)
    (kk : zE g nL (pc + 3) ls rest M k n) : zE g nL pc ls (.ref o :: rest) M k n := by
  obtain ⟨p, l, e, R, s, m, args, below, meth, c, D, ad0, M0, Q⟩ := g
  obtain ⟨h0, hx, hb, hml, hrt, hown, hnm, hts, hR, hM0, hQ, hlk, htab, hks⟩ := X
  intro ad H locs lss hr hz hS hl hL hT
  subst hR
  exact W.objInit hx hb hown (hts _ hlink) (hts _ hinst) (hts _ hcode) rfl (hl.1.trans hml.symm) rfl d hfr (by rw [zcats]; show 2 * 0 + _ + 12 ≤ lo; omega) (kk ad H locs lss hr hz hS hl hL (zls_t hT))
theorem z_ckc (X : zCx g l0 cc nL ret own nm Ts fr lo mc ms M00 post xp tab) {index ci N o : Nat} {C : String} {T : u_T} (d : decode cc pc = .ok (.checkcast index, 3)) (hlink : Cond.classLink own index C ∈ Ts) (hc : zc M o = ci + 1) (hq : vwCl[ci]? = some (C, T, N))
    (kk : zE g nL (pc + 3) ls (.ref o :: rest) M k n) : zE g nL pc ls (.ref o :: rest) M k n := by
  obtain ⟨p, l, e, R, s, m, args, below, meth, c, D, ad0, M0, Q⟩ := g
  obtain ⟨h0, hx, hb, hml, hrt, hown, hnm, hts, hR, hM0, hQ, hlk, htab, hks⟩ := X
  intro ad H locs lss hr hz hS hl hL hT
  have ho : zc M o ≠ 0 := by rw [hc]; exact Nat.succ_ne_zero _
  obtain ⟨cell, q1, q2, q3, -⟩ := (hr.2.2.1 o ho).1 ci _ hc hq
  have hcl := (hks.1.1.1 ci _ hq).2
  exact va_castS hx hb hown (hts _ hlink) hcl ⟨cell, q1, by rw [q3]; rfl, by rw [q2]; exact hcl.1⟩ d (kk ad H locs lss hr hz hS hl hL hT)
/-- ArrayList's empty row -/
theorem z_getE (X : zCx g l0 cc nL ret own nm Ts fr lo mc ms M00 post xp tab) {index : Nat} (hE : zc M00 zE0 = 26) (d : decode cc pc = .ok (.getstatic index, 3)) (hlink : Cond.fieldLink own index "java/util/ArrayList" "DEFAULTCAPACITY_EMPTY_ELEMENTDATA" "[Ljava/lang/Object;" ∈ Ts)
    (kk : zE g nL (pc + 3) ls (.ref zE0 :: st) M k n) : zE g nL pc ls st M k n := by
  obtain ⟨p, l, e, R, s, m, args, below, meth, c, D, ad0, M0, Q⟩ := g
  obtain ⟨h0, hx, hb, hml, hrt, hown, hnm, hts, hR, hM0, hQ, hlk, htab, hks⟩ := X
  intro ad H locs lss hr hz hS hl hL hT
  subst hM0
  obtain ⟨a9, b9⟩ := hz.1 zE0 (by rw [hE]; decide)
  have k9 := kk ad H locs lss hr hz hS hl hL (zls_c (zlv_ref (by rw [b9, hE]; decide)) hT)
  refine va_gets hx hb (v := .ref (ad zE0)) (by rw [a9]; exact (hks.2.1.2.2.1 hE).1) hS hown (hts _ hlink) (fun _ h => h) d k9
theorem z_ldcM (X : zCx g l0 cc nL ret own nm Ts fr lo mc ms M00 post xp tab) {index : Nat} (hE : zc M00 zMi = 19) (d : decode cc pc = .ok (.ldc index, 2)) (hlink : Cond.classLink own index "[Ljava/lang/Object;" ∈ Ts)
    (kk : zE g nL (pc + 2) ls (.ref zMi :: st) M k n) : zE g nL pc ls st M k n := by
  obtain ⟨p, l, e, R, s, m, args, below, meth, c, D, ad0, M0, Q⟩ := g
  obtain ⟨h0, hx, hb, hml, hrt, hown, hnm, hts, hR, hM0, hQ, hlk, htab, hks⟩ := X
  intro ad H locs lss hr hz hS hl hL hT
  subst hM0
  obtain ⟨a9, b9⟩ := hz.1 zMi (by rw [hE]; decide)
  have k9 := kk ad H locs lss hr hz hS hl hL (zls_c (zlv_ref (by rw [b9, hE]; decide)) hT)
  exact va_ldcM hx hb hown (hts _ hlink) (by rw [a9]; exact hks.2.1.2.2.2 hE) d k9
theorem z_getC (X : zCx g l0 cc nL ret own nm Ts fr lo mc ms M00 post xp tab) {index o : Nat} (hE : zc M00 zMi = 19) (d : decode cc pc = .ok (.invokevirtual index, 3)) (hlink : Cond.methodLink own index ⟨"java/lang/Object", "getClass", "()Ljava/lang/Class;"⟩ ∈ Ts) (hsel : Cond.selects "[Ljava/lang/Object;" ⟨"java/lang/Object", "getClass", "()Ljava/lang/Class;"⟩ ⟨"java/lang/Object", "getClass", "()Ljava/lang/Class;"⟩ ∈ Ts) (hinst : Cond.instanceMethod ⟨"java/lang/Object", "getClass", "()Ljava/lang/Class;"⟩ ∈ Ts) (hnat : Cond.native ⟨"java/lang/Object", "getClass", "()Ljava/lang/Class;"⟩ ∈ Ts)
    (hc : zc M o = 25) (hfr : 1 ≤ fr) (hlo : (rest.map fun v => v.category).sum + 14 ≤ lo) (kk : zE g nL (pc + 3) ls (.ref zMi :: rest) M k n) : zE g nL pc ls (.ref o :: rest) M k n := by
  obtain ⟨p, l, e, R, s, m, args, below, meth, c, D, ad0, M0, Q⟩ := g
  obtain ⟨h0, hx, hb, hml, hrt, hown, hnm, hts, hR, hM0, hQ, hlk, htab, hks⟩ := X
  intro ad H locs lss hr hz hS hl hL hT
  subst hM0
  subst hR
  obtain ⟨a9, b9⟩ := hz.1 zMi (by rw [hE]; decide)
  have hcell := (hr.2.2.1 o (by rw [hc]; decide)).2 5 hc (by decide)
  have k9 := kk ad H locs lss hr hz hS hl hL (zls_c (zlv_ref (by rw [b9, hE]; decide)) (zls_t hT))
  exact va_getC hx hb (hml.trans hl.1.symm) hown (hts _ hlink) (va_Dc.use (hks.2.2.1.2 _ (by simp [zdcl]))) (hts _ hsel) (hts _ hinst) (hts _ hnat) (by rw [a9]; exact hks.2.1.2.2.2 hE) ⟨_, hcell, rfl, va_nmO (hks.1.1.2 5 _ rfl).2 (by decide +kernel)⟩ hfr (by rw [zcats]; exact hlo) d k9
theorem z_anewa (X : zCx g l0 cc nL ret own nm Ts fr lo mc ms M00 post xp tab) {index : Nat} {x : Int32} {N : Nat} (o : Nat) (d : decode cc pc = .ok (.anewarray index, 3)) (hlink : Cond.classLink own index "java/lang/Object" ∈ Ts) (hx9 : ¬ x < 0) (hN : x.toNatClampNeg = N) (hby : N * 4 ≤ 536870912) (ho : zc M o = 0) (ho31 : o ≠ zE0) (ho63 : o ≠ zMi) (hk9 : k + 1 ≤ mc ∧ n + N ≤ ms)
    (kk : zE g nL (pc + 3) ls (.ref o :: rest) (znew M o 25 N) (k + 1) (n + N)) : zE g nL pc ls (.int x :: rest) M k n := by
  obtain ⟨p, l, e, R, s, m, args, below, meth, c, D, ad0, M0, Q⟩ := g
  obtain ⟨h0, hx, hb, hml, hrt, hown, hnm, hts, hR, hM0, hQ, hlk, htab, hks⟩ := X
  intro ad H locs lss hr hz hS hl hL hT
  subst hR
  subst hN
  have hover : va_AO "java/lang/Object" s := hks.2.2.2.2.2.2.2
  refine W.anew hx hb hown (hts _ hlink) (va_AO.use hover) rfl d rfl hx9 hby hk9.1 hk9.2 fun cA kA comp f1 f2 f3 f4 => ?_
  generalize hH1 : H.push ({ cls := cA, slots := Array.replicate x.toNatClampNeg .null, vm := .none } : Cell) = H1
  have z1 : H1.size = H.size + 1 := by rw [← hH1, Array.size_push]
  have e1 : H1[H.size]? = some (arrV cA x.toNatClampNeg (fun _ => .null)) := by rw [← hH1, Array.getElem?_push_size, ← arrV_new]
  have o1 : ∀ q : Nat, q < H.size → H1[q]? = H[q]? := fun q hq => by rw [← hH1, Array.getElem?_push, if_neg (Nat.ne_of_lt hq)]
  have hcA : cA = D.2 5 := by
    obtain ⟨-, -, -, -, -, h4⟩ := (hks.1.1.2 5 _ rfl).2
    exact Option.some.inj (f1.symm.trans h4)
  have hT' := zls_t hT
  have he : ∀ a, zc M a ≠ 0 → (fun a => if a = o then H.size else ad a) a = ad a := fun a ha => if_neg (fun e => ha (by rw [e]; exact ho))
  have hkind : zc (znew M o 25 x.toNatClampNeg) o = 25 := if_pos rfl
  have hr9 : zrel D (fun a => if a = o then H.size else ad a) (znew M o 25 x.toNatClampNeg) H1 := zrel_new hr ho (by decide) z1 o1 ⟨fun ci' q' hc' hq' => (by
    rw [hkind] at hc'
    have h12 : ci' < 11 := (List.getElem?_eq_some_iff.mp hq').1
    omega), fun t' ht' h6 => (by
    rw [hkind] at ht'
    have htt : t' = 5 := by omega
    subst htt
    show H1[if o = o then H.size else ad o]? = some (arrV _ (if o = o then _ else _) _)
    rw [if_pos rfl, if_pos rfl, e1, hcA, if_neg (by decide)]
    congr 2
    funext j
    exact ((show Value.null = defaultValue (zaty 5) from rfl).trans (zmv_new _ _).symm))⟩
  have k9 := kk _ H1 locs lss hr9 (zx_new hz ho (by decide) hS.1 ho31 ho63) ⟨Nat.le_trans hS.1 (by omega), fun x h1 h2 => (o1 x (Nat.lt_of_lt_of_le h1 hS.1)).trans (hS.2.1 x h1 h2), hS.2.2⟩ (by rw [zll_congr he hL]; exact hl) (zll_mono (fun a ha => zc_new ha ho) hL) (zls_c (zlv_ref (by rw [hkind]; decide)) (zls_mono (fun a ha => zc_new ha ho) hT'))
  have e9 : (Value.ref o :: rest).map (zph (fun a => if a = o then H.size else ad a)) = .ref H.size :: rest.map (zph ad) := by
    rw [List.map_cons, zst_congr he hT']
    show Value.ref (if o = o then H.size else ad o) :: _ = _
    rw [if_pos rfl]
  rw [e9] at k9
  exact k9
/-- an object of ours into a row of Objects -/
theorem z_aast (X : zCx g l0 cc nL ret own nm Ts fr lo mc ms M00 post xp tab) {o v ci N : Nat} {C : String} {T : u_T} {i : Int32} {j : Nat} (d : decode cc pc = .ok (.aastore, 1)) (hc : zc M o = 25) (hin : vp_in i (zn M o)) (hj : i.toNatClampNeg = j) (hcv : zc M v = ci + 1) (hq : vwCl[ci]? = some (C, T, N)) (hC : C ∈ [RX1, RX3, RX4, RX5])
    (kk : zE g nL (pc + 1) ls rest (zwr M o j (some v)) k n) : zE g nL pc ls (.ref v :: .int i :: .ref o :: rest) M k n := by
  subst hj
  obtain ⟨p, l, e, R, s, m, args, below, meth, c, D, ad0, M0, Q⟩ := g
  obtain ⟨h0, hx, hb, hml, hrt, hown, hnm, hts, hR, hM0, hQ, hlk, htab, hks⟩ := X
  intro ad H locs lss hr hz hS hl hL hT
  have ho : zc M o ≠ 0 := by rw [hc]; decide
  have hvl : zc M v ≠ 0 := by rw [hcv]; exact Nat.succ_ne_zero _
  have hcell := (hr.2.2.1 o ho).2 5 hc (by decide)
  have hA := zA_in hz ho (by rw [hc]; decide) (by rw [hc]; decide)
  have hlt : i.toNatClampNeg < zn M o := Nat.not_le.mp fun q => hin (Or.inr q)
  have h0' : ¬ i < 0 := fun q => hin (Or.inl q)
  obtain ⟨cellV, g1, g2, g3, -⟩ := (hr.2.2.1 v hvl).1 ci _ hcv hq
  have hcls := (hks.1.1.1 ci _ hq).2
  obtain ⟨kA, comp, k1, k2, k3, -⟩ := (hks.1.1.2 5 _ rfl).2
  obtain ⟨kE, hkE, -⟩ := Vm.findClass_spec k3
  obtain ⟨c0, t1, f1, f2, f3⟩ := Cond.castable_spec (va_Nw.use (A := args) rfl (hks.2.2.2.2.2.2.1 C hC))
  cases hcls.1.symm.trans f1
  cases k3.symm.trans f2
  obtain ⟨kC, hkC, -⟩ := hcls.2
  refine W.aast hx hb hcell (fun q h => by cases h) (fun h => by cases h) k1 k2 rfl hkE ⟨h0', by rw [arrV_size]; exact hlt⟩ g1 (fun q h => by rw [g3] at h; cases h) (by rw [g2]; exact hkC) (by rw [g2]; exact f3) rfl rfl d fun H1 e1 e2 e3 => ?_
  have hoff : zoff M (zwr M o i.toNatClampNeg (some v)) o i.toNatClampNeg := zwr_off
  have ev : zr (zwr M o i.toNatClampNeg (some v)) o i.toNatClampNeg = some v := zup_s
  refine kk ad H1 _ lss (zrel_off hr hoff ho (by rw [hc]; decide) (fun o' h => by rw [ev] at h; cases h; exact hvl) e2 e3 ⟨fun ci' q' hc' hq' => ?_, fun t ht h6 => ?_⟩) (zx_off hz hoff) (hS.put e2 e3 hA) hl (zll_off hoff hL) (zls_off hoff (zls_t (zls_t (zls_t hT))))
  · rw [hoff.1, hc] at hc'
    have h12 : ci' < 11 := (List.getElem?_eq_some_iff.mp hq').1
    omega
  · rw [hoff.1, hc] at ht
    have et : t = 5 := by omega
    subst et
    rw [e1, arrV_store]
    show some (arrV _ _ _) = some (arrV _ _ _)
    congr 2
    funext q
    by_cases hq : q = i.toNatClampNeg
    · subst hq
      simp only [updV, if_pos rfl]
      show _ = va_rf ((zr (zwr M o i.toNatClampNeg (some v)) o i.toNatClampNeg).map ad)
      rw [ev]
      rfl
    · simp only [updV, if_neg hq]
      exact (zmv_off hoff (fun e => hq e.2) _).symm
/-- System.arraycopy of a row of our objects, from its start -/
theorem z_copy (X : zCx g l0 cc nL ret own nm Ts fr lo mc ms M00 post xp tab) {index src dst N ci Nc : Nat} {C : String} {T : u_T} {x : Int32} (d : decode cc pc = .ok (.invokestatic index, 3)) (hlink : Cond.methodLink own index arraycopyName ∈ Ts) (hnat : Cond.native arraycopyName ∈ Ts) (hstat : Cond.static arraycopyName ∈ Ts) (hini : Cond.initialized "java/lang/System" ∈ Ts)
    (hcs : zc M src = 25) (hcd : zc M dst = 25) (hx9 : ¬ x < 0) (hN : x.toNatClampNeg = N) (h4 : N ≤ zn M src) (h5 : N ≤ zn M dst) (hq : vwCl[ci]? = some (C, T, Nc)) (hC : C ∈ [RX1, RX3, RX4, RX5]) (hel : ∀ j v, j < N → zr M src j = some v → zc M v = ci + 1)
    (hfr : 1 ≤ fr) (hlo : (rest.map fun v => v.category).sum + 40 ≤ lo) (kk : zE g nL (pc + 3) ls rest (zcpy M src dst N) k n) : zE g nL pc ls (.int x :: .int 0 :: .ref dst :: .int 0 :: .ref src :: rest) M k n := by
  subst hN
  obtain ⟨p, l, e, R, s, m, args, below, meth, c, D, ad0, M0, Q⟩ := g
  obtain ⟨h0, hx, hb, hml, hrt, hown, hnm, hts, hR, hM0, hQ, hlk, htab, hks⟩ := X
  intro ad H locs lss hr hz hS hl hL hT
  subst hR
  have hs0 : zc M src ≠ 0 := by rw [hcs]; decide
  have hd0 : zc M dst ≠ 0 := by rw [hcd]; decide
  have hc0 := (hr.2.2.1 src hs0).2 5 hcs (by decide)
  have hc1 := (hr.2.2.1 dst hd0).2 5 hcd (by decide)
  have hA := zA_in hz hd0 (by rw [hcd]; decide) (by rw [hcd]; decide)
  have nn : ∀ z : Int32, ¬ z < 0 → z.toInt = (z.toNatClampNeg : Int) := by
    intro z hz
    have hz0 : (0 : Int) ≤ z.toInt := by
      have := Int32.not_lt.mp hz
      simpa using Int32.le_iff_toInt_le.mp this
    show z.toInt = ((z.toInt.toNat : Nat) : Int)
    omega
  have hz9 : (0 : Int32).toNatClampNeg = 0 := by decide
  have hzi : (0 : Int32).toInt = 0 := by decide
  obtain ⟨-, k0, hk0, cm0, hkk0⟩ := (hks.1.1.2 5 _ rfl).1 (zn M src) (fun j => zmv ad M (zaty 5) src j)
  obtain ⟨-, k1, hk1, cm1, hkk1⟩ := (hks.1.1.2 5 _ rfl).1 (zn M dst) (fun j => zmv ad M (zaty 5) dst j)
  have hcls := (hks.1.1.1 ci _ hq).2
  obtain ⟨c0, t1, f1, f2, f3⟩ := Cond.castable_spec (va_Nw.use (A := args) rfl (hks.2.2.2.2.2.2.1 C hC))
  intro T hT9 X9
  obtain ⟨vm', X', step⟩ := X9.arraycopy hx hown (hts _ hlink) (hts _ hnat) (hts _ hstat) (hts _ hini) (src := ad src) (dst := ad dst) (cs := arrV (D.2 5) (zn M src) (fun j => zmv ad M (zaty 5) src j)) (cd := arrV (D.2 5) (zn M dst) (fun j => zmv ad M (zaty 5) dst j)) (srcPos := 0) (destPos := 0) (n := x) (by rw [hT9]; exact hc0) (by rw [hT9]; exact hc1)
    (fun _ h => by cases h) (fun _ h => by cases h) (fun h => by cases h) (fun h => by cases h) hk0 hk1 hkk0 hkk1 rfl (by decide) (by decide) hx9
    (by rw [hzi, nn x hx9, arrV_size]; omega)
    (by rw [hzi, nn x hx9, arrV_size]; omega)
    (fun vm₁ hal i hi => by
      have e : (arrV (D.2 5) (zn M src) (fun j => zmv ad M (zaty 5) src j)).slots.getD ((0 : Int32).toNatClampNeg + i) .null = va_rf ((zr M src i).map ad) := by
        rw [hz9, Nat.zero_add, Array.getD_eq_getD_getElem?, arrV_read _ _ (by omega)]
        rfl
      rw [e]
      cases hy : zr M src i with
      | none => exact ⟨rfl, trivial⟩
      | some y =>
        have hcy := hel i y hi hy
        obtain ⟨cellV, g1, g2, g3, -⟩ := (hr.2.2.1 y (by rw [hcy]; exact Nat.succ_ne_zero _)).1 ci _ hcy hq
        have g4 : s.vm.findClass C = some cellV.cls := by rw [g2]; exact hcls.1
        obtain ⟨kA, comp, r1, r2, r3, -⟩ := (hks.1.1.2 5 _ rfl).2
        cases hk1.symm.trans r1
        cases hkk1.symm.trans r2
        cases g4.symm.trans f1
        cases r3.symm.trans f2
        obtain ⟨kC, hkC, -⟩ := Vm.findClass_spec g4
        obtain ⟨kE, hkE, -⟩ := Vm.findClass_spec r3
        obtain ⟨kC', hkC', -⟩ := hal.2.2 _ _ hkC
        obtain ⟨kE', hkE', -⟩ := hal.2.2 _ _ hkE
        refine ⟨rfl, cellV, (show T.heap[ad y]? = some cellV by rw [hT9]; exact g1), (fun q h => by rw [h] at g3; cases g3), ⟨kC', hkC'⟩, ?_, ?_⟩
        · exact ⟨kE', hkE'⟩
        · show vm₁.assignable _ _ = true
          rw [hal.assignable]
          exact f3)
    (g := F0 m pc lss (.int x :: .int 0 :: .ref (ad dst) :: .int 0 :: .ref (ad src) :: rest.map (zph ad))) rfl (by show lss.size = _; rw [hml]; exact hl.1) (rest := rest.map (zph ad)) rfl (by rw [hb]; exact d) hfr (by rw [zcats]; have hw : nativeFrameWords "java/lang/System" "arraycopy" 5 ≤ 20 := (by decide); show 2 * 0 + _ + _ ≤ lo; omega)
  have e1 : copied (arrV (D.2 5) (zn M src) (fun j => zmv ad M (zaty 5) src j)) (arrV (D.2 5) (zn M dst) (fun j => zmv ad M (zaty 5) dst j)) 0 0 x = arrV (D.2 5) (zn M dst) (fun j => va_rf (va_cpy (fun j => (zr M src j).map ad) (fun j => (zr M dst j).map ad) 0 0 x.toNatClampNeg j)) := by
    exact va_copied (fun z => va_rf z) (D.2 5) (D.2 5) (fun j => (zr M src j).map ad) (fun j => (zr M dst j).map ad) (by rw [hz9]; omega)
  rw [e1] at X' step
  have hlt : ad dst < H.size := hr.2.1 dst hd0 (by rw [hcd]; decide)
  generalize hcell9 : arrV (D.2 5) (zn M dst) (fun j => va_rf (va_cpy (fun j => (zr M src j).map ad) (fun j => (zr M dst j).map ad) 0 0 x.toNatClampNeg j)) = cell9 at X' step
  have hheap : ((T.setVm vm').setCell (ad dst) cell9).heap = H.setIfInBounds (ad dst) cell9 := by rw [← hT9]; rfl
  have oq : ∀ q : Nat, q ≠ ad dst → (H.setIfInBounds (ad dst) cell9)[q]? = H[q]? := fun q hq => by simp [Array.getElem?_setIfInBounds, Ne.symm hq]
  have hoff : zoffO M (zcpy M src dst x.toNatClampNeg) dst := ⟨rfl, rfl, fun p q h => ⟨if_neg (fun e => h e.1), rfl, rfl, rfl⟩⟩
  have hdst : ∀ j, zr (zcpy M src dst x.toNatClampNeg) dst j = if j < x.toNatClampNeg then zr M src j else zr M dst j := fun j => by
    by_cases hj : j < x.toNatClampNeg
    · rw [if_pos hj]; exact if_pos ⟨rfl, hj⟩
    · rw [if_neg hj]; exact if_neg (fun e => hj e.2)
  have k9 := kk ad (H.setIfInBounds (ad dst) cell9) _ lss (zrel_offO hr hoff hd0 (by rw [hcd]; decide) (fun j o' h => by
      rw [hdst] at h
      split at h
      · exact hr.2.2.2 src j o' hs0 h
      · exact hr.2.2.2 dst j o' hd0 h) (by simp) oq ⟨fun ci' q' hc' hq' => (by
      rw [hoff.1, hcd] at hc'
      have h12 : ci' < 11 := (List.getElem?_eq_some_iff.mp hq').1
      omega), fun t ht h6 => (by
      rw [hoff.1, hcd] at ht
      have et : t = 5 := by omega
      subst et
      rw [show (H.setIfInBounds (ad dst) cell9)[ad dst]? = some cell9 by simp [Array.getElem?_setIfInBounds, hlt], ← hcell9]
      show some (arrV _ _ _) = some (arrV _ _ _)
      congr 2
      funext j
      show va_rf _ = va_rf ((zr (zcpy M src dst x.toNatClampNeg) dst j).map ad)
      rw [hdst]
      congr 1
      by_cases hj : j < x.toNatClampNeg
      · rw [if_pos hj, pk_cpy_in (Nat.zero_le _) (by omega)]
        simp
      · rw [if_neg hj, pk_cpy_out (Or.inr (by omega))])⟩) (zx_offO hz hoff) ⟨by simp; exact hS.1, fun q g1 g2 => by
      rw [oq q (fun e => g2 (by rw [e]; exact hA))]
      exact hS.2.1 q g1 g2, fun q hq => by
      rcases List.mem_append.mp hq with h | h
      · exact hS.2.2 q h
      · obtain ⟨z, -, hz⟩ := List.mem_map.mp h
        rw [← hz]
        exact hA⟩ hl (zll_mono (fun a ha => ha) hL) (zls_mono (fun a ha => ha) (fun w hw => hT w (List.mem_cons_of_mem _ (List.mem_cons_of_mem _ (List.mem_cons_of_mem _ (List.mem_cons_of_mem _ (List.mem_cons_of_mem _ hw))))))) _ hheap X'
  obtain ⟨t, a1, b1⟩ := k9
  exact ⟨t, step t a1, b1⟩
end ZR2
