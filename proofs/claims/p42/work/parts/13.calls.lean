/-! PART 05: rows of zE: calls, throws, new objects (by program) -/
def zpv (P : zMem → Prop) : Option Value → zMem → Prop := fun v M' => v = none ∧ P M'
def zpi (P : Int32 → zMem → Prop) : Option Value → zMem → Prop := fun v M' => ∃ r : Int32, v = some (.int r) ∧ P r M'
def zpj (P : Int64 → zMem → Prop) : Option Value → zMem → Prop := fun v M' => ∃ r : Int64, v = some (.long r) ∧ P r M'
def zpf (P : UInt32 → zMem → Prop) : Option Value → zMem → Prop := fun v M' => ∃ r : UInt32, v = some (.float r) ∧ P r M'
def zpd (P : UInt64 → zMem → Prop) : Option Value → zMem → Prop := fun v M' => ∃ r : UInt64, v = some (.double r) ∧ P r M'
def zpr (P : Nat → zMem → Prop) : Option Value → zMem → Prop := fun v M' => ∃ r : Nat, v = some (.ref r) ∧ P r M'
def zpq (P : Option Nat → zMem → Prop) : Option Value → zMem → Prop := fun v M' => ∃ r : Option Nat, v = some (va_rf r) ∧ P r M'
def zno : String → Prop := fun _ => False
theorem zmp (ad : Nat → Nat) (v : Option Value) (rest : List Value) : (v.toList ++ rest).map (zph ad) = (v.map (zph ad)).toList ++ rest.map (zph ad) := by cases v <;> rfl
theorem zcats (ad : Nat → Nat) (rest : List Value) : ((rest.map (zph ad)).map fun v => v.category) = rest.map fun v => v.category := by
  rw [List.map_map]
  exact List.map_congr_left fun v _ => zph_cat ad v
theorem zrel_kept {D : zG} {ad : Nat → Nat} {M : zMem} {H H1 : Heap} (hr : zrel D ad M H) (hsz : H.size ≤ H1.size) (hs : ∀ q : Nat, q < H.size → H1[q]? = H[q]?) : zrel D ad M H1 := by
  refine ⟨hr.1, fun o ho k => Nat.lt_of_lt_of_le (hr.2.1 o ho k) hsz, fun o ho => ?_, hr.2.2.2⟩
  by_cases k19 : zc M o = 19
  · exact zat_19 k19
  obtain ⟨h1, h2⟩ := hr.2.2.1 o ho
  have e := hs (ad o) (hr.2.1 o ho k19)
  exact ⟨fun ci q hc hq => (h1 ci q hc hq).kept e, fun t ht h6 => by rw [e]; exact h2 t ht h6⟩
theorem zc_new {M : zMem} {o a t n : Nat} (h : zc M a ≠ 0) (ho : zc M o = 0) : zc (znew M o t n) a ≠ 0 := by
  show (if a = o then t else zc M a) ≠ 0
  rw [if_neg (fun e => h (by rw [e]; exact ho))]
  exact h
theorem zmv_new {ad : Nat → Nat} {M : zMem} {o t n : Nat} (ty : FieldType) (j : Nat) : zmv ad (znew M o t n) ty o j = defaultValue ty := by
  cases ty <;> simp [zmv, znew, zi, zl, zd, zr, defaultValue, va_rf]
theorem zmv_old {ad ad' : Nat → Nat} {M : zMem} {o a t n j : Nat} (he : (zr M a j).map ad' = (zr M a j).map ad) (hne : a ≠ o) (ty : FieldType) : zmv ad' (znew M o t n) ty a j = zmv ad M ty a j := by
  have h1 : zr (znew M o t n) a j = zr M a j := if_neg hne
  have h2 : zi (znew M o t n) a j = zi M a j := if_neg hne
  have h3 : zl (znew M o t n) a j = zl M a j := if_neg hne
  have h4 : zd (znew M o t n) a j = zd M a j := if_neg hne
  cases ty <;> simp only [zmv, h1, h2, h3, h4, he]
theorem zrel_new {D : zG} {ad : Nat → Nat} {M : zMem} {H H1 : Heap} {o t n : Nat} (hr : zrel D ad M H) (ho : zc M o = 0) (ht0 : t ≠ 0) (z1 : H1.size = H.size + 1) (o1 : ∀ q : Nat, q < H.size → H1[q]? = H[q]?) (hat : zat D (fun a => if a = o then H.size else ad a) (znew M o t n) o H1) : zrel D (fun a => if a = o then H.size else ad a) (znew M o t n) H1 := by
  have hc : ∀ a, a ≠ o → zc (znew M o t n) a = zc M a := fun a h => if_neg h
  have hn : ∀ a, a ≠ o → zn (znew M o t n) a = zn M a := fun a h => if_neg h
  have hlt : ∀ a, a ≠ o → zc (znew M o t n) a ≠ 0 → zc (znew M o t n) a ≠ 19 → ad a < H.size := fun a h h0 k => hr.2.1 a (by rw [← hc a h]; exact h0) (by rw [← hc a h]; exact k)
  refine ⟨fun a b ha hb k9 k8 e => ?_, fun a ha k9 => ?_, fun a ha => ?_, fun a j b ha hb => ?_⟩
  · by_cases h1 : a = o <;> by_cases h2 : b = o
    · rw [h1, h2]
    · simp only [h1, if_pos, if_neg h2] at e
      exact absurd e.symm (Nat.ne_of_lt (hlt b h2 hb k8))
    · simp only [h2, if_pos, if_neg h1] at e
      exact absurd e (Nat.ne_of_lt (hlt a h1 ha k9))
    · simp only [if_neg h1, if_neg h2] at e
      exact hr.1 a b (by rw [← hc a h1]; exact ha) (by rw [← hc b h2]; exact hb) (by rw [← hc a h1]; exact k9) (by rw [← hc b h2]; exact k8) e
  · by_cases h1 : a = o
    · simp only [h1, if_pos]
      omega
    · simp only [if_neg h1]
      have := hlt a h1 ha k9
      omega
  · by_cases h1 : a = o
    · rw [h1]; exact hat
    · have ha' : zc M a ≠ 0 := by rw [← hc a h1]; exact ha
      by_cases k19 : zc M a = 19
      · exact zat_19 ((hc a h1).trans k19)
      obtain ⟨g1, g2⟩ := hr.2.2.1 a ha'
      have hm : ∀ j, (zr M a j).map (fun a => if a = o then H.size else ad a) = (zr M a j).map ad := fun j => by
        cases hb : zr M a j with
        | none => rfl
        | some b => exact congrArg some (if_neg (fun e => hr.2.2.2 a j b ha' hb (by rw [e]; exact ho)))
      have ea : (if a = o then H.size else ad a) = ad a := if_neg h1
      refine ⟨fun ci q hci hq => ?_, fun t' ht' h6 => ?_⟩
      · show t_OB (if a = o then H.size else ad a) _ _ _ _ _
        rw [ea]
        rw [hc a h1] at hci
        exact ((g1 ci q hci hq).kept (o1 _ (hr.2.1 a ha' k19))).to (fun j _ => (zmv_old (hm j) h1 _).symm)
      · show H1[if a = o then H.size else ad a]? = _
        rw [ea, o1 _ (hr.2.1 a ha' k19)]
        rw [hc a h1] at ht'
        rw [g2 t' ht' h6, hn a h1]
        congr 2
        funext j
        exact (zmv_old (hm j) h1 _).symm
  · by_cases h1 : a = o
    · have h2 : zr (znew M o t n) a j = none := if_pos h1
      rw [h2] at hb
      cases hb
    · have h2 : zr (znew M o t n) a j = zr M a j := if_neg h1
      rw [h2] at hb
      have h3 := hr.2.2.2 a j b (by rw [← hc a h1]; exact ha) hb
      exact zc_new h3 ho
theorem zx_new {ad0 ad : Nat → Nat} {M0 M : zMem} {sz o t n h : Nat} (hz : zx ad0 M0 sz ad M) (ho : zc M o = 0) (ht0 : t ≠ 0) (hs : sz ≤ h) (h31 : o ≠ zE0) (h63 : o ≠ zMi) : zx ad0 M0 sz (fun a => if a = o then h else ad a) (znew M o t n) := by
  refine ⟨fun a ha => ?_, fun a ha => ?_, fun e => ?_, fun e => ?_⟩
  · obtain ⟨x, y⟩ := hz.1 a ha
    have hne : a ≠ o := fun e => ha (by rw [← y, e]; exact ho)
    exact ⟨(if_neg hne).trans x, (if_neg hne).trans y⟩
  · by_cases h1 : a = o
    · exact Or.inr (by simp only [h1, if_pos]; exact hs)
    · have h2 : zc (znew M o t n) a = zc M a := if_neg h1
      rw [h2] at ha
      simp only [if_neg h1]
      exact hz.2.1 a ha
  · have h2 : zc (znew M o t n) zE0 = zc M zE0 := if_neg (Ne.symm h31)
    rw [h2] at e
    exact hz.2.2.1 e
  · have h2 : zc (znew M o t n) zMi = zc M zMi := if_neg (Ne.symm h63)
    rw [h2] at e
    exact hz.2.2.2 e
section ZC
variable {g : zCtx} {l0 : Launch} {cc : ByteArray} {nL : Nat} {ret : Option FieldType} {own nm : String} {Ts : List Cond} {fr lo mc ms : Nat} {M00 : zMem} {post : Option Value → zMem → Prop} {xp : String → Prop}
variable {pc : Nat} {ls ls' : List (Nat × Value)} {st rest : List Value} {M : zMem} {k n : Nat}
/-- behind a call's run -/
theorem z_ofRun {p : Program} {l : Launch} {e : Env} {R : Room} {s : State} {m : MethodId} {args : Array Value} {below : List Frame} {meth : Method} {c : Code} {D : zG} {ad0 : Nat → Nat} {M0 : zMem} {Q : State → Prop} (hlk : meth.locks = false) (htab : c.exceptionTable.toList = []) (hQ : Q = vx_MQ below (zQc D ad0 M0 s.heap.size post) (zXC D ad0 M0 s.heap.size xp) args s mc ms (zA ad0 M0 s.heap.size))
    {ad : Nat → Nat} {H : Heap} {locs : List Loc} {lss : Array Slot} (hr : zrel D ad M H) (hz : zx ad0 M0 s.heap.size ad M) (hS : va_S (zA ad0 M0 s.heap.size) s.heap H locs) (hl : lv_has lss nL (ls.map (zpl ad))) (hL : zll M ls) (hT : zls M rest)
    {st0 : List Value} {a : Array Value} {mc1 ms1 : Nat} {post1 : Option Value → zMem → Prop} {xp1 : String → Prop}
    (hrun : vx_Run p l e R s m args below meth c H locs k n mc1 ms1 (F0 m pc lss st0) (rest.map (zph ad)) (zQc D ad M H.size post1 a) (zXC D ad M H.size xp1) (zA ad M H.size))
    (hk9 : k + mc1 ≤ mc ∧ n + ms1 ≤ ms) (hxp : ∀ E, xp1 E → xp E ∧ M = M0)
    (kk : ∀ (v : Option Value) (M1 : zMem), post1 v M1 → zE (p, l, e, R, s, m, args, below, meth, c, D, ad0, M0, Q) nL (pc + 3) ls (v.toList ++ rest) M1 (k + mc1) (n + ms1)) : W p l e R s m args below meth c H locs k n Q (F0 m pc lss st0) := by
  have hA := zA_sub hz hS.1
  intro T hT9 X
  rcases hrun T hT9 X with ⟨v, st₀, t, T', L, h0, X', hL', e1, e2, ⟨⟨v', ad', M', hv, hp, hr', hz', hlv⟩, hF⟩, stp⟩ | ⟨q, st₀, t, T', L, E, ce, h0, X', hL', e1, e2, ⟨hxe, hre, hFe⟩, hce, hcv, hcl, stp⟩
  · have hv9 : v = v'.map (zph ad') := by cases hv; rfl
    subst hv9
    obtain ⟨k1, k2, k3⟩ := vx_keep h0 e1 hS (fun q _ h => hA q h) hA hL' hF
    have he : ∀ o, zc M o ≠ 0 → ad' o = ad o := fun o ho => (hz'.1 o ho).1
    have hm : ∀ o, zc M o ≠ 0 → zc M' o ≠ 0 := fun o ho => by rw [(hz'.1 o ho).2]; exact ho
    have k9 := kk v' M' hp ad' T'.heap (locs ++ L) lss (by rw [e1]; exact hr') (zx_tr hz hS.1 hz') k3 (by rw [zll_congr he hL]; exact hl) (zll_mono hm hL) (fun w hw => by
      rcases List.mem_append.mp hw with h | h
      · exact hlv w (by cases v' with
          | none => cases h
          | some u => exact (congrArg some (List.mem_singleton.mp h)).symm)
      · exact zls_mono hm hT w h) T' rfl X'
    rw [zmp, zst_congr he hT] at k9
    obtain ⟨t2, a1, b1⟩ := k9
    exact ⟨t2, stp t2 a1, b1⟩
  · obtain ⟨k1, k2, k3⟩ := vx_keep h0 e1 hS (fun q _ h => hA q h) hA hL' hFe
    obtain ⟨hxe9, hM9⟩ := hxp E hxe
    subst hM9
    subst hQ
    have ho := vx_out (p := p) (l := l) (e := e) (R := R) (s := s) (m := m) (args := args) (below := below) (meth := meth) (c := c) (H := T'.heap) (locs := locs ++ L) (cells := k + mc1) (slots := n + ms1) (free := zA ad0 M s.heap.size) (ls := lss) (rest := rest.map (zph ad)) (Qc := zQc D ad0 M s.heap.size post) (XC := zXC D ad0 M s.heap.size xp) (pc := pc) (E := E) (ce := ce) (q := q) (mc := mc) (ms := ms) (fun x hx => by rw [htab] at hx; cases hx) hlk (by rw [e1]; exact hce) hcv hcl
      (fun t' ht' hal => ⟨hxe9, by rw [ht', e1]; exact zrel_congr hre (fun o ho => ((hz.1 o ho).1).symm), k3.F ht'⟩) k3.2.2 hk9.1 hk9.2
    obtain ⟨t2, a1, b1⟩ := ho T' rfl X'
    exact ⟨t2, stp.trans a1, b1⟩
theorem z_callVv (X : zCx g l0 cc nL ret own nm Ts fr lo mc ms M00 post xp []) {C : String} {o ci N : Nat} {T : u_T} {index : Nat} {y : MethodName} {bytes : ByteArray} {maxL : Nat} {ret1 : Option FieldType} {ws1 ws1' : List Cond} {fr1 lo1 mc1 ms1 : Nat} {As : List Value} {xp1 : String → Prop} {P : zMem → Prop} (d : decode cc pc = .ok (.invokevirtual index, 3)) (hM : zS l0 y ws1 fr1 lo1 mc1 ms1 (.ref o :: As) M (zpv P) xp1) (hT9 : GoodIn Ts (wsV own index C y ws1)) (hw : ws1 = Cond.code y bytes maxL ret1 :: ws1')
    {n1 : Nat} (hn1 : As.length = n1) (hd : y.cls = C ∧ y.cls ≠ "java/lang/invoke/MethodHandle" ∧ y.cls ≠ "java/lang/invoke/VarHandle" ∧ (parseMethodDescriptor y.desc).map (fun d => d.parameters.length) = some n1) (hR9 : fr1 + 1 ≤ fr ∧ 8 + (maxL + 11) + lo1 ≤ lo) (hc : zc M o = ci + 1) (hq : vwCl[ci]? = some (C, T, N)) (hst : st = As.reverse ++ .ref o :: rest) (hcat : (rest.map fun v => v.category).sum ≤ 8) (hk9 : k + mc1 ≤ mc ∧ n + ms1 ≤ ms) (hxp : ∀ E, xp1 E → xp E ∧ M = M00)
    (kk : ∀ (M1 : zMem), P M1 → zE g nL (pc + 3) ls rest M1 (k + mc1) (n + ms1)) : zE g nL pc ls st M k n := by
  subst hst
  subst hn1
  obtain ⟨p, l, e, R, s, m, args, below, meth, c, D, ad0, M0, Q⟩ := g
  obtain ⟨h0, hx, hb, hml, hrt, hown, hnm, hts, hR, hM0, hQ, hlk, htab, hks⟩ := X
  intro ad H locs lss hr hz hS hl hL hT
  subst h0; subst hR; subst hM0
  have ho : zc M o ≠ 0 := by rw [hc]; exact Nat.succ_ne_zero _
  obtain ⟨cell, q1, q2, q3, -⟩ := (hr.2.2.1 o ho).1 ci _ hc hq
  have hav : zls M (.ref o :: As) := zls_c (zlv_ref ho) (fun w hw => hT w (List.mem_append_left _ (List.mem_reverse.mpr hw)))
  have hrs : zls M rest := fun w hw => hT w (List.mem_append_right _ (List.mem_cons_of_mem _ hw))
  have hks' : zKS D ad M (zA ad M H.size) s H := ⟨hks.1, hks.2.1.on hz hS, hks.2.2⟩
  refine z_ofRun hlk htab hQ hr hz hS hl hL hrs (hrun := vx_runV (b := ad o) (As := As.map (zph ad)) (rest := rest.map (zph ad)) (H := H) (locs := locs) (cells := k) (slots := n) ⟨hx, hb, hml, hown, hts⟩ (hM D ad H.size) (cwV As.length hts hT9 hw rfl rfl hd hR9) ⟨zPc.blind, ⟨cell, q1, by rw [q3]; rfl, by rw [q2]; exact (hks.1.1.1 ci _ hq).2.1⟩, fun U hU hW => ⟨rfl, by rw [hU], by rw [hU]; exact hr, hav, by rw [hU]; exact hks'.warm hW⟩⟩ rfl (by rw [List.length_map]) hl.1 (by simp [zph]) (lv_room (by rw [zcats]; exact hcat)) d hk9) hk9 hxp ?_
  rintro v M1 ⟨rfl, hP⟩
  exact kk M1 hP
theorem z_callVi (X : zCx g l0 cc nL ret own nm Ts fr lo mc ms M00 post xp []) {C : String} {o ci N : Nat} {T : u_T} {index : Nat} {y : MethodName} {bytes : ByteArray} {maxL : Nat} {ret1 : Option FieldType} {ws1 ws1' : List Cond} {fr1 lo1 mc1 ms1 : Nat} {As : List Value} {xp1 : String → Prop} {P : Int32 → zMem → Prop} (d : decode cc pc = .ok (.invokevirtual index, 3)) (hM : zS l0 y ws1 fr1 lo1 mc1 ms1 (.ref o :: As) M (zpi P) xp1) (hT9 : GoodIn Ts (wsV own index C y ws1)) (hw : ws1 = Cond.code y bytes maxL ret1 :: ws1')
    {n1 : Nat} (hn1 : As.length = n1) (hd : y.cls = C ∧ y.cls ≠ "java/lang/invoke/MethodHandle" ∧ y.cls ≠ "java/lang/invoke/VarHandle" ∧ (parseMethodDescriptor y.desc).map (fun d => d.parameters.length) = some n1) (hR9 : fr1 + 1 ≤ fr ∧ 8 + (maxL + 11) + lo1 ≤ lo) (hc : zc M o = ci + 1) (hq : vwCl[ci]? = some (C, T, N)) (hst : st = As.reverse ++ .ref o :: rest) (hcat : (rest.map fun v => v.category).sum ≤ 8) (hk9 : k + mc1 ≤ mc ∧ n + ms1 ≤ ms) (hxp : ∀ E, xp1 E → xp E ∧ M = M00)
    (kk : ∀ (r : Int32) (M1 : zMem), P r M1 → zE g nL (pc + 3) ls (.int r :: rest) M1 (k + mc1) (n + ms1)) : zE g nL pc ls st M k n := by
  subst hst
  subst hn1
  obtain ⟨p, l, e, R, s, m, args, below, meth, c, D, ad0, M0, Q⟩ := g
  obtain ⟨h0, hx, hb, hml, hrt, hown, hnm, hts, hR, hM0, hQ, hlk, htab, hks⟩ := X
  intro ad H locs lss hr hz hS hl hL hT
  subst h0; subst hR; subst hM0
  have ho : zc M o ≠ 0 := by rw [hc]; exact Nat.succ_ne_zero _
  obtain ⟨cell, q1, q2, q3, -⟩ := (hr.2.2.1 o ho).1 ci _ hc hq
  have hav : zls M (.ref o :: As) := zls_c (zlv_ref ho) (fun w hw => hT w (List.mem_append_left _ (List.mem_reverse.mpr hw)))
  have hrs : zls M rest := fun w hw => hT w (List.mem_append_right _ (List.mem_cons_of_mem _ hw))
  have hks' : zKS D ad M (zA ad M H.size) s H := ⟨hks.1, hks.2.1.on hz hS, hks.2.2⟩
  refine z_ofRun hlk htab hQ hr hz hS hl hL hrs (hrun := vx_runV (b := ad o) (As := As.map (zph ad)) (rest := rest.map (zph ad)) (H := H) (locs := locs) (cells := k) (slots := n) ⟨hx, hb, hml, hown, hts⟩ (hM D ad H.size) (cwV As.length hts hT9 hw rfl rfl hd hR9) ⟨zPc.blind, ⟨cell, q1, by rw [q3]; rfl, by rw [q2]; exact (hks.1.1.1 ci _ hq).2.1⟩, fun U hU hW => ⟨rfl, by rw [hU], by rw [hU]; exact hr, hav, by rw [hU]; exact hks'.warm hW⟩⟩ rfl (by rw [List.length_map]) hl.1 (by simp [zph]) (lv_room (by rw [zcats]; exact hcat)) d hk9) hk9 hxp ?_
  rintro v M1 ⟨r, rfl, hP⟩
  exact kk r M1 hP
theorem z_callVl (X : zCx g l0 cc nL ret own nm Ts fr lo mc ms M00 post xp []) {C : String} {o ci N : Nat} {T : u_T} {index : Nat} {y : MethodName} {bytes : ByteArray} {maxL : Nat} {ret1 : Option FieldType} {ws1 ws1' : List Cond} {fr1 lo1 mc1 ms1 : Nat} {As : List Value} {xp1 : String → Prop} {P : Int64 → zMem → Prop} (d : decode cc pc = .ok (.invokevirtual index, 3)) (hM : zS l0 y ws1 fr1 lo1 mc1 ms1 (.ref o :: As) M (zpj P) xp1) (hT9 : GoodIn Ts (wsV own index C y ws1)) (hw : ws1 = Cond.code y bytes maxL ret1 :: ws1')
    {n1 : Nat} (hn1 : As.length = n1) (hd : y.cls = C ∧ y.cls ≠ "java/lang/invoke/MethodHandle" ∧ y.cls ≠ "java/lang/invoke/VarHandle" ∧ (parseMethodDescriptor y.desc).map (fun d => d.parameters.length) = some n1) (hR9 : fr1 + 1 ≤ fr ∧ 8 + (maxL + 11) + lo1 ≤ lo) (hc : zc M o = ci + 1) (hq : vwCl[ci]? = some (C, T, N)) (hst : st = As.reverse ++ .ref o :: rest) (hcat : (rest.map fun v => v.category).sum ≤ 8) (hk9 : k + mc1 ≤ mc ∧ n + ms1 ≤ ms) (hxp : ∀ E, xp1 E → xp E ∧ M = M00)
    (kk : ∀ (r : Int64) (M1 : zMem), P r M1 → zE g nL (pc + 3) ls (.long r :: rest) M1 (k + mc1) (n + ms1)) : zE g nL pc ls st M k n := by
  subst hst
  subst hn1
  obtain ⟨p, l, e, R, s, m, args, below, meth, c, D, ad0, M0, Q⟩ := g
  obtain ⟨h0, hx, hb, hml, hrt, hown, hnm, hts, hR, hM0, hQ, hlk, htab, hks⟩ := X
  intro ad H locs lss hr hz hS hl hL hT
  subst h0; subst hR; subst hM0
  have ho : zc M o ≠ 0 := by rw [hc]; exact Nat.succ_ne_zero _
  obtain ⟨cell, q1, q2, q3, -⟩ := (hr.2.2.1 o ho).1 ci _ hc hq
  have hav : zls M (.ref o :: As) := zls_c (zlv_ref ho) (fun w hw => hT w (List.mem_append_left _ (List.mem_reverse.mpr hw)))
  have hrs : zls M rest := fun w hw => hT w (List.mem_append_right _ (List.mem_cons_of_mem _ hw))
  have hks' : zKS D ad M (zA ad M H.size) s H := ⟨hks.1, hks.2.1.on hz hS, hks.2.2⟩
  refine z_ofRun hlk htab hQ hr hz hS hl hL hrs (hrun := vx_runV (b := ad o) (As := As.map (zph ad)) (rest := rest.map (zph ad)) (H := H) (locs := locs) (cells := k) (slots := n) ⟨hx, hb, hml, hown, hts⟩ (hM D ad H.size) (cwV As.length hts hT9 hw rfl rfl hd hR9) ⟨zPc.blind, ⟨cell, q1, by rw [q3]; rfl, by rw [q2]; exact (hks.1.1.1 ci _ hq).2.1⟩, fun U hU hW => ⟨rfl, by rw [hU], by rw [hU]; exact hr, hav, by rw [hU]; exact hks'.warm hW⟩⟩ rfl (by rw [List.length_map]) hl.1 (by simp [zph]) (lv_room (by rw [zcats]; exact hcat)) d hk9) hk9 hxp ?_
  rintro v M1 ⟨r, rfl, hP⟩
  exact kk r M1 hP
theorem z_callVf (X : zCx g l0 cc nL ret own nm Ts fr lo mc ms M00 post xp []) {C : String} {o ci N : Nat} {T : u_T} {index : Nat} {y : MethodName} {bytes : ByteArray} {maxL : Nat} {ret1 : Option FieldType} {ws1 ws1' : List Cond} {fr1 lo1 mc1 ms1 : Nat} {As : List Value} {xp1 : String → Prop} {P : UInt32 → zMem → Prop} (d : decode cc pc = .ok (.invokevirtual index, 3)) (hM : zS l0 y ws1 fr1 lo1 mc1 ms1 (.ref o :: As) M (zpf P) xp1) (hT9 : GoodIn Ts (wsV own index C y ws1)) (hw : ws1 = Cond.code y bytes maxL ret1 :: ws1')
    {n1 : Nat} (hn1 : As.length = n1) (hd : y.cls = C ∧ y.cls ≠ "java/lang/invoke/MethodHandle" ∧ y.cls ≠ "java/lang/invoke/VarHandle" ∧ (parseMethodDescriptor y.desc).map (fun d => d.parameters.length) = some n1) (hR9 : fr1 + 1 ≤ fr ∧ 8 + (maxL + 11) + lo1 ≤ lo) (hc : zc M o = ci + 1) (hq : vwCl[ci]? = some (C, T, N)) (hst : st = As.reverse ++ .ref o :: rest) (hcat : (rest.map fun v => v.category).sum ≤ 8) (hk9 : k + mc1 ≤ mc ∧ n + ms1 ≤ ms) (hxp : ∀ E, xp1 E → xp E ∧ M = M00)
    (kk : ∀ (r : UInt32) (M1 : zMem), P r M1 → zE g nL (pc + 3) ls (.float r :: rest) M1 (k + mc1) (n + ms1)) : zE g nL pc ls st M k n := by
  subst hst
  subst hn1
  obtain ⟨p, l, e, R, s, m, args, below, meth, c, D, ad0, M0, Q⟩ := g
  obtain ⟨h0, hx, hb, hml, hrt, hown, hnm, hts, hR, hM0, hQ, hlk, htab, hks⟩ := X
  intro ad H locs lss hr hz hS hl hL hT
  subst h0; subst hR; subst hM0
  have ho : zc M o ≠ 0 := by rw [hc]; exact Nat.succ_ne_zero _
  obtain ⟨cell, q1, q2, q3, -⟩ := (hr.2.2.1 o ho).1 ci _ hc hq
  have hav : zls M (.ref o :: As) := zls_c (zlv_ref ho) (fun w hw => hT w (List.mem_append_left _ (List.mem_reverse.mpr hw)))
  have hrs : zls M rest := fun w hw => hT w (List.mem_append_right _ (List.mem_cons_of_mem _ hw))
  have hks' : zKS D ad M (zA ad M H.size) s H := ⟨hks.1, hks.2.1.on hz hS, hks.2.2⟩
  refine z_ofRun hlk htab hQ hr hz hS hl hL hrs (hrun := vx_runV (b := ad o) (As := As.map (zph ad)) (rest := rest.map (zph ad)) (H := H) (locs := locs) (cells := k) (slots := n) ⟨hx, hb, hml, hown, hts⟩ (hM D ad H.size) (cwV As.length hts hT9 hw rfl rfl hd hR9) ⟨zPc.blind, ⟨cell, q1, by rw [q3]; rfl, by rw [q2]; exact (hks.1.1.1 ci _ hq).2.1⟩, fun U hU hW => ⟨rfl, by rw [hU], by rw [hU]; exact hr, hav, by rw [hU]; exact hks'.warm hW⟩⟩ rfl (by rw [List.length_map]) hl.1 (by simp [zph]) (lv_room (by rw [zcats]; exact hcat)) d hk9) hk9 hxp ?_
  rintro v M1 ⟨r, rfl, hP⟩
  exact kk r M1 hP
theorem z_callVd (X : zCx g l0 cc nL ret own nm Ts fr lo mc ms M00 post xp []) {C : String} {o ci N : Nat} {T : u_T} {index : Nat} {y : MethodName} {bytes : ByteArray} {maxL : Nat} {ret1 : Option FieldType} {ws1 ws1' : List Cond} {fr1 lo1 mc1 ms1 : Nat} {As : List Value} {xp1 : String → Prop} {P : UInt64 → zMem → Prop} (d : decode cc pc = .ok (.invokevirtual index, 3)) (hM : zS l0 y ws1 fr1 lo1 mc1 ms1 (.ref o :: As) M (zpd P) xp1) (hT9 : GoodIn Ts (wsV own index C y ws1)) (hw : ws1 = Cond.code y bytes maxL ret1 :: ws1')
    {n1 : Nat} (hn1 : As.length = n1) (hd : y.cls = C ∧ y.cls ≠ "java/lang/invoke/MethodHandle" ∧ y.cls ≠ "java/lang/invoke/VarHandle" ∧ (parseMethodDescriptor y.desc).map (fun d => d.parameters.length) = some n1) (hR9 : fr1 + 1 ≤ fr ∧ 8 + (maxL + 11) + lo1 ≤ lo) (hc : zc M o = ci + 1) (hq : vwCl[ci]? = some (C, T, N)) (hst : st = As.reverse ++ .ref o :: rest) (hcat : (rest.map fun v => v.category).sum ≤ 8) (hk9 : k + mc1 ≤ mc ∧ n + ms1 ≤ ms) (hxp : ∀ E, xp1 E → xp E ∧ M = M00)
    (kk : ∀ (r : UInt64) (M1 : zMem), P r M1 → zE g nL (pc + 3) ls (.double r :: rest) M1 (k + mc1) (n + ms1)) : zE g nL pc ls st M k n := by
  subst hst
  subst hn1
  obtain ⟨p, l, e, R, s, m, args, below, meth, c, D, ad0, M0, Q⟩ := g
  obtain ⟨h0, hx, hb, hml, hrt, hown, hnm, hts, hR, hM0, hQ, hlk, htab, hks⟩ := X
  intro ad H locs lss hr hz hS hl hL hT
  subst h0; subst hR; subst hM0
  have ho : zc M o ≠ 0 := by rw [hc]; exact Nat.succ_ne_zero _
  obtain ⟨cell, q1, q2, q3, -⟩ := (hr.2.2.1 o ho).1 ci _ hc hq
  have hav : zls M (.ref o :: As) := zls_c (zlv_ref ho) (fun w hw => hT w (List.mem_append_left _ (List.mem_reverse.mpr hw)))
  have hrs : zls M rest := fun w hw => hT w (List.mem_append_right _ (List.mem_cons_of_mem _ hw))
  have hks' : zKS D ad M (zA ad M H.size) s H := ⟨hks.1, hks.2.1.on hz hS, hks.2.2⟩
  refine z_ofRun hlk htab hQ hr hz hS hl hL hrs (hrun := vx_runV (b := ad o) (As := As.map (zph ad)) (rest := rest.map (zph ad)) (H := H) (locs := locs) (cells := k) (slots := n) ⟨hx, hb, hml, hown, hts⟩ (hM D ad H.size) (cwV As.length hts hT9 hw rfl rfl hd hR9) ⟨zPc.blind, ⟨cell, q1, by rw [q3]; rfl, by rw [q2]; exact (hks.1.1.1 ci _ hq).2.1⟩, fun U hU hW => ⟨rfl, by rw [hU], by rw [hU]; exact hr, hav, by rw [hU]; exact hks'.warm hW⟩⟩ rfl (by rw [List.length_map]) hl.1 (by simp [zph]) (lv_room (by rw [zcats]; exact hcat)) d hk9) hk9 hxp ?_
  rintro v M1 ⟨r, rfl, hP⟩
  exact kk r M1 hP
theorem z_callVr (X : zCx g l0 cc nL ret own nm Ts fr lo mc ms M00 post xp []) {C : String} {o ci N : Nat} {T : u_T} {index : Nat} {y : MethodName} {bytes : ByteArray} {maxL : Nat} {ret1 : Option FieldType} {ws1 ws1' : List Cond} {fr1 lo1 mc1 ms1 : Nat} {As : List Value} {xp1 : String → Prop} {P : Nat → zMem → Prop} (d : decode cc pc = .ok (.invokevirtual index, 3)) (hM : zS l0 y ws1 fr1 lo1 mc1 ms1 (.ref o :: As) M (zpr P) xp1) (hT9 : GoodIn Ts (wsV own index C y ws1)) (hw : ws1 = Cond.code y bytes maxL ret1 :: ws1')
    {n1 : Nat} (hn1 : As.length = n1) (hd : y.cls = C ∧ y.cls ≠ "java/lang/invoke/MethodHandle" ∧ y.cls ≠ "java/lang/invoke/VarHandle" ∧ (parseMethodDescriptor y.desc).map (fun d => d.parameters.length) = some n1) (hR9 : fr1 + 1 ≤ fr ∧ 8 + (maxL + 11) + lo1 ≤ lo) (hc : zc M o = ci + 1) (hq : vwCl[ci]? = some (C, T, N)) (hst : st = As.reverse ++ .ref o :: rest) (hcat : (rest.map fun v => v.category).sum ≤ 8) (hk9 : k + mc1 ≤ mc ∧ n + ms1 ≤ ms) (hxp : ∀ E, xp1 E → xp E ∧ M = M00)
    (kk : ∀ (r : Nat) (M1 : zMem), P r M1 → zE g nL (pc + 3) ls (.ref r :: rest) M1 (k + mc1) (n + ms1)) : zE g nL pc ls st M k n := by
  subst hst
  subst hn1
  obtain ⟨p, l, e, R, s, m, args, below, meth, c, D, ad0, M0, Q⟩ := g
  obtain ⟨h0, hx, hb, hml, hrt, hown, hnm, hts, hR, hM0, hQ, hlk, htab, hks⟩ := X
  intro ad H locs lss hr hz hS hl hL hT
  subst h0; subst hR; subst hM0
  have ho : zc M o ≠ 0 := by rw [hc]; exact Nat.succ_ne_zero _
  obtain ⟨cell, q1, q2, q3, -⟩ := (hr.2.2.1 o ho).1 ci _ hc hq
  have hav : zls M (.ref o :: As) := zls_c (zlv_ref ho) (fun w hw => hT w (List.mem_append_left _ (List.mem_reverse.mpr hw)))
  have hrs : zls M rest := fun w hw => hT w (List.mem_append_right _ (List.mem_cons_of_mem _ hw))
  have hks' : zKS D ad M (zA ad M H.size) s H := ⟨hks.1, hks.2.1.on hz hS, hks.2.2⟩
  refine z_ofRun hlk htab hQ hr hz hS hl hL hrs (hrun := vx_runV (b := ad o) (As := As.map (zph ad)) (rest := rest.map (zph ad)) (H := H) (locs := locs) (cells := k) (slots := n) ⟨hx, hb, hml, hown, hts⟩ (hM D ad H.size) (cwV As.length hts hT9 hw rfl rfl hd hR9) ⟨zPc.blind, ⟨cell, q1, by rw [q3]; rfl, by rw [q2]; exact (hks.1.1.1 ci _ hq).2.1⟩, fun U hU hW => ⟨rfl, by rw [hU], by rw [hU]; exact hr, hav, by rw [hU]; exact hks'.warm hW⟩⟩ rfl (by rw [List.length_map]) hl.1 (by simp [zph]) (lv_room (by rw [zcats]; exact hcat)) d hk9) hk9 hxp ?_
  rintro v M1 ⟨r, rfl, hP⟩
  exact kk r M1 hP
theorem z_callVq (X : zCx g l0 cc nL ret own nm Ts fr lo mc ms M00 post xp []) {C : String} {o ci N : Nat} {T : u_T} {index : Nat} {y : MethodName} {bytes : ByteArray} {maxL : Nat} {ret1 : Option FieldType} {ws1 ws1' : List Cond} {fr1 lo1 mc1 ms1 : Nat} {As : List Value} {xp1 : String → Prop} {P : Option Nat → zMem → Prop} (d : decode cc pc = .ok (.invokevirtual index, 3)) (hM : zS l0 y ws1 fr1 lo1 mc1 ms1 (.ref o :: As) M (zpq P) xp1) (hT9 : GoodIn Ts (wsV own index C y ws1)) (hw : ws1 = Cond.code y bytes maxL ret1 :: ws1')
    {n1 : Nat} (hn1 : As.length = n1) (hd : y.cls = C ∧ y.cls ≠ "java/lang/invoke/MethodHandle" ∧ y.cls ≠ "java/lang/invoke/VarHandle" ∧ (parseMethodDescriptor y.desc).map (fun d => d.parameters.length) = some n1) (hR9 : fr1 + 1 ≤ fr ∧ 8 + (maxL + 11) + lo1 ≤ lo) (hc : zc M o = ci + 1) (hq : vwCl[ci]? = some (C, T, N)) (hst : st = As.reverse ++ .ref o :: rest) (hcat : (rest.map fun v => v.category).sum ≤ 8) (hk9 : k + mc1 ≤ mc ∧ n + ms1 ≤ ms) (hxp : ∀ E, xp1 E → xp E ∧ M = M00)
    (kk : ∀ (r : Option Nat) (M1 : zMem), P r M1 → zE g nL (pc + 3) ls (va_rf r :: rest) M1 (k + mc1) (n + ms1)) : zE g nL pc ls st M k n := by
  subst hst
  subst hn1
  obtain ⟨p, l, e, R, s, m, args, below, meth, c, D, ad0, M0, Q⟩ := g
  obtain ⟨h0, hx, hb, hml, hrt, hown, hnm, hts, hR, hM0, hQ, hlk, htab, hks⟩ := X
  intro ad H locs lss hr hz hS hl hL hT
  subst h0; subst hR; subst hM0
  have ho : zc M o ≠ 0 := by rw [hc]; exact Nat.succ_ne_zero _
  obtain ⟨cell, q1, q2, q3, -⟩ := (hr.2.2.1 o ho).1 ci _ hc hq
  have hav : zls M (.ref o :: As) := zls_c (zlv_ref ho) (fun w hw => hT w (List.mem_append_left _ (List.mem_reverse.mpr hw)))
  have hrs : zls M rest := fun w hw => hT w (List.mem_append_right _ (List.mem_cons_of_mem _ hw))
  have hks' : zKS D ad M (zA ad M H.size) s H := ⟨hks.1, hks.2.1.on hz hS, hks.2.2⟩
  refine z_ofRun hlk htab hQ hr hz hS hl hL hrs (hrun := vx_runV (b := ad o) (As := As.map (zph ad)) (rest := rest.map (zph ad)) (H := H) (locs := locs) (cells := k) (slots := n) ⟨hx, hb, hml, hown, hts⟩ (hM D ad H.size) (cwV As.length hts hT9 hw rfl rfl hd hR9) ⟨zPc.blind, ⟨cell, q1, by rw [q3]; rfl, by rw [q2]; exact (hks.1.1.1 ci _ hq).2.1⟩, fun U hU hW => ⟨rfl, by rw [hU], by rw [hU]; exact hr, hav, by rw [hU]; exact hks'.warm hW⟩⟩ rfl (by rw [List.length_map]) hl.1 (by simp [zph]) (lv_room (by rw [zcats]; exact hcat)) d hk9) hk9 hxp ?_
  rintro v M1 ⟨r, rfl, hP⟩
  exact kk r M1 hP
theorem z_callSv (X : zCx g l0 cc nL ret own nm Ts fr lo mc ms M00 post xp []) {index : Nat} {y : MethodName} {bytes : ByteArray} {maxL : Nat} {ret1 : Option FieldType} {ws1 ws1' : List Cond} {fr1 lo1 mc1 ms1 : Nat} {As : List Value} {xp1 : String → Prop} {P : zMem → Prop} (d : decode cc pc = .ok (.invokestatic index, 3)) (hM : zS l0 y ws1 fr1 lo1 mc1 ms1 As M (zpv P) xp1) (hT9 : GoodIn Ts (va_wsS own index y ws1)) (hw : ws1 = Cond.code y bytes maxL ret1 :: ws1')
    {n1 : Nat} (hn1 : As.length = n1) (hd : y.cls ≠ "java/lang/invoke/MethodHandle" ∧ y.cls ≠ "java/lang/invoke/VarHandle" ∧ (parseMethodDescriptor y.desc).map (fun d => d.parameters.length) = some n1) (hR9 : fr1 + 1 ≤ fr ∧ 8 + (maxL + 11) + lo1 ≤ lo) (hst : st = As.reverse ++ rest) (hcat : (rest.map fun v => v.category).sum ≤ 8) (hk9 : k + mc1 ≤ mc ∧ n + ms1 ≤ ms) (hxp : ∀ E, xp1 E → xp E ∧ M = M00)
    (kk : ∀ (M1 : zMem), P M1 → zE g nL (pc + 3) ls rest M1 (k + mc1) (n + ms1)) : zE g nL pc ls st M k n := by
  subst hst
  subst hn1
  obtain ⟨p, l, e, R, s, m, args, below, meth, c, D, ad0, M0, Q⟩ := g
  obtain ⟨h0, hx, hb, hml, hrt, hown, hnm, hts, hR, hM0, hQ, hlk, htab, hks⟩ := X
  intro ad H locs lss hr hz hS hl hL hT
  subst h0; subst hR; subst hM0
  have hav : zls M As := fun w hw => hT w (List.mem_append_left _ (List.mem_reverse.mpr hw))
  have hrs : zls M rest := fun w hw => hT w (List.mem_append_right _ hw)
  have hks' : zKS D ad M (zA ad M H.size) s H := ⟨hks.1, hks.2.1.on hz hS, hks.2.2⟩
  refine z_ofRun hlk htab hQ hr hz hS hl hL hrs (hrun := vx_runS (As := As.map (zph ad)) (rest := rest.map (zph ad)) (H := H) (locs := locs) (cells := k) (slots := n) ⟨hx, hb, hml, hown, hts⟩ (hM D ad H.size) (va_cwS As.length hts hT9 hw rfl rfl hd hR9) ⟨zPc.blind, fun U hU hW => ⟨rfl, by rw [hU], by rw [hU]; exact hr, hav, by rw [hU]; exact hks'.warm hW⟩⟩ rfl (by rw [List.length_map]) hl.1 (by simp) (lv_room (by rw [zcats]; exact hcat)) d hk9) hk9 hxp ?_
  rintro v M1 ⟨rfl, hP⟩
  exact kk M1 hP
theorem z_callSi (X : zCx g l0 cc nL ret own nm Ts fr lo mc ms M00 post xp []) {index : Nat} {y : MethodName} {bytes : ByteArray} {maxL : Nat} {ret1 : Option FieldType} {ws1 ws1' : List Cond} {fr1 lo1 mc1 ms1 : Nat} {As : List Value} {xp1 : String → Prop} {P : Int32 → zMem → Prop} (d : decode cc pc = .ok (.invokestatic index, 3)) (hM : zS l0 y ws1 fr1 lo1 mc1 ms1 As M (zpi P) xp1) (hT9 : GoodIn Ts (va_wsS own index y ws1)) (hw : ws1 = Cond.code y bytes maxL ret1 :: ws1')
    {n1 : Nat} (hn1 : As.length = n1) (hd : y.cls ≠ "java/lang/invoke/MethodHandle" ∧ y.cls ≠ "java/lang/invoke/VarHandle" ∧ (parseMethodDescriptor y.desc).map (fun d => d.parameters.length) = some n1) (hR9 : fr1 + 1 ≤ fr ∧ 8 + (maxL + 11) + lo1 ≤ lo) (hst : st = As.reverse ++ rest) (hcat : (rest.map fun v => v.category).sum ≤ 8) (hk9 : k + mc1 ≤ mc ∧ n + ms1 ≤ ms) (hxp : ∀ E, xp1 E → xp E ∧ M = M00)
    (kk : ∀ (r : Int32) (M1 : zMem), P r M1 → zE g nL (pc + 3) ls (.int r :: rest) M1 (k + mc1) (n + ms1)) : zE g nL pc ls st M k n := by
  subst hst
  subst hn1
  obtain ⟨p, l, e, R, s, m, args, below, meth, c, D, ad0, M0, Q⟩ := g
  obtain ⟨h0, hx, hb, hml, hrt, hown, hnm, hts, hR, hM0, hQ, hlk, htab, hks⟩ := X
  intro ad H locs lss hr hz hS hl hL hT
  subst h0; subst hR; subst hM0
  have hav : zls M As := fun w hw => hT w (List.mem_append_left _ (List.mem_reverse.mpr hw))
  have hrs : zls M rest := fun w hw => hT w (List.mem_append_right _ hw)
  have hks' : zKS D ad M (zA ad M H.size) s H := ⟨hks.1, hks.2.1.on hz hS, hks.2.2⟩
  refine z_ofRun hlk htab hQ hr hz hS hl hL hrs (hrun := vx_runS (As := As.map (zph ad)) (rest := rest.map (zph ad)) (H := H) (locs := locs) (cells := k) (slots := n) ⟨hx, hb, hml, hown, hts⟩ (hM D ad H.size) (va_cwS As.length hts hT9 hw rfl rfl hd hR9) ⟨zPc.blind, fun U hU hW => ⟨rfl, by rw [hU], by rw [hU]; exact hr, hav, by rw [hU]; exact hks'.warm hW⟩⟩ rfl (by rw [List.length_map]) hl.1 (by simp) (lv_room (by rw [zcats]; exact hcat)) d hk9) hk9 hxp ?_
  rintro v M1 ⟨r, rfl, hP⟩
  exact kk r M1 hP
theorem z_callSl (X : zCx g l0 cc nL ret own nm Ts fr lo mc ms M00 post xp []) {index : Nat} {y : MethodName} {bytes : ByteArray} {maxL : Nat} {ret1 : Option FieldType} {ws1 ws1' : List Cond} {fr1 lo1 mc1 ms1 : Nat} {As : List Value} {xp1 : String → Prop} {P : Int64 → zMem → Prop} (d : decode cc pc = .ok (.invokestatic index, 3)) (hM : zS l0 y ws1 fr1 lo1 mc1 ms1 As M (zpj P) xp1) (hT9 : GoodIn Ts (va_wsS own index y ws1)) (hw : ws1 = Cond.code y bytes maxL ret1 :: ws1')
    {n1 : Nat} (hn1 : As.length = n1) (hd : y.cls ≠ "java/lang/invoke/MethodHandle" ∧ y.cls ≠ "java/lang/invoke/VarHandle" ∧ (parseMethodDescriptor y.desc).map (fun d => d.parameters.length) = some n1) (hR9 : fr1 + 1 ≤ fr ∧ 8 + (maxL + 11) + lo1 ≤ lo) (hst : st = As.reverse ++ rest) (hcat : (rest.map fun v => v.category).sum ≤ 8) (hk9 : k + mc1 ≤ mc ∧ n + ms1 ≤ ms) (hxp : ∀ E, xp1 E → xp E ∧ M = M00)
    (kk : ∀ (r : Int64) (M1 : zMem), P r M1 → zE g nL (pc + 3) ls (.long r :: rest) M1 (k + mc1) (n + ms1)) : zE g nL pc ls st M k n := by
  subst hst
  subst hn1
  obtain ⟨p, l, e, R, s, m, args, below, meth, c, D, ad0, M0, Q⟩ := g
  obtain ⟨h0, hx, hb, hml, hrt, hown, hnm, hts, hR, hM0, hQ, hlk, htab, hks⟩ := X
  intro ad H locs lss hr hz hS hl hL hT
  subst h0; subst hR; subst hM0
  have hav : zls M As := fun w hw => hT w (List.mem_append_left _ (List.mem_reverse.mpr hw))
  have hrs : zls M rest := fun w hw => hT w (List.mem_append_right _ hw)
  have hks' : zKS D ad M (zA ad M H.size) s H := ⟨hks.1, hks.2.1.on hz hS, hks.2.2⟩
  refine z_ofRun hlk htab hQ hr hz hS hl hL hrs (hrun := vx_runS (As := As.map (zph ad)) (rest := rest.map (zph ad)) (H := H) (locs := locs) (cells := k) (slots := n) ⟨hx, hb, hml, hown, hts⟩ (hM D ad H.size) (va_cwS As.length hts hT9 hw rfl rfl hd hR9) ⟨zPc.blind, fun U hU hW => ⟨rfl, by rw [hU], by rw [hU]; exact hr, hav, by rw [hU]; exact hks'.warm hW⟩⟩ rfl (by rw [List.length_map]) hl.1 (by simp) (lv_room (by rw [zcats]; exact hcat)) d hk9) hk9 hxp ?_
  rintro v M1 ⟨r, rfl, hP⟩
  exact kk r M1 hP
theorem z_callSf (X : zCx g l0 cc nL ret own nm Ts fr lo mc ms M00 post xp []) {index : Nat} {y : MethodName} {bytes : ByteArray} {maxL : Nat} {ret1 : Option FieldType} {ws1 ws1' : List Cond} {fr1 lo1 mc1 ms1 : Nat} {As : List Value} {xp1 : String → Prop} {P : UInt32 → zMem → Prop} (d : decode cc pc = .ok (.invokestatic index, 3)) (hM : zS l0 y ws1 fr1 lo1 mc1 ms1 As M (zpf P) xp1) (hT9 : GoodIn Ts (va_wsS own index y ws1)) (hw : ws1 = Cond.code y bytes maxL ret1 :: ws1')
    {n1 : Nat} (hn1 : As.length = n1) (hd : y.cls ≠ "java/lang/invoke/MethodHandle" ∧ y.cls ≠ "java/lang/invoke/VarHandle" ∧ (parseMethodDescriptor y.desc).map (fun d => d.parameters.length) = some n1) (hR9 : fr1 + 1 ≤ fr ∧ 8 + (maxL + 11) + lo1 ≤ lo) (hst : st = As.reverse ++ rest) (hcat : (rest.map fun v => v.category).sum ≤ 8) (hk9 : k + mc1 ≤ mc ∧ n + ms1 ≤ ms) (hxp : ∀ E, xp1 E → xp E ∧ M = M00)
    (kk : ∀ (r : UInt32) (M1 : zMem), P r M1 → zE g nL (pc + 3) ls (.float r :: rest) M1 (k + mc1) (n + ms1)) : zE g nL pc ls st M k n := by
  subst hst
  subst hn1
  obtain ⟨p, l, e, R, s, m, args, below, meth, c, D, ad0, M0, Q⟩ := g
  obtain ⟨h0, hx, hb, hml, hrt, hown, hnm, hts, hR, hM0, hQ, hlk, htab, hks⟩ := X
  intro ad H locs lss hr hz hS hl hL hT
  subst h0; subst hR; subst hM0
  have hav : zls M As := fun w hw => hT w (List.mem_append_left _ (List.mem_reverse.mpr hw))
  have hrs : zls M rest := fun w hw => hT w (List.mem_append_right _ hw)
  have hks' : zKS D ad M (zA ad M H.size) s H := ⟨hks.1, hks.2.1.on hz hS, hks.2.2⟩
  refine z_ofRun hlk htab hQ hr hz hS hl hL hrs (hrun := vx_runS (As := As.map (zph ad)) (rest := rest.map (zph ad)) (H := H) (locs := locs) (cells := k) (slots := n) ⟨hx, hb, hml, hown, hts⟩ (hM D ad H.size) (va_cwS As.length hts hT9 hw rfl rfl hd hR9) ⟨zPc.blind, fun U hU hW => ⟨rfl, by rw [hU], by rw [hU]; exact hr, hav, by rw [hU]; exact hks'.warm hW⟩⟩ rfl (by rw [List.length_map]) hl.1 (by simp) (lv_room (by rw [zcats]; exact hcat)) d hk9) hk9 hxp ?_
  rintro v M1 ⟨r, rfl, hP⟩
  exact kk r M1 hP
theorem z_callSd (X : zCx g l0 cc nL ret own nm Ts fr lo mc ms M00 post xp []) {index : Nat} {y : MethodName} {bytes : ByteArray} {maxL : Nat} {ret1 : Option FieldType} {ws1 ws1' : List Cond} {fr1 lo1 mc1 ms1 : Nat} {As : List Value} {xp1 : String → Prop} {P : UInt64 → zMem → Prop} (d : decode cc pc = .ok (.invokestatic index, 3)) (hM : zS l0 y ws1 fr1 lo1 mc1 ms1 As M (zpd P) xp1) (hT9 : GoodIn Ts (va_wsS own index y ws1)) (hw : ws1 = Cond.code y bytes maxL ret1 :: ws1')
    {n1 : Nat} (hn1 : As.length = n1) (hd : y.cls ≠ "java/lang/invoke/MethodHandle" ∧ y.cls ≠ "java/lang/invoke/VarHandle" ∧ (parseMethodDescriptor y.desc).map (fun d => d.parameters.length) = some n1) (hR9 : fr1 + 1 ≤ fr ∧ 8 + (maxL + 11) + lo1 ≤ lo) (hst : st = As.reverse ++ rest) (hcat : (rest.map fun v => v.category).sum ≤ 8) (hk9 : k + mc1 ≤ mc ∧ n + ms1 ≤ ms) (hxp : ∀ E, xp1 E → xp E ∧ M = M00)
    (kk : ∀ (r : UInt64) (M1 : zMem), P r M1 → zE g nL (pc + 3) ls (.double r :: rest) M1 (k + mc1) (n + ms1)) : zE g nL pc ls st M k n := by
  subst hst
  subst hn1
  obtain ⟨p, l, e, R, s, m, args, below, meth, c, D, ad0, M0, Q⟩ := g
  obtain ⟨h0, hx, hb, hml, hrt, hown, hnm, hts, hR, hM0, hQ, hlk, htab, hks⟩ := X
  intro ad H locs lss hr hz hS hl hL hT
  subst h0; subst hR; subst hM0
  have hav : zls M As := fun w hw => hT w (List.mem_append_left _ (List.mem_reverse.mpr hw))
  have hrs : zls M rest := fun w hw => hT w (List.mem_append_right _ hw)
  have hks' : zKS D ad M (zA ad M H.size) s H := ⟨hks.1, hks.2.1.on hz hS, hks.2.2⟩
  refine z_ofRun hlk htab hQ hr hz hS hl hL hrs (hrun := vx_runS (As := As.map (zph ad)) (rest := rest.map (zph ad)) (H := H) (locs := locs) (cells := k) (slots := n) ⟨hx, hb, hml, hown, hts⟩ (hM D ad H.size) (va_cwS As.length hts hT9 hw rfl rfl hd hR9) ⟨zPc.blind, fun U hU hW => ⟨rfl, by rw [hU], by rw [hU]; exact hr, hav, by rw [hU]; exact hks'.warm hW⟩⟩ rfl (by rw [List.length_map]) hl.1 (by simp) (lv_room (by rw [zcats]; exact hcat)) d hk9) hk9 hxp ?_
  rintro v M1 ⟨r, rfl, hP⟩
  exact kk r M1 hP
theorem z_callSr (X : zCx g l0 cc nL ret own nm Ts fr lo mc ms M00 post xp []) {index : Nat} {y : MethodName} {bytes : ByteArray} {maxL : Nat} {ret1 : Option FieldType} {ws1 ws1' : List Cond} {fr1 lo1 mc1 ms1 : Nat} {As : List Value} {xp1 : String → Prop} {P : Nat → zMem → Prop} (d : decode cc pc = .ok (.invokestatic index, 3)) (hM : zS l0 y ws1 fr1 lo1 mc1 ms1 As M (zpr P) xp1) (hT9 : GoodIn Ts (va_wsS own index y ws1)) (hw : ws1 = Cond.code y bytes maxL ret1 :: ws1')
    {n1 : Nat} (hn1 : As.length = n1) (hd : y.cls ≠ "java/lang/invoke/MethodHandle" ∧ y.cls ≠ "java/lang/invoke/VarHandle" ∧ (parseMethodDescriptor y.desc).map (fun d => d.parameters.length) = some n1) (hR9 : fr1 + 1 ≤ fr ∧ 8 + (maxL + 11) + lo1 ≤ lo) (hst : st = As.reverse ++ rest) (hcat : (rest.map fun v => v.category).sum ≤ 8) (hk9 : k + mc1 ≤ mc ∧ n + ms1 ≤ ms) (hxp : ∀ E, xp1 E → xp E ∧ M = M00)
    (kk : ∀ (r : Nat) (M1 : zMem), P r M1 → zE g nL (pc + 3) ls (.ref r :: rest) M1 (k + mc1) (n + ms1)) : zE g nL pc ls st M k n := by
  subst hst
  subst hn1
  obtain ⟨p, l, e, R, s, m, args, below, meth, c, D, ad0, M0, Q⟩ := g
  obtain ⟨h0, hx, hb, hml, hrt, hown, hnm, hts, hR, hM0, hQ, hlk, htab, hks⟩ := X
  intro ad H locs lss hr hz hS hl hL hT
  subst h0; subst hR; subst hM0
  have hav : zls M As := fun w hw => hT w (List.mem_append_left _ (List.mem_reverse.mpr hw))
  have hrs : zls M rest := fun w hw => hT w (List.mem_append_right _ hw)
  have hks' : zKS D ad M (zA ad M H.size) s H := ⟨hks.1, hks.2.1.on hz hS, hks.2.2⟩
  refine z_ofRun hlk htab hQ hr hz hS hl hL hrs (hrun := vx_runS (As := As.map (zph ad)) (rest := rest.map (zph ad)) (H := H) (locs := locs) (cells := k) (slots := n) ⟨hx, hb, hml, hown, hts⟩ (hM D ad H.size) (va_cwS As.length hts hT9 hw rfl rfl hd hR9) ⟨zPc.blind, fun U hU hW => ⟨rfl, by rw [hU], by rw [hU]; exact hr, hav, by rw [hU]; exact hks'.warm hW⟩⟩ rfl (by rw [List.length_map]) hl.1 (by simp) (lv_room (by rw [zcats]; exact hcat)) d hk9) hk9 hxp ?_
  rintro v M1 ⟨r, rfl, hP⟩
  exact kk r M1 hP
theorem z_callSq (X : zCx g l0 cc nL ret own nm Ts fr lo mc ms M00 post xp []) {index : Nat} {y : MethodName} {bytes : ByteArray} {maxL : Nat} {ret1 : Option FieldType} {ws1 ws1' : List Cond} {fr1 lo1 mc1 ms1 : Nat} {As : List Value} {xp1 : String → Prop} {P : Option Nat → zMem → Prop} (d : decode cc pc = .ok (.invokestatic index, 3)) (hM : zS l0 y ws1 fr1 lo1 mc1 ms1 As M (zpq P) xp1) (hT9 : GoodIn Ts (va_wsS own index y ws1)) (hw : ws1 = Cond.code y bytes maxL ret1 :: ws1')
    {n1 : Nat} (hn1 : As.length = n1) (hd : y.cls ≠ "java/lang/invoke/MethodHandle" ∧ y.cls ≠ "java/lang/invoke/VarHandle" ∧ (parseMethodDescriptor y.desc).map (fun d => d.parameters.length) = some n1) (hR9 : fr1 + 1 ≤ fr ∧ 8 + (maxL + 11) + lo1 ≤ lo) (hst : st = As.reverse ++ rest) (hcat : (rest.map fun v => v.category).sum ≤ 8) (hk9 : k + mc1 ≤ mc ∧ n + ms1 ≤ ms) (hxp : ∀ E, xp1 E → xp E ∧ M = M00)
    (kk : ∀ (r : Option Nat) (M1 : zMem), P r M1 → zE g nL (pc + 3) ls (va_rf r :: rest) M1 (k + mc1) (n + ms1)) : zE g nL pc ls st M k n := by
  subst hst
  subst hn1
  obtain ⟨p, l, e, R, s, m, args, below, meth, c, D, ad0, M0, Q⟩ := g
  obtain ⟨h0, hx, hb, hml, hrt, hown, hnm, hts, hR, hM0, hQ, hlk, htab, hks⟩ := X
  intro ad H locs lss hr hz hS hl hL hT
  subst h0; subst hR; subst hM0
  have hav : zls M As := fun w hw => hT w (List.mem_append_left _ (List.mem_reverse.mpr hw))
  have hrs : zls M rest := fun w hw => hT w (List.mem_append_right _ hw)
  have hks' : zKS D ad M (zA ad M H.size) s H := ⟨hks.1, hks.2.1.on hz hS, hks.2.2⟩
  refine z_ofRun hlk htab hQ hr hz hS hl hL hrs (hrun := vx_runS (As := As.map (zph ad)) (rest := rest.map (zph ad)) (H := H) (locs := locs) (cells := k) (slots := n) ⟨hx, hb, hml, hown, hts⟩ (hM D ad H.size) (va_cwS As.length hts hT9 hw rfl rfl hd hR9) ⟨zPc.blind, fun U hU hW => ⟨rfl, by rw [hU], by rw [hU]; exact hr, hav, by rw [hU]; exact hks'.warm hW⟩⟩ rfl (by rw [List.length_map]) hl.1 (by simp) (lv_room (by rw [zcats]; exact hcat)) d hk9) hk9 hxp ?_
  rintro v M1 ⟨r, rfl, hP⟩
  exact kk r M1 hP
theorem z_callIv (X : zCx g l0 cc nL ret own nm Ts fr lo mc ms M00 post xp []) {o : Nat} {index : Nat} {y : MethodName} {bytes : ByteArray} {maxL : Nat} {ws1 ws1' : List Cond} {fr1 lo1 mc1 ms1 : Nat} {As : List Value} {xp1 : String → Prop} {P : zMem → Prop} (d : decode cc pc = .ok (.invokespecial index, 3)) (hM : zS l0 y ws1 fr1 lo1 mc1 ms1 (.ref o :: As) M (zpv P) xp1) (hT9 : GoodIn Ts (ws1)) (hw : ws1 = Cond.code y bytes maxL none :: ws1') (hini : Cond.initialized y.cls ∈ Ts) (hlink : Cond.methodLink own index y ∈ Ts) (hins : Cond.instanceMethod y ∈ Ts) (hy1 : y.name = "<init>")
    {n1 : Nat} (hn1 : As.length = n1) (hd : y.cls ≠ "java/lang/invoke/MethodHandle" ∧ y.cls ≠ "java/lang/invoke/VarHandle" ∧ (parseMethodDescriptor y.desc).map (fun d => d.parameters.length) = some n1) (hR9 : fr1 + 1 ≤ fr ∧ 8 + (maxL + 11) + lo1 ≤ lo) (hst : st = As.reverse ++ .ref o :: rest) (hcat : (rest.map fun v => v.category).sum ≤ 8) (hk9 : k + mc1 ≤ mc ∧ n + ms1 ≤ ms) (hxp : ∀ E, xp1 E → xp E ∧ M = M00)
    (kk : ∀ (M1 : zMem), P M1 → zE g nL (pc + 3) ls rest M1 (k + mc1) (n + ms1)) : zE g nL pc ls st M k n := by
  subst hst
  subst hn1
  obtain ⟨p, l, e, R, s, m, args, below, meth, c, D, ad0, M0, Q⟩ := g
  obtain ⟨h0, hx, hb, hml, hrt, hown, hnm, hts, hR, hM0, hQ, hlk, htab, hks⟩ := X
  intro ad H locs lss hr hz hS hl hL hT
  subst h0; subst hR; subst hM0
  have hav : zls M (.ref o :: As) := zls_c (hT _ (List.mem_append_right _ List.mem_cons_self)) (fun w hw => hT w (List.mem_append_left _ (List.mem_reverse.mpr hw)))
  have hrs : zls M rest := fun w hw => hT w (List.mem_append_right _ (List.mem_cons_of_mem _ hw))
  have hks' : zKS D ad M (zA ad M H.size) s H := ⟨hks.1, hks.2.1.on hz hS, hks.2.2⟩
  refine z_ofRun hlk htab hQ hr hz hS hl hL hrs (hrun := vx_runI (b := ad o) (As := As.map (zph ad)) (rest := rest.map (zph ad)) (H := H) (locs := locs) (cells := k) (slots := n) ⟨hx, hb, hml, hown, hts⟩ (hM D ad H.size) (cwI As.length hts hT9 hw rfl rfl (hts _ hini) (hts _ hlink) (hts _ hins) hy1 hd hR9) ⟨zPc.blind, fun U hU hW => ⟨rfl, by rw [hU], by rw [hU]; exact hr, hav, by rw [hU]; exact hks'.warm hW⟩⟩ rfl (by rw [List.length_map]) hl.1 (by simp [zph]) (lv_room (by rw [zcats]; exact hcat)) d hk9) hk9 hxp ?_
  rintro v M1 ⟨rfl, hP⟩
  exact kk M1 hP
theorem z_throwS (X : zCx g l0 cc nL ret RX7 nm Ts fr lo mc ms M00 post xp []) (hl0 : l0.stackTraces = false) {cls text : String} {ik is ic : Nat} (hq : (cls, ik, ic) ∈ zthr) (hs9 : (is, text) ∈ zstrs) (hE : cls ∈ zex) (hfit : Bundle.fit cls = true)
    (d0 : decode cc pc = .ok (.new ik, 3)) (d3 : decode cc (pc + 3) = .ok (.dup, 1)) (d4 : decode cc (pc + 4) = .ok (.ldc is, 2)) (d6 : decode cc (pc + 6) = .ok (.invokespecial ic, 3)) (d9 : decode cc (pc + 9) = .ok (.athrow, 1))
    (hfr : 5 < fr) (hlo : (rest.map fun v => v.category).sum + 82 ≤ lo) (hk9 : k + 1 ≤ mc ∧ n + 6 ≤ ms) (hM9 : M = M00) (hxp : xp cls) : zE g nL pc ls rest M k n := by
  obtain ⟨p, l, e, R, s, m, args, below, meth, c, D, ad0, M0, Q⟩ := g
  obtain ⟨h0, hx, hb, hml, hrt, hown, hnm, hts, hR, hM0, hQ, hlk, htab, hks⟩ := X
  intro ad H locs lss hr hz hS hl hL hT
  subst h0; subst hR; subst hM0; subst hQ; subst hM9
  obtain ⟨sa, hsa⟩ := hks.2.2.2.1 (is, text) hs9
  have hthr := hks.2.2.1.1 _ hq
  have hall : ∀ w ∈ zthw (cls, ik, ic), w.before args s = true := fun w hw => by
    refine va_tabs (zthw_tabs _ hq w hw) rfl (A := #[]) ?_
    rcases zthw_good _ hq w hw with h | h | h
    · exact hthr w hw h
    · rw [h]; exact (hks.2.2.2.2.2.1 cls hE).1
    · exact hks.2.2.1.2 w h
  refine vx_throwS (names := zsup) (text := text) (A := zA ad0 M s.heap.size) hx hb hl0 hown hfit (by decide +kernel) (hall _ List.mem_cons_self) (hall _ (List.mem_cons_of_mem _ List.mem_cons_self)) hsa (fun w hw => hall w (List.mem_cons_of_mem _ (List.mem_cons_of_mem _ hw))) (fun w hw => by unfold vx_ot; rw [zthw_tabs _ hq w hw]; rfl) hks.2.1.1 hks.2.1.2.1 hS (hl.1.trans hml.symm) d0 d3 d4 d6 d9 (fun x hx => by rw [htab] at hx; cases hx) (show 2 + 3 < fr by omega) (by rw [zcats]; show _ + (13 * (2 + 1) + 43) ≤ lo; omega) hk9.1 hk9.2 hlk ?_ hS.2.2 hk9.1 hk9.2
  intro t hal hsz hsame
  have hr0 : zrel D ad0 M H := zrel_congr hr (fun o ho => ((hz.1 o ho).1).symm)
  refine ⟨hxp, zrel_kept hr0 hsz hsame, Nat.le_trans hS.1 hsz, fun q h1 h2 => ?_⟩
  rw [hsame q (Nat.lt_of_lt_of_le h1 hS.1)]
  exact hS.2.1 q h1 h2
theorem z_throwSW (X : zCx g l0 cc nL ret RX7 nm Ts fr lo mc ms M00 post xp []) (hl0 : l0.stackTraces = false) {cls text : String} {ik is ic : Nat} (hq : (cls, ik, ic) ∈ zthr) (hs9 : (is, text) ∈ zstrs) (hE : cls ∈ zex) (hfit : Bundle.fit cls = true)
    (d0 : decode cc pc = .ok (.new ik, 3)) (d3 : decode cc (pc + 3) = .ok (.dup, 1)) (d4 : decode cc (pc + 4) = .ok (.ldc_w is, 3)) (d6 : decode cc (pc + 7) = .ok (.invokespecial ic, 3)) (d9 : decode cc (pc + 10) = .ok (.athrow, 1))
    (hfr : 5 < fr) (hlo : (rest.map fun v => v.category).sum + 82 ≤ lo) (hk9 : k + 1 ≤ mc ∧ n + 6 ≤ ms) (hM9 : M = M00) (hxp : xp cls) : zE g nL pc ls rest M k n := by
  obtain ⟨p, l, e, R, s, m, args, below, meth, c, D, ad0, M0, Q⟩ := g
  obtain ⟨h0, hx, hb, hml, hrt, hown, hnm, hts, hR, hM0, hQ, hlk, htab, hks⟩ := X
  intro ad H locs lss hr hz hS hl hL hT
  subst h0; subst hR; subst hM0; subst hQ; subst hM9
  obtain ⟨sa, hsa⟩ := hks.2.2.2.1 (is, text) hs9
  have hthr := hks.2.2.1.1 _ hq
  have hall : ∀ w ∈ zthw (cls, ik, ic), w.before args s = true := fun w hw => by
    refine va_tabs (zthw_tabs _ hq w hw) rfl (A := #[]) ?_
    rcases zthw_good _ hq w hw with h | h | h
    · exact hthr w hw h
    · rw [h]; exact (hks.2.2.2.2.2.1 cls hE).1
    · exact hks.2.2.1.2 w h
  refine vx_throwSW (names := zsup) (text := text) (A := zA ad0 M s.heap.size) hx hb hl0 hown hfit (by decide +kernel) (hall _ List.mem_cons_self) (hall _ (List.mem_cons_of_mem _ List.mem_cons_self)) hsa (fun w hw => hall w (List.mem_cons_of_mem _ (List.mem_cons_of_mem _ hw))) (fun w hw => by unfold vx_ot; rw [zthw_tabs _ hq w hw]; rfl) hks.2.1.1 hks.2.1.2.1 hS (hl.1.trans hml.symm) d0 d3 d4 d6 d9 (fun x hx => by rw [htab] at hx; cases hx) (show 2 + 3 < fr by omega) (by rw [zcats]; show _ + (13 * (2 + 1) + 43) ≤ lo; omega) hk9.1 hk9.2 hlk ?_ hS.2.2 hk9.1 hk9.2
  intro t hal hsz hsame
  have hr0 : zrel D ad0 M H := zrel_congr hr (fun o ho => ((hz.1 o ho).1).symm)
  refine ⟨hxp, zrel_kept hr0 hsz hsame, Nat.le_trans hS.1 hsz, fun q h1 h2 => ?_⟩
  rw [hsame q (Nat.lt_of_lt_of_le h1 hS.1)]
  exact hS.2.1 q h1 h2
/-- a new object -/
theorem z_new (X : zCx g l0 cc nL ret own nm Ts fr lo mc ms M00 post xp []) {ci index N : Nat} {C : String} {T : u_T} (o : Nat) (d : decode cc pc = .ok (.new index, 3)) (hq : vwCl[ci]? = some (C, T, N)) (hcl : Cond.classLink own index C ∈ Ts) (hinst : Cond.instantiable C N ∈ Ts) (hini : Cond.initialized C ∈ Ts) (ho : zc M o = 0) (ho31 : o ≠ zE0) (ho63 : o ≠ zMi) (hk9 : k + 1 ≤ mc ∧ n + N ≤ ms)
    (kk : zE g nL (pc + 3) ls (.ref o :: rest) (znew M o (ci + 1) 0) (k + 1) (n + N)) : zE g nL pc ls rest M k n := by
  obtain ⟨p, l, e, R, s, m, args, below, meth, c, D, ad0, M0, Q⟩ := g
  obtain ⟨h0, hx, hb, hml, hrt, hown, hnm, hts, hR, hM0, hQ, hlk, htab, hks⟩ := X
  intro ad H locs lss hr hz hS hl hL hT
  subst hR
  have hKn := hks.1.1.1 ci _ hq
  have hlay := hks.1.2 ci _ hq
  obtain ⟨hty, -⟩ := zokC_all ci _ hq
  have hci : ci < 11 := (List.getElem?_eq_some_iff.mp hq).1
  refine W.newcK hx hb hown (hts _ hcl) (hts _ hinst) (hts _ hini) rfl d hk9.1 hk9.2 hKn.2.1 rfl fun H1 kC hkC e1 z1 o1 => ?_
  have hb9 := u_born (zct ci) hlay (fun _ h => h) hKn hkC e1 hty
  have he : ∀ a, zc M a ≠ 0 → (fun a => if a = o then H.size else ad a) a = ad a := fun a ha => if_neg (fun e => ha (by rw [e]; exact ho))
  have hr9 : zrel D (fun a => if a = o then H.size else ad a) (znew M o (ci + 1) 0) H1 := zrel_new hr ho (Nat.succ_ne_zero _) z1 o1 ⟨fun ci' q' hc' hq' => (by
    have hcc : ci = ci' := by
      have h9 : zc (znew M o (ci + 1) 0) o = ci + 1 := if_pos rfl
      rw [h9] at hc'
      exact Nat.succ.inj hc'
    subst hcc
    rw [hq] at hq'
    cases hq'
    show t_OB (if o = o then H.size else ad o) _ _ _ _ _
    rw [if_pos rfl]
    exact hb9.to (fun j _ => (zmv_new _ _).symm)), fun t ht h6 => (by
    have h9 : zc (znew M o (ci + 1) 0) o = ci + 1 := if_pos rfl
    rw [h9] at ht
    omega)⟩
  have k9 := kk _ H1 locs lss hr9 (zx_new hz ho (Nat.succ_ne_zero _) hS.1 ho31 ho63) ⟨Nat.le_trans hS.1 (by omega), fun x h1 h2 => (o1 x (Nat.lt_of_lt_of_le h1 hS.1)).trans (hS.2.1 x h1 h2), hS.2.2⟩ (by rw [zll_congr he hL]; exact hl) (zll_mono (fun a ha => zc_new ha ho) hL) (zls_c (zlv_ref (by show zc (znew M o (ci + 1) 0) o ≠ 0; rw [show zc (znew M o (ci + 1) 0) o = ci + 1 from if_pos rfl]; exact Nat.succ_ne_zero _)) (zls_mono (fun a ha => zc_new ha ho) hT))
  have e9 : (Value.ref o :: rest).map (zph (fun a => if a = o then H.size else ad a)) = .ref H.size :: rest.map (zph ad) := by
    rw [List.map_cons, zst_congr he hT]
    show Value.ref (if o = o then H.size else ad o) :: _ = _
    rw [if_pos rfl]
  rw [e9] at k9
  exact k9
end ZC
