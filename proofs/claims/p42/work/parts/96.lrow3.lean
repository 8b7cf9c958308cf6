/-! PART 96c: static calls, no table known; what reads -/
section ZLE
variable {g : zCtx} {l0 : Launch} {cc : ByteArray} {nL : Nat} {ret : Option FieldType} {own nm : String} {Ts : List Cond} {fr lo mc ms : Nat} {M00 : zMem} {post : Option Value → zMem → Prop} {xp : String → Prop} {tab : List ExceptionTableEntry}
variable {pc : Nat} {ls ls' : List (Nat × Value)} {st rest : List Value} {M : zMem} {k n : Nat}
theorem z_callSWdN (X : zCx g l0 cc nL ret own nm Ts fr lo mc ms M00 post xp tab) {index : Nat} {y : MethodName} {bytes : ByteArray} {maxL : Nat} {ret1 : Option FieldType} {ws1 ws1' : List Cond} {hh : List (Nat × Nat × Nat × Nat)} {fr1 lo1 mc1 ms1 : Nat} {As : List Value} {P : UInt64 → zMem → Prop} (d : decode cc pc = .ok (.invokestatic index, 3)) (hM : zS l0 y ws1 fr1 lo1 mc1 ms1 As M (zpd P) zno) (hT9 : GoodIn Ts (va_wsS own index y ws1)) (hw : ws1 = Cond.codeWith y bytes maxL ret1 hh :: ws1')
    {n1 : Nat} (hn1 : As.length = n1) (hd : y.cls ≠ "java/lang/invoke/MethodHandle" ∧ y.cls ≠ "java/lang/invoke/VarHandle" ∧ (parseMethodDescriptor y.desc).map (fun d => d.parameters.length) = some n1) (hR9 : fr1 + 1 ≤ fr ∧ 8 + (maxL + 11) + lo1 ≤ lo) (hst : st = As.reverse ++ rest) (hcat : (rest.map fun v => v.category).sum ≤ 8) (hk9 : k + mc1 ≤ mc ∧ n + ms1 ≤ ms) 
    (kk : ∀ (r : UInt64) (M1 : zMem), P r M1 → zE g nL (pc + 3) ls (.double r :: rest) M1 (k + mc1) (n + ms1)) : zE g nL pc ls st M k n := by
  subst hst
  subst hn1
  obtain ⟨p, l, e, R, s, m, args, below, meth, c, D, ad0, M0, Q⟩ := g
  obtain ⟨h0, hx, hb, hml, hrt, hown, hnm, hts, hR, hM0, hQ, hlk, htab, hks⟩ := X
  intro ad H locs lss hr hz hS hl hL hT
  subst h0; subst hR; subst hM0
  have hav : zls M As := fun w hw => hT w (List.mem_append_left _ (List.mem_reverse.mpr hw))
  have hrs : zls M rest := fun w hw => hT w (List.mem_append_right _ hw)
  have hks' : zKS D ad M (zA ad M H.size) s H := ⟨hks.1, hks.2.1.on hz hS, hks.2.2⟩
  refine z_ofRunN hr hz hS hl hL hrs (hrun := vx_runSX (As := As.map (zph ad)) (rest := rest.map (zph ad)) (H := H) (locs := locs) (cells := k) (slots := n) ⟨hx, hb, hml, hown, hts⟩ (hM D ad H.size) (vx_cwSW As.length hts hT9 hw rfl rfl hd hR9) ⟨zPc.blind, fun U hU hW => ⟨rfl, by rw [hU], by rw [hU]; exact hr, hav, by rw [hU]; exact hks'.warm hW⟩⟩ rfl (by rw [List.length_map]) hl.1 (by simp) (lv_room (by rw [zcats]; exact hcat)) d hk9) ?_
  rintro v M1 ⟨r, rfl, hP⟩
  exact kk r M1 hP
theorem z_callSWfN (X : zCx g l0 cc nL ret own nm Ts fr lo mc ms M00 post xp tab) {index : Nat} {y : MethodName} {bytes : ByteArray} {maxL : Nat} {ret1 : Option FieldType} {ws1 ws1' : List Cond} {hh : List (Nat × Nat × Nat × Nat)} {fr1 lo1 mc1 ms1 : Nat} {As : List Value} {P : UInt32 → zMem → Prop} (d : decode cc pc = .ok (.invokestatic index, 3)) (hM : zS l0 y ws1 fr1 lo1 mc1 ms1 As M (zpf P) zno) (hT9 : GoodIn Ts (va_wsS own index y ws1)) (hw : ws1 = Cond.codeWith y bytes maxL ret1 hh :: ws1')
    {n1 : Nat} (hn1 : As.length = n1) (hd : y.cls ≠ "java/lang/invoke/MethodHandle" ∧ y.cls ≠ "java/lang/invoke/VarHandle" ∧ (parseMethodDescriptor y.desc).map (fun d => d.parameters.length) = some n1) (hR9 : fr1 + 1 ≤ fr ∧ 8 + (maxL + 11) + lo1 ≤ lo) (hst : st = As.reverse ++ rest) (hcat : (rest.map fun v => v.category).sum ≤ 8) (hk9 : k + mc1 ≤ mc ∧ n + ms1 ≤ ms) 
    (kk : ∀ (r : UInt32) (M1 : zMem), P r M1 → zE g nL (pc + 3) ls (.float r :: rest) M1 (k + mc1) (n + ms1)) : zE g nL pc ls st M k n := by
  subst hst
  subst hn1
  obtain ⟨p, l, e, R, s, m, args, below, meth, c, D, ad0, M0, Q⟩ := g
  obtain ⟨h0, hx, hb, hml, hrt, hown, hnm, hts, hR, hM0, hQ, hlk, htab, hks⟩ := X
  intro ad H locs lss hr hz hS hl hL hT
  subst h0; subst hR; subst hM0
  have hav : zls M As := fun w hw => hT w (List.mem_append_left _ (List.mem_reverse.mpr hw))
  have hrs : zls M rest := fun w hw => hT w (List.mem_append_right _ hw)
  have hks' : zKS D ad M (zA ad M H.size) s H := ⟨hks.1, hks.2.1.on hz hS, hks.2.2⟩
  refine z_ofRunN hr hz hS hl hL hrs (hrun := vx_runSX (As := As.map (zph ad)) (rest := rest.map (zph ad)) (H := H) (locs := locs) (cells := k) (slots := n) ⟨hx, hb, hml, hown, hts⟩ (hM D ad H.size) (vx_cwSW As.length hts hT9 hw rfl rfl hd hR9) ⟨zPc.blind, fun U hU hW => ⟨rfl, by rw [hU], by rw [hU]; exact hr, hav, by rw [hU]; exact hks'.warm hW⟩⟩ rfl (by rw [List.length_map]) hl.1 (by simp) (lv_room (by rw [zcats]; exact hcat)) d hk9) ?_
  rintro v M1 ⟨r, rfl, hP⟩
  exact kk r M1 hP
theorem z_callSiN (X : zCx g l0 cc nL ret own nm Ts fr lo mc ms M00 post xp tab) {index : Nat} {y : MethodName} {bytes : ByteArray} {maxL : Nat} {ret1 : Option FieldType} {ws1 ws1' : List Cond} {fr1 lo1 mc1 ms1 : Nat} {As : List Value} {P : Int32 → zMem → Prop} (d : decode cc pc = .ok (.invokestatic index, 3)) (hM : zS l0 y ws1 fr1 lo1 mc1 ms1 As M (zpi P) zno) (hT9 : GoodIn Ts (va_wsS own index y ws1)) (hw : ws1 = Cond.code y bytes maxL ret1 :: ws1')
    {n1 : Nat} (hn1 : As.length = n1) (hd : y.cls ≠ "java/lang/invoke/MethodHandle" ∧ y.cls ≠ "java/lang/invoke/VarHandle" ∧ (parseMethodDescriptor y.desc).map (fun d => d.parameters.length) = some n1) (hR9 : fr1 + 1 ≤ fr ∧ 8 + (maxL + 11) + lo1 ≤ lo) (hst : st = As.reverse ++ rest) (hcat : (rest.map fun v => v.category).sum ≤ 8) (hk9 : k + mc1 ≤ mc ∧ n + ms1 ≤ ms) 
    (kk : ∀ (r : Int32) (M1 : zMem), P r M1 → zE g nL (pc + 3) ls (.int r :: rest) M1 (k + mc1) (n + ms1)) : zE g nL pc ls st M k n := by
  subst hst
  subst hn1
  obtain ⟨p, l, e, R, s, m, args, below, meth, c, D, ad0, M0, Q⟩ := g
  obtain ⟨h0, hx, hb, hml, hrt, hown, hnm, hts, hR, hM0, hQ, hlk, htab, hks⟩ := X
  intro ad H locs lss hr hz hS hl hL hT
  subst h0; subst hR; subst hM0
  have hav : zls M As := fun w hw => hT w (List.mem_append_left _ (List.mem_reverse.mpr hw))
  have hrs : zls M rest := fun w hw => hT w (List.mem_append_right _ hw)
  have hks' : zKS D ad M (zA ad M H.size) s H := ⟨hks.1, hks.2.1.on hz hS, hks.2.2⟩
  refine z_ofRunN hr hz hS hl hL hrs (hrun := vx_runS (As := As.map (zph ad)) (rest := rest.map (zph ad)) (H := H) (locs := locs) (cells := k) (slots := n) ⟨hx, hb, hml, hown, hts⟩ (hM D ad H.size) (va_cwS As.length hts hT9 hw rfl rfl hd hR9) ⟨zPc.blind, fun U hU hW => ⟨rfl, by rw [hU], by rw [hU]; exact hr, hav, by rw [hU]; exact hks'.warm hW⟩⟩ rfl (by rw [List.length_map]) hl.1 (by simp) (lv_room (by rw [zcats]; exact hcat)) d hk9) ?_
  rintro v M1 ⟨r, rfl, hP⟩
  exact kk r M1 hP
theorem z_callSlN (X : zCx g l0 cc nL ret own nm Ts fr lo mc ms M00 post xp tab) {index : Nat} {y : MethodName} {bytes : ByteArray} {maxL : Nat} {ret1 : Option FieldType} {ws1 ws1' : List Cond} {fr1 lo1 mc1 ms1 : Nat} {As : List Value} {P : Int64 → zMem → Prop} (d : decode cc pc = .ok (.invokestatic index, 3)) (hM : zS l0 y ws1 fr1 lo1 mc1 ms1 As M (zpj P) zno) (hT9 : GoodIn Ts (va_wsS own index y ws1)) (hw : ws1 = Cond.code y bytes maxL ret1 :: ws1')
    {n1 : Nat} (hn1 : As.length = n1) (hd : y.cls ≠ "java/lang/invoke/MethodHandle" ∧ y.cls ≠ "java/lang/invoke/VarHandle" ∧ (parseMethodDescriptor y.desc).map (fun d => d.parameters.length) = some n1) (hR9 : fr1 + 1 ≤ fr ∧ 8 + (maxL + 11) + lo1 ≤ lo) (hst : st = As.reverse ++ rest) (hcat : (rest.map fun v => v.category).sum ≤ 8) (hk9 : k + mc1 ≤ mc ∧ n + ms1 ≤ ms) 
    (kk : ∀ (r : Int64) (M1 : zMem), P r M1 → zE g nL (pc + 3) ls (.long r :: rest) M1 (k + mc1) (n + ms1)) : zE g nL pc ls st M k n := by
  subst hst
  subst hn1
  obtain ⟨p, l, e, R, s, m, args, below, meth, c, D, ad0, M0, Q⟩ := g
  obtain ⟨h0, hx, hb, hml, hrt, hown, hnm, hts, hR, hM0, hQ, hlk, htab, hks⟩ := X
  intro ad H locs lss hr hz hS hl hL hT
  subst h0; subst hR; subst hM0
  have hav : zls M As := fun w hw => hT w (List.mem_append_left _ (List.mem_reverse.mpr hw))
  have hrs : zls M rest := fun w hw => hT w (List.mem_append_right _ hw)
  have hks' : zKS D ad M (zA ad M H.size) s H := ⟨hks.1, hks.2.1.on hz hS, hks.2.2⟩
  refine z_ofRunN hr hz hS hl hL hrs (hrun := vx_runS (As := As.map (zph ad)) (rest := rest.map (zph ad)) (H := H) (locs := locs) (cells := k) (slots := n) ⟨hx, hb, hml, hown, hts⟩ (hM D ad H.size) (va_cwS As.length hts hT9 hw rfl rfl hd hR9) ⟨zPc.blind, fun U hU hW => ⟨rfl, by rw [hU], by rw [hU]; exact hr, hav, by rw [hU]; exact hks'.warm hW⟩⟩ rfl (by rw [List.length_map]) hl.1 (by simp) (lv_room (by rw [zcats]; exact hcat)) d hk9) ?_
  rintro v M1 ⟨r, rfl, hP⟩
  exact kk r M1 hP
end ZLE
/-! what reads the class's memory alone, read in the law's memory -/
section ZRD
variable {l : Launch} {y : MethodName} {ws : List Cond} {fr lo mc ms : Nat} {av : List Value} {C M : zMem}
theorem zC_ri {V : Int32} (h : zS l y ws fr lo mc ms av C (zpi (fun v M1 => v = V ∧ M1 = C)) zno) (hC : zCok C) (hav : zavC av = true) : zS l y ws fr lo mc ms av (zmg C M) (zpi (fun v G => v = V ∧ G = zmg C M)) zno := by
  refine zS_imp (zC_i h hC (fun v C' hv => by rw [hv.2]; exact hC) hav) ?_
  rintro v G ⟨r, rfl, C', ⟨e1, e2⟩, e3⟩
  exact ⟨r, rfl, e1, by rw [e3, e2]⟩
theorem zC_rl {V : Int64} (h : zS l y ws fr lo mc ms av C (zpj (fun v M1 => v = V ∧ M1 = C)) zno) (hC : zCok C) (hav : zavC av = true) : zS l y ws fr lo mc ms av (zmg C M) (zpj (fun v G => v = V ∧ G = zmg C M)) zno := by
  refine zS_imp (zC_l h hC (fun v C' hv => by rw [hv.2]; exact hC) hav) ?_
  rintro v G ⟨r, rfl, C', ⟨e1, e2⟩, e3⟩
  exact ⟨r, rfl, e1, by rw [e3, e2]⟩
theorem zC_d {P : UInt64 → zMem → Prop} (h : zS l y ws fr lo mc ms av C (zpd P) zno) (hC : zCok C) (hp : ∀ v C', P v C' → zCok C') (hav : zavC av = true) : zS l y ws fr lo mc ms av (zmg C M) (zpd (fun v G => ∃ C', P v C' ∧ G = zmg C' M)) zno := by
  have h9 := zS_C (M := M) h hC (fun v C' hv => by obtain ⟨r, -, hr⟩ := hv; exact hp r C' hr) (zavC_h hav)
  rw [rnm_id] at h9
  refine zS_imp h9 ?_
  rintro v G ⟨v0, C', ⟨r, rfl, hr⟩, rfl, rfl⟩
  exact ⟨r, rfl, C', hr, rfl⟩
theorem zC_f {P : UInt32 → zMem → Prop} (h : zS l y ws fr lo mc ms av C (zpf P) zno) (hC : zCok C) (hp : ∀ v C', P v C' → zCok C') (hav : zavC av = true) : zS l y ws fr lo mc ms av (zmg C M) (zpf (fun v G => ∃ C', P v C' ∧ G = zmg C' M)) zno := by
  have h9 := zS_C (M := M) h hC (fun v C' hv => by obtain ⟨r, -, hr⟩ := hv; exact hp r C' hr) (zavC_h hav)
  rw [rnm_id] at h9
  refine zS_imp h9 ?_
  rintro v G ⟨v0, C', ⟨r, rfl, hr⟩, rfl, rfl⟩
  exact ⟨r, rfl, C', hr, rfl⟩
theorem zC_rd {V : UInt64} (h : zS l y ws fr lo mc ms av C (zpd (fun v M1 => v = V ∧ M1 = C)) zno) (hC : zCok C) (hav : zavC av = true) : zS l y ws fr lo mc ms av (zmg C M) (zpd (fun v G => v = V ∧ G = zmg C M)) zno := by
  refine zS_imp (zC_d h hC (fun v C' hv => by rw [hv.2]; exact hC) hav) ?_
  rintro v G ⟨r, rfl, C', ⟨e1, e2⟩, e3⟩
  exact ⟨r, rfl, e1, by rw [e3, e2]⟩
theorem zC_rf {V : UInt32} (h : zS l y ws fr lo mc ms av C (zpf (fun v M1 => v = V ∧ M1 = C)) zno) (hC : zCok C) (hav : zavC av = true) : zS l y ws fr lo mc ms av (zmg C M) (zpf (fun v G => v = V ∧ G = zmg C M)) zno := by
  refine zS_imp (zC_f h hC (fun v C' hv => by rw [hv.2]; exact hC) hav) ?_
  rintro v G ⟨r, rfl, C', ⟨e1, e2⟩, e3⟩
  exact ⟨r, rfl, e1, by rw [e3, e2]⟩
end ZRD
