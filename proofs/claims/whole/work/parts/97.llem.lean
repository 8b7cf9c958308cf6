/-! PART 97: the law's pieces -/
def zar (xs : Nat → Int32) (ix : Int32) (i : Int) : Int32 := xs (ix + Int32.ofInt i).toNatClampNeg
abbrev lB (ix : Int32) : List (Nat × Value) := [(5, .int ix), (4, .ref 15), (3, .ref 14), (2, .ref 48), (1, .ref 1), (0, .ref 17)]
theorem zchr (x : Int32) : narrow .char (.int (x.toUInt32 % 65536).toInt32) = .int (x.toUInt32 % 65536).toInt32 := by
  have e : (x.toUInt32 % 65536).toUInt16.toUInt32 = x.toUInt32 % 65536 := by
    refine UInt32.toNat_inj.mp ?_
    rw [UInt32.toUInt32_toUInt16, UInt32.toNat_mod, UInt32.toNat_mod]
    exact Nat.mod_mod _ _
  exact congrArg (fun w : UInt32 => Value.int w.toInt32) e
theorem zcmp0 (x : Int64) : lg_cmp x x = 0 := by
  unfold lg_cmp
  rw [if_neg (show ¬ x > x from fun e => Int64.lt_irrefl e), if_pos rfl]
def zKK (g : zCtx) (ix : Int32) (k nn : Nat) : Prop := ∀ (n : Nat → Nat) (i x : Nat → Nat → Int32) (lm : Nat → Nat → Int64) (y : Nat → Nat → Nat) (t : Nat) (ol : Int64) (od : UInt64), CI n i x lm y t → zE g 9 2357 (lB ix) [] (zmg (cmm n i x lm y ol od) (zmm i lm)) k nn
theorem zO_ok {F : Nat → Nat → Int32} {L : Nat → Nat → Int64} {T : Int32} {V : Int64} {k : Int32} {C' : zMem} (h : zO F L T V k C') : zCok C' := by
  obtain ⟨n, x, y, t, ol, od, rfl, -⟩ := h
  exact zCok_cmm
theorem zOd_ok {F : Nat → Nat → Int32} {L : Nat → Nat → Int64} {T : Int32} {V : UInt64} {k : Int32} {C' : zMem} (h : zOd F L T V k C') : zCok C' := by
  obtain ⟨n, x, y, t, ol, od, rfl, -⟩ := h
  exact zCok_cmm
theorem zit {c : Prop} [Decidable c] {A B : Nat → Nat → Int32} {a b : Int32} (hA : A 1 43 = a) (hB : B 1 43 = b) : (if c then A else B) 1 43 = if c then a else b := by
  by_cases h : c
  · rw [if_pos h, if_pos h]; exact hA
  · rw [if_neg h, if_neg h]; exact hB
section ZL7
variable {n : Nat → Nat} {i x : Nat → Nat → Int32} {lm : Nat → Nat → Int64} {y : Nat → Nat → Nat} {t : Nat} {ol : Int64} {od : UInt64} {C M : zMem}
theorem zg48 : zc (zmg C (zmm i lm)) 48 = 11 + 1 := (zg_M (C := C) (M := zmm i lm) (o := 1)).1.trans zmm_c1
theorem zg1 : zc (zmg (cmm n i x lm y ol od) M) 1 = 10 + 1 := (zg_C (by decide)).1.trans ck_1
theorem zg14 : zc (zmg (cmm n i x lm y ol od) M) 14 = 21 ∧ zn (zmg (cmm n i x lm y ol od) M) 14 = 1 ∧ zl (zmg (cmm n i x lm y ol od) M) 14 0 = ol := by
  obtain ⟨h1, h2, h3⟩ := zg_C (C := cmm n i x lm y ol od) (M := M) (p := 14) (by decide)
  exact ⟨h1.trans ck_14, h2.trans cn_14, (h3 0).2.2.1.trans cl_14⟩
theorem zg15 : zc (zmg (cmm n i x lm y ol od) M) 15 = 24 ∧ zn (zmg (cmm n i x lm y ol od) M) 15 = 1 ∧ zd (zmg (cmm n i x lm y ol od) M) 15 0 = od := by
  obtain ⟨h1, h2, h3⟩ := zg_C (C := cmm n i x lm y ol od) (M := M) (p := 15) (by decide)
  exact ⟨h1.trans ck_15, h2.trans cn_15, (h3 0).2.2.2.trans rfl⟩
theorem vp01 {N : Nat} (h : N = 1) : vp_in 0 N := by subst h; unfold vp_in; decide
/-- what the model's calls ask of the numbers -/
theorem CI_mWF (h : CI n i x lm y t) : mWF i (n 5) (n 7) (n 8) := by
  have h5 := h.1.2.1
  refine ⟨⟨h.2.1.2.2.1, h5.1⟩, ⟨h.2.1.2.2.2.2.1, h5.2.2.1⟩, ⟨h.2.1.2.2.2.2.2.1, h5.2.2.2⟩, fun p hp => ?_, fun o ho => (h.2.2.2.2.2.2.2.2.2.1.1 o ho).1⟩
  obtain ⟨⟨w1, w2⟩, w3, w4⟩ := h.1.2.2.1 p hp
  have w5 := (h.1.2.2.2.1 _ w3).1
  have e1 : cl (nI (cl (i 131 p))) = cl (i 131 p) := nI_clamp (by omega)
  have e2 : cl (nI (y 1 (y 0 p))) = y 1 (y 0 p) := nI_clamp (by omega)
  refine ⟨?_, ?_⟩
  · rw [w2]; exact nI_in (by omega) (by omega)
  · rw [w4]; exact nI_in (by omega) (by omega)
end ZL7
section ZL8
variable {g : zCtx} {l0 : Launch} {nm : String} {M00 : zMem} {post : Option Value → zMem → Prop} {tab : List ExceptionTableEntry} {L : Nat} {xs : Nat → Int32} {ix : Int32} {k nn : Nat} {pc : Nat} {ls : List (Nat × Value)} {st : List Value} {M : zMem}
variable {n : Nat → Nat} {i x : Nat → Nat → Int32} {lm : Nat → Nat → Int64} {y : Nat → Nat → Nat} {t : Nat} {ol : Int64} {od : UInt64}
theorem zl_arg (X : zCx g l0 cL_law 9 (some .boolean) RL nm wsL_law 19 10812 603072 7215210 M00 post zno tab) (S : zScr g L xs) {i : Int} (j0 j5 : Nat) (hb : vp_in (ix + Int32.ofInt i) L)
    (d0 : decode cL_law pc = .ok (.aload_n 0, 1)) (d1 : decode cL_law (pc + 1) = .ok (.iload 5, 2)) (d3 : decode cL_law (pc + 3) = .ok (.iconst i, 1)) (d4 : decode cL_law (pc + 4) = .ok (.iadd, 1)) (d5 : decode cL_law (pc + 5) = .ok (.iaload, 1)) (h0 : ls[j0]? = some (0, .ref 17)) (h5 : ls[j5]? = some (5, .int ix))
    (kk : zE g 9 (pc + 6) ls (.int (zar xs ix i) :: st) M k nn) : zE g 9 pc ls st M k nn := by
  refine z_aload_n X j0 d0 rfl h0 ?_
  refine z_iload X j5 d1 h5 ?_
  refine z_iconst X d3 rfl ?_
  refine z_iadd X d4 ?_
  exact z_sld X S d5 hb rfl kk
set_option maxRecDepth 100000 in
set_option maxHeartbeats 4000000 in
/-- the model's mark, against what the class threw -/
theorem zl_thr {ls : List (Nat × Value)} {k6 : Int32} {lm : Nat → Nat → Int64} {i : Nat → Nat → Int32} {C : zMem} {j2 j6 : Nat} (X : zCx g l0 cL_law 9 (some .boolean) RL nm wsL_law 19 10812 603072 7215210 M00 post zno tab) (hC : zCok C) (hk : k ≤ 603072 ∧ nn ≤ 7215210)
    (e0 : decode cL_law pc = .ok (.aload_n 2, 1)) (e1 : decode cL_law (pc + 1) = .ok (.invokevirtual 141, 3)) (e4 : decode cL_law (pc + 4) = .ok (.iload 6, 2)) (e6 : decode cL_law (pc + 6) = .ok (.if_icmp .eq 5, 3))
    (h2 : ls[j2]? = some (2, .ref 48)) (h6 : ls[j6]? = some (6, .int k6)) (hT : i 1 43 = k6) (kk : zE g 9 (pc + 11) ls [] (zmg C (zmm i lm)) k nn) : zE g 9 pc ls [] (zmg C (zmm i lm)) k nn := by
  refine z_aload_n X j2 e0 rfl h2 ?_
  refine z_callViN (As := []) (rest := []) (n1 := 0) (ci := 11) X e1 (zM_i (av' := [.ref 48]) (c_X8_thrown l0 i lm) hC rfl) gL_law_X8_thrown rfl rfl (by decide +kernel) ⟨by decide, by decide⟩ zg48 rfl rfl (Nat.le_of_ble_eq_true rfl) hk ?_
  rintro r G ⟨rfl, rfl⟩
  refine z_iload X j6 e4 h6 ?_
  exact z_icmp_eq (pc := pc + 6) (tgt := pc + 11) X e6 (by omega) (fun _ => kk) (fun q => absurd hT q)
set_option maxRecDepth 100000 in
set_option maxHeartbeats 4000000 in
theorem zl_tI (X : zCx g l0 cL_law 9 (some .boolean) RL nm wsL_law 19 10812 603072 7215210 M00 post zno tab) {off : Int} {k6 v : Int32} (hk : k ≤ 603072 ∧ nn ≤ 7215210)
    (e0 : decode cL_law pc = .ok (.aload_n 2, 1)) (e1 : decode cL_law (pc + 1) = .ok (.invokevirtual 141, 3)) (e4 : decode cL_law (pc + 4) = .ok (.iload 6, 2)) (e6 : decode cL_law (pc + 6) = .ok (.if_icmp .eq 5, 3)) (e11 : decode cL_law (pc + 11) = .ok (.iload 6, 2)) (e13 : decode cL_law (pc + 13) = .ok (.ifCond .ne 15, 3))
    (e16 : decode cL_law (pc + 16) = .ok (.aload_n 3, 1)) (e17 : decode cL_law (pc + 17) = .ok (.iconst 0, 1)) (e18 : decode cL_law (pc + 18) = .ok (.laload, 1)) (e19 : decode cL_law (pc + 19) = .ok (.iload 7, 2)) (e21 : decode cL_law (pc + 21) = .ok (.i2l, 1)) (e22 : decode cL_law (pc + 22) = .ok (.lcmp, 1)) (e23 : decode cL_law (pc + 23) = .ok (.ifCond .eq 5, 3)) (e28 : decode cL_law (pc + 28) = .ok (.goto off, 3)) (ht : ((pc + 28 : Nat) : Int) + off = (2357 : Nat))
    (hT : i 1 43 = k6) (hv : k6 = 0 → ol = v.toInt64) (h : CI n i x lm y t) (K : zKK g ix k nn) : zE g 9 pc ((7, .int v) :: (6, .int k6) :: lB ix) [] (zmg (cmm n i x lm y ol od) (zmm i lm)) k nn := by
  have hend : zE g 9 (pc + 28) ((7, .int v) :: (6, .int k6) :: lB ix) [] (zmg (cmm n i x lm y ol od) (zmm i lm)) k nn := by
    refine z_goto (tgt := 2357) X e28 ht ?_
    exact z_sub (ls' := lB ix) [2, 3, 4, 5, 6, 7] rfl (K n i x lm y t ol od h)
  refine zl_thr (j2 := 5) (j6 := 1) X zCok_cmm hk e0 e1 e4 e6 rfl rfl hT ?_
  refine z_iload X 1 e11 rfl ?_
  refine z_if_ne (pc := pc + 13) (tgt := pc + 28) X e13 (by omega) (fun _ => hend) (fun c => ?_)
  refine z_aload_n X 4 e16 rfl rfl ?_
  refine z_iconst (v := 0) X e17 (by decide) ?_
  refine z_lald (j := 0) (x := ol) X e18 zg14.1 (vp01 zg14.2.1) (by decide) zg14.2.2 ?_
  refine z_iload X 0 e19 rfl ?_
  refine z_i2l X e21 ?_
  refine z_lcmp X e22 ?_
  refine z_if_eq (pc := pc + 23) (tgt := pc + 28) X e23 (by omega) (fun _ => hend) (fun q => absurd ?_ q)
  rw [hv c]
  exact zcmp0 _
set_option maxRecDepth 100000 in
set_option maxHeartbeats 4000000 in
theorem zl_tB (X : zCx g l0 cL_law 9 (some .boolean) RL nm wsL_law 19 10812 603072 7215210 M00 post zno tab) {off : Int} {k6 v : Int32} (hk : k ≤ 603072 ∧ nn ≤ 7215210)
    (e0 : decode cL_law pc = .ok (.aload_n 2, 1)) (e1 : decode cL_law (pc + 1) = .ok (.invokevirtual 141, 3)) (e4 : decode cL_law (pc + 4) = .ok (.iload 6, 2)) (e6 : decode cL_law (pc + 6) = .ok (.if_icmp .eq 5, 3)) (e11 : decode cL_law (pc + 11) = .ok (.iload 6, 2)) (e13 : decode cL_law (pc + 13) = .ok (.ifCond .ne 22, 3))
    (e16 : decode cL_law (pc + 16) = .ok (.aload_n 3, 1)) (e17 : decode cL_law (pc + 17) = .ok (.iconst 0, 1)) (e18 : decode cL_law (pc + 18) = .ok (.laload, 1)) (e19 : decode cL_law (pc + 19) = .ok (.iload 7, 2)) (e21 : decode cL_law (pc + 21) = .ok (.ifCond .eq 7, 3)) (e24 : decode cL_law (pc + 24) = .ok (.lconst 1, 1)) (e25 : decode cL_law (pc + 25) = .ok (.goto 4, 3)) (e28 : decode cL_law (pc + 28) = .ok (.lconst 0, 1)) (e29 : decode cL_law (pc + 29) = .ok (.lcmp, 1)) (e30 : decode cL_law (pc + 30) = .ok (.ifCond .eq 5, 3)) (e35 : decode cL_law (pc + 35) = .ok (.goto off, 3)) (ht : ((pc + 35 : Nat) : Int) + off = (2357 : Nat))
    (hT : i 1 43 = k6) (hv : k6 = 0 → ol = if v = 0 then 0 else 1) (h : CI n i x lm y t) (K : zKK g ix k nn) : zE g 9 pc ((7, .int v) :: (6, .int k6) :: lB ix) [] (zmg (cmm n i x lm y ol od) (zmm i lm)) k nn := by
  have hend : zE g 9 (pc + 35) ((7, .int v) :: (6, .int k6) :: lB ix) [] (zmg (cmm n i x lm y ol od) (zmm i lm)) k nn := by
    refine z_goto (tgt := 2357) X e35 ht ?_
    exact z_sub (ls' := lB ix) [2, 3, 4, 5, 6, 7] rfl (K n i x lm y t ol od h)
  refine zl_thr (j2 := 5) (j6 := 1) X zCok_cmm hk e0 e1 e4 e6 rfl rfl hT ?_
  refine z_iload X 1 e11 rfl ?_
  refine z_if_ne (pc := pc + 13) (tgt := pc + 35) X e13 (by omega) (fun _ => hend) (fun c => ?_)
  refine z_aload_n X 4 e16 rfl rfl ?_
  refine z_iconst (v := 0) X e17 (by decide) ?_
  refine z_lald (j := 0) (x := ol) X e18 zg14.1 (vp01 zg14.2.1) (by decide) zg14.2.2 ?_
  refine z_iload X 0 e19 rfl ?_
  have hcmp : zE g 9 (pc + 29) ((7, .int v) :: (6, .int k6) :: lB ix) [.long (if v = 0 then 0 else 1), .long ol] (zmg (cmm n i x lm y ol od) (zmm i lm)) k nn := by
    refine z_lcmp X e29 ?_
    refine z_if_eq (pc := pc + 30) (tgt := pc + 35) X e30 (by omega) (fun _ => hend) (fun q => absurd ?_ q)
    rw [hv c]
    exact zcmp0 _
  refine z_if_eq (pc := pc + 21) (tgt := pc + 28) X e21 (by omega) (fun c1 => ?_) (fun c1 => ?_)
  · refine z_lconst (v := 0) X e28 rfl ?_
    rw [if_pos c1] at hcmp
    exact hcmp
  · refine z_lconst (v := 1) X e24 rfl ?_
    refine z_goto (pc := pc + 25) (tgt := pc + 29) X e25 (by omega) ?_
    rw [if_neg c1] at hcmp
    exact hcmp
set_option maxRecDepth 100000 in
set_option maxHeartbeats 4000000 in
theorem zl_tD (X : zCx g l0 cL_law 9 (some .boolean) RL nm wsL_law 19 10812 603072 7215210 M00 post zno tab) {off : Int} {k6 : Int32} {v : UInt64} (hk : k ≤ 603072 ∧ nn ≤ 7215210)
    (e0 : decode cL_law pc = .ok (.aload_n 2, 1)) (e1 : decode cL_law (pc + 1) = .ok (.invokevirtual 141, 3)) (e4 : decode cL_law (pc + 4) = .ok (.iload 6, 2)) (e6 : decode cL_law (pc + 6) = .ok (.if_icmp .eq 5, 3)) (e11 : decode cL_law (pc + 11) = .ok (.iload 6, 2)) (e13 : decode cL_law (pc + 13) = .ok (.ifCond .ne 35, 3))
    (e16 : decode cL_law (pc + 16) = .ok (.aload 4, 2)) (e18 : decode cL_law (pc + 18) = .ok (.iconst 0, 1)) (e19 : decode cL_law (pc + 19) = .ok (.daload, 1)) (e20 : decode cL_law (pc + 20) = .ok (.dload 7, 2)) (e22 : decode cL_law (pc + 22) = .ok (.dcmp .l, 1)) (e23 : decode cL_law (pc + 23) = .ok (.ifCond .eq 25, 3))
    (e26 : decode cL_law (pc + 26) = .ok (.aload 4, 2)) (e28 : decode cL_law (pc + 28) = .ok (.iconst 0, 1)) (e29 : decode cL_law (pc + 29) = .ok (.daload, 1)) (e30 : decode cL_law (pc + 30) = .ok (.aload 4, 2)) (e32 : decode cL_law (pc + 32) = .ok (.iconst 0, 1)) (e33 : decode cL_law (pc + 33) = .ok (.daload, 1)) (e34 : decode cL_law (pc + 34) = .ok (.dcmp .l, 1)) (e35 : decode cL_law (pc + 35) = .ok (.ifCond .eq 11, 3))
    (e38 : decode cL_law (pc + 38) = .ok (.dload 7, 2)) (e40 : decode cL_law (pc + 40) = .ok (.dload 7, 2)) (e42 : decode cL_law (pc + 42) = .ok (.dcmp .l, 1)) (e43 : decode cL_law (pc + 43) = .ok (.ifCond .ne 5, 3)) (e48 : decode cL_law (pc + 48) = .ok (.goto off, 3)) (ht : ((pc + 48 : Nat) : Int) + off = (2357 : Nat))
    (hT : i 1 43 = k6) (hv : k6 = 0 → od = v) (h : CI n i x lm y t) (K : zKK g ix k nn) : zE g 9 pc ((7, .double v) :: (6, .int k6) :: lB ix) [] (zmg (cmm n i x lm y ol od) (zmm i lm)) k nn := by
  have hend : zE g 9 (pc + 48) ((7, .double v) :: (6, .int k6) :: lB ix) [] (zmg (cmm n i x lm y ol od) (zmm i lm)) k nn := by
    refine z_goto (tgt := 2357) X e48 ht ?_
    exact z_sub (ls' := lB ix) [2, 3, 4, 5, 6, 7] rfl (K n i x lm y t ol od h)
  refine zl_thr (j2 := 5) (j6 := 1) X zCok_cmm hk e0 e1 e4 e6 rfl rfl hT ?_
  refine z_iload X 1 e11 rfl ?_
  refine z_if_ne (pc := pc + 13) (tgt := pc + 48) X e13 (by omega) (fun _ => hend) (fun c => ?_)
  have hod := hv c
  subst hod
  refine z_aload X 3 e16 rfl ?_
  refine z_iconst (v := 0) X e18 (by decide) ?_
  refine z_dald (j := 0) (x := od) X e19 zg15.1 (vp01 zg15.2.1) (by decide) zg15.2.2 ?_
  refine z_dload X 0 e20 rfl ?_
  refine z_dcmp X e22 ?_
  refine z_if_eq (pc := pc + 23) (tgt := pc + 48) X e23 (by omega) (fun _ => hend) (fun q => ?_)
  refine z_aload X 3 e26 rfl ?_
  refine z_iconst (v := 0) X e28 (by decide) ?_
  refine z_dald (j := 0) (x := od) X e29 zg15.1 (vp01 zg15.2.1) (by decide) zg15.2.2 ?_
  refine z_aload X 3 e30 rfl ?_
  refine z_iconst (v := 0) X e32 (by decide) ?_
  refine z_dald (j := 0) (x := od) X e33 zg15.1 (vp01 zg15.2.1) (by decide) zg15.2.2 ?_
  refine z_dcmp X e34 ?_
  refine z_if_eq (pc := pc + 35) (tgt := pc + 46) X e35 (by omega) (fun c1 => absurd c1 q) (fun _ => ?_)
  refine z_dload X 0 e38 rfl ?_
  refine z_dload X 0 e40 rfl ?_
  refine z_dcmp X e42 ?_
  exact z_if_ne (pc := pc + 43) (tgt := pc + 48) X e43 (by omega) (fun _ => hend) (fun c1 => absurd c1 q)
set_option maxRecDepth 100000 in
set_option maxHeartbeats 4000000 in
theorem zl_tF (X : zCx g l0 cL_law 9 (some .boolean) RL nm wsL_law 19 10812 603072 7215210 M00 post zno tab) {off : Int} {k6 : Int32} {v : UInt32} (hk : k ≤ 603072 ∧ nn ≤ 7215210)
    (e0 : decode cL_law pc = .ok (.aload_n 2, 1)) (e1 : decode cL_law (pc + 1) = .ok (.invokevirtual 141, 3)) (e4 : decode cL_law (pc + 4) = .ok (.iload 6, 2)) (e6 : decode cL_law (pc + 6) = .ok (.if_icmp .eq 5, 3)) (e11 : decode cL_law (pc + 11) = .ok (.iload 6, 2)) (e13 : decode cL_law (pc + 13) = .ok (.ifCond .ne 36, 3))
    (e16 : decode cL_law (pc + 16) = .ok (.aload 4, 2)) (e18 : decode cL_law (pc + 18) = .ok (.iconst 0, 1)) (e19 : decode cL_law (pc + 19) = .ok (.daload, 1)) (e20 : decode cL_law (pc + 20) = .ok (.fload 7, 2)) (e22 : decode cL_law (pc + 22) = .ok (.f2d, 1)) (e23 : decode cL_law (pc + 23) = .ok (.dcmp .l, 1)) (e24 : decode cL_law (pc + 24) = .ok (.ifCond .eq 25, 3)) (e49 : decode cL_law (pc + 49) = .ok (.goto off, 3)) (ht : ((pc + 49 : Nat) : Int) + off = (2357 : Nat))
    (hT : i 1 43 = k6) (hz : k6 = 0 → Op.cmpValue (FP.dcmp (FP.f2d v) (FP.f2d v)) .l = 0) (hne : k6 = 0 → vf_n64 (FP.f2d v)) (hv : k6 = 0 → od = FP.f2d v) (h : CI n i x lm y t) (K : zKK g ix k nn) : zE g 9 pc ((7, .float v) :: (6, .int k6) :: lB ix) [] (zmg (cmm n i x lm y ol od) (zmm i lm)) k nn := by
  have hend : zE g 9 (pc + 49) ((7, .float v) :: (6, .int k6) :: lB ix) [] (zmg (cmm n i x lm y ol od) (zmm i lm)) k nn := by
    refine z_goto (tgt := 2357) X e49 ht ?_
    exact z_sub (ls' := lB ix) [2, 3, 4, 5, 6, 7] rfl (K n i x lm y t ol od h)
  refine zl_thr (j2 := 5) (j6 := 1) X zCok_cmm hk e0 e1 e4 e6 rfl rfl hT ?_
  refine z_iload X 1 e11 rfl ?_
  refine z_if_ne (pc := pc + 13) (tgt := pc + 49) X e13 (by omega) (fun _ => hend) (fun c => ?_)
  have hod := hv c
  refine z_aload X 3 e16 rfl ?_
  refine z_iconst (v := 0) X e18 (by decide) ?_
  refine z_dald (j := 0) (x := od) X e19 zg15.1 (vp01 zg15.2.1) (by decide) zg15.2.2 ?_
  refine z_fload X 0 e20 rfl ?_
  refine z_f2d X e22 (hne c) ?_
  refine z_dcmp X e23 ?_
  refine z_if_eq (pc := pc + 24) (tgt := pc + 49) X e24 (by omega) (fun _ => hend) (fun q => absurd ?_ q)
  rw [hod]
  exact hz c
theorem zsh_i {np : Nat} (e : q_lostShareT i np = 0) : ¬ i 1 35 = 0 := fun c => by
  unfold q_lostShareT at e
  rw [if_pos c] at e
  exact absurd e (by decide)
theorem zsh_n {n : Nat → Nat} {i x : Nat → Nat → Int32} {lm : Nat → Nat → Int64} {y : Nat → Nat → Nat} {t : Nat} (h : CI n i x lm y t) (e : q_lostShareT i (n 7) = 0) : vf_n64 (FP.f2d (q_lostShareV i (n 7))) := by
  have h0 := zsh_i e
  unfold q_lostShareV
  rw [if_neg h0]
  exact zf_shareD _ h0
theorem zsh_z {n : Nat → Nat} {i x : Nat → Nat → Int32} {lm : Nat → Nat → Int64} {y : Nat → Nat → Nat} {t : Nat} (h : CI n i x lm y t) (e : q_lostShareT i (n 7) = 0) : Op.cmpValue (FP.dcmp (FP.f2d (q_lostShareV i (n 7))) (FP.f2d (q_lostShareV i (n 7)))) .l = 0 := by
  have h0 := zsh_i e
  unfold q_lostShareV
  rw [if_neg h0]
  have hn : Jvm.FP.Core.dIsNaN (FP.f2d (FP.fdiv (FP.i2f (m_lost i (n 7))) (FP.i2f (i 1 35)))) = false := (Jvm.FP.f2d_nan _).trans (zf_share0 _ h0)
  rw [show FP.dcmp (FP.f2d (FP.fdiv (FP.i2f (m_lost i (n 7))) (FP.i2f (i 1 35)))) (FP.f2d (FP.fdiv (FP.i2f (m_lost i (n 7))) (FP.i2f (i 1 35)))) = some .eq from Jvm.FP.Core.dcmp_self ((Jvm.FP.Core.notNaN_iff _).mp hn)]
  rfl
theorem CI_con (h : CI n i x lm y t) : ∀ j, j < n 5 → i 105 j ≤ i 106 j ∧ -400 ≤ i 110 j ∧ i 116 j ≤ nI t ∧ ¬ 8 - m_filled i (nI j) (n 7) < 0 := fun j hj => by
  obtain ⟨-, r2, -, r4, ⟨c, c1, c2, -⟩, -, -⟩ := h.2.2.2.1.1 j hj
  have h9 := h.2.1.2.1
  refine ⟨r2, Int32.not_lt.mp r4.1, ?_, ?_⟩
  · rw [c2]; exact nI_le c1 (by omega)
  · have hf := h.2.2.2.2.2.2.2.2.2.2 j hj
    rw [m_filled_N]
    have : ∀ f : Fin 9, ¬ 8 - nI f.val < 0 := by decide +kernel
    exact this ⟨flN i j (n 7), by omega⟩
end ZL8
theorem t43_pass (i : Nat → Nat → Int32) (nr np no : Nat) (t : Int32) : q_passF i nr np no t 1 43 = q_passT i t := by
  unfold q_passF q_passT
  repeat' (first | exact zup_s | exact (m_ships_o (by decide) (by decide) (by decide)).trans zup_s | exact (m_tkI_o (Or.inl (by decide)) _).trans zup_s | refine zit ?_ ?_ | refine (zup_n (by omega)).trans ?_)
theorem t43_setOutside (i : Nat → Nat → Int32) (t : Int32) : q_setOutsideF i t 1 43 = q_setOutsideT i t := by
  unfold q_setOutsideF q_setOutsideT
  repeat' (first | exact zup_s | exact (m_ships_o (by decide) (by decide) (by decide)).trans zup_s | exact (m_tkI_o (Or.inl (by decide)) _).trans zup_s | refine zit ?_ ?_ | refine (zup_n (by omega)).trans ?_)
theorem t43_addRoom (i : Nat → Nat → Int32) (nr : Nat) (a : Int32) (b : Int32) (c : Int32) : q_addRoomF i nr a b c 1 43 = q_addRoomT i nr a b c := by
  unfold q_addRoomF q_addRoomT
  repeat' (first | exact zup_s | exact (m_ships_o (by decide) (by decide) (by decide)).trans zup_s | exact (m_tkI_o (Or.inl (by decide)) _).trans zup_s | refine zit ?_ ?_ | refine (zup_n (by omega)).trans ?_)
theorem t43_setLimits (i : Nat → Nat → Int32) (r : Int32) (a : Int32) (b : Int32) : q_setLimitsF i r a b 1 43 = q_setLimitsT i r a b := by
  unfold q_setLimitsF q_setLimitsT
  repeat' (first | exact zup_s | exact (m_ships_o (by decide) (by decide) (by decide)).trans zup_s | exact (m_tkI_o (Or.inl (by decide)) _).trans zup_s | refine zit ?_ ?_ | refine (zup_n (by omega)).trans ?_)
theorem t43_setMode (i : Nat → Nat → Int32) (r : Int32) (m : Int32) : q_setModeF i r m 1 43 = q_setModeT i r m := by
  unfold q_setModeF q_setModeT
  repeat' (first | exact zup_s | exact (m_ships_o (by decide) (by decide) (by decide)).trans zup_s | exact (m_tkI_o (Or.inl (by decide)) _).trans zup_s | refine zit ?_ ?_ | refine (zup_n (by omega)).trans ?_)
theorem t43_setLead (i : Nat → Nat → Int32) (r : Int32) (a : Int32) (b : Int32) : q_setLeadF i r a b 1 43 = q_setLeadT i r a b := by
  unfold q_setLeadF q_setLeadT
  repeat' (first | exact zup_s | exact (m_ships_o (by decide) (by decide) (by decide)).trans zup_s | exact (m_tkI_o (Or.inl (by decide)) _).trans zup_s | refine zit ?_ ?_ | refine (zup_n (by omega)).trans ?_)
theorem t43_temperature (i : Nat → Nat → Int32) (r : Int32) : q_temperatureF i r 1 43 = q_temperatureT i r := by
  unfold q_temperatureF q_temperatureT
  repeat' (first | exact zup_s | exact (m_ships_o (by decide) (by decide) (by decide)).trans zup_s | exact (m_tkI_o (Or.inl (by decide)) _).trans zup_s | refine zit ?_ ?_ | refine (zup_n (by omega)).trans ?_)
theorem t43_isCooled (i : Nat → Nat → Int32) (r : Int32) : q_isCooledF i r 1 43 = q_isCooledT i r := by
  unfold q_isCooledF q_isCooledT
  repeat' (first | exact zup_s | exact (m_ships_o (by decide) (by decide) (by decide)).trans zup_s | exact (m_tkI_o (Or.inl (by decide)) _).trans zup_s | refine zit ?_ ?_ | refine (zup_n (by omega)).trans ?_)
theorem t43_warmest (i : Nat → Nat → Int32) (r : Int32) : q_warmestF i r 1 43 = q_warmestT i r := by
  unfold q_warmestF q_warmestT
  repeat' (first | exact zup_s | exact (m_ships_o (by decide) (by decide) (by decide)).trans zup_s | exact (m_tkI_o (Or.inl (by decide)) _).trans zup_s | refine zit ?_ ?_ | refine (zup_n (by omega)).trans ?_)
theorem t43_meanTemperature (i : Nat → Nat → Int32) (r : Int32) : q_meanTemperatureF i r 1 43 = q_meanTemperatureT i r := by
  unfold q_meanTemperatureF q_meanTemperatureT
  repeat' (first | exact zup_s | exact (m_ships_o (by decide) (by decide) (by decide)).trans zup_s | exact (m_tkI_o (Or.inl (by decide)) _).trans zup_s | refine zit ?_ ?_ | refine (zup_n (by omega)).trans ?_)
theorem t43_freeSpace (i : Nat → Nat → Int32) (np : Nat) (r : Int32) : q_freeSpaceF i np r 1 43 = q_freeSpaceT i np r := by
  unfold q_freeSpaceF q_freeSpaceT
  repeat' (first | exact zup_s | exact (m_ships_o (by decide) (by decide) (by decide)).trans zup_s | exact (m_tkI_o (Or.inl (by decide)) _).trans zup_s | refine zit ?_ ?_ | refine (zup_n (by omega)).trans ?_)
theorem t43_setPrices (i : Nat → Nat → Int32) (n : Int32) (p : Int32) (f : Int32) (e : Int32) : q_setPricesF i n p f e 1 43 = q_setPricesT i n p f e := by
  unfold q_setPricesF q_setPricesT
  repeat' (first | exact zup_s | exact (m_ships_o (by decide) (by decide) (by decide)).trans zup_s | exact (m_tkI_o (Or.inl (by decide)) _).trans zup_s | refine zit ?_ ?_ | refine (zup_n (by omega)).trans ?_)
theorem t43_setCharge (i : Nat → Nat → Int32) (c : Int32) : q_setChargeF i c 1 43 = q_setChargeT i c := by
  unfold q_setChargeF q_setChargeT
  repeat' (first | exact zup_s | exact (m_ships_o (by decide) (by decide) (by decide)).trans zup_s | exact (m_tkI_o (Or.inl (by decide)) _).trans zup_s | refine zit ?_ ?_ | refine (zup_n (by omega)).trans ?_)
theorem t43_setPowerLimit (i : Nat → Nat → Int32) (c : Int32) : q_setPowerLimitF i c 1 43 = q_setPowerLimitT i c := by
  unfold q_setPowerLimitF q_setPowerLimitT
  repeat' (first | exact zup_s | exact (m_ships_o (by decide) (by decide) (by decide)).trans zup_s | exact (m_tkI_o (Or.inl (by decide)) _).trans zup_s | refine zit ?_ ?_ | refine (zup_n (by omega)).trans ?_)
theorem t43_addKind (i : Nat → Nat → Int32) (nk : Nat) (a : Int32) (b : Int32) (c : Int32) : q_addKindF i nk a b c 1 43 = q_addKindT i nk a b c := by
  unfold q_addKindF q_addKindT
  repeat' (first | exact zup_s | exact (m_ships_o (by decide) (by decide) (by decide)).trans zup_s | exact (m_tkI_o (Or.inl (by decide)) _).trans zup_s | refine zit ?_ ?_ | refine (zup_n (by omega)).trans ?_)
theorem t43_addPallet (i : Nat → Nat → Int32) (nk : Nat) (np : Nat) (kd : Int32) (r : Int32) : q_addPalletF i nk np kd r 1 43 = q_addPalletT i nk np kd r := by
  unfold q_addPalletF q_addPalletT
  repeat' (first | exact zup_s | exact (m_ships_o (by decide) (by decide) (by decide)).trans zup_s | exact (m_tkI_o (Or.inl (by decide)) _).trans zup_s | refine zit ?_ ?_ | refine (zup_n (by omega)).trans ?_)
theorem t43_movePallet (i : Nat → Nat → Int32) (np : Nat) (p : Int32) (r : Int32) : q_movePalletF i np p r 1 43 = q_movePalletT i np p r := by
  unfold q_movePalletF q_movePalletT
  repeat' (first | exact zup_s | exact (m_ships_o (by decide) (by decide) (by decide)).trans zup_s | exact (m_tkI_o (Or.inl (by decide)) _).trans zup_s | refine zit ?_ ?_ | refine (zup_n (by omega)).trans ?_)
theorem t43_scrap (i : Nat → Nat → Int32) (p : Int32) : q_scrapF i p 1 43 = q_scrapT i p := by
  unfold q_scrapF q_scrapT
  repeat' (first | exact zup_s | exact (m_ships_o (by decide) (by decide) (by decide)).trans zup_s | exact (m_tkI_o (Or.inl (by decide)) _).trans zup_s | refine zit ?_ ?_ | refine (zup_n (by omega)).trans ?_)
theorem t43_state (i : Nat → Nat → Int32) (p : Int32) : q_stateF i p 1 43 = q_stateT i p := by
  unfold q_stateF q_stateT
  repeat' (first | exact zup_s | exact (m_ships_o (by decide) (by decide) (by decide)).trans zup_s | exact (m_tkI_o (Or.inl (by decide)) _).trans zup_s | refine zit ?_ ?_ | refine (zup_n (by omega)).trans ?_)
theorem t43_roomOf (i : Nat → Nat → Int32) (p : Int32) : q_roomOfF i p 1 43 = q_roomOfT i p := by
  unfold q_roomOfF q_roomOfT
  repeat' (first | exact zup_s | exact (m_ships_o (by decide) (by decide) (by decide)).trans zup_s | exact (m_tkI_o (Or.inl (by decide)) _).trans zup_s | refine zit ?_ ?_ | refine (zup_n (by omega)).trans ?_)
theorem t43_life (i : Nat → Nat → Int32) (p : Int32) : q_lifeF i p 1 43 = q_lifeT i p := by
  unfold q_lifeF q_lifeT
  repeat' (first | exact zup_s | exact (m_ships_o (by decide) (by decide) (by decide)).trans zup_s | exact (m_tkI_o (Or.inl (by decide)) _).trans zup_s | refine zit ?_ ?_ | refine (zup_n (by omega)).trans ?_)
theorem t43_lifeByRecords (i : Nat → Nat → Int32) (p : Int32) : q_lifeByRecordsF i p 1 43 = q_lifeByRecordsT i p := by
  unfold q_lifeByRecordsF q_lifeF q_lifeByRecordsT q_lifeT
  repeat' (first | exact zup_s | exact (m_ships_o (by decide) (by decide) (by decide)).trans zup_s | exact (m_tkI_o (Or.inl (by decide)) _).trans zup_s | refine zit ?_ ?_ | refine (zup_n (by omega)).trans ?_)
theorem t43_forecast (i : Nat → Nat → Int32) (p : Int32) (t : Int32) : q_forecastF i p t 1 43 = q_forecastT i p t := by
  unfold q_forecastF q_forecastT
  repeat' (first | exact zup_s | exact (m_ships_o (by decide) (by decide) (by decide)).trans zup_s | exact (m_tkI_o (Or.inl (by decide)) _).trans zup_s | refine zit ?_ ?_ | refine (zup_n (by omega)).trans ?_)
theorem t43_soonest (i : Nat → Nat → Int32) (np : Nat) : q_soonestF i np 1 43 = q_soonestT i np := by
  unfold q_soonestF q_soonestT
  repeat' (first | exact zup_s | exact (m_ships_o (by decide) (by decide) (by decide)).trans zup_s | exact (m_tkI_o (Or.inl (by decide)) _).trans zup_s | refine zit ?_ ?_ | refine (zup_n (by omega)).trans ?_)
theorem t43_lostShare (i : Nat → Nat → Int32) (np : Nat) : q_lostShareF i np 1 43 = q_lostShareT i np := by
  unfold q_lostShareF q_lostShareT
  repeat' (first | exact zup_s | exact (m_ships_o (by decide) (by decide) (by decide)).trans zup_s | exact (m_tkI_o (Or.inl (by decide)) _).trans zup_s | refine zit ?_ ?_ | refine (zup_n (by omega)).trans ?_)
theorem t43_order (i : Nat → Nat → Int32) (nk : Nat) (no : Nat) (kd : Int32) (a : Int32) (b : Int32) (e : Int32) : q_orderF i nk no kd a b e 1 43 = q_orderT i nk no kd a b e := by
  unfold q_orderF q_orderT
  repeat' (first | exact zup_s | exact (m_ships_o (by decide) (by decide) (by decide)).trans zup_s | exact (m_tkI_o (Or.inl (by decide)) _).trans zup_s | refine zit ?_ ?_ | refine (zup_n (by omega)).trans ?_)
theorem t43_cancel (i : Nat → Nat → Int32) (no : Nat) (o : Int32) : q_cancelF i no o 1 43 = q_cancelT i no o := by
  unfold q_cancelF q_cancelT
  repeat' (first | exact zup_s | exact (m_ships_o (by decide) (by decide) (by decide)).trans zup_s | exact (m_tkI_o (Or.inl (by decide)) _).trans zup_s | refine zit ?_ ?_ | refine (zup_n (by omega)).trans ?_)
theorem t43_candidates (i : Nat → Nat → Int32) (np : Nat) (o : Int32) : q_candidatesF i np o 1 43 = q_candidatesT i np o := by
  unfold q_candidatesF q_candidatesT
  repeat' (first | exact zup_s | exact (m_ships_o (by decide) (by decide) (by decide)).trans zup_s | exact (m_tkI_o (Or.inl (by decide)) _).trans zup_s | refine zit ?_ ?_ | refine (zup_n (by omega)).trans ?_)
theorem t43_candidateAt (i : Nat → Nat → Int32) (np : Nat) (o : Int32) (x : Int32) : q_candidateAtF i np o x 1 43 = q_candidateAtT i np o x := by
  unfold q_candidateAtF q_candidateAtT
  repeat' (first | exact zup_s | exact (m_ships_o (by decide) (by decide) (by decide)).trans zup_s | exact (m_tkI_o (Or.inl (by decide)) _).trans zup_s | refine zit ?_ ?_ | refine (zup_n (by omega)).trans ?_)
theorem t43_ship (i : Nat → Nat → Int32) (np : Nat) (o : Int32) : q_shipF i np o 1 43 = q_shipT i np o := by
  unfold q_shipF q_shipT
  repeat' (first | exact zup_s | exact (m_ships_o (by decide) (by decide) (by decide)).trans zup_s | exact (m_tkI_o (Or.inl (by decide)) _).trans zup_s | refine zit ?_ ?_ | refine (zup_n (by omega)).trans ?_)
theorem t43_orderState (i : Nat → Nat → Int32) (o : Int32) : q_orderStateF i o 1 43 = q_orderStateT i o := by
  unfold q_orderStateF q_orderStateT
  repeat' (first | exact zup_s | exact (m_ships_o (by decide) (by decide) (by decide)).trans zup_s | exact (m_tkI_o (Or.inl (by decide)) _).trans zup_s | refine zit ?_ ?_ | refine (zup_n (by omega)).trans ?_)
theorem t43_leastShipped (i : Nat → Nat → Int32) (o : Int32) : q_leastShippedF i o 1 43 = q_leastShippedT i o := by
  unfold q_leastShippedF q_leastShippedT
  repeat' (first | exact zup_s | exact (m_ships_o (by decide) (by decide) (by decide)).trans zup_s | exact (m_tkI_o (Or.inl (by decide)) _).trans zup_s | refine zit ?_ ?_ | refine (zup_n (by omega)).trans ?_)
