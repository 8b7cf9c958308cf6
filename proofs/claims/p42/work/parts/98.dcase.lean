/-! PART 98d: the law's steps -/
section ZLC9
variable {g : zCtx} {l0 : Launch} {nm : String} {M00 : zMem} {post : Option Value → zMem → Prop} {tab : List ExceptionTableEntry} {kk nn : Nat}
variable {n : Nat → Nat} {i x : Nat → Nat → Int32} {lm : Nat → Nat → Int64} {y : Nat → Nat → Nat} {t : Nat} {pr : Nat → Int32}
set_option maxRecDepth 100000 in
set_option maxHeartbeats 8000000 in
theorem zl_tail (hl0 : l0.stackTraces = false) (X : zLX g l0 nm M00 post tab) (h : xSI n i x lm y t) (hpr : ∀ o, o < n 8 → pr o = i 138 o) {wt its : Int32} {bf : Int64} (hw : wt = 0 ∨ wt = 1) (hb : its < -1000 → wt = 1 → bf = xsum n i x lm y) {st9 k9 K9 N9 : Nat} (hk9 : k9 < 58) (Kc : zKL g st9 (k9 + 1) K9 N9) (hkk : kk + 7220 ≤ K9 ∧ nn + 72200 ≤ N9) (hmx : K9 ≤ 590000 ∧ N9 ≤ 7100000) : zE g 19 811 [(0, .ref 17), (1, .ref 1), (2, .int (nI (n 5))), (3, .int (nI (n 6))), (4, .int (nI (n 8))), (5, .ref 16), (6, .int (nI st9)), (7, .int (nI k9)), (10, .int wt), (11, .long bf), (15, .int its)] [] (zmg (cmm n i x lm y 0 0) (pM pr)) kk nn := by
  have h7 := h.1.1.2.1.2.2.1
  have h5 := h.1.1.2.1.1
  have h6 := h.1.1.2.1.2.1
  have h8 := h.1.1.2.1.2.2.2
  refine z_iload X 10 dL_law_811 rfl ?_
  refine z_sipush (v := (-1000)) X dL_law_813 (by decide) ?_
  refine z_icmp_ge X 838 dL_law_816 (by decide) (fun c_816 => ?_) (fun c_816 => ?_)
  · skip
    refine z_iload X 7 dL_law_838 rfl ?_
    refine z_bipush (v := 7) X dL_law_840 (by decide) ?_
    refine z_irem X dL_law_842 (by decide) ?_
    refine z_bipush (v := 6) X dL_law_843 (by decide) ?_
    refine z_icmp_ne X 862 dL_law_845 (by decide) (fun c_845 => ?_) (fun c_845 => ?_)
    · skip
      refine z_iinc (ls' := [(7, .int (nI (k9 + 1))), (0, .ref 17), (1, .ref 1), (2, .int (nI (n 5))), (3, .int (nI (n 6))), (4, .int (nI (n 8))), (5, .ref 16), (6, .int (nI st9)), (10, .int wt), (11, .long bf), (15, .int its)]) (v := nI (k9 + 1)) X 7 dL_law_862 rfl (nI_1 _) (by decide) rfl ?_
      refine z_goto (tgt := 36) X dL_law_865 (by decide) ?_
      refine z_sub (ls' := [(0, .ref 17), (1, .ref 1), (2, .int (nI (n 5))), (3, .int (nI (n 6))), (4, .int (nI (n 8))), (5, .ref 16), (6, .int (nI st9)), (7, .int (nI (k9 + 1)))]) [1, 2, 3, 4, 5, 6, 7, 0] rfl ?_
      exact Kc _ _ _ _ _ _ _ h hpr _ _ (by omega) (by omega)
    · skip
      refine z_aload_n X 1 dL_law_848 rfl rfl ?_
      refine z_iload_n X 2 dL_law_849 rfl rfl ?_
      refine z_aload X 5 dL_law_850 rfl ?_
      refine z_iload X 4 dL_law_852 rfl ?_
      refine z_callSiN (As := [.ref 1, .int (nI (n 5)), .ref 16, .int (nI (n 8))]) (rest := []) (n1 := 4) X dL_law_854 (h_sound l0 hl0 h 0 0 hpr) gL_law_L_isSound rfl rfl (by decide +kernel) ⟨by decide, by decide⟩ rfl (Nat.le_of_ble_eq_true rfl) ⟨by omega, by omega⟩ ?_
      rintro _ _ ⟨rfl, rfl⟩
      refine z_if_ne X 862 dL_law_857 (by decide) (fun c_857 => ?_) (fun c_857 => ?_)
      · skip
        refine z_iinc (ls' := [(7, .int (nI (k9 + 1))), (0, .ref 17), (1, .ref 1), (2, .int (nI (n 5))), (3, .int (nI (n 6))), (4, .int (nI (n 8))), (5, .ref 16), (6, .int (nI st9)), (10, .int wt), (11, .long bf), (15, .int its)]) (v := nI (k9 + 1)) X 7 dL_law_862 rfl (nI_1 _) (by decide) rfl ?_
        refine z_goto (tgt := 36) X dL_law_865 (by decide) ?_
        refine z_sub (ls' := [(0, .ref 17), (1, .ref 1), (2, .int (nI (n 5))), (3, .int (nI (n 6))), (4, .int (nI (n 8))), (5, .ref 16), (6, .int (nI st9)), (7, .int (nI (k9 + 1)))]) [1, 2, 3, 4, 5, 6, 7, 0] rfl ?_
        exact Kc _ _ _ _ _ _ _ h hpr _ _ (by omega) (by omega)
      · exact absurd c_857 (by decide)
  · skip
    refine z_iload X 8 dL_law_819 rfl ?_
    refine z_if_eq X 838 dL_law_821 (by decide) (fun c_821 => ?_) (fun c_821 => ?_)
    · skip
      refine z_iload X 7 dL_law_838 rfl ?_
      refine z_bipush (v := 7) X dL_law_840 (by decide) ?_
      refine z_irem X dL_law_842 (by decide) ?_
      refine z_bipush (v := 6) X dL_law_843 (by decide) ?_
      refine z_icmp_ne X 862 dL_law_845 (by decide) (fun c_845 => ?_) (fun c_845 => ?_)
      · skip
        refine z_iinc (ls' := [(7, .int (nI (k9 + 1))), (0, .ref 17), (1, .ref 1), (2, .int (nI (n 5))), (3, .int (nI (n 6))), (4, .int (nI (n 8))), (5, .ref 16), (6, .int (nI st9)), (10, .int wt), (11, .long bf), (15, .int its)]) (v := nI (k9 + 1)) X 7 dL_law_862 rfl (nI_1 _) (by decide) rfl ?_
        refine z_goto (tgt := 36) X dL_law_865 (by decide) ?_
        refine z_sub (ls' := [(0, .ref 17), (1, .ref 1), (2, .int (nI (n 5))), (3, .int (nI (n 6))), (4, .int (nI (n 8))), (5, .ref 16), (6, .int (nI st9)), (7, .int (nI (k9 + 1)))]) [1, 2, 3, 4, 5, 6, 7, 0] rfl ?_
        exact Kc _ _ _ _ _ _ _ h hpr _ _ (by omega) (by omega)
      · skip
        refine z_aload_n X 1 dL_law_848 rfl rfl ?_
        refine z_iload_n X 2 dL_law_849 rfl rfl ?_
        refine z_aload X 5 dL_law_850 rfl ?_
        refine z_iload X 4 dL_law_852 rfl ?_
        refine z_callSiN (As := [.ref 1, .int (nI (n 5)), .ref 16, .int (nI (n 8))]) (rest := []) (n1 := 4) X dL_law_854 (h_sound l0 hl0 h 0 0 hpr) gL_law_L_isSound rfl rfl (by decide +kernel) ⟨by decide, by decide⟩ rfl (Nat.le_of_ble_eq_true rfl) ⟨by omega, by omega⟩ ?_
        rintro _ _ ⟨rfl, rfl⟩
        refine z_if_ne X 862 dL_law_857 (by decide) (fun c_857 => ?_) (fun c_857 => ?_)
        · skip
          refine z_iinc (ls' := [(7, .int (nI (k9 + 1))), (0, .ref 17), (1, .ref 1), (2, .int (nI (n 5))), (3, .int (nI (n 6))), (4, .int (nI (n 8))), (5, .ref 16), (6, .int (nI st9)), (10, .int wt), (11, .long bf), (15, .int its)]) (v := nI (k9 + 1)) X 7 dL_law_862 rfl (nI_1 _) (by decide) rfl ?_
          refine z_goto (tgt := 36) X dL_law_865 (by decide) ?_
          refine z_sub (ls' := [(0, .ref 17), (1, .ref 1), (2, .int (nI (n 5))), (3, .int (nI (n 6))), (4, .int (nI (n 8))), (5, .ref 16), (6, .int (nI st9)), (7, .int (nI (k9 + 1)))]) [1, 2, 3, 4, 5, 6, 7, 0] rfl ?_
          exact Kc _ _ _ _ _ _ _ h hpr _ _ (by omega) (by omega)
        · exact absurd c_857 (by decide)
    · skip
      refine z_aload_n X 1 dL_law_824 rfl rfl ?_
      refine z_iload_n X 2 dL_law_825 rfl rfl ?_
      refine z_iload_n X 3 dL_law_826 rfl rfl ?_
      refine z_iload X 4 dL_law_827 rfl ?_
      refine z_callSlN (As := [.ref 1, .int (nI (n 5)), .int (nI (n 6)), .int (nI (n 8))]) (rest := []) (n1 := 4) X dL_law_829 (zC_rl (h_sum l0 hl0 h 0 0) zCok_cmm rfl) gL_law_L_sum rfl rfl (by decide +kernel) ⟨by decide, by decide⟩ rfl (Nat.le_of_ble_eq_true rfl) ⟨by omega, by omega⟩ ?_
      rintro _ _ ⟨rfl, rfl⟩
      refine z_lload X 9 dL_law_832 rfl ?_
      refine z_lcmp X dL_law_834 ?_
      refine z_if_ne X 860 dL_law_835 (by decide) (fun c_835 => ?_) (fun c_835 => ?_)
      · exact absurd (by rw [hb (Int32.not_le.mp c_816) (hw.resolve_left c_821)]; exact zcmp0 _) c_835
      · skip
        refine z_iload X 7 dL_law_838 rfl ?_
        refine z_bipush (v := 7) X dL_law_840 (by decide) ?_
        refine z_irem X dL_law_842 (by decide) ?_
        refine z_bipush (v := 6) X dL_law_843 (by decide) ?_
        refine z_icmp_ne X 862 dL_law_845 (by decide) (fun c_845 => ?_) (fun c_845 => ?_)
        · skip
          refine z_iinc (ls' := [(7, .int (nI (k9 + 1))), (0, .ref 17), (1, .ref 1), (2, .int (nI (n 5))), (3, .int (nI (n 6))), (4, .int (nI (n 8))), (5, .ref 16), (6, .int (nI st9)), (10, .int wt), (11, .long bf), (15, .int its)]) (v := nI (k9 + 1)) X 7 dL_law_862 rfl (nI_1 _) (by decide) rfl ?_
          refine z_goto (tgt := 36) X dL_law_865 (by decide) ?_
          refine z_sub (ls' := [(0, .ref 17), (1, .ref 1), (2, .int (nI (n 5))), (3, .int (nI (n 6))), (4, .int (nI (n 8))), (5, .ref 16), (6, .int (nI st9)), (7, .int (nI (k9 + 1)))]) [1, 2, 3, 4, 5, 6, 7, 0] rfl ?_
          exact Kc _ _ _ _ _ _ _ h hpr _ _ (by omega) (by omega)
        · skip
          refine z_aload_n X 1 dL_law_848 rfl rfl ?_
          refine z_iload_n X 2 dL_law_849 rfl rfl ?_
          refine z_aload X 5 dL_law_850 rfl ?_
          refine z_iload X 4 dL_law_852 rfl ?_
          refine z_callSiN (As := [.ref 1, .int (nI (n 5)), .ref 16, .int (nI (n 8))]) (rest := []) (n1 := 4) X dL_law_854 (h_sound l0 hl0 h 0 0 hpr) gL_law_L_isSound rfl rfl (by decide +kernel) ⟨by decide, by decide⟩ rfl (Nat.le_of_ble_eq_true rfl) ⟨by omega, by omega⟩ ?_
          rintro _ _ ⟨rfl, rfl⟩
          refine z_if_ne X 862 dL_law_857 (by decide) (fun c_857 => ?_) (fun c_857 => ?_)
          · skip
            refine z_iinc (ls' := [(7, .int (nI (k9 + 1))), (0, .ref 17), (1, .ref 1), (2, .int (nI (n 5))), (3, .int (nI (n 6))), (4, .int (nI (n 8))), (5, .ref 16), (6, .int (nI st9)), (10, .int wt), (11, .long bf), (15, .int its)]) (v := nI (k9 + 1)) X 7 dL_law_862 rfl (nI_1 _) (by decide) rfl ?_
            refine z_goto (tgt := 36) X dL_law_865 (by decide) ?_
            refine z_sub (ls' := [(0, .ref 17), (1, .ref 1), (2, .int (nI (n 5))), (3, .int (nI (n 6))), (4, .int (nI (n 8))), (5, .ref 16), (6, .int (nI st9)), (7, .int (nI (k9 + 1)))]) [1, 2, 3, 4, 5, 6, 7, 0] rfl ?_
            exact Kc _ _ _ _ _ _ _ h hpr _ _ (by omega) (by omega)
          · exact absurd c_857 (by decide)

set_option maxRecDepth 100000 in
set_option maxHeartbeats 8000000 in
theorem kc_room (hl0 : l0.stackTraces = false) (X : zLX g l0 nm M00 post tab) (h : xSI n i x lm y t) (hpr : ∀ o, o < n 8 → pr o = i 138 o) {v p : Int32} {r kd wt : Int32} {bf : Int64} {W : Nat} (hW : W < 5000000) (hw : wt = 0 ∨ wt = 1) (hb : wt = 1 → bf = xsum n i x lm y) {st9 k9 K9 N9 : Nat} (hk9 : k9 < 58) (Kc : zKL g st9 (k9 + 1) K9 N9) (hkk : kk + 7760 ≤ K9 ∧ nn + 78000 ≤ N9) (hmx : K9 ≤ 590000 ∧ N9 ≤ 7100000) : zE g 19 168 [(0, .ref 17), (1, .ref 1), (2, .int (nI (n 5))), (3, .int (nI (n 6))), (4, .int (nI (n 8))), (5, .ref 16), (6, .int (nI st9)), (7, .int (nI k9)), (8, .int v), (9, .int (nI W)), (10, .int wt), (11, .long bf), (13, .int r), (14, .int p), (15, .int 0), (16, .int kd)] [] (zmg (cmm n i x lm y 0 0) (pM pr)) kk nn := by
  have h7 := h.1.1.2.1.2.2.1
  have h5 := h.1.1.2.1.1
  have h6 := h.1.1.2.1.2.1
  have h8 := h.1.1.2.1.2.2.2
  refine z_aload_n X 1 dL_law_168 rfl rfl ?_
  refine z_iconst (v := 1) X dL_law_169 (by decide) ?_
  refine z_iload X 9 dL_law_170 rfl ?_
  refine z_bipush (v := 50) X dL_law_172 (by decide) ?_
  refine z_irem X dL_law_174 (by decide) ?_
  refine z_iadd X dL_law_175 ?_
  refine z_iconst (v := 1) X dL_law_176 (by decide) ?_
  refine z_iload X 9 dL_law_177 rfl ?_
  refine z_bipush (v := 50) X dL_law_179 (by decide) ?_
  refine z_idiv X dL_law_181 (by decide) ?_
  refine z_bipush (v := 100) X dL_law_182 (by decide) ?_
  refine z_irem X dL_law_184 (by decide) ?_
  refine z_iadd X dL_law_185 ?_
  refine z_iconst (v := 1) X dL_law_186 (by decide) ?_
  refine z_iload X 9 dL_law_187 rfl ?_
  refine z_sipush (v := 5000) X dL_law_189 (by decide) ?_
  refine z_idiv X dL_law_192 (by decide) ?_
  refine z_bipush (v := 100) X dL_law_193 (by decide) ?_
  refine z_irem X dL_law_195 (by decide) ?_
  refine z_iadd X dL_law_196 ?_
  refine z_callSWiN (As := [.ref 1, .int (1 + ((nI W) - (nI W) / 50 * 50)), .int (1 + (((nI W) / 50) - ((nI W) / 50) / 100 * 100)), .int (1 + (((nI W) / 5000) - ((nI W) / 5000) / 100 * 100))]) (rest := []) (n1 := 4) X dL_law_197 (zC_i (w_room l0 hl0 h 0 0 (1 + ((nI W) - (nI W) / 50 * 50)) (1 + (((nI W) / 50) - ((nI W) / 50) / 100 * 100)) (1 + (((nI W) / 5000) - ((nI W) / 5000) / 100 * 100))) zCok_cmm (fun _ _ hv => xst_ok hv) rfl) gL_law_L_room rfl rfl (by decide +kernel) ⟨by decide, by decide⟩ rfl (Nat.le_of_ble_eq_true rfl) ⟨by omega, by omega⟩ ?_
  rintro v9 G9 ⟨C9, hv9, rfl⟩
  rcases hv9 with ⟨hlt, rfl⟩ | ⟨hok, n', i', x', lm', y', t', rfl, hs', ⟨e5, e6, e8, etm⟩, hp1, hz1⟩
  · skip
    refine z_istore (ls' := [(15, .int v9), (0, .ref 17), (1, .ref 1), (2, .int (nI (n 5))), (3, .int (nI (n 6))), (4, .int (nI (n 8))), (5, .ref 16), (6, .int (nI st9)), (7, .int (nI k9)), (8, .int v), (9, .int (nI W)), (10, .int wt), (11, .long bf), (13, .int r), (14, .int p), (16, .int kd)]) X dL_law_200 (by decide) rfl ?_
    refine z_iload_n X 3 dL_law_202 rfl rfl ?_
    refine z_iload X 0 dL_law_203 rfl ?_
    refine z_if_lt X 212 dL_law_205 (by decide) (fun c_205 => ?_) (fun c_205 => ?_)
    · skip
      refine z_iconst (v := 0) X dL_law_212 (by decide) ?_
      refine z_iadd X dL_law_213 ?_
      refine z_istore_n (ls' := [(2, .int ((nI (n 5)) + 0)), (15, .int v9), (0, .ref 17), (1, .ref 1), (3, .int (nI (n 6))), (4, .int (nI (n 8))), (5, .ref 16), (6, .int (nI st9)), (7, .int (nI k9)), (8, .int v), (9, .int (nI W)), (10, .int wt), (11, .long bf), (13, .int r), (14, .int p), (16, .int kd)]) X dL_law_214 rfl (by decide) rfl ?_
      refine z_goto (tgt := 811) X dL_law_215 (by decide) ?_
      refine z_sub (ls' := [(0, .ref 17), (1, .ref 1), (2, .int ((nI (n 5)) + 0)), (3, .int (nI (n 6))), (4, .int (nI (n 8))), (5, .ref 16), (6, .int (nI st9)), (7, .int (nI k9)), (10, .int wt), (11, .long bf), (15, .int v9)]) [2, 3, 0, 4, 5, 6, 7, 8, 11, 12, 1] rfl ?_
      refine z_lse (ls' := [(0, .ref 17), (1, .ref 1), (2, .int (nI (n 5))), (3, .int (nI (n 6))), (4, .int (nI (n 8))), (5, .ref 16), (6, .int (nI st9)), (7, .int (nI k9)), (10, .int wt), (11, .long bf), (15, .int v9)]) (by rw [Int32.add_zero]) ?_
      exact zl_tail hl0 X h hpr hw (fun _ q => hb q) hk9 Kc ⟨by omega, by omega⟩ hmx
    · exact absurd (xn_lt hlt) c_205
  · skip
    have e5 : n' 5 = n 5 + 1 := e5
    have e6 : n' 6 = n 6 := e6
    have e8 : n' 8 = n 8 := e8
    have hpr' : ∀ o, o < n' 8 → pr o = i' 138 o := fun o ho => (hpr o (by omega)).trans (hp1 o ho).symm
    refine z_istore (ls' := [(15, .int v9), (0, .ref 17), (1, .ref 1), (2, .int (nI (n 5))), (3, .int (nI (n 6))), (4, .int (nI (n 8))), (5, .ref 16), (6, .int (nI st9)), (7, .int (nI k9)), (8, .int v), (9, .int (nI W)), (10, .int wt), (11, .long bf), (13, .int r), (14, .int p), (16, .int kd)]) X dL_law_200 (by decide) rfl ?_
    refine z_iload_n X 3 dL_law_202 rfl rfl ?_
    refine z_iload X 0 dL_law_203 rfl ?_
    refine z_if_lt X 212 dL_law_205 (by decide) (fun c_205 => ?_) (fun c_205 => ?_)
    · exact absurd c_205 hok
    · skip
      refine z_iconst (v := 1) X dL_law_208 (by decide) ?_
      refine z_goto (tgt := 213) X dL_law_209 (by decide) ?_
      refine z_iadd X dL_law_213 ?_
      refine z_istore_n (ls' := [(2, .int ((nI (n 5)) + 1)), (15, .int v9), (0, .ref 17), (1, .ref 1), (3, .int (nI (n 6))), (4, .int (nI (n 8))), (5, .ref 16), (6, .int (nI st9)), (7, .int (nI k9)), (8, .int v), (9, .int (nI W)), (10, .int wt), (11, .long bf), (13, .int r), (14, .int p), (16, .int kd)]) X dL_law_214 rfl (by decide) rfl ?_
      refine z_goto (tgt := 811) X dL_law_215 (by decide) ?_
      refine z_sub (ls' := [(0, .ref 17), (1, .ref 1), (2, .int ((nI (n 5)) + 1)), (3, .int (nI (n 6))), (4, .int (nI (n 8))), (5, .ref 16), (6, .int (nI st9)), (7, .int (nI k9)), (10, .int wt), (11, .long bf), (15, .int v9)]) [2, 3, 0, 4, 5, 6, 7, 8, 11, 12, 1] rfl ?_
      refine z_lse (ls' := [(0, .ref 17), (1, .ref 1), (2, .int (nI (n' 5))), (3, .int (nI (n' 6))), (4, .int (nI (n' 8))), (5, .ref 16), (6, .int (nI st9)), (7, .int (nI k9)), (10, .int wt), (11, .long bf), (15, .int v9)]) (by rw [e5, e6, e8, nI_1]) ?_
      exact zl_tail hl0 X hs' hpr' hw (fun q _ => absurd (xn_lt q) hok) hk9 Kc ⟨by omega, by omega⟩ hmx

set_option maxRecDepth 100000 in
set_option maxHeartbeats 8000000 in
theorem kc_kind (hl0 : l0.stackTraces = false) (X : zLX g l0 nm M00 post tab) (h : xSI n i x lm y t) (hpr : ∀ o, o < n 8 → pr o = i 138 o) {v p : Int32} {r kd wt : Int32} {bf : Int64} {W : Nat} (hW : W < 5000000) (hw : wt = 0 ∨ wt = 1) (hb : wt = 1 → bf = xsum n i x lm y) {st9 k9 K9 N9 : Nat} (hk9 : k9 < 58) (Kc : zKL g st9 (k9 + 1) K9 N9) (hkk : kk + 7760 ≤ K9 ∧ nn + 78000 ≤ N9) (hmx : K9 ≤ 590000 ∧ N9 ≤ 7100000) : zE g 19 224 [(0, .ref 17), (1, .ref 1), (2, .int (nI (n 5))), (3, .int (nI (n 6))), (4, .int (nI (n 8))), (5, .ref 16), (6, .int (nI st9)), (7, .int (nI k9)), (8, .int v), (9, .int (nI W)), (10, .int wt), (11, .long bf), (13, .int r), (14, .int p), (15, .int 0), (16, .int kd)] [] (zmg (cmm n i x lm y 0 0) (pM pr)) kk nn := by
  have h7 := h.1.1.2.1.2.2.1
  have h5 := h.1.1.2.1.1
  have h6 := h.1.1.2.1.2.1
  have h8 := h.1.1.2.1.2.2.2
  refine z_aload_n X 1 dL_law_224 rfl rfl ?_
  refine z_iconst (v := 1) X dL_law_225 (by decide) ?_
  refine z_iload X 9 dL_law_226 rfl ?_
  refine z_sipush (v := 900) X dL_law_228 (by decide) ?_
  refine z_irem X dL_law_231 (by decide) ?_
  refine z_iadd X dL_law_232 ?_
  refine z_iload X 9 dL_law_233 rfl ?_
  refine z_sipush (v := 900) X dL_law_235 (by decide) ?_
  refine z_idiv X dL_law_238 (by decide) ?_
  refine z_sipush (v := 300) X dL_law_239 (by decide) ?_
  refine z_irem X dL_law_242 (by decide) ?_
  refine z_sipush (v := 150) X dL_law_243 (by decide) ?_
  refine z_isub X dL_law_246 ?_
  refine z_iload X 9 dL_law_247 rfl ?_
  refine z_sipush (v := 900) X dL_law_249 (by decide) ?_
  refine z_idiv X dL_law_252 (by decide) ?_
  refine z_sipush (v := 300) X dL_law_253 (by decide) ?_
  refine z_irem X dL_law_256 (by decide) ?_
  refine z_sipush (v := 170) X dL_law_257 (by decide) ?_
  refine z_isub X dL_law_260 ?_
  refine z_callSWiN (As := [.ref 1, .int (1 + ((nI W) - (nI W) / 900 * 900)), .int ((((nI W) / 900) - ((nI W) / 900) / 300 * 300) - 150), .int ((((nI W) / 900) - ((nI W) / 900) / 300 * 300) - 170)]) (rest := []) (n1 := 4) X dL_law_261 (zC_i (w_kind l0 hl0 h 0 0 (1 + ((nI W) - (nI W) / 900 * 900)) ((((nI W) / 900) - ((nI W) / 900) / 300 * 300) - 150) ((((nI W) / 900) - ((nI W) / 900) / 300 * 300) - 170)) zCok_cmm (fun _ _ hv => xst_ok hv) rfl) gL_law_L_kind rfl rfl (by decide +kernel) ⟨by decide, by decide⟩ rfl (Nat.le_of_ble_eq_true rfl) ⟨by omega, by omega⟩ ?_
  rintro v9 G9 ⟨C9, hv9, rfl⟩
  rcases hv9 with ⟨hlt, rfl⟩ | ⟨hok, n', i', x', lm', y', t', rfl, hs', ⟨e5, e6, e8, etm⟩, hp1, hz1⟩
  · skip
    refine z_istore (ls' := [(15, .int v9), (0, .ref 17), (1, .ref 1), (2, .int (nI (n 5))), (3, .int (nI (n 6))), (4, .int (nI (n 8))), (5, .ref 16), (6, .int (nI st9)), (7, .int (nI k9)), (8, .int v), (9, .int (nI W)), (10, .int wt), (11, .long bf), (13, .int r), (14, .int p), (16, .int kd)]) X dL_law_264 (by decide) rfl ?_
    refine z_iload_n X 4 dL_law_266 rfl rfl ?_
    refine z_iload X 0 dL_law_267 rfl ?_
    refine z_if_lt X 276 dL_law_269 (by decide) (fun c_269 => ?_) (fun c_269 => ?_)
    · skip
      refine z_iconst (v := 0) X dL_law_276 (by decide) ?_
      refine z_iadd X dL_law_277 ?_
      refine z_istore_n (ls' := [(3, .int ((nI (n 6)) + 0)), (15, .int v9), (0, .ref 17), (1, .ref 1), (2, .int (nI (n 5))), (4, .int (nI (n 8))), (5, .ref 16), (6, .int (nI st9)), (7, .int (nI k9)), (8, .int v), (9, .int (nI W)), (10, .int wt), (11, .long bf), (13, .int r), (14, .int p), (16, .int kd)]) X dL_law_278 rfl (by decide) rfl ?_
      refine z_goto (tgt := 811) X dL_law_279 (by decide) ?_
      refine z_sub (ls' := [(0, .ref 17), (1, .ref 1), (2, .int (nI (n 5))), (3, .int ((nI (n 6)) + 0)), (4, .int (nI (n 8))), (5, .ref 16), (6, .int (nI st9)), (7, .int (nI k9)), (10, .int wt), (11, .long bf), (15, .int v9)]) [2, 3, 4, 0, 5, 6, 7, 8, 11, 12, 1] rfl ?_
      refine z_lse (ls' := [(0, .ref 17), (1, .ref 1), (2, .int (nI (n 5))), (3, .int (nI (n 6))), (4, .int (nI (n 8))), (5, .ref 16), (6, .int (nI st9)), (7, .int (nI k9)), (10, .int wt), (11, .long bf), (15, .int v9)]) (by rw [Int32.add_zero]) ?_
      exact zl_tail hl0 X h hpr hw (fun _ q => hb q) hk9 Kc ⟨by omega, by omega⟩ hmx
    · exact absurd (xn_lt hlt) c_269
  · skip
    have e5 : n' 5 = n 5 := e5
    have e6 : n' 6 = n 6 + 1 := e6
    have e8 : n' 8 = n 8 := e8
    have hpr' : ∀ o, o < n' 8 → pr o = i' 138 o := fun o ho => (hpr o (by omega)).trans (hp1 o ho).symm
    refine z_istore (ls' := [(15, .int v9), (0, .ref 17), (1, .ref 1), (2, .int (nI (n 5))), (3, .int (nI (n 6))), (4, .int (nI (n 8))), (5, .ref 16), (6, .int (nI st9)), (7, .int (nI k9)), (8, .int v), (9, .int (nI W)), (10, .int wt), (11, .long bf), (13, .int r), (14, .int p), (16, .int kd)]) X dL_law_264 (by decide) rfl ?_
    refine z_iload_n X 4 dL_law_266 rfl rfl ?_
    refine z_iload X 0 dL_law_267 rfl ?_
    refine z_if_lt X 276 dL_law_269 (by decide) (fun c_269 => ?_) (fun c_269 => ?_)
    · exact absurd c_269 hok
    · skip
      refine z_iconst (v := 1) X dL_law_272 (by decide) ?_
      refine z_goto (tgt := 277) X dL_law_273 (by decide) ?_
      refine z_iadd X dL_law_277 ?_
      refine z_istore_n (ls' := [(3, .int ((nI (n 6)) + 1)), (15, .int v9), (0, .ref 17), (1, .ref 1), (2, .int (nI (n 5))), (4, .int (nI (n 8))), (5, .ref 16), (6, .int (nI st9)), (7, .int (nI k9)), (8, .int v), (9, .int (nI W)), (10, .int wt), (11, .long bf), (13, .int r), (14, .int p), (16, .int kd)]) X dL_law_278 rfl (by decide) rfl ?_
      refine z_goto (tgt := 811) X dL_law_279 (by decide) ?_
      refine z_sub (ls' := [(0, .ref 17), (1, .ref 1), (2, .int (nI (n 5))), (3, .int ((nI (n 6)) + 1)), (4, .int (nI (n 8))), (5, .ref 16), (6, .int (nI st9)), (7, .int (nI k9)), (10, .int wt), (11, .long bf), (15, .int v9)]) [2, 3, 4, 0, 5, 6, 7, 8, 11, 12, 1] rfl ?_
      refine z_lse (ls' := [(0, .ref 17), (1, .ref 1), (2, .int (nI (n' 5))), (3, .int (nI (n' 6))), (4, .int (nI (n' 8))), (5, .ref 16), (6, .int (nI st9)), (7, .int (nI k9)), (10, .int wt), (11, .long bf), (15, .int v9)]) (by rw [e5, e6, e8, nI_1]) ?_
      exact zl_tail hl0 X hs' hpr' hw (fun q _ => absurd (xn_lt q) hok) hk9 Kc ⟨by omega, by omega⟩ hmx

set_option maxRecDepth 100000 in
set_option maxHeartbeats 8000000 in
theorem kc_putP (hl0 : l0.stackTraces = false) (X : zLX g l0 nm M00 post tab) (h : xSI n i x lm y t) (hpr : ∀ o, o < n 8 → pr o = i 138 o) {v p : Int32} {r kd wt : Int32} {bf : Int64} {W : Nat} (hW : W < 5000000) (hw : wt = 0 ∨ wt = 1) (hb : wt = 1 → bf = xsum n i x lm y) {st9 k9 K9 N9 : Nat} (hk9 : k9 < 58) (Kc : zKL g st9 (k9 + 1) K9 N9) (hkk : kk + 7760 ≤ K9 ∧ nn + 78000 ≤ N9) (hmx : K9 ≤ 590000 ∧ N9 ≤ 7100000) : zE g 19 289 [(0, .ref 17), (1, .ref 1), (2, .int (nI (n 5))), (3, .int (nI (n 6))), (4, .int (nI (n 8))), (5, .ref 16), (6, .int (nI st9)), (7, .int (nI k9)), (8, .int v), (9, .int (nI W)), (10, .int wt), (11, .long bf), (13, .int r), (14, .int p), (15, .int 0), (16, .int kd)] [] (zmg (cmm n i x lm y 0 0) (pM pr)) kk nn := by
  have h7 := h.1.1.2.1.2.2.1
  have h5 := h.1.1.2.1.1
  have h6 := h.1.1.2.1.2.1
  have h8 := h.1.1.2.1.2.2.2
  refine z_aload_n X 1 dL_law_289 rfl rfl ?_
  refine z_bipush (v := 112) X dL_law_290 (by decide) ?_
  refine z_iload X 9 dL_law_292 rfl ?_
  refine z_iconst (v := 4) X dL_law_294 (by decide) ?_
  refine z_idiv X dL_law_295 (by decide) ?_
  refine z_iconst (v := 1) X dL_law_296 (by decide) ?_
  refine z_iload_n X 3 dL_law_297 rfl rfl ?_
  refine z_mmax X dL_law_298 hmx1 hmx2 hmx3 hmx4 (by decide) (Nat.le_of_ble_eq_true rfl) (by omega) (by omega) ?_
  refine z_irem X dL_law_301 (xr_max (nI_nn _ (by omega))) ?_
  refine z_iload X 12 dL_law_302 rfl ?_
  refine z_callSWiN (As := [.ref 1, .int 112, .int (((nI W) / 4) - ((nI W) / 4) / (if (1 : Int32) < (nI (n 6)) then (nI (n 6)) else 1) * (if (1 : Int32) < (nI (n 6)) then (nI (n 6)) else 1)), .int r]) (rest := []) (n1 := 4) X dL_law_304 (zC_i (w_putP l0 hl0 h 0 0 (((nI W) / 4) - ((nI W) / 4) / (if (1 : Int32) < (nI (n 6)) then (nI (n 6)) else 1) * (if (1 : Int32) < (nI (n 6)) then (nI (n 6)) else 1)) r) zCok_cmm (fun _ _ hv => xst_ok hv) rfl) gL_law_L_puts rfl rfl (by decide +kernel) ⟨by decide, by decide⟩ rfl (Nat.le_of_ble_eq_true rfl) ⟨by omega, by omega⟩ ?_
  rintro v9 G9 ⟨C9, hv9, rfl⟩
  rcases hv9 with ⟨hlt, rfl⟩ | ⟨hok, n', i', x', lm', y', t', rfl, hs', ⟨e5, e6, e8, etm⟩, hp1, hz1⟩
  · skip
    refine z_istore (ls' := [(15, .int v9), (0, .ref 17), (1, .ref 1), (2, .int (nI (n 5))), (3, .int (nI (n 6))), (4, .int (nI (n 8))), (5, .ref 16), (6, .int (nI st9)), (7, .int (nI k9)), (8, .int v), (9, .int (nI W)), (10, .int wt), (11, .long bf), (13, .int r), (14, .int p), (16, .int kd)]) X dL_law_307 (by decide) rfl ?_
    refine z_goto (tgt := 811) X dL_law_309 (by decide) ?_
    refine z_sub (ls' := [(0, .ref 17), (1, .ref 1), (2, .int (nI (n 5))), (3, .int (nI (n 6))), (4, .int (nI (n 8))), (5, .ref 16), (6, .int (nI st9)), (7, .int (nI k9)), (10, .int wt), (11, .long bf), (15, .int v9)]) [1, 2, 3, 4, 5, 6, 7, 8, 11, 12, 0] rfl ?_
    exact zl_tail hl0 X h hpr hw (fun _ q => hb q) hk9 Kc ⟨by omega, by omega⟩ hmx
  · skip
    have e5 : n' 5 = n 5 := e5
    have e6 : n' 6 = n 6 := e6
    have e8 : n' 8 = n 8 := e8
    have hpr' : ∀ o, o < n' 8 → pr o = i' 138 o := fun o ho => (hpr o (by omega)).trans (hp1 o ho).symm
    refine z_istore (ls' := [(15, .int v9), (0, .ref 17), (1, .ref 1), (2, .int (nI (n 5))), (3, .int (nI (n 6))), (4, .int (nI (n 8))), (5, .ref 16), (6, .int (nI st9)), (7, .int (nI k9)), (8, .int v), (9, .int (nI W)), (10, .int wt), (11, .long bf), (13, .int r), (14, .int p), (16, .int kd)]) X dL_law_307 (by decide) rfl ?_
    refine z_goto (tgt := 811) X dL_law_309 (by decide) ?_
    refine z_sub (ls' := [(0, .ref 17), (1, .ref 1), (2, .int (nI (n 5))), (3, .int (nI (n 6))), (4, .int (nI (n 8))), (5, .ref 16), (6, .int (nI st9)), (7, .int (nI k9)), (10, .int wt), (11, .long bf), (15, .int v9)]) [1, 2, 3, 4, 5, 6, 7, 8, 11, 12, 0] rfl ?_
    refine z_lse (ls' := [(0, .ref 17), (1, .ref 1), (2, .int (nI (n' 5))), (3, .int (nI (n' 6))), (4, .int (nI (n' 8))), (5, .ref 16), (6, .int (nI st9)), (7, .int (nI k9)), (10, .int wt), (11, .long bf), (15, .int v9)]) (by rw [e5, e6, e8]) ?_
    exact zl_tail hl0 X hs' hpr' hw (fun q _ => absurd q hok) hk9 Kc ⟨by omega, by omega⟩ hmx

set_option maxRecDepth 100000 in
set_option maxHeartbeats 8000000 in
theorem kc_putM (hl0 : l0.stackTraces = false) (X : zLX g l0 nm M00 post tab) (h : xSI n i x lm y t) (hpr : ∀ o, o < n 8 → pr o = i 138 o) {v p : Int32} {r kd wt : Int32} {bf : Int64} {W : Nat} (hW : W < 5000000) (hw : wt = 0 ∨ wt = 1) (hb : wt = 1 → bf = xsum n i x lm y) {st9 k9 K9 N9 : Nat} (hk9 : k9 < 58) (Kc : zKL g st9 (k9 + 1) K9 N9) (hkk : kk + 7760 ≤ K9 ∧ nn + 78000 ≤ N9) (hmx : K9 ≤ 590000 ∧ N9 ≤ 7100000) : zE g 19 319 [(0, .ref 17), (1, .ref 1), (2, .int (nI (n 5))), (3, .int (nI (n 6))), (4, .int (nI (n 8))), (5, .ref 16), (6, .int (nI st9)), (7, .int (nI k9)), (8, .int v), (9, .int (nI W)), (10, .int wt), (11, .long bf), (13, .int r), (14, .int p), (15, .int 0), (16, .int kd)] [] (zmg (cmm n i x lm y 0 0) (pM pr)) kk nn := by
  have h7 := h.1.1.2.1.2.2.1
  have h5 := h.1.1.2.1.1
  have h6 := h.1.1.2.1.2.1
  have h8 := h.1.1.2.1.2.2.2
  refine z_aload_n X 1 dL_law_319 rfl rfl ?_
  refine z_bipush (v := 109) X dL_law_320 (by decide) ?_
  refine z_iload X 13 dL_law_322 rfl ?_
  refine z_iload X 9 dL_law_324 rfl ?_
  refine z_bipush (v := 24) X dL_law_326 (by decide) ?_
  refine z_idiv X dL_law_328 (by decide) ?_
  refine z_iconst (v := 1) X dL_law_329 (by decide) ?_
  refine z_iload_n X 2 dL_law_330 rfl rfl ?_
  refine z_mmax X dL_law_331 hmx1 hmx2 hmx3 hmx4 (by decide) (Nat.le_of_ble_eq_true rfl) (by omega) (by omega) ?_
  refine z_irem X dL_law_334 (xr_max (nI_nn _ (by omega))) ?_
  refine z_callSWiN (As := [.ref 1, .int 109, .int p, .int (((nI W) / 24) - ((nI W) / 24) / (if (1 : Int32) < (nI (n 5)) then (nI (n 5)) else 1) * (if (1 : Int32) < (nI (n 5)) then (nI (n 5)) else 1))]) (rest := []) (n1 := 4) X dL_law_335 (zC_i (w_putM l0 hl0 h 0 0 p (((nI W) / 24) - ((nI W) / 24) / (if (1 : Int32) < (nI (n 5)) then (nI (n 5)) else 1) * (if (1 : Int32) < (nI (n 5)) then (nI (n 5)) else 1))) zCok_cmm (fun _ _ hv => xst_ok hv) rfl) gL_law_L_puts rfl rfl (by decide +kernel) ⟨by decide, by decide⟩ rfl (Nat.le_of_ble_eq_true rfl) ⟨by omega, by omega⟩ ?_
  rintro v9 G9 ⟨C9, hv9, rfl⟩
  rcases hv9 with ⟨hlt, rfl⟩ | ⟨hok, n', i', x', lm', y', t', rfl, hs', ⟨e5, e6, e8, etm⟩, hp1, hz1⟩
  · skip
    refine z_istore (ls' := [(15, .int v9), (0, .ref 17), (1, .ref 1), (2, .int (nI (n 5))), (3, .int (nI (n 6))), (4, .int (nI (n 8))), (5, .ref 16), (6, .int (nI st9)), (7, .int (nI k9)), (8, .int v), (9, .int (nI W)), (10, .int wt), (11, .long bf), (13, .int r), (14, .int p), (16, .int kd)]) X dL_law_338 (by decide) rfl ?_
    refine z_goto (tgt := 811) X dL_law_340 (by decide) ?_
    refine z_sub (ls' := [(0, .ref 17), (1, .ref 1), (2, .int (nI (n 5))), (3, .int (nI (n 6))), (4, .int (nI (n 8))), (5, .ref 16), (6, .int (nI st9)), (7, .int (nI k9)), (10, .int wt), (11, .long bf), (15, .int v9)]) [1, 2, 3, 4, 5, 6, 7, 8, 11, 12, 0] rfl ?_
    exact zl_tail hl0 X h hpr hw (fun _ q => hb q) hk9 Kc ⟨by omega, by omega⟩ hmx
  · skip
    have e5 : n' 5 = n 5 := e5
    have e6 : n' 6 = n 6 := e6
    have e8 : n' 8 = n 8 := e8
    have hpr' : ∀ o, o < n' 8 → pr o = i' 138 o := fun o ho => (hpr o (by omega)).trans (hp1 o ho).symm
    refine z_istore (ls' := [(15, .int v9), (0, .ref 17), (1, .ref 1), (2, .int (nI (n 5))), (3, .int (nI (n 6))), (4, .int (nI (n 8))), (5, .ref 16), (6, .int (nI st9)), (7, .int (nI k9)), (8, .int v), (9, .int (nI W)), (10, .int wt), (11, .long bf), (13, .int r), (14, .int p), (16, .int kd)]) X dL_law_338 (by decide) rfl ?_
    refine z_goto (tgt := 811) X dL_law_340 (by decide) ?_
    refine z_sub (ls' := [(0, .ref 17), (1, .ref 1), (2, .int (nI (n 5))), (3, .int (nI (n 6))), (4, .int (nI (n 8))), (5, .ref 16), (6, .int (nI st9)), (7, .int (nI k9)), (10, .int wt), (11, .long bf), (15, .int v9)]) [1, 2, 3, 4, 5, 6, 7, 8, 11, 12, 0] rfl ?_
    refine z_lse (ls' := [(0, .ref 17), (1, .ref 1), (2, .int (nI (n' 5))), (3, .int (nI (n' 6))), (4, .int (nI (n' 8))), (5, .ref 16), (6, .int (nI st9)), (7, .int (nI k9)), (10, .int wt), (11, .long bf), (15, .int v9)]) (by rw [e5, e6, e8]) ?_
    exact zl_tail hl0 X hs' hpr' hw (fun q _ => absurd q hok) hk9 Kc ⟨by omega, by omega⟩ hmx

set_option maxRecDepth 100000 in
set_option maxHeartbeats 8000000 in
theorem kc_scrap (hl0 : l0.stackTraces = false) (X : zLX g l0 nm M00 post tab) (h : xSI n i x lm y t) (hpr : ∀ o, o < n 8 → pr o = i 138 o) {v p : Int32} {r kd wt : Int32} {bf : Int64} {W : Nat} (hW : W < 5000000) (hw : wt = 0 ∨ wt = 1) (hb : wt = 1 → bf = xsum n i x lm y) {st9 k9 K9 N9 : Nat} (hk9 : k9 < 58) (Kc : zKL g st9 (k9 + 1) K9 N9) (hkk : kk + 7760 ≤ K9 ∧ nn + 78000 ≤ N9) (hmx : K9 ≤ 590000 ∧ N9 ≤ 7100000) : zE g 19 350 [(0, .ref 17), (1, .ref 1), (2, .int (nI (n 5))), (3, .int (nI (n 6))), (4, .int (nI (n 8))), (5, .ref 16), (6, .int (nI st9)), (7, .int (nI k9)), (8, .int v), (9, .int (nI W)), (10, .int wt), (11, .long bf), (13, .int r), (14, .int p), (15, .int 0), (16, .int kd)] [] (zmg (cmm n i x lm y 0 0) (pM pr)) kk nn := by
  have h7 := h.1.1.2.1.2.2.1
  have h5 := h.1.1.2.1.1
  have h6 := h.1.1.2.1.2.1
  have h8 := h.1.1.2.1.2.2.2
  refine z_aload_n X 1 dL_law_350 rfl rfl ?_
  refine z_iload X 13 dL_law_351 rfl ?_
  refine z_iconst (v := 4) X dL_law_353 (by decide) ?_
  refine z_callSWiN (As := [.ref 1, .int p, .int 4]) (rest := []) (n1 := 3) X dL_law_354 (zC_i (w_scrap l0 hl0 h 0 0 p) zCok_cmm (fun _ _ hv => xst_ok hv) rfl) gL_law_L_pallet rfl rfl (by decide +kernel) ⟨by decide, by decide⟩ rfl (Nat.le_of_ble_eq_true rfl) ⟨by omega, by omega⟩ ?_
  rintro v9 G9 ⟨C9, hv9, rfl⟩
  rcases hv9 with ⟨hlt, rfl⟩ | ⟨hok, n', i', x', lm', y', t', rfl, hs', ⟨e5, e6, e8, etm⟩, hp1, hz1⟩
  · skip
    refine z_istore (ls' := [(15, .int v9), (0, .ref 17), (1, .ref 1), (2, .int (nI (n 5))), (3, .int (nI (n 6))), (4, .int (nI (n 8))), (5, .ref 16), (6, .int (nI st9)), (7, .int (nI k9)), (8, .int v), (9, .int (nI W)), (10, .int wt), (11, .long bf), (13, .int r), (14, .int p), (16, .int kd)]) X dL_law_357 (by decide) rfl ?_
    refine z_goto (tgt := 811) X dL_law_359 (by decide) ?_
    refine z_sub (ls' := [(0, .ref 17), (1, .ref 1), (2, .int (nI (n 5))), (3, .int (nI (n 6))), (4, .int (nI (n 8))), (5, .ref 16), (6, .int (nI st9)), (7, .int (nI k9)), (10, .int wt), (11, .long bf), (15, .int v9)]) [1, 2, 3, 4, 5, 6, 7, 8, 11, 12, 0] rfl ?_
    exact zl_tail hl0 X h hpr hw (fun _ q => hb q) hk9 Kc ⟨by omega, by omega⟩ hmx
  · skip
    have e5 : n' 5 = n 5 := e5
    have e6 : n' 6 = n 6 := e6
    have e8 : n' 8 = n 8 := e8
    have hpr' : ∀ o, o < n' 8 → pr o = i' 138 o := fun o ho => (hpr o (by omega)).trans (hp1 o ho).symm
    refine z_istore (ls' := [(15, .int v9), (0, .ref 17), (1, .ref 1), (2, .int (nI (n 5))), (3, .int (nI (n 6))), (4, .int (nI (n 8))), (5, .ref 16), (6, .int (nI st9)), (7, .int (nI k9)), (8, .int v), (9, .int (nI W)), (10, .int wt), (11, .long bf), (13, .int r), (14, .int p), (16, .int kd)]) X dL_law_357 (by decide) rfl ?_
    refine z_goto (tgt := 811) X dL_law_359 (by decide) ?_
    refine z_sub (ls' := [(0, .ref 17), (1, .ref 1), (2, .int (nI (n 5))), (3, .int (nI (n 6))), (4, .int (nI (n 8))), (5, .ref 16), (6, .int (nI st9)), (7, .int (nI k9)), (10, .int wt), (11, .long bf), (15, .int v9)]) [1, 2, 3, 4, 5, 6, 7, 8, 11, 12, 0] rfl ?_
    refine z_lse (ls' := [(0, .ref 17), (1, .ref 1), (2, .int (nI (n' 5))), (3, .int (nI (n' 6))), (4, .int (nI (n' 8))), (5, .ref 16), (6, .int (nI st9)), (7, .int (nI k9)), (10, .int wt), (11, .long bf), (15, .int v9)]) (by rw [e5, e6, e8]) ?_
    exact zl_tail hl0 X hs' hpr' hw (fun q _ => absurd q hok) hk9 Kc ⟨by omega, by omega⟩ hmx

set_option maxRecDepth 100000 in
set_option maxHeartbeats 8000000 in
theorem kc_order (hl0 : l0.stackTraces = false) (X : zLX g l0 nm M00 post tab) (h : xSI n i x lm y t) (hpr : ∀ o, o < n 8 → pr o = i 138 o) {v p : Int32} {r kd wt : Int32} {bf : Int64} {W : Nat} (hW : W < 5000000) (hw : wt = 0 ∨ wt = 1) (hb : wt = 1 → bf = xsum n i x lm y) {st9 k9 K9 N9 : Nat} (hk9 : k9 < 58) (Kc : zKL g st9 (k9 + 1) K9 N9) (hkk : kk + 7760 ≤ K9 ∧ nn + 78000 ≤ N9) (hmx : K9 ≤ 590000 ∧ N9 ≤ 7100000) : zE g 19 369 [(0, .ref 17), (1, .ref 1), (2, .int (nI (n 5))), (3, .int (nI (n 6))), (4, .int (nI (n 8))), (5, .ref 16), (6, .int (nI st9)), (7, .int (nI k9)), (8, .int v), (9, .int (nI W)), (10, .int wt), (11, .long bf), (13, .int r), (14, .int p), (15, .int 0), (16, .int kd)] [] (zmg (cmm n i x lm y 0 0) (pM pr)) kk nn := by
  have h7 := h.1.1.2.1.2.2.1
  have h5 := h.1.1.2.1.1
  have h6 := h.1.1.2.1.2.1
  have h8 := h.1.1.2.1.2.2.2
  refine z_iload X 9 dL_law_369 rfl ?_
  refine z_bipush (v := 20) X dL_law_371 (by decide) ?_
  refine z_idiv X dL_law_373 (by decide) ?_
  refine z_sipush (v := 400) X dL_law_374 (by decide) ?_
  refine z_irem X dL_law_377 (by decide) ?_
  refine z_istore (ls' := [(17, .int (((nI W) / 20) - ((nI W) / 20) / 400 * 400)), (0, .ref 17), (1, .ref 1), (2, .int (nI (n 5))), (3, .int (nI (n 6))), (4, .int (nI (n 8))), (5, .ref 16), (6, .int (nI st9)), (7, .int (nI k9)), (8, .int v), (9, .int (nI W)), (10, .int wt), (11, .long bf), (13, .int r), (14, .int p), (15, .int 0), (16, .int kd)]) X dL_law_378 (by decide) rfl ?_
  refine z_aload_n X 2 dL_law_380 rfl rfl ?_
  refine z_iload X 10 dL_law_381 rfl ?_
  refine z_iconst (v := 1) X dL_law_383 (by decide) ?_
  refine z_iload_n X 4 dL_law_384 rfl rfl ?_
  refine z_mmax X dL_law_385 hmx1 hmx2 hmx3 hmx4 (by decide) (Nat.le_of_ble_eq_true rfl) (by omega) (by omega) ?_
  refine z_irem X dL_law_388 (xr_max (nI_nn _ (by omega))) ?_
  refine z_iconst (v := 1) X dL_law_389 (by decide) ?_
  refine z_iload X 10 dL_law_390 rfl ?_
  refine z_iconst (v := 5) X dL_law_392 (by decide) ?_
  refine z_idiv X dL_law_393 (by decide) ?_
  refine z_iconst (v := 3) X dL_law_394 (by decide) ?_
  refine z_irem X dL_law_395 (by decide) ?_
  refine z_iadd X dL_law_396 ?_
  refine z_iload X 0 dL_law_397 rfl ?_
  refine z_aload_n X 2 dL_law_399 rfl rfl ?_
  refine z_callViN (As := []) (rest := [.int (((nI W) / 20) - ((nI W) / 20) / 400 * 400), .int (1 + (((nI W) / 5) - ((nI W) / 5) / 3 * 3)), .int ((nI W) - (nI W) / (if (1 : Int32) < (nI (n 6)) then (nI (n 6)) else 1) * (if (1 : Int32) < (nI (n 6)) then (nI (n 6)) else 1)), .ref 1]) (n1 := 0) (ci := 10) X dL_law_400 (zC_ri (c_X7_now l0 hl0 n i x lm y 0 0 h.1.1) zCok_cmm rfl) gL_law_X7_now rfl rfl (by decide +kernel) ⟨by decide, by decide⟩ zp1 rfl rfl (Nat.le_of_ble_eq_true rfl) ⟨by omega, by omega⟩ ?_
  rintro _ _ ⟨rfl, rfl⟩
  refine z_iconst (v := 1) X dL_law_403 (by decide) ?_
  refine z_iadd X dL_law_404 ?_
  refine z_iload X 10 dL_law_405 rfl ?_
  refine z_sipush (v := 8000) X dL_law_407 (by decide) ?_
  refine z_idiv X dL_law_410 (by decide) ?_
  refine z_bipush (v := 30) X dL_law_411 (by decide) ?_
  refine z_irem X dL_law_413 (by decide) ?_
  refine z_iadd X dL_law_414 ?_
  refine z_callSWiN (As := [.ref 1, .int ((nI W) - (nI W) / (if (1 : Int32) < (nI (n 6)) then (nI (n 6)) else 1) * (if (1 : Int32) < (nI (n 6)) then (nI (n 6)) else 1)), .int (1 + (((nI W) / 5) - ((nI W) / 5) / 3 * 3)), .int (((nI W) / 20) - ((nI W) / 20) / 400 * 400), .int (((i 1 0) + 1) + (((nI W) / 8000) - ((nI W) / 8000) / 30 * 30))]) (rest := []) (n1 := 5) X dL_law_415 (zC_i (w_order l0 hl0 h 0 0 ((nI W) - (nI W) / (if (1 : Int32) < (nI (n 6)) then (nI (n 6)) else 1) * (if (1 : Int32) < (nI (n 6)) then (nI (n 6)) else 1)) (1 + (((nI W) / 5) - ((nI W) / 5) / 3 * 3)) (((nI W) / 20) - ((nI W) / 20) / 400 * 400) (((i 1 0) + 1) + (((nI W) / 8000) - ((nI W) / 8000) / 30 * 30))) zCok_cmm (fun _ _ hv => xst_ok hv) rfl) gL_law_L_order rfl rfl (by decide +kernel) ⟨by decide, by decide⟩ rfl (Nat.le_of_ble_eq_true rfl) ⟨by omega, by omega⟩ ?_
  rintro v9 G9 ⟨C9, hv9, rfl⟩
  rcases hv9 with ⟨hlt, rfl⟩ | ⟨hok, n', i', x', lm', y', t', rfl, hs', ⟨e5, e6, e8, etm⟩, hp1, hz1⟩
  · skip
    refine z_istore (ls' := [(15, .int v9), (17, .int (((nI W) / 20) - ((nI W) / 20) / 400 * 400)), (0, .ref 17), (1, .ref 1), (2, .int (nI (n 5))), (3, .int (nI (n 6))), (4, .int (nI (n 8))), (5, .ref 16), (6, .int (nI st9)), (7, .int (nI k9)), (8, .int v), (9, .int (nI W)), (10, .int wt), (11, .long bf), (13, .int r), (14, .int p), (16, .int kd)]) X dL_law_418 (by decide) rfl ?_
    refine z_iload X 0 dL_law_420 rfl ?_
    refine z_if_lt X 435 dL_law_422 (by decide) (fun c_422 => ?_) (fun c_422 => ?_)
    · skip
      refine z_goto (tgt := 811) X dL_law_435 (by decide) ?_
      refine z_sub (ls' := [(0, .ref 17), (1, .ref 1), (2, .int (nI (n 5))), (3, .int (nI (n 6))), (4, .int (nI (n 8))), (5, .ref 16), (6, .int (nI st9)), (7, .int (nI k9)), (10, .int wt), (11, .long bf), (15, .int v9)]) [2, 3, 4, 5, 6, 7, 8, 9, 12, 13, 0] rfl ?_
      exact zl_tail hl0 X h hpr hw (fun _ q => hb q) hk9 Kc ⟨by omega, by omega⟩ hmx
    · exact absurd (xn_lt hlt) c_422
  · skip
    have e5 : n' 5 = n 5 := e5
    have e6 : n' 6 = n 6 := e6
    have e8 : n' 8 = n 8 + 1 := e8
    have hok : v9 = nI (n 8) := hok
    subst hok
    have h8' := hs'.1.1.2.1.2.2.2
    have hpr' : ∀ o, o < n' 8 → (if o = n 8 then ((nI W) / 20) - ((nI W) / 20) / 400 * 400 else pr o) = i' 138 o := fun o ho => by
      rw [hp1 o ho]
      by_cases co : o = n 8
      · rw [if_pos co]; exact (if_pos co).symm
      · rw [if_neg co]; exact (hpr o (by omega)).trans (if_neg co).symm
    refine z_istore (ls' := [(15, .int (nI (n 8))), (17, .int (((nI W) / 20) - ((nI W) / 20) / 400 * 400)), (0, .ref 17), (1, .ref 1), (2, .int (nI (n 5))), (3, .int (nI (n 6))), (4, .int (nI (n 8))), (5, .ref 16), (6, .int (nI st9)), (7, .int (nI k9)), (8, .int v), (9, .int (nI W)), (10, .int wt), (11, .long bf), (13, .int r), (14, .int p), (16, .int kd)]) X dL_law_418 (by decide) rfl ?_
    refine z_iload X 0 dL_law_420 rfl ?_
    refine z_if_lt X 435 dL_law_422 (by decide) (fun c_422 => ?_) (fun c_422 => ?_)
    · exact absurd c_422 (nI_nn _ (by omega))
    · skip
      refine z_aload X 7 dL_law_425 rfl ?_
      refine z_iload X 0 dL_law_427 rfl ?_
      refine z_iload X 1 dL_law_429 rfl ?_
      refine z_iast (j := (n 8)) X dL_law_431 zp16k (by rw [zp16n]; exact vp_in_nI (by omega) (by omega)) (nI_clamp (by omega)) ?_
      refine z_mem (M' := zmg (cmm n' i' x' lm' y' 0 0) (pM (fun q => if q = n 8 then ((nI W) / 20) - ((nI W) / 20) / 400 * 400 else pr q))) zp16w ?_
      refine z_iinc (ls' := [(4, .int (nI ((n 8) + 1))), (15, .int (nI (n 8))), (17, .int (((nI W) / 20) - ((nI W) / 20) / 400 * 400)), (0, .ref 17), (1, .ref 1), (2, .int (nI (n 5))), (3, .int (nI (n 6))), (5, .ref 16), (6, .int (nI st9)), (7, .int (nI k9)), (8, .int v), (9, .int (nI W)), (10, .int wt), (11, .long bf), (13, .int r), (14, .int p), (16, .int kd)]) (v := nI ((n 8) + 1)) X 6 dL_law_432 rfl (nI_1 _) (by decide) rfl ?_
      refine z_goto (tgt := 811) X dL_law_435 (by decide) ?_
      refine z_sub (ls' := [(0, .ref 17), (1, .ref 1), (2, .int (nI (n 5))), (3, .int (nI (n 6))), (4, .int (nI ((n 8) + 1))), (5, .ref 16), (6, .int (nI st9)), (7, .int (nI k9)), (10, .int wt), (11, .long bf), (15, .int (nI (n 8)))]) [3, 4, 5, 6, 0, 7, 8, 9, 12, 13, 1] rfl ?_
      refine z_lse (ls' := [(0, .ref 17), (1, .ref 1), (2, .int (nI (n' 5))), (3, .int (nI (n' 6))), (4, .int (nI (n' 8))), (5, .ref 16), (6, .int (nI st9)), (7, .int (nI k9)), (10, .int wt), (11, .long bf), (15, .int (nI (n 8)))]) (by rw [e5, e6, e8]) ?_
      exact zl_tail hl0 X hs' hpr' hw (fun q _ => absurd q (xn_nI (by omega))) hk9 Kc ⟨by omega, by omega⟩ hmx

set_option maxRecDepth 100000 in
set_option maxHeartbeats 8000000 in
theorem kc_cancel (hl0 : l0.stackTraces = false) (X : zLX g l0 nm M00 post tab) (h : xSI n i x lm y t) (hpr : ∀ o, o < n 8 → pr o = i 138 o) {v p : Int32} {r kd wt : Int32} {bf : Int64} {W : Nat} (hW : W < 5000000) (hw : wt = 0 ∨ wt = 1) (hb : wt = 1 → bf = xsum n i x lm y) {st9 k9 K9 N9 : Nat} (hk9 : k9 < 58) (Kc : zKL g st9 (k9 + 1) K9 N9) (hkk : kk + 7760 ≤ K9 ∧ nn + 78000 ≤ N9) (hmx : K9 ≤ 590000 ∧ N9 ≤ 7100000) (hE : (nI W / 12) - (nI W / 12) / 2 * 2 = 0) : zE g 19 445 [(0, .ref 17), (1, .ref 1), (2, .int (nI (n 5))), (3, .int (nI (n 6))), (4, .int (nI (n 8))), (5, .ref 16), (6, .int (nI st9)), (7, .int (nI k9)), (8, .int v), (9, .int (nI W)), (10, .int wt), (11, .long bf), (13, .int r), (14, .int p), (15, .int 0), (16, .int kd)] [] (zmg (cmm n i x lm y 0 0) (pM pr)) kk nn := by
  have h7 := h.1.1.2.1.2.2.1
  have h5 := h.1.1.2.1.1
  have h6 := h.1.1.2.1.2.1
  have h8 := h.1.1.2.1.2.2.2
  refine z_iload X 9 dL_law_445 rfl ?_
  refine z_iconst (v := 1) X dL_law_447 (by decide) ?_
  refine z_iload X 4 dL_law_448 rfl ?_
  refine z_mmax X dL_law_450 hmx1 hmx2 hmx3 hmx4 (by decide) (Nat.le_of_ble_eq_true rfl) (by omega) (by omega) ?_
  refine z_irem X dL_law_453 (xr_max (nI_nn _ (by omega))) ?_
  refine z_istore (ls' := [(17, .int ((nI W) - (nI W) / (if (1 : Int32) < (nI (n 8)) then (nI (n 8)) else 1) * (if (1 : Int32) < (nI (n 8)) then (nI (n 8)) else 1))), (0, .ref 17), (1, .ref 1), (2, .int (nI (n 5))), (3, .int (nI (n 6))), (4, .int (nI (n 8))), (5, .ref 16), (6, .int (nI st9)), (7, .int (nI k9)), (8, .int v), (9, .int (nI W)), (10, .int wt), (11, .long bf), (13, .int r), (14, .int p), (15, .int 0), (16, .int kd)]) X dL_law_454 (by decide) rfl ?_
  refine z_aload_n X 2 dL_law_456 rfl rfl ?_
  refine z_iload X 0 dL_law_457 rfl ?_
  refine z_iconst (v := 2) X dL_law_459 (by decide) ?_
  refine z_callSWiN (As := [.ref 1, .int ((nI W) - (nI W) / (if (1 : Int32) < (nI (n 8)) then (nI (n 8)) else 1) * (if (1 : Int32) < (nI (n 8)) then (nI (n 8)) else 1)), .int 2]) (rest := []) (n1 := 3) X dL_law_460 (zC_ri (h_ord2 l0 hl0 h 0 0 ((nI W) - (nI W) / (if (1 : Int32) < (nI (n 8)) then (nI (n 8)) else 1) * (if (1 : Int32) < (nI (n 8)) then (nI (n 8)) else 1))) zCok_cmm rfl) gL_law_L_orders rfl rfl (by decide +kernel) ⟨by decide, by decide⟩ rfl (Nat.le_of_ble_eq_true rfl) ⟨by omega, by omega⟩ ?_
  rintro _ _ ⟨rfl, rfl⟩
  refine z_istore (ls' := [(18, .int (a_ord2 n i x y ((nI W) - (nI W) / (if (1 : Int32) < (nI (n 8)) then (nI (n 8)) else 1) * (if (1 : Int32) < (nI (n 8)) then (nI (n 8)) else 1)))), (17, .int ((nI W) - (nI W) / (if (1 : Int32) < (nI (n 8)) then (nI (n 8)) else 1) * (if (1 : Int32) < (nI (n 8)) then (nI (n 8)) else 1))), (0, .ref 17), (1, .ref 1), (2, .int (nI (n 5))), (3, .int (nI (n 6))), (4, .int (nI (n 8))), (5, .ref 16), (6, .int (nI st9)), (7, .int (nI k9)), (8, .int v), (9, .int (nI W)), (10, .int wt), (11, .long bf), (13, .int r), (14, .int p), (15, .int 0), (16, .int kd)]) X dL_law_463 (by decide) rfl ?_
  refine z_aload_n X 3 dL_law_465 rfl rfl ?_
  refine z_iload X 1 dL_law_466 rfl ?_
  refine z_iload X 11 dL_law_468 rfl ?_
  refine z_bipush (v := 12) X dL_law_470 (by decide) ?_
  refine z_idiv X dL_law_472 (by decide) ?_
  refine z_iconst (v := 2) X dL_law_473 (by decide) ?_
  refine z_irem X dL_law_474 (by decide) ?_
  refine z_ste (st' := [.int 0, .int ((nI W) - (nI W) / (if (1 : Int32) < (nI (n 8)) then (nI (n 8)) else 1) * (if (1 : Int32) < (nI (n 8)) then (nI (n 8)) else 1)), .ref 1]) (by rw [hE]) ?_
  refine z_callSWiN (As := [.ref 1, .int ((nI W) - (nI W) / (if (1 : Int32) < (nI (n 8)) then (nI (n 8)) else 1) * (if (1 : Int32) < (nI (n 8)) then (nI (n 8)) else 1)), .int 0]) (rest := []) (n1 := 3) X dL_law_475 (zC_i (w_cancel l0 hl0 h 0 0 ((nI W) - (nI W) / (if (1 : Int32) < (nI (n 8)) then (nI (n 8)) else 1) * (if (1 : Int32) < (nI (n 8)) then (nI (n 8)) else 1))) zCok_cmm (fun _ _ hv => xst_ok hv) rfl) gL_law_L_orders rfl rfl (by decide +kernel) ⟨by decide, by decide⟩ rfl (Nat.le_of_ble_eq_true rfl) ⟨by omega, by omega⟩ ?_
  rintro v9 G9 ⟨C9, hv9, rfl⟩
  rcases hv9 with ⟨hlt, rfl⟩ | ⟨hok, n', i', x', lm', y', t', rfl, hs', ⟨e5, e6, e8, etm⟩, hp1, hz1⟩
  · skip
    refine z_istore (ls' := [(15, .int v9), (18, .int (a_ord2 n i x y ((nI W) - (nI W) / (if (1 : Int32) < (nI (n 8)) then (nI (n 8)) else 1) * (if (1 : Int32) < (nI (n 8)) then (nI (n 8)) else 1)))), (17, .int ((nI W) - (nI W) / (if (1 : Int32) < (nI (n 8)) then (nI (n 8)) else 1) * (if (1 : Int32) < (nI (n 8)) then (nI (n 8)) else 1))), (0, .ref 17), (1, .ref 1), (2, .int (nI (n 5))), (3, .int (nI (n 6))), (4, .int (nI (n 8))), (5, .ref 16), (6, .int (nI st9)), (7, .int (nI k9)), (8, .int v), (9, .int (nI W)), (10, .int wt), (11, .long bf), (13, .int r), (14, .int p), (16, .int kd)]) X dL_law_478 (by decide) rfl ?_
    refine z_iload X 0 dL_law_480 rfl ?_
    refine z_if_lt X 522 dL_law_482 (by decide) (fun c_482 => ?_) (fun c_482 => ?_)
    · skip
      refine z_goto (tgt := 811) X dL_law_522 (by decide) ?_
      refine z_sub (ls' := [(0, .ref 17), (1, .ref 1), (2, .int (nI (n 5))), (3, .int (nI (n 6))), (4, .int (nI (n 8))), (5, .ref 16), (6, .int (nI st9)), (7, .int (nI k9)), (10, .int wt), (11, .long bf), (15, .int v9)]) [3, 4, 5, 6, 7, 8, 9, 10, 13, 14, 0] rfl ?_
      exact zl_tail hl0 X h hpr hw (fun _ q => hb q) hk9 Kc ⟨by omega, by omega⟩ hmx
    · exact absurd (xn_lt hlt) c_482
  · skip
    have e5 : n' 5 = n 5 := e5
    have e6 : n' 6 = n 6 := e6
    have e8 : n' 8 = n 8 := e8
    have hpr' : ∀ o, o < n' 8 → pr o = i' 138 o := fun o ho => (hpr o (by omega)).trans (hp1 o ho).symm
    refine z_istore (ls' := [(15, .int v9), (18, .int (a_ord2 n i x y ((nI W) - (nI W) / (if (1 : Int32) < (nI (n 8)) then (nI (n 8)) else 1) * (if (1 : Int32) < (nI (n 8)) then (nI (n 8)) else 1)))), (17, .int ((nI W) - (nI W) / (if (1 : Int32) < (nI (n 8)) then (nI (n 8)) else 1) * (if (1 : Int32) < (nI (n 8)) then (nI (n 8)) else 1))), (0, .ref 17), (1, .ref 1), (2, .int (nI (n 5))), (3, .int (nI (n 6))), (4, .int (nI (n 8))), (5, .ref 16), (6, .int (nI st9)), (7, .int (nI k9)), (8, .int v), (9, .int (nI W)), (10, .int wt), (11, .long bf), (13, .int r), (14, .int p), (16, .int kd)]) X dL_law_478 (by decide) rfl ?_
    refine z_iload X 0 dL_law_480 rfl ?_
    refine z_if_lt X 522 dL_law_482 (by decide) (fun c_482 => ?_) (fun c_482 => ?_)
    · skip
      refine z_goto (tgt := 811) X dL_law_522 (by decide) ?_
      refine z_sub (ls' := [(0, .ref 17), (1, .ref 1), (2, .int (nI (n 5))), (3, .int (nI (n 6))), (4, .int (nI (n 8))), (5, .ref 16), (6, .int (nI st9)), (7, .int (nI k9)), (10, .int wt), (11, .long bf), (15, .int v9)]) [3, 4, 5, 6, 7, 8, 9, 10, 13, 14, 0] rfl ?_
      refine z_lse (ls' := [(0, .ref 17), (1, .ref 1), (2, .int (nI (n' 5))), (3, .int (nI (n' 6))), (4, .int (nI (n' 8))), (5, .ref 16), (6, .int (nI st9)), (7, .int (nI k9)), (10, .int wt), (11, .long bf), (15, .int v9)]) (by rw [e5, e6, e8]) ?_
      exact zl_tail hl0 X hs' hpr' hw (fun q _ => absurd q hok) hk9 Kc ⟨by omega, by omega⟩ hmx
    · skip
      refine z_iload X 12 dL_law_485 rfl ?_
      refine z_bipush (v := 12) X dL_law_487 (by decide) ?_
      refine z_idiv X dL_law_489 (by decide) ?_
      refine z_iconst (v := 2) X dL_law_490 (by decide) ?_
      refine z_irem X dL_law_491 (by decide) ?_
      refine z_iconst (v := 1) X dL_law_492 (by decide) ?_
      refine z_icmp_ne X 522 dL_law_493 (by decide) (fun c_493 => ?_) (fun c_493 => ?_)
      · skip
        refine z_goto (tgt := 811) X dL_law_522 (by decide) ?_
        refine z_sub (ls' := [(0, .ref 17), (1, .ref 1), (2, .int (nI (n 5))), (3, .int (nI (n 6))), (4, .int (nI (n 8))), (5, .ref 16), (6, .int (nI st9)), (7, .int (nI k9)), (10, .int wt), (11, .long bf), (15, .int v9)]) [3, 4, 5, 6, 7, 8, 9, 10, 13, 14, 0] rfl ?_
        refine z_lse (ls' := [(0, .ref 17), (1, .ref 1), (2, .int (nI (n' 5))), (3, .int (nI (n' 6))), (4, .int (nI (n' 8))), (5, .ref 16), (6, .int (nI st9)), (7, .int (nI k9)), (10, .int wt), (11, .long bf), (15, .int v9)]) (by rw [e5, e6, e8]) ?_
        exact zl_tail hl0 X hs' hpr' hw (fun q _ => absurd q hok) hk9 Kc ⟨by omega, by omega⟩ hmx
      · exact absurd (hE.symm.trans c_493) (by decide)

set_option maxRecDepth 100000 in
set_option maxHeartbeats 8000000 in
theorem kc_ship (hl0 : l0.stackTraces = false) (X : zLX g l0 nm M00 post tab) (h : xSI n i x lm y t) (hpr : ∀ o, o < n 8 → pr o = i 138 o) {v p : Int32} {r kd wt : Int32} {bf : Int64} {W : Nat} (hW : W < 5000000) (hw : wt = 0 ∨ wt = 1) (hb : wt = 1 → bf = xsum n i x lm y) {st9 k9 K9 N9 : Nat} (hk9 : k9 < 58) (Kc : zKL g st9 (k9 + 1) K9 N9) (hkk : kk + 7760 ≤ K9 ∧ nn + 78000 ≤ N9) (hmx : K9 ≤ 590000 ∧ N9 ≤ 7100000) (hE : (nI W / 12) - (nI W / 12) / 2 * 2 = 1) : zE g 19 445 [(0, .ref 17), (1, .ref 1), (2, .int (nI (n 5))), (3, .int (nI (n 6))), (4, .int (nI (n 8))), (5, .ref 16), (6, .int (nI st9)), (7, .int (nI k9)), (8, .int v), (9, .int (nI W)), (10, .int wt), (11, .long bf), (13, .int r), (14, .int p), (15, .int 0), (16, .int kd)] [] (zmg (cmm n i x lm y 0 0) (pM pr)) kk nn := by
  have h7 := h.1.1.2.1.2.2.1
  have h5 := h.1.1.2.1.1
  have h6 := h.1.1.2.1.2.1
  have h8 := h.1.1.2.1.2.2.2
  refine z_iload X 9 dL_law_445 rfl ?_
  refine z_iconst (v := 1) X dL_law_447 (by decide) ?_
  refine z_iload X 4 dL_law_448 rfl ?_
  refine z_mmax X dL_law_450 hmx1 hmx2 hmx3 hmx4 (by decide) (Nat.le_of_ble_eq_true rfl) (by omega) (by omega) ?_
  refine z_irem X dL_law_453 (xr_max (nI_nn _ (by omega))) ?_
  refine z_istore (ls' := [(17, .int ((nI W) - (nI W) / (if (1 : Int32) < (nI (n 8)) then (nI (n 8)) else 1) * (if (1 : Int32) < (nI (n 8)) then (nI (n 8)) else 1))), (0, .ref 17), (1, .ref 1), (2, .int (nI (n 5))), (3, .int (nI (n 6))), (4, .int (nI (n 8))), (5, .ref 16), (6, .int (nI st9)), (7, .int (nI k9)), (8, .int v), (9, .int (nI W)), (10, .int wt), (11, .long bf), (13, .int r), (14, .int p), (15, .int 0), (16, .int kd)]) X dL_law_454 (by decide) rfl ?_
  refine z_aload_n X 2 dL_law_456 rfl rfl ?_
  refine z_iload X 0 dL_law_457 rfl ?_
  refine z_iconst (v := 2) X dL_law_459 (by decide) ?_
  refine z_callSWiN (As := [.ref 1, .int ((nI W) - (nI W) / (if (1 : Int32) < (nI (n 8)) then (nI (n 8)) else 1) * (if (1 : Int32) < (nI (n 8)) then (nI (n 8)) else 1)), .int 2]) (rest := []) (n1 := 3) X dL_law_460 (zC_ri (h_ord2 l0 hl0 h 0 0 ((nI W) - (nI W) / (if (1 : Int32) < (nI (n 8)) then (nI (n 8)) else 1) * (if (1 : Int32) < (nI (n 8)) then (nI (n 8)) else 1))) zCok_cmm rfl) gL_law_L_orders rfl rfl (by decide +kernel) ⟨by decide, by decide⟩ rfl (Nat.le_of_ble_eq_true rfl) ⟨by omega, by omega⟩ ?_
  rintro _ _ ⟨rfl, rfl⟩
  refine z_istore (ls' := [(18, .int (a_ord2 n i x y ((nI W) - (nI W) / (if (1 : Int32) < (nI (n 8)) then (nI (n 8)) else 1) * (if (1 : Int32) < (nI (n 8)) then (nI (n 8)) else 1)))), (17, .int ((nI W) - (nI W) / (if (1 : Int32) < (nI (n 8)) then (nI (n 8)) else 1) * (if (1 : Int32) < (nI (n 8)) then (nI (n 8)) else 1))), (0, .ref 17), (1, .ref 1), (2, .int (nI (n 5))), (3, .int (nI (n 6))), (4, .int (nI (n 8))), (5, .ref 16), (6, .int (nI st9)), (7, .int (nI k9)), (8, .int v), (9, .int (nI W)), (10, .int wt), (11, .long bf), (13, .int r), (14, .int p), (15, .int 0), (16, .int kd)]) X dL_law_463 (by decide) rfl ?_
  refine z_aload_n X 3 dL_law_465 rfl rfl ?_
  refine z_iload X 1 dL_law_466 rfl ?_
  refine z_iload X 11 dL_law_468 rfl ?_
  refine z_bipush (v := 12) X dL_law_470 (by decide) ?_
  refine z_idiv X dL_law_472 (by decide) ?_
  refine z_iconst (v := 2) X dL_law_473 (by decide) ?_
  refine z_irem X dL_law_474 (by decide) ?_
  refine z_ste (st' := [.int 1, .int ((nI W) - (nI W) / (if (1 : Int32) < (nI (n 8)) then (nI (n 8)) else 1) * (if (1 : Int32) < (nI (n 8)) then (nI (n 8)) else 1)), .ref 1]) (by rw [hE]) ?_
  refine z_callSWiN (As := [.ref 1, .int ((nI W) - (nI W) / (if (1 : Int32) < (nI (n 8)) then (nI (n 8)) else 1) * (if (1 : Int32) < (nI (n 8)) then (nI (n 8)) else 1)), .int 1]) (rest := []) (n1 := 3) X dL_law_475 (zC_i (w_ship l0 hl0 h 0 0 ((nI W) - (nI W) / (if (1 : Int32) < (nI (n 8)) then (nI (n 8)) else 1) * (if (1 : Int32) < (nI (n 8)) then (nI (n 8)) else 1))) zCok_cmm (fun _ _ hv => xst_ok hv) rfl) gL_law_L_orders rfl rfl (by decide +kernel) ⟨by decide, by decide⟩ rfl (Nat.le_of_ble_eq_true rfl) ⟨by omega, by omega⟩ ?_
  rintro v9 G9 ⟨C9, hv9, rfl⟩
  rcases hv9 with ⟨hlt, rfl⟩ | ⟨hok, n', i', x', lm', y', t', rfl, hs', ⟨e5, e6, e8, etm⟩, hp1, hz1⟩
  · skip
    refine z_istore (ls' := [(15, .int v9), (18, .int (a_ord2 n i x y ((nI W) - (nI W) / (if (1 : Int32) < (nI (n 8)) then (nI (n 8)) else 1) * (if (1 : Int32) < (nI (n 8)) then (nI (n 8)) else 1)))), (17, .int ((nI W) - (nI W) / (if (1 : Int32) < (nI (n 8)) then (nI (n 8)) else 1) * (if (1 : Int32) < (nI (n 8)) then (nI (n 8)) else 1))), (0, .ref 17), (1, .ref 1), (2, .int (nI (n 5))), (3, .int (nI (n 6))), (4, .int (nI (n 8))), (5, .ref 16), (6, .int (nI st9)), (7, .int (nI k9)), (8, .int v), (9, .int (nI W)), (10, .int wt), (11, .long bf), (13, .int r), (14, .int p), (16, .int kd)]) X dL_law_478 (by decide) rfl ?_
    refine z_iload X 0 dL_law_480 rfl ?_
    refine z_if_lt X 522 dL_law_482 (by decide) (fun c_482 => ?_) (fun c_482 => ?_)
    · skip
      refine z_goto (tgt := 811) X dL_law_522 (by decide) ?_
      refine z_sub (ls' := [(0, .ref 17), (1, .ref 1), (2, .int (nI (n 5))), (3, .int (nI (n 6))), (4, .int (nI (n 8))), (5, .ref 16), (6, .int (nI st9)), (7, .int (nI k9)), (10, .int wt), (11, .long bf), (15, .int v9)]) [3, 4, 5, 6, 7, 8, 9, 10, 13, 14, 0] rfl ?_
      exact zl_tail hl0 X h hpr hw (fun _ q => hb q) hk9 Kc ⟨by omega, by omega⟩ hmx
    · exact absurd (xn_lt hlt) c_482
  · skip
    have e5 : n' 5 = n 5 := e5
    have e6 : n' 6 = n 6 := e6
    have e8 : n' 8 = n 8 := e8
    have hpr' : ∀ o, o < n' 8 → pr o = i' 138 o := fun o ho => (hpr o (by omega)).trans (hp1 o ho).symm
    refine z_istore (ls' := [(15, .int v9), (18, .int (a_ord2 n i x y ((nI W) - (nI W) / (if (1 : Int32) < (nI (n 8)) then (nI (n 8)) else 1) * (if (1 : Int32) < (nI (n 8)) then (nI (n 8)) else 1)))), (17, .int ((nI W) - (nI W) / (if (1 : Int32) < (nI (n 8)) then (nI (n 8)) else 1) * (if (1 : Int32) < (nI (n 8)) then (nI (n 8)) else 1))), (0, .ref 17), (1, .ref 1), (2, .int (nI (n 5))), (3, .int (nI (n 6))), (4, .int (nI (n 8))), (5, .ref 16), (6, .int (nI st9)), (7, .int (nI k9)), (8, .int v), (9, .int (nI W)), (10, .int wt), (11, .long bf), (13, .int r), (14, .int p), (16, .int kd)]) X dL_law_478 (by decide) rfl ?_
    refine z_iload X 0 dL_law_480 rfl ?_
    refine z_if_lt X 522 dL_law_482 (by decide) (fun c_482 => ?_) (fun c_482 => ?_)
    · skip
      refine z_goto (tgt := 811) X dL_law_522 (by decide) ?_
      refine z_sub (ls' := [(0, .ref 17), (1, .ref 1), (2, .int (nI (n 5))), (3, .int (nI (n 6))), (4, .int (nI (n 8))), (5, .ref 16), (6, .int (nI st9)), (7, .int (nI k9)), (10, .int wt), (11, .long bf), (15, .int v9)]) [3, 4, 5, 6, 7, 8, 9, 10, 13, 14, 0] rfl ?_
      refine z_lse (ls' := [(0, .ref 17), (1, .ref 1), (2, .int (nI (n' 5))), (3, .int (nI (n' 6))), (4, .int (nI (n' 8))), (5, .ref 16), (6, .int (nI st9)), (7, .int (nI k9)), (10, .int wt), (11, .long bf), (15, .int v9)]) (by rw [e5, e6, e8]) ?_
      exact zl_tail hl0 X hs' hpr' hw (fun q _ => absurd q hok) hk9 Kc ⟨by omega, by omega⟩ hmx
    · skip
      refine z_iload X 12 dL_law_485 rfl ?_
      refine z_bipush (v := 12) X dL_law_487 (by decide) ?_
      refine z_idiv X dL_law_489 (by decide) ?_
      refine z_iconst (v := 2) X dL_law_490 (by decide) ?_
      refine z_irem X dL_law_491 (by decide) ?_
      refine z_iconst (v := 1) X dL_law_492 (by decide) ?_
      refine z_icmp_ne X 522 dL_law_493 (by decide) (fun c_493 => ?_) (fun c_493 => ?_)
      · exact absurd hE c_493
      · skip
        refine z_aload_n X 4 dL_law_496 rfl rfl ?_
        refine z_iload X 2 dL_law_497 rfl ?_
        refine z_iconst (v := 3) X dL_law_499 (by decide) ?_
        refine z_callSWiN (As := [.ref 1, .int ((nI W) - (nI W) / (if (1 : Int32) < (nI (n 8)) then (nI (n 8)) else 1) * (if (1 : Int32) < (nI (n 8)) then (nI (n 8)) else 1)), .int 3]) (rest := []) (n1 := 3) X dL_law_500 (zC_ri (h_ord3 l0 hl0 hs' 0 0 ((nI W) - (nI W) / (if (1 : Int32) < (nI (n 8)) then (nI (n 8)) else 1) * (if (1 : Int32) < (nI (n 8)) then (nI (n 8)) else 1))) zCok_cmm rfl) gL_law_L_orders rfl rfl (by decide +kernel) ⟨by decide, by decide⟩ rfl (Nat.le_of_ble_eq_true rfl) ⟨by omega, by omega⟩ ?_
        rintro _ _ ⟨rfl, rfl⟩
        refine z_bipush (v := 115) X dL_law_503 (by decide) ?_
        refine z_icmp_ne X 520 dL_law_505 (by decide) (fun c_505 => ?_) (fun c_505 => ?_)
        · exact absurd (xfew h hs' e8 hz1).1 c_505
        · skip
          refine z_aload_n X 4 dL_law_508 rfl rfl ?_
          refine z_iload X 2 dL_law_509 rfl ?_
          refine z_iconst (v := 2) X dL_law_511 (by decide) ?_
          refine z_callSWiN (As := [.ref 1, .int ((nI W) - (nI W) / (if (1 : Int32) < (nI (n 8)) then (nI (n 8)) else 1) * (if (1 : Int32) < (nI (n 8)) then (nI (n 8)) else 1)), .int 2]) (rest := []) (n1 := 3) X dL_law_512 (zC_ri (h_ord2 l0 hl0 hs' 0 0 ((nI W) - (nI W) / (if (1 : Int32) < (nI (n 8)) then (nI (n 8)) else 1) * (if (1 : Int32) < (nI (n 8)) then (nI (n 8)) else 1))) zCok_cmm rfl) gL_law_L_orders rfl rfl (by decide +kernel) ⟨by decide, by decide⟩ rfl (Nat.le_of_ble_eq_true rfl) ⟨by omega, by omega⟩ ?_
          rintro _ _ ⟨rfl, rfl⟩
          refine z_iload X 1 dL_law_515 rfl ?_
          refine z_icmp_lt X 522 dL_law_517 (by decide) (fun c_517 => ?_) (fun c_517 => ?_)
          · skip
            refine z_goto (tgt := 811) X dL_law_522 (by decide) ?_
            refine z_sub (ls' := [(0, .ref 17), (1, .ref 1), (2, .int (nI (n 5))), (3, .int (nI (n 6))), (4, .int (nI (n 8))), (5, .ref 16), (6, .int (nI st9)), (7, .int (nI k9)), (10, .int wt), (11, .long bf), (15, .int v9)]) [3, 4, 5, 6, 7, 8, 9, 10, 13, 14, 0] rfl ?_
            refine z_lse (ls' := [(0, .ref 17), (1, .ref 1), (2, .int (nI (n' 5))), (3, .int (nI (n' 6))), (4, .int (nI (n' 8))), (5, .ref 16), (6, .int (nI st9)), (7, .int (nI k9)), (10, .int wt), (11, .long bf), (15, .int v9)]) (by rw [e5, e6, e8]) ?_
            exact zl_tail hl0 X hs' hpr' hw (fun q _ => absurd q hok) hk9 Kc ⟨by omega, by omega⟩ hmx
          · exact absurd (xfew h hs' e8 hz1).2 c_517

set_option maxRecDepth 100000 in
set_option maxHeartbeats 8000000 in
theorem kc_setL (hl0 : l0.stackTraces = false) (X : zLX g l0 nm M00 post tab) (h : xSI n i x lm y t) (hpr : ∀ o, o < n 8 → pr o = i 138 o) {v p : Int32} {r kd wt : Int32} {bf : Int64} {W : Nat} (hW : W < 5000000) (hw : wt = 0 ∨ wt = 1) (hb : wt = 1 → bf = xsum n i x lm y) {st9 k9 K9 N9 : Nat} (hk9 : k9 < 58) (Kc : zKL g st9 (k9 + 1) K9 N9) (hkk : kk + 7760 ≤ K9 ∧ nn + 78000 ≤ N9) (hmx : K9 ≤ 590000 ∧ N9 ≤ 7100000) : zE g 19 532 [(0, .ref 17), (1, .ref 1), (2, .int (nI (n 5))), (3, .int (nI (n 6))), (4, .int (nI (n 8))), (5, .ref 16), (6, .int (nI st9)), (7, .int (nI k9)), (8, .int v), (9, .int (nI W)), (10, .int wt), (11, .long bf), (13, .int r), (14, .int p), (15, .int 0), (16, .int kd)] [] (zmg (cmm n i x lm y 0 0) (pM pr)) kk nn := by
  have h7 := h.1.1.2.1.2.2.1
  have h5 := h.1.1.2.1.1
  have h6 := h.1.1.2.1.2.1
  have h8 := h.1.1.2.1.2.2.2
  refine z_aload_n X 1 dL_law_532 rfl rfl ?_
  refine z_iload X 12 dL_law_533 rfl ?_
  refine z_bipush (v := 108) X dL_law_535 (by decide) ?_
  refine z_iload X 9 dL_law_537 rfl ?_
  refine z_iconst (v := 4) X dL_law_539 (by decide) ?_
  refine z_idiv X dL_law_540 (by decide) ?_
  refine z_sipush (v := 200) X dL_law_541 (by decide) ?_
  refine z_irem X dL_law_544 (by decide) ?_
  refine z_bipush (v := 100) X dL_law_545 (by decide) ?_
  refine z_isub X dL_law_547 ?_
  refine z_iload X 9 dL_law_548 rfl ?_
  refine z_iconst (v := 4) X dL_law_550 (by decide) ?_
  refine z_idiv X dL_law_551 (by decide) ?_
  refine z_sipush (v := 200) X dL_law_552 (by decide) ?_
  refine z_irem X dL_law_555 (by decide) ?_
  refine z_bipush (v := 100) X dL_law_556 (by decide) ?_
  refine z_isub X dL_law_558 ?_
  refine z_iload X 9 dL_law_559 rfl ?_
  refine z_sipush (v := 800) X dL_law_561 (by decide) ?_
  refine z_idiv X dL_law_564 (by decide) ?_
  refine z_bipush (v := 50) X dL_law_565 (by decide) ?_
  refine z_irem X dL_law_567 (by decide) ?_
  refine z_iadd X dL_law_568 ?_
  refine z_callSWiN (As := [.ref 1, .int r, .int 108, .int ((((nI W) / 4) - ((nI W) / 4) / 200 * 200) - 100), .int (((((nI W) / 4) - ((nI W) / 4) / 200 * 200) - 100) + (((nI W) / 800) - ((nI W) / 800) / 50 * 50))]) (rest := []) (n1 := 5) X dL_law_569 (zC_i (w_setL l0 hl0 h 0 0 r ((((nI W) / 4) - ((nI W) / 4) / 200 * 200) - 100) (((((nI W) / 4) - ((nI W) / 4) / 200 * 200) - 100) + (((nI W) / 800) - ((nI W) / 800) / 50 * 50))) zCok_cmm (fun _ _ hv => xst_ok hv) rfl) gL_law_L_sets rfl rfl (by decide +kernel) ⟨by decide, by decide⟩ rfl (Nat.le_of_ble_eq_true rfl) ⟨by omega, by omega⟩ ?_
  rintro v9 G9 ⟨C9, hv9, rfl⟩
  rcases hv9 with ⟨hlt, rfl⟩ | ⟨hok, n', i', x', lm', y', t', rfl, hs', ⟨e5, e6, e8, etm⟩, hp1, hz1⟩
  · skip
    refine z_istore (ls' := [(15, .int v9), (0, .ref 17), (1, .ref 1), (2, .int (nI (n 5))), (3, .int (nI (n 6))), (4, .int (nI (n 8))), (5, .ref 16), (6, .int (nI st9)), (7, .int (nI k9)), (8, .int v), (9, .int (nI W)), (10, .int wt), (11, .long bf), (13, .int r), (14, .int p), (16, .int kd)]) X dL_law_572 (by decide) rfl ?_
    refine z_iload X 0 dL_law_574 rfl ?_
    refine z_sipush (v := (-1000)) X dL_law_576 (by decide) ?_
    refine z_icmp_ge X 587 dL_law_579 (by decide) (fun c_579 => ?_) (fun c_579 => ?_)
    · exact absurd c_579 (xn_le hlt)
    · skip
      refine z_iload X 0 dL_law_582 rfl ?_
      refine z_goto (tgt := 588) X dL_law_584 (by decide) ?_
      refine z_istore (ls' := [(15, .int v9), (0, .ref 17), (1, .ref 1), (2, .int (nI (n 5))), (3, .int (nI (n 6))), (4, .int (nI (n 8))), (5, .ref 16), (6, .int (nI st9)), (7, .int (nI k9)), (8, .int v), (9, .int (nI W)), (10, .int wt), (11, .long bf), (13, .int r), (14, .int p), (16, .int kd)]) X dL_law_588 (by decide) rfl ?_
      refine z_goto (tgt := 811) X dL_law_590 (by decide) ?_
      refine z_sub (ls' := [(0, .ref 17), (1, .ref 1), (2, .int (nI (n 5))), (3, .int (nI (n 6))), (4, .int (nI (n 8))), (5, .ref 16), (6, .int (nI st9)), (7, .int (nI k9)), (10, .int wt), (11, .long bf), (15, .int v9)]) [1, 2, 3, 4, 5, 6, 7, 8, 11, 12, 0] rfl ?_
      exact zl_tail hl0 X h hpr hw (fun _ q => hb q) hk9 Kc ⟨by omega, by omega⟩ hmx
  · skip
    have e5 : n' 5 = n 5 := e5
    have e6 : n' 6 = n 6 := e6
    have e8 : n' 8 = n 8 := e8
    have hpr' : ∀ o, o < n' 8 → pr o = i' 138 o := fun o ho => (hpr o (by omega)).trans (hp1 o ho).symm
    refine z_istore (ls' := [(15, .int v9), (0, .ref 17), (1, .ref 1), (2, .int (nI (n 5))), (3, .int (nI (n 6))), (4, .int (nI (n 8))), (5, .ref 16), (6, .int (nI st9)), (7, .int (nI k9)), (8, .int v), (9, .int (nI W)), (10, .int wt), (11, .long bf), (13, .int r), (14, .int p), (16, .int kd)]) X dL_law_572 (by decide) rfl ?_
    refine z_iload X 0 dL_law_574 rfl ?_
    refine z_sipush (v := (-1000)) X dL_law_576 (by decide) ?_
    refine z_icmp_ge X 587 dL_law_579 (by decide) (fun c_579 => ?_) (fun c_579 => ?_)
    · skip
      refine z_iconst (v := 0) X dL_law_587 (by decide) ?_
      refine z_istore (ls' := [(15, .int 0), (0, .ref 17), (1, .ref 1), (2, .int (nI (n 5))), (3, .int (nI (n 6))), (4, .int (nI (n 8))), (5, .ref 16), (6, .int (nI st9)), (7, .int (nI k9)), (8, .int v), (9, .int (nI W)), (10, .int wt), (11, .long bf), (13, .int r), (14, .int p), (16, .int kd)]) X dL_law_588 (by decide) rfl ?_
      refine z_goto (tgt := 811) X dL_law_590 (by decide) ?_
      refine z_sub (ls' := [(0, .ref 17), (1, .ref 1), (2, .int (nI (n 5))), (3, .int (nI (n 6))), (4, .int (nI (n 8))), (5, .ref 16), (6, .int (nI st9)), (7, .int (nI k9)), (10, .int wt), (11, .long bf), (15, .int 0)]) [1, 2, 3, 4, 5, 6, 7, 8, 11, 12, 0] rfl ?_
      refine z_lse (ls' := [(0, .ref 17), (1, .ref 1), (2, .int (nI (n' 5))), (3, .int (nI (n' 6))), (4, .int (nI (n' 8))), (5, .ref 16), (6, .int (nI st9)), (7, .int (nI k9)), (10, .int wt), (11, .long bf), (15, .int 0)]) (by rw [e5, e6, e8]) ?_
      exact zl_tail hl0 X hs' hpr' hw (fun q _ => absurd q (by decide)) hk9 Kc ⟨by omega, by omega⟩ hmx
    · exact absurd (xn_ge hok) c_579

set_option maxRecDepth 100000 in
set_option maxHeartbeats 8000000 in
theorem kc_setD (hl0 : l0.stackTraces = false) (X : zLX g l0 nm M00 post tab) (h : xSI n i x lm y t) (hpr : ∀ o, o < n 8 → pr o = i 138 o) {v p : Int32} {r kd wt : Int32} {bf : Int64} {W : Nat} (hW : W < 5000000) (hw : wt = 0 ∨ wt = 1) (hb : wt = 1 → bf = xsum n i x lm y) {st9 k9 K9 N9 : Nat} (hk9 : k9 < 58) (Kc : zKL g st9 (k9 + 1) K9 N9) (hkk : kk + 7760 ≤ K9 ∧ nn + 78000 ≤ N9) (hmx : K9 ≤ 590000 ∧ N9 ≤ 7100000) : zE g 19 641 [(0, .ref 17), (1, .ref 1), (2, .int (nI (n 5))), (3, .int (nI (n 6))), (4, .int (nI (n 8))), (5, .ref 16), (6, .int (nI st9)), (7, .int (nI k9)), (8, .int v), (9, .int (nI W)), (10, .int wt), (11, .long bf), (13, .int r), (14, .int p), (15, .int 0), (16, .int kd)] [] (zmg (cmm n i x lm y 0 0) (pM pr)) kk nn := by
  have h7 := h.1.1.2.1.2.2.1
  have h5 := h.1.1.2.1.1
  have h6 := h.1.1.2.1.2.1
  have h8 := h.1.1.2.1.2.2.2
  refine z_aload_n X 1 dL_law_641 rfl rfl ?_
  refine z_iload X 12 dL_law_642 rfl ?_
  refine z_bipush (v := 100) X dL_law_644 (by decide) ?_
  refine z_iload X 9 dL_law_646 rfl ?_
  refine z_iconst (v := 4) X dL_law_648 (by decide) ?_
  refine z_idiv X dL_law_649 (by decide) ?_
  refine z_bipush (v := 17) X dL_law_650 (by decide) ?_
  refine z_irem X dL_law_652 (by decide) ?_
  refine z_iload X 9 dL_law_653 rfl ?_
  refine z_bipush (v := 68) X dL_law_655 (by decide) ?_
  refine z_idiv X dL_law_657 (by decide) ?_
  refine z_bipush (v := 101) X dL_law_658 (by decide) ?_
  refine z_irem X dL_law_660 (by decide) ?_
  refine z_callSWiN (As := [.ref 1, .int r, .int 100, .int (((nI W) / 4) - ((nI W) / 4) / 17 * 17), .int (((nI W) / 68) - ((nI W) / 68) / 101 * 101)]) (rest := []) (n1 := 5) X dL_law_661 (zC_i (w_setD l0 hl0 h 0 0 r (((nI W) / 4) - ((nI W) / 4) / 17 * 17) (((nI W) / 68) - ((nI W) / 68) / 101 * 101)) zCok_cmm (fun _ _ hv => xst_ok hv) rfl) gL_law_L_sets rfl rfl (by decide +kernel) ⟨by decide, by decide⟩ rfl (Nat.le_of_ble_eq_true rfl) ⟨by omega, by omega⟩ ?_
  rintro v9 G9 ⟨C9, hv9, rfl⟩
  rcases hv9 with ⟨hlt, rfl⟩ | ⟨hok, n', i', x', lm', y', t', rfl, hs', ⟨e5, e6, e8, etm⟩, hp1, hz1⟩
  · skip
    refine z_istore (ls' := [(15, .int v9), (0, .ref 17), (1, .ref 1), (2, .int (nI (n 5))), (3, .int (nI (n 6))), (4, .int (nI (n 8))), (5, .ref 16), (6, .int (nI st9)), (7, .int (nI k9)), (8, .int v), (9, .int (nI W)), (10, .int wt), (11, .long bf), (13, .int r), (14, .int p), (16, .int kd)]) X dL_law_664 (by decide) rfl ?_
    refine z_goto (tgt := 811) X dL_law_666 (by decide) ?_
    refine z_sub (ls' := [(0, .ref 17), (1, .ref 1), (2, .int (nI (n 5))), (3, .int (nI (n 6))), (4, .int (nI (n 8))), (5, .ref 16), (6, .int (nI st9)), (7, .int (nI k9)), (10, .int wt), (11, .long bf), (15, .int v9)]) [1, 2, 3, 4, 5, 6, 7, 8, 11, 12, 0] rfl ?_
    exact zl_tail hl0 X h hpr hw (fun _ q => hb q) hk9 Kc ⟨by omega, by omega⟩ hmx
  · skip
    have e5 : n' 5 = n 5 := e5
    have e6 : n' 6 = n 6 := e6
    have e8 : n' 8 = n 8 := e8
    have hpr' : ∀ o, o < n' 8 → pr o = i' 138 o := fun o ho => (hpr o (by omega)).trans (hp1 o ho).symm
    refine z_istore (ls' := [(15, .int v9), (0, .ref 17), (1, .ref 1), (2, .int (nI (n 5))), (3, .int (nI (n 6))), (4, .int (nI (n 8))), (5, .ref 16), (6, .int (nI st9)), (7, .int (nI k9)), (8, .int v), (9, .int (nI W)), (10, .int wt), (11, .long bf), (13, .int r), (14, .int p), (16, .int kd)]) X dL_law_664 (by decide) rfl ?_
    refine z_goto (tgt := 811) X dL_law_666 (by decide) ?_
    refine z_sub (ls' := [(0, .ref 17), (1, .ref 1), (2, .int (nI (n 5))), (3, .int (nI (n 6))), (4, .int (nI (n 8))), (5, .ref 16), (6, .int (nI st9)), (7, .int (nI k9)), (10, .int wt), (11, .long bf), (15, .int v9)]) [1, 2, 3, 4, 5, 6, 7, 8, 11, 12, 0] rfl ?_
    refine z_lse (ls' := [(0, .ref 17), (1, .ref 1), (2, .int (nI (n' 5))), (3, .int (nI (n' 6))), (4, .int (nI (n' 8))), (5, .ref 16), (6, .int (nI st9)), (7, .int (nI k9)), (10, .int wt), (11, .long bf), (15, .int v9)]) (by rw [e5, e6, e8]) ?_
    exact zl_tail hl0 X hs' hpr' hw (fun q _ => absurd q hok) hk9 Kc ⟨by omega, by omega⟩ hmx

set_option maxRecDepth 100000 in
set_option maxHeartbeats 8000000 in
theorem kc_mode (hl0 : l0.stackTraces = false) (X : zLX g l0 nm M00 post tab) (h : xSI n i x lm y t) (hpr : ∀ o, o < n 8 → pr o = i 138 o) {v p : Int32} {r kd wt : Int32} {bf : Int64} {W : Nat} (hW : W < 5000000) (hw : wt = 0 ∨ wt = 1) (hb : wt = 1 → bf = xsum n i x lm y) {st9 k9 K9 N9 : Nat} (hk9 : k9 < 58) (Kc : zKL g st9 (k9 + 1) K9 N9) (hkk : kk + 7760 ≤ K9 ∧ nn + 78000 ≤ N9) (hmx : K9 ≤ 590000 ∧ N9 ≤ 7100000) (ZS : zStg g) : zE g 19 600 [(0, .ref 17), (1, .ref 1), (2, .int (nI (n 5))), (3, .int (nI (n 6))), (4, .int (nI (n 8))), (5, .ref 16), (6, .int (nI st9)), (7, .int (nI k9)), (8, .int v), (9, .int (nI W)), (10, .int wt), (11, .long bf), (13, .int r), (14, .int p), (15, .int 0), (16, .int kd)] [] (zmg (cmm n i x lm y 0 0) (pM pr)) kk nn := by
  have h7 := h.1.1.2.1.2.2.1
  have h5 := h.1.1.2.1.1
  have h6 := h.1.1.2.1.2.1
  have h8 := h.1.1.2.1.2.2.2
  refine z_aload_n X 1 dL_law_600 rfl rfl ?_
  refine z_iload X 12 dL_law_601 rfl ?_
  refine z_ldc0 X ZS dL_law_603 ?_
  refine z_iload X 9 dL_law_605 rfl ?_
  refine z_iconst (v := 4) X dL_law_607 (by decide) ?_
  refine z_idiv X dL_law_608 (by decide) ?_
  refine z_iconst (v := 3) X dL_law_609 (by decide) ?_
  refine z_irem X dL_law_610 (by decide) ?_
  refine z_ste (st' := [.int (nI (W / 4 % 3)), .ref (zso 0), .int r, .ref 1]) (by rw [show (4 : Int32) = nI 4 by decide, show (3 : Int32) = nI 3 by decide, xr_div (by omega) (by omega) (by omega), xr_rem (by have := Nat.div_le_self W 4; omega) (by omega) (by omega)]) ?_
  refine z_ch X ZS (i := 0) (k9 := W / 4 % 3) (by omega) (by omega) dL_law_611 gL_law_J0_charAt_5068e ⟨by decide, by decide⟩ (Nat.le_of_ble_eq_true rfl) ⟨by omega, by omega⟩ ?_
  refine z_callSWiN (As := [.ref 1, .int r, .int (xch 0 (W / 4 % 3))]) (rest := []) (n1 := 3) X dL_law_614 (zC_i (w_mode l0 hl0 h 0 0 r (xch 0 (W / 4 % 3)) (zchr _)) zCok_cmm (fun _ _ hv => xst_ok hv) rfl) gL_law_L_mode rfl rfl (by decide +kernel) ⟨by decide, by decide⟩ rfl (Nat.le_of_ble_eq_true rfl) ⟨by omega, by omega⟩ ?_
  rintro v9 G9 ⟨C9, hv9, rfl⟩
  rcases hv9 with ⟨hlt, rfl⟩ | ⟨hok, n', i', x', lm', y', t', rfl, hs', ⟨e5, e6, e8, etm⟩, hp1, hz1⟩
  · skip
    refine z_bipush (v := 97) X dL_law_617 (by decide) ?_
    refine z_icmp_ge X 628 dL_law_619 (by decide) (fun c_619 => ?_) (fun c_619 => ?_)
    · exact absurd hlt (Int32.not_lt.mpr c_619)
    · skip
      refine z_sipush (v := (-1001)) X dL_law_622 (by decide) ?_
      refine z_goto (tgt := 629) X dL_law_625 (by decide) ?_
      refine z_istore (ls' := [(15, .int (-1001)), (0, .ref 17), (1, .ref 1), (2, .int (nI (n 5))), (3, .int (nI (n 6))), (4, .int (nI (n 8))), (5, .ref 16), (6, .int (nI st9)), (7, .int (nI k9)), (8, .int v), (9, .int (nI W)), (10, .int wt), (11, .long bf), (13, .int r), (14, .int p), (16, .int kd)]) X dL_law_629 (by decide) rfl ?_
      refine z_goto (tgt := 811) X dL_law_631 (by decide) ?_
      refine z_sub (ls' := [(0, .ref 17), (1, .ref 1), (2, .int (nI (n 5))), (3, .int (nI (n 6))), (4, .int (nI (n 8))), (5, .ref 16), (6, .int (nI st9)), (7, .int (nI k9)), (10, .int wt), (11, .long bf), (15, .int (-1001))]) [1, 2, 3, 4, 5, 6, 7, 8, 11, 12, 0] rfl ?_
      exact zl_tail hl0 X h hpr hw (fun _ q => hb q) hk9 Kc ⟨by omega, by omega⟩ hmx
  · skip
    have e5 : n' 5 = n 5 := e5
    have e6 : n' 6 = n 6 := e6
    have e8 : n' 8 = n 8 := e8
    have hpr' : ∀ o, o < n' 8 → pr o = i' 138 o := fun o ho => (hpr o (by omega)).trans (hp1 o ho).symm
    refine z_bipush (v := 97) X dL_law_617 (by decide) ?_
    refine z_icmp_ge X 628 dL_law_619 (by decide) (fun c_619 => ?_) (fun c_619 => ?_)
    · skip
      refine z_iconst (v := 0) X dL_law_628 (by decide) ?_
      refine z_istore (ls' := [(15, .int 0), (0, .ref 17), (1, .ref 1), (2, .int (nI (n 5))), (3, .int (nI (n 6))), (4, .int (nI (n 8))), (5, .ref 16), (6, .int (nI st9)), (7, .int (nI k9)), (8, .int v), (9, .int (nI W)), (10, .int wt), (11, .long bf), (13, .int r), (14, .int p), (16, .int kd)]) X dL_law_629 (by decide) rfl ?_
      refine z_goto (tgt := 811) X dL_law_631 (by decide) ?_
      refine z_sub (ls' := [(0, .ref 17), (1, .ref 1), (2, .int (nI (n 5))), (3, .int (nI (n 6))), (4, .int (nI (n 8))), (5, .ref 16), (6, .int (nI st9)), (7, .int (nI k9)), (10, .int wt), (11, .long bf), (15, .int 0)]) [1, 2, 3, 4, 5, 6, 7, 8, 11, 12, 0] rfl ?_
      refine z_lse (ls' := [(0, .ref 17), (1, .ref 1), (2, .int (nI (n' 5))), (3, .int (nI (n' 6))), (4, .int (nI (n' 8))), (5, .ref 16), (6, .int (nI st9)), (7, .int (nI k9)), (10, .int wt), (11, .long bf), (15, .int 0)]) (by rw [e5, e6, e8]) ?_
      exact zl_tail hl0 X hs' hpr' hw (fun q _ => absurd q (by decide)) hk9 Kc ⟨by omega, by omega⟩ hmx
    · exact absurd (Int32.not_lt.mp hok) c_619

set_option maxRecDepth 100000 in
set_option maxHeartbeats 8000000 in
theorem kc_setO (hl0 : l0.stackTraces = false) (X : zLX g l0 nm M00 post tab) (h : xSI n i x lm y t) (hpr : ∀ o, o < n 8 → pr o = i 138 o) {v p : Int32} {r kd wt : Int32} {bf : Int64} {W : Nat} (hW : W < 5000000) (hw : wt = 0 ∨ wt = 1) (hb : wt = 1 → bf = xsum n i x lm y) {st9 k9 K9 N9 : Nat} (hk9 : k9 < 58) (Kc : zKL g st9 (k9 + 1) K9 N9) (hkk : kk + 7760 ≤ K9 ∧ nn + 78000 ≤ N9) (hmx : K9 ≤ 590000 ∧ N9 ≤ 7100000) (ZS : zStg g) (hq : W % 3 = 0) : zE g 19 676 [(0, .ref 17), (1, .ref 1), (2, .int (nI (n 5))), (3, .int (nI (n 6))), (4, .int (nI (n 8))), (5, .ref 16), (6, .int (nI st9)), (7, .int (nI k9)), (8, .int v), (9, .int (nI W)), (10, .int wt), (11, .long bf), (13, .int r), (14, .int p), (15, .int 0), (16, .int kd)] [] (zmg (cmm n i x lm y 0 0) (pM pr)) kk nn := by
  have h7 := h.1.1.2.1.2.2.1
  have h5 := h.1.1.2.1.1
  have h6 := h.1.1.2.1.2.1
  have h8 := h.1.1.2.1.2.2.2
  refine z_aload_n X 1 dL_law_676 rfl rfl ?_
  refine z_iconst (v := 0) X dL_law_677 (by decide) ?_
  refine z_ldc1 X ZS dL_law_678 ?_
  refine z_iload X 9 dL_law_680 rfl ?_
  refine z_iconst (v := 3) X dL_law_682 (by decide) ?_
  refine z_irem X dL_law_683 (by decide) ?_
  refine z_ste (st' := [.int (nI 0), .ref (zso 1), .int 0, .ref 1]) (by rw [show (3 : Int32) = nI 3 by decide, xr_rem (by omega) (by omega) (by omega), hq]) ?_
  refine z_ch X ZS (i := 1) (k9 := 0) (by omega) (by omega) dL_law_684 gL_law_J0_charAt_5068e ⟨by decide, by decide⟩ (Nat.le_of_ble_eq_true rfl) ⟨by omega, by omega⟩ ?_
  refine z_top (w := .int 111) (by rw [show xch 1 0 = 111 from xch_v ⟨1, by decide⟩ ⟨0, by decide⟩]) ?_
  refine z_iload X 9 dL_law_687 rfl ?_
  refine z_iconst (v := 3) X dL_law_689 (by decide) ?_
  refine z_idiv X dL_law_690 (by decide) ?_
  refine z_sipush (v := 400) X dL_law_691 (by decide) ?_
  refine z_irem X dL_law_694 (by decide) ?_
  refine z_iconst (v := 0) X dL_law_695 (by decide) ?_
  refine z_callSWiN (As := [.ref 1, .int 0, .int 111, .int (((nI W) / 3) - ((nI W) / 3) / 400 * 400), .int 0]) (rest := []) (n1 := 5) X dL_law_696 (zC_i (w_setO l0 hl0 h 0 0 0 (((nI W) / 3) - ((nI W) / 3) / 400 * 400) 0) zCok_cmm (fun _ _ hv => xst_ok hv) rfl) gL_law_L_sets rfl rfl (by decide +kernel) ⟨by decide, by decide⟩ rfl (Nat.le_of_ble_eq_true rfl) ⟨by omega, by omega⟩ ?_
  rintro v9 G9 ⟨C9, hv9, rfl⟩
  rcases hv9 with ⟨hlt, rfl⟩ | ⟨hok, n', i', x', lm', y', t', rfl, hs', ⟨e5, e6, e8, etm⟩, hp1, hz1⟩
  · skip
    refine z_istore (ls' := [(15, .int v9), (0, .ref 17), (1, .ref 1), (2, .int (nI (n 5))), (3, .int (nI (n 6))), (4, .int (nI (n 8))), (5, .ref 16), (6, .int (nI st9)), (7, .int (nI k9)), (8, .int v), (9, .int (nI W)), (10, .int wt), (11, .long bf), (13, .int r), (14, .int p), (16, .int kd)]) X dL_law_699 (by decide) rfl ?_
    refine z_iload X 0 dL_law_701 rfl ?_
    refine z_sipush (v := (-1000)) X dL_law_703 (by decide) ?_
    refine z_icmp_ge X 714 dL_law_706 (by decide) (fun c_706 => ?_) (fun c_706 => ?_)
    · exact absurd c_706 (xn_le hlt)
    · skip
      refine z_iload X 0 dL_law_709 rfl ?_
      refine z_goto (tgt := 715) X dL_law_711 (by decide) ?_
      refine z_istore (ls' := [(15, .int v9), (0, .ref 17), (1, .ref 1), (2, .int (nI (n 5))), (3, .int (nI (n 6))), (4, .int (nI (n 8))), (5, .ref 16), (6, .int (nI st9)), (7, .int (nI k9)), (8, .int v), (9, .int (nI W)), (10, .int wt), (11, .long bf), (13, .int r), (14, .int p), (16, .int kd)]) X dL_law_715 (by decide) rfl ?_
      refine z_goto (tgt := 811) X dL_law_717 (by decide) ?_
      refine z_sub (ls' := [(0, .ref 17), (1, .ref 1), (2, .int (nI (n 5))), (3, .int (nI (n 6))), (4, .int (nI (n 8))), (5, .ref 16), (6, .int (nI st9)), (7, .int (nI k9)), (10, .int wt), (11, .long bf), (15, .int v9)]) [1, 2, 3, 4, 5, 6, 7, 8, 11, 12, 0] rfl ?_
      exact zl_tail hl0 X h hpr hw (fun _ q => hb q) hk9 Kc ⟨by omega, by omega⟩ hmx
  · skip
    have e5 : n' 5 = n 5 := e5
    have e6 : n' 6 = n 6 := e6
    have e8 : n' 8 = n 8 := e8
    have hpr' : ∀ o, o < n' 8 → pr o = i' 138 o := fun o ho => (hpr o (by omega)).trans (hp1 o ho).symm
    refine z_istore (ls' := [(15, .int v9), (0, .ref 17), (1, .ref 1), (2, .int (nI (n 5))), (3, .int (nI (n 6))), (4, .int (nI (n 8))), (5, .ref 16), (6, .int (nI st9)), (7, .int (nI k9)), (8, .int v), (9, .int (nI W)), (10, .int wt), (11, .long bf), (13, .int r), (14, .int p), (16, .int kd)]) X dL_law_699 (by decide) rfl ?_
    refine z_iload X 0 dL_law_701 rfl ?_
    refine z_sipush (v := (-1000)) X dL_law_703 (by decide) ?_
    refine z_icmp_ge X 714 dL_law_706 (by decide) (fun c_706 => ?_) (fun c_706 => ?_)
    · skip
      refine z_iconst (v := 0) X dL_law_714 (by decide) ?_
      refine z_istore (ls' := [(15, .int 0), (0, .ref 17), (1, .ref 1), (2, .int (nI (n 5))), (3, .int (nI (n 6))), (4, .int (nI (n 8))), (5, .ref 16), (6, .int (nI st9)), (7, .int (nI k9)), (8, .int v), (9, .int (nI W)), (10, .int wt), (11, .long bf), (13, .int r), (14, .int p), (16, .int kd)]) X dL_law_715 (by decide) rfl ?_
      refine z_goto (tgt := 811) X dL_law_717 (by decide) ?_
      refine z_sub (ls' := [(0, .ref 17), (1, .ref 1), (2, .int (nI (n 5))), (3, .int (nI (n 6))), (4, .int (nI (n 8))), (5, .ref 16), (6, .int (nI st9)), (7, .int (nI k9)), (10, .int wt), (11, .long bf), (15, .int 0)]) [1, 2, 3, 4, 5, 6, 7, 8, 11, 12, 0] rfl ?_
      refine z_lse (ls' := [(0, .ref 17), (1, .ref 1), (2, .int (nI (n' 5))), (3, .int (nI (n' 6))), (4, .int (nI (n' 8))), (5, .ref 16), (6, .int (nI st9)), (7, .int (nI k9)), (10, .int wt), (11, .long bf), (15, .int 0)]) (by rw [e5, e6, e8]) ?_
      exact zl_tail hl0 X hs' hpr' hw (fun q _ => absurd q (by decide)) hk9 Kc ⟨by omega, by omega⟩ hmx
    · exact absurd (xn_ge hok) c_706

set_option maxRecDepth 100000 in
set_option maxHeartbeats 8000000 in
theorem kc_setC (hl0 : l0.stackTraces = false) (X : zLX g l0 nm M00 post tab) (h : xSI n i x lm y t) (hpr : ∀ o, o < n 8 → pr o = i 138 o) {v p : Int32} {r kd wt : Int32} {bf : Int64} {W : Nat} (hW : W < 5000000) (hw : wt = 0 ∨ wt = 1) (hb : wt = 1 → bf = xsum n i x lm y) {st9 k9 K9 N9 : Nat} (hk9 : k9 < 58) (Kc : zKL g st9 (k9 + 1) K9 N9) (hkk : kk + 7760 ≤ K9 ∧ nn + 78000 ≤ N9) (hmx : K9 ≤ 590000 ∧ N9 ≤ 7100000) (ZS : zStg g) (hq : W % 3 = 1) : zE g 19 676 [(0, .ref 17), (1, .ref 1), (2, .int (nI (n 5))), (3, .int (nI (n 6))), (4, .int (nI (n 8))), (5, .ref 16), (6, .int (nI st9)), (7, .int (nI k9)), (8, .int v), (9, .int (nI W)), (10, .int wt), (11, .long bf), (13, .int r), (14, .int p), (15, .int 0), (16, .int kd)] [] (zmg (cmm n i x lm y 0 0) (pM pr)) kk nn := by
  have h7 := h.1.1.2.1.2.2.1
  have h5 := h.1.1.2.1.1
  have h6 := h.1.1.2.1.2.1
  have h8 := h.1.1.2.1.2.2.2
  refine z_aload_n X 1 dL_law_676 rfl rfl ?_
  refine z_iconst (v := 0) X dL_law_677 (by decide) ?_
  refine z_ldc1 X ZS dL_law_678 ?_
  refine z_iload X 9 dL_law_680 rfl ?_
  refine z_iconst (v := 3) X dL_law_682 (by decide) ?_
  refine z_irem X dL_law_683 (by decide) ?_
  refine z_ste (st' := [.int (nI 1), .ref (zso 1), .int 0, .ref 1]) (by rw [show (3 : Int32) = nI 3 by decide, xr_rem (by omega) (by omega) (by omega), hq]) ?_
  refine z_ch X ZS (i := 1) (k9 := 1) (by omega) (by omega) dL_law_684 gL_law_J0_charAt_5068e ⟨by decide, by decide⟩ (Nat.le_of_ble_eq_true rfl) ⟨by omega, by omega⟩ ?_
  refine z_top (w := .int 99) (by rw [show xch 1 1 = 99 from xch_v ⟨1, by decide⟩ ⟨1, by decide⟩]) ?_
  refine z_iload X 9 dL_law_687 rfl ?_
  refine z_iconst (v := 3) X dL_law_689 (by decide) ?_
  refine z_idiv X dL_law_690 (by decide) ?_
  refine z_sipush (v := 400) X dL_law_691 (by decide) ?_
  refine z_irem X dL_law_694 (by decide) ?_
  refine z_iconst (v := 0) X dL_law_695 (by decide) ?_
  refine z_callSWiN (As := [.ref 1, .int 0, .int 99, .int (((nI W) / 3) - ((nI W) / 3) / 400 * 400), .int 0]) (rest := []) (n1 := 5) X dL_law_696 (zC_i (w_setC l0 hl0 h 0 0 0 (((nI W) / 3) - ((nI W) / 3) / 400 * 400) 0) zCok_cmm (fun _ _ hv => xst_ok hv) rfl) gL_law_L_sets rfl rfl (by decide +kernel) ⟨by decide, by decide⟩ rfl (Nat.le_of_ble_eq_true rfl) ⟨by omega, by omega⟩ ?_
  rintro v9 G9 ⟨C9, hv9, rfl⟩
  rcases hv9 with ⟨hlt, rfl⟩ | ⟨hok, n', i', x', lm', y', t', rfl, hs', ⟨e5, e6, e8, etm⟩, hp1, hz1⟩
  · skip
    refine z_istore (ls' := [(15, .int v9), (0, .ref 17), (1, .ref 1), (2, .int (nI (n 5))), (3, .int (nI (n 6))), (4, .int (nI (n 8))), (5, .ref 16), (6, .int (nI st9)), (7, .int (nI k9)), (8, .int v), (9, .int (nI W)), (10, .int wt), (11, .long bf), (13, .int r), (14, .int p), (16, .int kd)]) X dL_law_699 (by decide) rfl ?_
    refine z_iload X 0 dL_law_701 rfl ?_
    refine z_sipush (v := (-1000)) X dL_law_703 (by decide) ?_
    refine z_icmp_ge X 714 dL_law_706 (by decide) (fun c_706 => ?_) (fun c_706 => ?_)
    · exact absurd c_706 (xn_le hlt)
    · skip
      refine z_iload X 0 dL_law_709 rfl ?_
      refine z_goto (tgt := 715) X dL_law_711 (by decide) ?_
      refine z_istore (ls' := [(15, .int v9), (0, .ref 17), (1, .ref 1), (2, .int (nI (n 5))), (3, .int (nI (n 6))), (4, .int (nI (n 8))), (5, .ref 16), (6, .int (nI st9)), (7, .int (nI k9)), (8, .int v), (9, .int (nI W)), (10, .int wt), (11, .long bf), (13, .int r), (14, .int p), (16, .int kd)]) X dL_law_715 (by decide) rfl ?_
      refine z_goto (tgt := 811) X dL_law_717 (by decide) ?_
      refine z_sub (ls' := [(0, .ref 17), (1, .ref 1), (2, .int (nI (n 5))), (3, .int (nI (n 6))), (4, .int (nI (n 8))), (5, .ref 16), (6, .int (nI st9)), (7, .int (nI k9)), (10, .int wt), (11, .long bf), (15, .int v9)]) [1, 2, 3, 4, 5, 6, 7, 8, 11, 12, 0] rfl ?_
      exact zl_tail hl0 X h hpr hw (fun _ q => hb q) hk9 Kc ⟨by omega, by omega⟩ hmx
  · skip
    have e5 : n' 5 = n 5 := e5
    have e6 : n' 6 = n 6 := e6
    have e8 : n' 8 = n 8 := e8
    have hpr' : ∀ o, o < n' 8 → pr o = i' 138 o := fun o ho => (hpr o (by omega)).trans (hp1 o ho).symm
    refine z_istore (ls' := [(15, .int v9), (0, .ref 17), (1, .ref 1), (2, .int (nI (n 5))), (3, .int (nI (n 6))), (4, .int (nI (n 8))), (5, .ref 16), (6, .int (nI st9)), (7, .int (nI k9)), (8, .int v), (9, .int (nI W)), (10, .int wt), (11, .long bf), (13, .int r), (14, .int p), (16, .int kd)]) X dL_law_699 (by decide) rfl ?_
    refine z_iload X 0 dL_law_701 rfl ?_
    refine z_sipush (v := (-1000)) X dL_law_703 (by decide) ?_
    refine z_icmp_ge X 714 dL_law_706 (by decide) (fun c_706 => ?_) (fun c_706 => ?_)
    · skip
      refine z_iconst (v := 0) X dL_law_714 (by decide) ?_
      refine z_istore (ls' := [(15, .int 0), (0, .ref 17), (1, .ref 1), (2, .int (nI (n 5))), (3, .int (nI (n 6))), (4, .int (nI (n 8))), (5, .ref 16), (6, .int (nI st9)), (7, .int (nI k9)), (8, .int v), (9, .int (nI W)), (10, .int wt), (11, .long bf), (13, .int r), (14, .int p), (16, .int kd)]) X dL_law_715 (by decide) rfl ?_
      refine z_goto (tgt := 811) X dL_law_717 (by decide) ?_
      refine z_sub (ls' := [(0, .ref 17), (1, .ref 1), (2, .int (nI (n 5))), (3, .int (nI (n 6))), (4, .int (nI (n 8))), (5, .ref 16), (6, .int (nI st9)), (7, .int (nI k9)), (10, .int wt), (11, .long bf), (15, .int 0)]) [1, 2, 3, 4, 5, 6, 7, 8, 11, 12, 0] rfl ?_
      refine z_lse (ls' := [(0, .ref 17), (1, .ref 1), (2, .int (nI (n' 5))), (3, .int (nI (n' 6))), (4, .int (nI (n' 8))), (5, .ref 16), (6, .int (nI st9)), (7, .int (nI k9)), (10, .int wt), (11, .long bf), (15, .int 0)]) (by rw [e5, e6, e8]) ?_
      exact zl_tail hl0 X hs' hpr' hw (fun q _ => absurd q (by decide)) hk9 Kc ⟨by omega, by omega⟩ hmx
    · exact absurd (xn_ge hok) c_706

set_option maxRecDepth 100000 in
set_option maxHeartbeats 8000000 in
theorem kc_setP (hl0 : l0.stackTraces = false) (X : zLX g l0 nm M00 post tab) (h : xSI n i x lm y t) (hpr : ∀ o, o < n 8 → pr o = i 138 o) {v p : Int32} {r kd wt : Int32} {bf : Int64} {W : Nat} (hW : W < 5000000) (hw : wt = 0 ∨ wt = 1) (hb : wt = 1 → bf = xsum n i x lm y) {st9 k9 K9 N9 : Nat} (hk9 : k9 < 58) (Kc : zKL g st9 (k9 + 1) K9 N9) (hkk : kk + 7760 ≤ K9 ∧ nn + 78000 ≤ N9) (hmx : K9 ≤ 590000 ∧ N9 ≤ 7100000) (ZS : zStg g) (hq : W % 3 = 2) : zE g 19 676 [(0, .ref 17), (1, .ref 1), (2, .int (nI (n 5))), (3, .int (nI (n 6))), (4, .int (nI (n 8))), (5, .ref 16), (6, .int (nI st9)), (7, .int (nI k9)), (8, .int v), (9, .int (nI W)), (10, .int wt), (11, .long bf), (13, .int r), (14, .int p), (15, .int 0), (16, .int kd)] [] (zmg (cmm n i x lm y 0 0) (pM pr)) kk nn := by
  have h7 := h.1.1.2.1.2.2.1
  have h5 := h.1.1.2.1.1
  have h6 := h.1.1.2.1.2.1
  have h8 := h.1.1.2.1.2.2.2
  refine z_aload_n X 1 dL_law_676 rfl rfl ?_
  refine z_iconst (v := 0) X dL_law_677 (by decide) ?_
  refine z_ldc1 X ZS dL_law_678 ?_
  refine z_iload X 9 dL_law_680 rfl ?_
  refine z_iconst (v := 3) X dL_law_682 (by decide) ?_
  refine z_irem X dL_law_683 (by decide) ?_
  refine z_ste (st' := [.int (nI 2), .ref (zso 1), .int 0, .ref 1]) (by rw [show (3 : Int32) = nI 3 by decide, xr_rem (by omega) (by omega) (by omega), hq]) ?_
  refine z_ch X ZS (i := 1) (k9 := 2) (by omega) (by omega) dL_law_684 gL_law_J0_charAt_5068e ⟨by decide, by decide⟩ (Nat.le_of_ble_eq_true rfl) ⟨by omega, by omega⟩ ?_
  refine z_top (w := .int 112) (by rw [show xch 1 2 = 112 from xch_v ⟨1, by decide⟩ ⟨2, by decide⟩]) ?_
  refine z_iload X 9 dL_law_687 rfl ?_
  refine z_iconst (v := 3) X dL_law_689 (by decide) ?_
  refine z_idiv X dL_law_690 (by decide) ?_
  refine z_sipush (v := 400) X dL_law_691 (by decide) ?_
  refine z_irem X dL_law_694 (by decide) ?_
  refine z_iconst (v := 0) X dL_law_695 (by decide) ?_
  refine z_callSWiN (As := [.ref 1, .int 0, .int 112, .int (((nI W) / 3) - ((nI W) / 3) / 400 * 400), .int 0]) (rest := []) (n1 := 5) X dL_law_696 (zC_i (w_setP l0 hl0 h 0 0 0 (((nI W) / 3) - ((nI W) / 3) / 400 * 400) 0) zCok_cmm (fun _ _ hv => xst_ok hv) rfl) gL_law_L_sets rfl rfl (by decide +kernel) ⟨by decide, by decide⟩ rfl (Nat.le_of_ble_eq_true rfl) ⟨by omega, by omega⟩ ?_
  rintro v9 G9 ⟨C9, hv9, rfl⟩
  rcases hv9 with ⟨hlt, rfl⟩ | ⟨hok, n', i', x', lm', y', t', rfl, hs', ⟨e5, e6, e8, etm⟩, hp1, hz1⟩
  · skip
    refine z_istore (ls' := [(15, .int v9), (0, .ref 17), (1, .ref 1), (2, .int (nI (n 5))), (3, .int (nI (n 6))), (4, .int (nI (n 8))), (5, .ref 16), (6, .int (nI st9)), (7, .int (nI k9)), (8, .int v), (9, .int (nI W)), (10, .int wt), (11, .long bf), (13, .int r), (14, .int p), (16, .int kd)]) X dL_law_699 (by decide) rfl ?_
    refine z_iload X 0 dL_law_701 rfl ?_
    refine z_sipush (v := (-1000)) X dL_law_703 (by decide) ?_
    refine z_icmp_ge X 714 dL_law_706 (by decide) (fun c_706 => ?_) (fun c_706 => ?_)
    · exact absurd c_706 (xn_le hlt)
    · skip
      refine z_iload X 0 dL_law_709 rfl ?_
      refine z_goto (tgt := 715) X dL_law_711 (by decide) ?_
      refine z_istore (ls' := [(15, .int v9), (0, .ref 17), (1, .ref 1), (2, .int (nI (n 5))), (3, .int (nI (n 6))), (4, .int (nI (n 8))), (5, .ref 16), (6, .int (nI st9)), (7, .int (nI k9)), (8, .int v), (9, .int (nI W)), (10, .int wt), (11, .long bf), (13, .int r), (14, .int p), (16, .int kd)]) X dL_law_715 (by decide) rfl ?_
      refine z_goto (tgt := 811) X dL_law_717 (by decide) ?_
      refine z_sub (ls' := [(0, .ref 17), (1, .ref 1), (2, .int (nI (n 5))), (3, .int (nI (n 6))), (4, .int (nI (n 8))), (5, .ref 16), (6, .int (nI st9)), (7, .int (nI k9)), (10, .int wt), (11, .long bf), (15, .int v9)]) [1, 2, 3, 4, 5, 6, 7, 8, 11, 12, 0] rfl ?_
      exact zl_tail hl0 X h hpr hw (fun _ q => hb q) hk9 Kc ⟨by omega, by omega⟩ hmx
  · skip
    have e5 : n' 5 = n 5 := e5
    have e6 : n' 6 = n 6 := e6
    have e8 : n' 8 = n 8 := e8
    have hpr' : ∀ o, o < n' 8 → pr o = i' 138 o := fun o ho => (hpr o (by omega)).trans (hp1 o ho).symm
    refine z_istore (ls' := [(15, .int v9), (0, .ref 17), (1, .ref 1), (2, .int (nI (n 5))), (3, .int (nI (n 6))), (4, .int (nI (n 8))), (5, .ref 16), (6, .int (nI st9)), (7, .int (nI k9)), (8, .int v), (9, .int (nI W)), (10, .int wt), (11, .long bf), (13, .int r), (14, .int p), (16, .int kd)]) X dL_law_699 (by decide) rfl ?_
    refine z_iload X 0 dL_law_701 rfl ?_
    refine z_sipush (v := (-1000)) X dL_law_703 (by decide) ?_
    refine z_icmp_ge X 714 dL_law_706 (by decide) (fun c_706 => ?_) (fun c_706 => ?_)
    · skip
      refine z_iconst (v := 0) X dL_law_714 (by decide) ?_
      refine z_istore (ls' := [(15, .int 0), (0, .ref 17), (1, .ref 1), (2, .int (nI (n 5))), (3, .int (nI (n 6))), (4, .int (nI (n 8))), (5, .ref 16), (6, .int (nI st9)), (7, .int (nI k9)), (8, .int v), (9, .int (nI W)), (10, .int wt), (11, .long bf), (13, .int r), (14, .int p), (16, .int kd)]) X dL_law_715 (by decide) rfl ?_
      refine z_goto (tgt := 811) X dL_law_717 (by decide) ?_
      refine z_sub (ls' := [(0, .ref 17), (1, .ref 1), (2, .int (nI (n 5))), (3, .int (nI (n 6))), (4, .int (nI (n 8))), (5, .ref 16), (6, .int (nI st9)), (7, .int (nI k9)), (10, .int wt), (11, .long bf), (15, .int 0)]) [1, 2, 3, 4, 5, 6, 7, 8, 11, 12, 0] rfl ?_
      refine z_lse (ls' := [(0, .ref 17), (1, .ref 1), (2, .int (nI (n' 5))), (3, .int (nI (n' 6))), (4, .int (nI (n' 8))), (5, .ref 16), (6, .int (nI st9)), (7, .int (nI k9)), (10, .int wt), (11, .long bf), (15, .int 0)]) (by rw [e5, e6, e8]) ?_
      exact zl_tail hl0 X hs' hpr' hw (fun q _ => absurd q (by decide)) hk9 Kc ⟨by omega, by omega⟩ hmx
    · exact absurd (xn_ge hok) c_706

set_option maxRecDepth 100000 in
set_option maxHeartbeats 8000000 in
theorem kc_prices (hl0 : l0.stackTraces = false) (X : zLX g l0 nm M00 post tab) (h : xSI n i x lm y t) (hpr : ∀ o, o < n 8 → pr o = i 138 o) {v p : Int32} {r kd wt : Int32} {bf : Int64} {W : Nat} (hW : W < 5000000) (hw : wt = 0 ∨ wt = 1) (hb : wt = 1 → bf = xsum n i x lm y) {st9 k9 K9 N9 : Nat} (hk9 : k9 < 58) (Kc : zKL g st9 (k9 + 1) K9 N9) (hkk : kk + 7760 ≤ K9 ∧ nn + 78000 ≤ N9) (hmx : K9 ≤ 590000 ∧ N9 ≤ 7100000) : zE g 19 727 [(0, .ref 17), (1, .ref 1), (2, .int (nI (n 5))), (3, .int (nI (n 6))), (4, .int (nI (n 8))), (5, .ref 16), (6, .int (nI st9)), (7, .int (nI k9)), (8, .int v), (9, .int (nI W)), (10, .int wt), (11, .long bf), (13, .int r), (14, .int p), (15, .int 0), (16, .int kd)] [] (zmg (cmm n i x lm y 0 0) (pM pr)) kk nn := by
  have h7 := h.1.1.2.1.2.2.1
  have h5 := h.1.1.2.1.1
  have h6 := h.1.1.2.1.2.1
  have h8 := h.1.1.2.1.2.2.2
  refine z_aload_n X 1 dL_law_727 rfl rfl ?_
  refine z_iload X 9 dL_law_728 rfl ?_
  refine z_bipush (v := 40) X dL_law_730 (by decide) ?_
  refine z_irem X dL_law_732 (by decide) ?_
  refine z_iload X 9 dL_law_733 rfl ?_
  refine z_bipush (v := 40) X dL_law_735 (by decide) ?_
  refine z_idiv X dL_law_737 (by decide) ?_
  refine z_bipush (v := 40) X dL_law_738 (by decide) ?_
  refine z_irem X dL_law_740 (by decide) ?_
  refine z_iload X 9 dL_law_741 rfl ?_
  refine z_sipush (v := 1600) X dL_law_743 (by decide) ?_
  refine z_idiv X dL_law_746 (by decide) ?_
  refine z_bipush (v := 60) X dL_law_747 (by decide) ?_
  refine z_irem X dL_law_749 (by decide) ?_
  refine z_bipush (v := 60) X dL_law_750 (by decide) ?_
  refine z_iload X 9 dL_law_752 rfl ?_
  refine z_ldcI (v := 96000) X dL_law_754 hcs237 ?_
  refine z_idiv X dL_law_756 (by decide) ?_
  refine z_bipush (v := 30) X dL_law_757 (by decide) ?_
  refine z_irem X dL_law_759 (by decide) ?_
  refine z_iadd X dL_law_760 ?_
  refine z_callSWiN (As := [.ref 1, .int ((nI W) - (nI W) / 40 * 40), .int (((nI W) / 40) - ((nI W) / 40) / 40 * 40), .int (((nI W) / 1600) - ((nI W) / 1600) / 60 * 60), .int (60 + (((nI W) / 96000) - ((nI W) / 96000) / 30 * 30))]) (rest := []) (n1 := 5) X dL_law_761 (zC_i (w_prices l0 hl0 h 0 0 ((nI W) - (nI W) / 40 * 40) (((nI W) / 40) - ((nI W) / 40) / 40 * 40) (((nI W) / 1600) - ((nI W) / 1600) / 60 * 60) (60 + (((nI W) / 96000) - ((nI W) / 96000) / 30 * 30))) zCok_cmm (fun _ _ hv => xst_ok hv) rfl) gL_law_L_prices rfl rfl (by decide +kernel) ⟨by decide, by decide⟩ rfl (Nat.le_of_ble_eq_true rfl) ⟨by omega, by omega⟩ ?_
  rintro v9 G9 ⟨C9, hv9, rfl⟩
  rcases hv9 with ⟨hlt, rfl⟩ | ⟨hok, n', i', x', lm', y', t', rfl, hs', ⟨e5, e6, e8, etm⟩, hp1, hz1⟩
  · skip
    refine z_istore (ls' := [(15, .int v9), (0, .ref 17), (1, .ref 1), (2, .int (nI (n 5))), (3, .int (nI (n 6))), (4, .int (nI (n 8))), (5, .ref 16), (6, .int (nI st9)), (7, .int (nI k9)), (8, .int v), (9, .int (nI W)), (10, .int wt), (11, .long bf), (13, .int r), (14, .int p), (16, .int kd)]) X dL_law_764 (by decide) rfl ?_
    refine z_goto (tgt := 811) X dL_law_766 (by decide) ?_
    refine z_sub (ls' := [(0, .ref 17), (1, .ref 1), (2, .int (nI (n 5))), (3, .int (nI (n 6))), (4, .int (nI (n 8))), (5, .ref 16), (6, .int (nI st9)), (7, .int (nI k9)), (10, .int wt), (11, .long bf), (15, .int v9)]) [1, 2, 3, 4, 5, 6, 7, 8, 11, 12, 0] rfl ?_
    exact zl_tail hl0 X h hpr hw (fun _ q => hb q) hk9 Kc ⟨by omega, by omega⟩ hmx
  · skip
    have e5 : n' 5 = n 5 := e5
    have e6 : n' 6 = n 6 := e6
    have e8 : n' 8 = n 8 := e8
    have hpr' : ∀ o, o < n' 8 → pr o = i' 138 o := fun o ho => (hpr o (by omega)).trans (hp1 o ho).symm
    refine z_istore (ls' := [(15, .int v9), (0, .ref 17), (1, .ref 1), (2, .int (nI (n 5))), (3, .int (nI (n 6))), (4, .int (nI (n 8))), (5, .ref 16), (6, .int (nI st9)), (7, .int (nI k9)), (8, .int v), (9, .int (nI W)), (10, .int wt), (11, .long bf), (13, .int r), (14, .int p), (16, .int kd)]) X dL_law_764 (by decide) rfl ?_
    refine z_goto (tgt := 811) X dL_law_766 (by decide) ?_
    refine z_sub (ls' := [(0, .ref 17), (1, .ref 1), (2, .int (nI (n 5))), (3, .int (nI (n 6))), (4, .int (nI (n 8))), (5, .ref 16), (6, .int (nI st9)), (7, .int (nI k9)), (10, .int wt), (11, .long bf), (15, .int v9)]) [1, 2, 3, 4, 5, 6, 7, 8, 11, 12, 0] rfl ?_
    refine z_lse (ls' := [(0, .ref 17), (1, .ref 1), (2, .int (nI (n' 5))), (3, .int (nI (n' 6))), (4, .int (nI (n' 8))), (5, .ref 16), (6, .int (nI st9)), (7, .int (nI k9)), (10, .int wt), (11, .long bf), (15, .int v9)]) (by rw [e5, e6, e8]) ?_
    exact zl_tail hl0 X hs' hpr' hw (fun q _ => absurd q hok) hk9 Kc ⟨by omega, by omega⟩ hmx

set_option maxRecDepth 100000 in
set_option maxHeartbeats 8000000 in
theorem kc_pass (hl0 : l0.stackTraces = false) (X : zLX g l0 nm M00 post tab) (h : xSI n i x lm y t) (hpr : ∀ o, o < n 8 → pr o = i 138 o) {v p : Int32} {r kd wt : Int32} {bf : Int64} {W : Nat} (hW : W < 5000000) (hw : wt = 0 ∨ wt = 1) (hb : wt = 1 → bf = xsum n i x lm y) {st9 k9 K9 N9 : Nat} (hk9 : k9 < 58) (Kc : zKL g st9 (k9 + 1) K9 N9) (hkk : kk + 7760 ≤ K9 ∧ nn + 78000 ≤ N9) (hmx : K9 ≤ 590000 ∧ N9 ≤ 7100000) : zE g 19 769 [(0, .ref 17), (1, .ref 1), (2, .int (nI (n 5))), (3, .int (nI (n 6))), (4, .int (nI (n 8))), (5, .ref 16), (6, .int (nI st9)), (7, .int (nI k9)), (8, .int v), (9, .int (nI W)), (10, .int wt), (11, .long bf), (13, .int r), (14, .int p), (15, .int 0), (16, .int kd)] [] (zmg (cmm n i x lm y 0 0) (pM pr)) kk nn := by
  have h7 := h.1.1.2.1.2.2.1
  have h5 := h.1.1.2.1.1
  have h6 := h.1.1.2.1.2.1
  have h8 := h.1.1.2.1.2.2.2
  refine z_aload_n X 1 dL_law_769 rfl rfl ?_
  refine z_callViN (As := []) (rest := []) (n1 := 0) (ci := 10) X dL_law_770 (zC_ri (c_X7_now l0 hl0 n i x lm y 0 0 h.1.1) zCok_cmm rfl) gL_law_X7_now rfl rfl (by decide +kernel) ⟨by decide, by decide⟩ zp1 rfl rfl (Nat.le_of_ble_eq_true rfl) ⟨by omega, by omega⟩ ?_
  rintro _ _ ⟨rfl, rfl⟩
  refine z_istore (ls' := [(17, .int (i 1 0)), (0, .ref 17), (1, .ref 1), (2, .int (nI (n 5))), (3, .int (nI (n 6))), (4, .int (nI (n 8))), (5, .ref 16), (6, .int (nI st9)), (7, .int (nI k9)), (8, .int v), (9, .int (nI W)), (10, .int wt), (11, .long bf), (13, .int r), (14, .int p), (15, .int 0), (16, .int kd)]) X dL_law_773 (by decide) rfl ?_
  refine z_iconst (v := 1) X dL_law_775 (by decide) ?_
  refine z_iload X 10 dL_law_776 rfl ?_
  refine z_bipush (v := 30) X dL_law_778 (by decide) ?_
  refine z_irem X dL_law_780 (by decide) ?_
  refine z_iadd X dL_law_781 ?_
  refine z_istore (ls' := [(18, .int (1 + ((nI W) - (nI W) / 30 * 30))), (17, .int (i 1 0)), (0, .ref 17), (1, .ref 1), (2, .int (nI (n 5))), (3, .int (nI (n 6))), (4, .int (nI (n 8))), (5, .ref 16), (6, .int (nI st9)), (7, .int (nI k9)), (8, .int v), (9, .int (nI W)), (10, .int wt), (11, .long bf), (13, .int r), (14, .int p), (15, .int 0), (16, .int kd)]) X dL_law_782 (by decide) rfl ?_
  refine z_aload_n X 3 dL_law_784 rfl rfl ?_
  refine z_iload X 0 dL_law_785 rfl ?_
  refine z_callSWiN (As := [.ref 1, .int (1 + ((nI W) - (nI W) / 30 * 30))]) (rest := []) (n1 := 2) X dL_law_787 (zC_i (w_pass l0 hl0 h 0 0 (1 + ((nI W) - (nI W) / 30 * 30))) zCok_cmm (fun _ _ hv => xst_ok hv) rfl) gL_law_L_pass rfl rfl (by decide +kernel) ⟨by decide, by decide⟩ rfl (Nat.le_of_ble_eq_true rfl) ⟨by omega, by omega⟩ ?_
  rintro v9 G9 ⟨C9, hv9, rfl⟩
  rcases hv9 with ⟨hlt, rfl⟩ | ⟨hok, n', i', x', lm', y', t', rfl, hs', ⟨e5, e6, e8, etm⟩, hp1, hz1⟩
  · skip
    refine z_istore (ls' := [(15, .int v9), (18, .int (1 + ((nI W) - (nI W) / 30 * 30))), (17, .int (i 1 0)), (0, .ref 17), (1, .ref 1), (2, .int (nI (n 5))), (3, .int (nI (n 6))), (4, .int (nI (n 8))), (5, .ref 16), (6, .int (nI st9)), (7, .int (nI k9)), (8, .int v), (9, .int (nI W)), (10, .int wt), (11, .long bf), (13, .int r), (14, .int p), (16, .int kd)]) X dL_law_790 (by decide) rfl ?_
    refine z_iload X 0 dL_law_792 rfl ?_
    refine z_if_lt X 811 dL_law_794 (by decide) (fun c_794 => ?_) (fun c_794 => ?_)
    · skip
      refine z_sub (ls' := [(0, .ref 17), (1, .ref 1), (2, .int (nI (n 5))), (3, .int (nI (n 6))), (4, .int (nI (n 8))), (5, .ref 16), (6, .int (nI st9)), (7, .int (nI k9)), (10, .int wt), (11, .long bf), (15, .int v9)]) [3, 4, 5, 6, 7, 8, 9, 10, 13, 14, 0] rfl ?_
      exact zl_tail hl0 X h hpr hw (fun _ q => hb q) hk9 Kc ⟨by omega, by omega⟩ hmx
    · exact absurd (xn_lt hlt) c_794
  · skip
    have e5 : n' 5 = n 5 := e5
    have e6 : n' 6 = n 6 := e6
    have e8 : n' 8 = n 8 := e8
    have hpr' : ∀ o, o < n' 8 → pr o = i' 138 o := fun o ho => (hpr o (by omega)).trans (hp1 o ho).symm
    refine z_istore (ls' := [(15, .int v9), (18, .int (1 + ((nI W) - (nI W) / 30 * 30))), (17, .int (i 1 0)), (0, .ref 17), (1, .ref 1), (2, .int (nI (n 5))), (3, .int (nI (n 6))), (4, .int (nI (n 8))), (5, .ref 16), (6, .int (nI st9)), (7, .int (nI k9)), (8, .int v), (9, .int (nI W)), (10, .int wt), (11, .long bf), (13, .int r), (14, .int p), (16, .int kd)]) X dL_law_790 (by decide) rfl ?_
    refine z_iload X 0 dL_law_792 rfl ?_
    refine z_if_lt X 811 dL_law_794 (by decide) (fun c_794 => ?_) (fun c_794 => ?_)
    · skip
      refine z_sub (ls' := [(0, .ref 17), (1, .ref 1), (2, .int (nI (n 5))), (3, .int (nI (n 6))), (4, .int (nI (n 8))), (5, .ref 16), (6, .int (nI st9)), (7, .int (nI k9)), (10, .int wt), (11, .long bf), (15, .int v9)]) [3, 4, 5, 6, 7, 8, 9, 10, 13, 14, 0] rfl ?_
      refine z_lse (ls' := [(0, .ref 17), (1, .ref 1), (2, .int (nI (n' 5))), (3, .int (nI (n' 6))), (4, .int (nI (n' 8))), (5, .ref 16), (6, .int (nI st9)), (7, .int (nI k9)), (10, .int wt), (11, .long bf), (15, .int v9)]) (by rw [e5, e6, e8]) ?_
      exact zl_tail hl0 X hs' hpr' hw (fun q _ => absurd q hok) hk9 Kc ⟨by omega, by omega⟩ hmx
    · skip
      refine z_aload_n X 4 dL_law_797 rfl rfl ?_
      refine z_callViN (As := []) (rest := []) (n1 := 0) (ci := 10) X dL_law_798 (zC_ri (c_X7_now l0 hl0 n' i' x' lm' y' 0 0 hs'.1.1) zCok_cmm rfl) gL_law_X7_now rfl rfl (by decide +kernel) ⟨by decide, by decide⟩ zp1 rfl rfl (Nat.le_of_ble_eq_true rfl) ⟨by omega, by omega⟩ ?_
      rintro _ _ ⟨rfl, rfl⟩
      refine z_iload X 2 dL_law_801 rfl ?_
      refine z_iload X 1 dL_law_803 rfl ?_
      refine z_iadd X dL_law_805 ?_
      refine z_icmp_eq X 811 dL_law_806 (by decide) (fun c_806 => ?_) (fun c_806 => ?_)
      · skip
        refine z_sub (ls' := [(0, .ref 17), (1, .ref 1), (2, .int (nI (n 5))), (3, .int (nI (n 6))), (4, .int (nI (n 8))), (5, .ref 16), (6, .int (nI st9)), (7, .int (nI k9)), (10, .int wt), (11, .long bf), (15, .int v9)]) [3, 4, 5, 6, 7, 8, 9, 10, 13, 14, 0] rfl ?_
        refine z_lse (ls' := [(0, .ref 17), (1, .ref 1), (2, .int (nI (n' 5))), (3, .int (nI (n' 6))), (4, .int (nI (n' 8))), (5, .ref 16), (6, .int (nI st9)), (7, .int (nI k9)), (10, .int wt), (11, .long bf), (15, .int v9)]) (by rw [e5, e6, e8]) ?_
        exact zl_tail hl0 X hs' hpr' hw (fun q _ => absurd q hok) hk9 Kc ⟨by omega, by omega⟩ hmx
      · exact absurd etm c_806
end ZLC9
