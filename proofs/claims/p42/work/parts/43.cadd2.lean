set_option maxRecDepth 100000 in
set_option maxHeartbeats 4000000 in
theorem c_growd0 (l : Launch) (M : zMem) (o b : Nat) (hE0 : zc M zE0 = 26) (ho : zc M o = 3) (hre : zr M o 1 = some zE0) (hn : zn M zE0 = 0) (hb0 : zc M b = 0) (hb1 : b ≠ zE0) (hb2 : b ≠ zMi) (hsz : zi M o 2 = 0) : zS l yJx4a65c_grow_d5877 wsJx4a65c_grow_d5877 9 158 1 40 [.ref o] M (zpr (fun r M1 => r = b ∧ M1 = zwr (znew M b 25 10) o 1 (some b))) zno := by
  refine z_intro (cc := cJx4a65c_grow_d5877) (maxL := 1) (ret := (some (.array (.object "java/lang/Object")))) (by decide +kernel) rfl (Nat.le_of_ble_eq_true rfl) ?_
  have hlk_48 : Cond.fieldLink RJx4a65c 48 "java/util/ArrayList" "size" "I" ∈ wsJx4a65c_grow_d5877 := by decide +kernel
  intro g X
  show zE g 1 0 [(0, .ref o)] [] M 0 0
  refine z_aload_n X 0 dJx4a65c_grow_d5877_0 rfl rfl ?_
  refine z_aload_n X 0 dJx4a65c_grow_d5877_1 rfl rfl ?_
  refine z_getI (ci := 2) (j := 2) (x := 0) X dJx4a65c_grow_d5877_2 ho rfl (by decide) hlk_48 (Or.inl rfl) (fun _ => rfl) (hsz) ?_
  refine z_iconst (v := 1) X dJx4a65c_grow_d5877_5 (by decide) ?_
  refine z_iadd X dJx4a65c_grow_d5877_6 ?_
  refine z_top (w := .int 1) (congrArg Value.int (by decide)) ?_
  refine z_callVr (As := [.int 1]) (rest := []) (n1 := 1) (ci := 2) X dJx4a65c_grow_d5877_7 (c_grow0 l _ o b hE0 ho hre hn hb0 hb1 hb2) gJx4a65c_grow_d5877_Jx4a65c_grow_92f84 rfl rfl (by decide +kernel) ⟨by decide, by decide⟩ ho rfl rfl (Nat.le_of_ble_eq_true rfl) ⟨by decide, by decide⟩ (fun _ h => h.elim) ?_
  rintro _ _ ⟨e8, e9⟩
  rw [e8, e9]
  clear e8 e9
  refine z_aret X rfl (Or.inr ⟨_, rfl⟩) (Or.inr ⟨_, rfl⟩) (by decide) (by decide) dJx4a65c_grow_d5877_10 ?_
  exact ⟨_, rfl, rfl, rfl⟩

set_option maxRecDepth 100000 in
set_option maxHeartbeats 4000000 in
theorem c_growd10 (l : Launch) (M : zMem) (o e b ci Nc : Nat) (C : String) (Tc : u_T) (hMi : zc M zMi = 19) (ho : zc M o = 3) (hre : zr M o 1 = some e) (hs : zc M e = 25) (hn : zn M e = 10) (hb0 : zc M b = 0) (hb1 : b ≠ zE0) (hb2 : b ≠ zMi) (hq : vwCl[ci]? = some (C, Tc, Nc)) (hC : C ∈ [RX1, RX3, RX4, RX5]) (hel : ∀ j v, j < 10 → zr M e j = some v → zc M v = ci + 1) (hsz : zi M o 2 = 10) : zS l yJx4a65c_grow_d5877 wsJx4a65c_grow_d5877 9 158 1 40 [.ref o] M (zpr (fun r M1 => r = b ∧ M1 = zwr (zcpy (znew M b 25 15) e b 10) o 1 (some b))) zno := by
  refine z_intro (cc := cJx4a65c_grow_d5877) (maxL := 1) (ret := (some (.array (.object "java/lang/Object")))) (by decide +kernel) rfl (Nat.le_of_ble_eq_true rfl) ?_
  have hlk_48 : Cond.fieldLink RJx4a65c 48 "java/util/ArrayList" "size" "I" ∈ wsJx4a65c_grow_d5877 := by decide +kernel
  intro g X
  show zE g 1 0 [(0, .ref o)] [] M 0 0
  refine z_aload_n X 0 dJx4a65c_grow_d5877_0 rfl rfl ?_
  refine z_aload_n X 0 dJx4a65c_grow_d5877_1 rfl rfl ?_
  refine z_getI (ci := 2) (j := 2) (x := 10) X dJx4a65c_grow_d5877_2 ho rfl (by decide) hlk_48 (Or.inl rfl) (fun _ => rfl) (hsz) ?_
  refine z_iconst (v := 1) X dJx4a65c_grow_d5877_5 (by decide) ?_
  refine z_iadd X dJx4a65c_grow_d5877_6 ?_
  refine z_top (w := .int 11) (congrArg Value.int (by decide)) ?_
  refine z_callVr (As := [.int 11]) (rest := []) (n1 := 1) (ci := 2) X dJx4a65c_grow_d5877_7 (c_grow10 l _ o e b ci Nc C Tc hMi ho hre hs hn hb0 hb1 hb2 hq hC hel) gJx4a65c_grow_d5877_Jx4a65c_grow_92f84 rfl rfl (by decide +kernel) ⟨by decide, by decide⟩ ho rfl rfl (Nat.le_of_ble_eq_true rfl) ⟨by decide, by decide⟩ (fun _ h => h.elim) ?_
  rintro _ _ ⟨e8, e9⟩
  rw [e8, e9]
  clear e8 e9
  refine z_aret X rfl (Or.inr ⟨_, rfl⟩) (Or.inr ⟨_, rfl⟩) (by decide) (by decide) dJx4a65c_grow_d5877_10 ?_
  exact ⟨_, rfl, rfl, rfl⟩

set_option maxRecDepth 100000 in
set_option maxHeartbeats 4000000 in
theorem c_growd15 (l : Launch) (M : zMem) (o e b ci Nc : Nat) (C : String) (Tc : u_T) (hMi : zc M zMi = 19) (ho : zc M o = 3) (hre : zr M o 1 = some e) (hs : zc M e = 25) (hn : zn M e = 15) (hb0 : zc M b = 0) (hb1 : b ≠ zE0) (hb2 : b ≠ zMi) (hq : vwCl[ci]? = some (C, Tc, Nc)) (hC : C ∈ [RX1, RX3, RX4, RX5]) (hel : ∀ j v, j < 15 → zr M e j = some v → zc M v = ci + 1) (hsz : zi M o 2 = 15) : zS l yJx4a65c_grow_d5877 wsJx4a65c_grow_d5877 9 158 1 40 [.ref o] M (zpr (fun r M1 => r = b ∧ M1 = zwr (zcpy (znew M b 25 22) e b 15) o 1 (some b))) zno := by
  refine z_intro (cc := cJx4a65c_grow_d5877) (maxL := 1) (ret := (some (.array (.object "java/lang/Object")))) (by decide +kernel) rfl (Nat.le_of_ble_eq_true rfl) ?_
  have hlk_48 : Cond.fieldLink RJx4a65c 48 "java/util/ArrayList" "size" "I" ∈ wsJx4a65c_grow_d5877 := by decide +kernel
  intro g X
  show zE g 1 0 [(0, .ref o)] [] M 0 0
  refine z_aload_n X 0 dJx4a65c_grow_d5877_0 rfl rfl ?_
  refine z_aload_n X 0 dJx4a65c_grow_d5877_1 rfl rfl ?_
  refine z_getI (ci := 2) (j := 2) (x := 15) X dJx4a65c_grow_d5877_2 ho rfl (by decide) hlk_48 (Or.inl rfl) (fun _ => rfl) (hsz) ?_
  refine z_iconst (v := 1) X dJx4a65c_grow_d5877_5 (by decide) ?_
  refine z_iadd X dJx4a65c_grow_d5877_6 ?_
  refine z_top (w := .int 16) (congrArg Value.int (by decide)) ?_
  refine z_callVr (As := [.int 16]) (rest := []) (n1 := 1) (ci := 2) X dJx4a65c_grow_d5877_7 (c_grow15 l _ o e b ci Nc C Tc hMi ho hre hs hn hb0 hb1 hb2 hq hC hel) gJx4a65c_grow_d5877_Jx4a65c_grow_92f84 rfl rfl (by decide +kernel) ⟨by decide, by decide⟩ ho rfl rfl (Nat.le_of_ble_eq_true rfl) ⟨by decide, by decide⟩ (fun _ h => h.elim) ?_
  rintro _ _ ⟨e8, e9⟩
  rw [e8, e9]
  clear e8 e9
  refine z_aret X rfl (Or.inr ⟨_, rfl⟩) (Or.inr ⟨_, rfl⟩) (by decide) (by decide) dJx4a65c_grow_d5877_10 ?_
  exact ⟨_, rfl, rfl, rfl⟩

set_option maxRecDepth 100000 in
set_option maxHeartbeats 4000000 in
theorem c_growd22 (l : Launch) (M : zMem) (o e b ci Nc : Nat) (C : String) (Tc : u_T) (hMi : zc M zMi = 19) (ho : zc M o = 3) (hre : zr M o 1 = some e) (hs : zc M e = 25) (hn : zn M e = 22) (hb0 : zc M b = 0) (hb1 : b ≠ zE0) (hb2 : b ≠ zMi) (hq : vwCl[ci]? = some (C, Tc, Nc)) (hC : C ∈ [RX1, RX3, RX4, RX5]) (hel : ∀ j v, j < 22 → zr M e j = some v → zc M v = ci + 1) (hsz : zi M o 2 = 22) : zS l yJx4a65c_grow_d5877 wsJx4a65c_grow_d5877 9 158 1 40 [.ref o] M (zpr (fun r M1 => r = b ∧ M1 = zwr (zcpy (znew M b 25 33) e b 22) o 1 (some b))) zno := by
  refine z_intro (cc := cJx4a65c_grow_d5877) (maxL := 1) (ret := (some (.array (.object "java/lang/Object")))) (by decide +kernel) rfl (Nat.le_of_ble_eq_true rfl) ?_
  have hlk_48 : Cond.fieldLink RJx4a65c 48 "java/util/ArrayList" "size" "I" ∈ wsJx4a65c_grow_d5877 := by decide +kernel
  intro g X
  show zE g 1 0 [(0, .ref o)] [] M 0 0
  refine z_aload_n X 0 dJx4a65c_grow_d5877_0 rfl rfl ?_
  refine z_aload_n X 0 dJx4a65c_grow_d5877_1 rfl rfl ?_
  refine z_getI (ci := 2) (j := 2) (x := 22) X dJx4a65c_grow_d5877_2 ho rfl (by decide) hlk_48 (Or.inl rfl) (fun _ => rfl) (hsz) ?_
  refine z_iconst (v := 1) X dJx4a65c_grow_d5877_5 (by decide) ?_
  refine z_iadd X dJx4a65c_grow_d5877_6 ?_
  refine z_top (w := .int 23) (congrArg Value.int (by decide)) ?_
  refine z_callVr (As := [.int 23]) (rest := []) (n1 := 1) (ci := 2) X dJx4a65c_grow_d5877_7 (c_grow22 l _ o e b ci Nc C Tc hMi ho hre hs hn hb0 hb1 hb2 hq hC hel) gJx4a65c_grow_d5877_Jx4a65c_grow_92f84 rfl rfl (by decide +kernel) ⟨by decide, by decide⟩ ho rfl rfl (Nat.le_of_ble_eq_true rfl) ⟨by decide, by decide⟩ (fun _ h => h.elim) ?_
  rintro _ _ ⟨e8, e9⟩
  rw [e8, e9]
  clear e8 e9
  refine z_aret X rfl (Or.inr ⟨_, rfl⟩) (Or.inr ⟨_, rfl⟩) (by decide) (by decide) dJx4a65c_grow_d5877_10 ?_
  exact ⟨_, rfl, rfl, rfl⟩

set_option maxRecDepth 100000 in
set_option maxHeartbeats 4000000 in
theorem c_add72A (l : Launch) (M : zMem) (o e k cap : Nat) (ho : zc M o = 3) (hs : zc M e = 25) (hn : zn M e = cap) (hkc : k < cap) (hcap : cap ≤ 33) (v cv Nv : Nat) (Cv : String) (Tv : u_T) (hv : zc M v = cv + 1) (hqv : vwCl[cv]? = some (Cv, Tv, Nv)) (hCv : Cv ∈ [RX1, RX3, RX4, RX5]) : zS l yJx4a65c_add_72be8 wsJx4a65c_add_72be8 10 178 0 0 [.ref o, .ref v, .ref e, .int (nI k)] M (zpv (fun M1 => M1 = zwi (zwr M e k (some v)) o 2 (nI (k + 1)))) zno := by
  refine z_intro (cc := cJx4a65c_add_72be8) (maxL := 4) (ret := none) (by decide +kernel) rfl (Nat.le_of_ble_eq_true rfl) ?_
  have hlk_48 : Cond.fieldLink RJx4a65c 48 "java/util/ArrayList" "size" "I" ∈ wsJx4a65c_add_72be8 := by decide +kernel
  intro g X
  show zE g 4 0 [(0, .ref o), (1, .ref v), (2, .ref e), (3, .int (nI k))] [] M 0 0
  refine z_iload_n X 3 dJx4a65c_add_72be8_0 rfl rfl ?_
  refine z_aload_n X 2 dJx4a65c_add_72be8_1 rfl rfl ?_
  refine z_alen (t := 5) (v := nI cap) X dJx4a65c_add_72be8_2 ((show zc M e = zc M e from rfl).trans hs) (by decide) (by rw [hn]; rfl) ?_
  refine z_icmp_ne X 11 dJx4a65c_add_72be8_3 (by decide) (fun c_3 => ?_) (fun c_3 => ?_)
  · skip
    refine z_aload_n X 2 dJx4a65c_add_72be8_11 rfl rfl ?_
    refine z_iload_n X 3 dJx4a65c_add_72be8_12 rfl rfl ?_
    refine z_aload_n X 1 dJx4a65c_add_72be8_13 rfl rfl ?_
    refine z_aast X (j := k) (ci := cv) dJx4a65c_add_72be8_14 hs (by rw [hn]; exact vp_in_nI hkc (by omega)) (nI_clamp (by omega)) hv hqv hCv ?_
    refine z_aload_n X 0 dJx4a65c_add_72be8_15 rfl rfl ?_
    refine z_iload_n X 3 dJx4a65c_add_72be8_16 rfl rfl ?_
    refine z_iconst (v := 1) X dJx4a65c_add_72be8_17 (by decide) ?_
    refine z_iadd X dJx4a65c_add_72be8_18 ?_
    refine z_putI (ci := 2) (j := 2) X dJx4a65c_add_72be8_19 ((show zc (zwr M e k (some v)) o = zc M o from rfl).trans ho) rfl (by decide) hlk_48 (Or.inl rfl) (Or.inl rfl) (fun _ => rfl) rfl rfl ?_
    refine z_vret X rfl (Nat.le_refl _) (Nat.le_refl _) dJx4a65c_add_72be8_22 ?_
    exact ⟨rfl, by rw [nI_1]⟩
  · exact absurd (nI_lt hkc (by omega)) (by rw [show nI k = nI cap from c_3]; exact Int32.lt_irrefl)

set_option maxRecDepth 100000 in
set_option maxHeartbeats 4000000 in
theorem c_add72_0 (l : Launch) (M : zMem) (o b : Nat) (hE0 : zc M zE0 = 26) (ho : zc M o = 3) (hre : zr M o 1 = some zE0) (hn : zn M zE0 = 0) (hb0 : zc M b = 0) (hb1 : b ≠ zE0) (hb2 : b ≠ zMi) (hsz : zi M o 2 = 0) (v cv Nv : Nat) (Cv : String) (Tv : u_T) (hv : zc M v = cv + 1) (hqv : vwCl[cv]? = some (Cv, Tv, Nv)) (hCv : Cv ∈ [RX1, RX3, RX4, RX5]) : zS l yJx4a65c_add_72be8 wsJx4a65c_add_72be8 10 178 1 40 [.ref o, .ref v, .ref 31, .int 0] M (zpv (fun M1 => M1 = zwi (zwr (zwr (znew M b 25 10) o 1 (some b)) b 0 (some v)) o 2 (nI (0 + 1)))) zno := by
  refine z_intro (cc := cJx4a65c_add_72be8) (maxL := 4) (ret := none) (by decide +kernel) rfl (Nat.le_of_ble_eq_true rfl) ?_
  have hlk_48 : Cond.fieldLink RJx4a65c 48 "java/util/ArrayList" "size" "I" ∈ wsJx4a65c_add_72be8 := by decide +kernel
  intro g X
  show zE g 4 0 [(0, .ref o), (1, .ref v), (2, .ref 31), (3, .int 0)] [] M 0 0
  refine z_iload_n X 3 dJx4a65c_add_72be8_0 rfl rfl ?_
  refine z_aload_n X 2 dJx4a65c_add_72be8_1 rfl rfl ?_
  refine z_alenE (v := 0) X dJx4a65c_add_72be8_2 hE0 rfl ?_
  refine z_icmp_ne X 11 dJx4a65c_add_72be8_3 (by decide) (fun c_3 => ?_) (fun c_3 => ?_)
  · exact absurd c_3 (by decide)
  · skip
    refine z_aload_n X 0 dJx4a65c_add_72be8_6 rfl rfl ?_
    refine z_callVr (As := []) (rest := []) (n1 := 0) (ci := 2) X dJx4a65c_add_72be8_7 (c_growd0 l _ o b hE0 ho hre hn hb0 hb1 hb2 hsz) gJx4a65c_add_72be8_Jx4a65c_grow_d5877 rfl rfl (by decide +kernel) ⟨by decide, by decide⟩ ho rfl rfl (Nat.le_of_ble_eq_true rfl) ⟨by decide, by decide⟩ (fun _ h => h.elim) ?_
    rintro _ _ ⟨e8, e9⟩
    rw [e8, e9]
    clear e8 e9
    refine z_astore_n (ls' := [(2, .ref b), (0, .ref o), (1, .ref v), (3, .int 0)]) X dJx4a65c_add_72be8_10 rfl (by decide) rfl ?_
    have hbN : zn (zwr (znew M b 25 10) o 1 (some b)) b = 10 := if_pos rfl
    have hb25 : zc (zwr (znew M b 25 10) o 1 (some b)) b = 25 := if_pos rfl
    have hv9 : zc (zwr (znew M b 25 10) o 1 (some b)) v = cv + 1 := (if_neg (fun e9 => by rw [e9] at hv; rw [hv] at hb0; cases hb0)).trans hv
    have ho9 : zc (zwr (znew M b 25 10) o 1 (some b)) o = 3 := (if_neg (fun e9 => by rw [e9] at ho; rw [ho] at hb0; cases hb0)).trans ho
    refine z_aload_n X 0 dJx4a65c_add_72be8_11 rfl rfl ?_
    refine z_iload_n X 3 dJx4a65c_add_72be8_12 rfl rfl ?_
    refine z_aload_n X 2 dJx4a65c_add_72be8_13 rfl rfl ?_
    refine z_aast X (j := 0) (ci := cv) dJx4a65c_add_72be8_14 hb25 (by rw [hbN]; unfold vp_in; decide) (by decide) hv9 hqv hCv ?_
    refine z_aload_n X 1 dJx4a65c_add_72be8_15 rfl rfl ?_
    refine z_iload_n X 3 dJx4a65c_add_72be8_16 rfl rfl ?_
    refine z_iconst (v := 1) X dJx4a65c_add_72be8_17 (by decide) ?_
    refine z_iadd X dJx4a65c_add_72be8_18 ?_
    refine z_putI (ci := 2) (j := 2) X dJx4a65c_add_72be8_19 ((show zc (zwr (zwr (znew M b 25 10) o 1 (some b)) b 0 (some v)) o = zc (zwr (znew M b 25 10) o 1 (some b)) o from rfl).trans ho9) rfl (by decide) hlk_48 (Or.inl rfl) (Or.inl rfl) (fun _ => rfl) rfl rfl ?_
    refine z_vret X rfl (by decide) (by decide) dJx4a65c_add_72be8_22 ?_
    exact ⟨rfl, rfl⟩

set_option maxRecDepth 100000 in
set_option maxHeartbeats 4000000 in
theorem c_add72_10 (l : Launch) (M : zMem) (o e b ci Nc : Nat) (C : String) (Tc : u_T) (hMi : zc M zMi = 19) (ho : zc M o = 3) (hre : zr M o 1 = some e) (hs : zc M e = 25) (hn : zn M e = 10) (hb0 : zc M b = 0) (hb1 : b ≠ zE0) (hb2 : b ≠ zMi) (hq : vwCl[ci]? = some (C, Tc, Nc)) (hC : C ∈ [RX1, RX3, RX4, RX5]) (hel : ∀ j v, j < 10 → zr M e j = some v → zc M v = ci + 1) (hsz : zi M o 2 = 10) (v cv Nv : Nat) (Cv : String) (Tv : u_T) (hv : zc M v = cv + 1) (hqv : vwCl[cv]? = some (Cv, Tv, Nv)) (hCv : Cv ∈ [RX1, RX3, RX4, RX5]) : zS l yJx4a65c_add_72be8 wsJx4a65c_add_72be8 10 178 1 40 [.ref o, .ref v, .ref e, .int 10] M (zpv (fun M1 => M1 = zwi (zwr (zwr (zcpy (znew M b 25 15) e b 10) o 1 (some b)) b 10 (some v)) o 2 (nI (10 + 1)))) zno := by
  refine z_intro (cc := cJx4a65c_add_72be8) (maxL := 4) (ret := none) (by decide +kernel) rfl (Nat.le_of_ble_eq_true rfl) ?_
  have hlk_48 : Cond.fieldLink RJx4a65c 48 "java/util/ArrayList" "size" "I" ∈ wsJx4a65c_add_72be8 := by decide +kernel
  intro g X
  show zE g 4 0 [(0, .ref o), (1, .ref v), (2, .ref e), (3, .int 10)] [] M 0 0
  refine z_iload_n X 3 dJx4a65c_add_72be8_0 rfl rfl ?_
  refine z_aload_n X 2 dJx4a65c_add_72be8_1 rfl rfl ?_
  refine z_alen (t := 5) (v := 10) X dJx4a65c_add_72be8_2 hs (by decide) (by rw [hn]; rfl) ?_
  refine z_icmp_ne X 11 dJx4a65c_add_72be8_3 (by decide) (fun c_3 => ?_) (fun c_3 => ?_)
  · exact absurd c_3 (by decide)
  · skip
    refine z_aload_n X 0 dJx4a65c_add_72be8_6 rfl rfl ?_
    refine z_callVr (As := []) (rest := []) (n1 := 0) (ci := 2) X dJx4a65c_add_72be8_7 (c_growd10 l _ o e b ci Nc C Tc hMi ho hre hs hn hb0 hb1 hb2 hq hC hel hsz) gJx4a65c_add_72be8_Jx4a65c_grow_d5877 rfl rfl (by decide +kernel) ⟨by decide, by decide⟩ ho rfl rfl (Nat.le_of_ble_eq_true rfl) ⟨by decide, by decide⟩ (fun _ h => h.elim) ?_
    rintro _ _ ⟨e8, e9⟩
    rw [e8, e9]
    clear e8 e9
    refine z_astore_n (ls' := [(2, .ref b), (0, .ref o), (1, .ref v), (3, .int 10)]) X dJx4a65c_add_72be8_10 rfl (by decide) rfl ?_
    have hbN : zn (zwr (zcpy (znew M b 25 15) e b 10) o 1 (some b)) b = 15 := if_pos rfl
    have hb25 : zc (zwr (zcpy (znew M b 25 15) e b 10) o 1 (some b)) b = 25 := if_pos rfl
    have hv9 : zc (zwr (zcpy (znew M b 25 15) e b 10) o 1 (some b)) v = cv + 1 := (if_neg (fun e9 => by rw [e9] at hv; rw [hv] at hb0; cases hb0)).trans hv
    have ho9 : zc (zwr (zcpy (znew M b 25 15) e b 10) o 1 (some b)) o = 3 := (if_neg (fun e9 => by rw [e9] at ho; rw [ho] at hb0; cases hb0)).trans ho
    refine z_aload_n X 0 dJx4a65c_add_72be8_11 rfl rfl ?_
    refine z_iload_n X 3 dJx4a65c_add_72be8_12 rfl rfl ?_
    refine z_aload_n X 2 dJx4a65c_add_72be8_13 rfl rfl ?_
    refine z_aast X (j := 10) (ci := cv) dJx4a65c_add_72be8_14 hb25 (by rw [hbN]; unfold vp_in; decide) (by decide) hv9 hqv hCv ?_
    refine z_aload_n X 1 dJx4a65c_add_72be8_15 rfl rfl ?_
    refine z_iload_n X 3 dJx4a65c_add_72be8_16 rfl rfl ?_
    refine z_iconst (v := 1) X dJx4a65c_add_72be8_17 (by decide) ?_
    refine z_iadd X dJx4a65c_add_72be8_18 ?_
    refine z_putI (ci := 2) (j := 2) X dJx4a65c_add_72be8_19 ((show zc (zwr (zwr (zcpy (znew M b 25 15) e b 10) o 1 (some b)) b 10 (some v)) o = zc (zwr (zcpy (znew M b 25 15) e b 10) o 1 (some b)) o from rfl).trans ho9) rfl (by decide) hlk_48 (Or.inl rfl) (Or.inl rfl) (fun _ => rfl) rfl rfl ?_
    refine z_vret X rfl (by decide) (by decide) dJx4a65c_add_72be8_22 ?_
    exact ⟨rfl, rfl⟩

set_option maxRecDepth 100000 in
set_option maxHeartbeats 4000000 in
theorem c_add72_15 (l : Launch) (M : zMem) (o e b ci Nc : Nat) (C : String) (Tc : u_T) (hMi : zc M zMi = 19) (ho : zc M o = 3) (hre : zr M o 1 = some e) (hs : zc M e = 25) (hn : zn M e = 15) (hb0 : zc M b = 0) (hb1 : b ≠ zE0) (hb2 : b ≠ zMi) (hq : vwCl[ci]? = some (C, Tc, Nc)) (hC : C ∈ [RX1, RX3, RX4, RX5]) (hel : ∀ j v, j < 15 → zr M e j = some v → zc M v = ci + 1) (hsz : zi M o 2 = 15) (v cv Nv : Nat) (Cv : String) (Tv : u_T) (hv : zc M v = cv + 1) (hqv : vwCl[cv]? = some (Cv, Tv, Nv)) (hCv : Cv ∈ [RX1, RX3, RX4, RX5]) : zS l yJx4a65c_add_72be8 wsJx4a65c_add_72be8 10 178 1 40 [.ref o, .ref v, .ref e, .int 15] M (zpv (fun M1 => M1 = zwi (zwr (zwr (zcpy (znew M b 25 22) e b 15) o 1 (some b)) b 15 (some v)) o 2 (nI (15 + 1)))) zno := by
  refine z_intro (cc := cJx4a65c_add_72be8) (maxL := 4) (ret := none) (by decide +kernel) rfl (Nat.le_of_ble_eq_true rfl) ?_
  have hlk_48 : Cond.fieldLink RJx4a65c 48 "java/util/ArrayList" "size" "I" ∈ wsJx4a65c_add_72be8 := by decide +kernel
  intro g X
  show zE g 4 0 [(0, .ref o), (1, .ref v), (2, .ref e), (3, .int 15)] [] M 0 0
  refine z_iload_n X 3 dJx4a65c_add_72be8_0 rfl rfl ?_
  refine z_aload_n X 2 dJx4a65c_add_72be8_1 rfl rfl ?_
  refine z_alen (t := 5) (v := 15) X dJx4a65c_add_72be8_2 hs (by decide) (by rw [hn]; rfl) ?_
  refine z_icmp_ne X 11 dJx4a65c_add_72be8_3 (by decide) (fun c_3 => ?_) (fun c_3 => ?_)
  · exact absurd c_3 (by decide)
  · skip
    refine z_aload_n X 0 dJx4a65c_add_72be8_6 rfl rfl ?_
    refine z_callVr (As := []) (rest := []) (n1 := 0) (ci := 2) X dJx4a65c_add_72be8_7 (c_growd15 l _ o e b ci Nc C Tc hMi ho hre hs hn hb0 hb1 hb2 hq hC hel hsz) gJx4a65c_add_72be8_Jx4a65c_grow_d5877 rfl rfl (by decide +kernel) ⟨by decide, by decide⟩ ho rfl rfl (Nat.le_of_ble_eq_true rfl) ⟨by decide, by decide⟩ (fun _ h => h.elim) ?_
    rintro _ _ ⟨e8, e9⟩
    rw [e8, e9]
    clear e8 e9
    refine z_astore_n (ls' := [(2, .ref b), (0, .ref o), (1, .ref v), (3, .int 15)]) X dJx4a65c_add_72be8_10 rfl (by decide) rfl ?_
    have hbN : zn (zwr (zcpy (znew M b 25 22) e b 15) o 1 (some b)) b = 22 := if_pos rfl
    have hb25 : zc (zwr (zcpy (znew M b 25 22) e b 15) o 1 (some b)) b = 25 := if_pos rfl
    have hv9 : zc (zwr (zcpy (znew M b 25 22) e b 15) o 1 (some b)) v = cv + 1 := (if_neg (fun e9 => by rw [e9] at hv; rw [hv] at hb0; cases hb0)).trans hv
    have ho9 : zc (zwr (zcpy (znew M b 25 22) e b 15) o 1 (some b)) o = 3 := (if_neg (fun e9 => by rw [e9] at ho; rw [ho] at hb0; cases hb0)).trans ho
    refine z_aload_n X 0 dJx4a65c_add_72be8_11 rfl rfl ?_
    refine z_iload_n X 3 dJx4a65c_add_72be8_12 rfl rfl ?_
    refine z_aload_n X 2 dJx4a65c_add_72be8_13 rfl rfl ?_
    refine z_aast X (j := 15) (ci := cv) dJx4a65c_add_72be8_14 hb25 (by rw [hbN]; unfold vp_in; decide) (by decide) hv9 hqv hCv ?_
    refine z_aload_n X 1 dJx4a65c_add_72be8_15 rfl rfl ?_
    refine z_iload_n X 3 dJx4a65c_add_72be8_16 rfl rfl ?_
    refine z_iconst (v := 1) X dJx4a65c_add_72be8_17 (by decide) ?_
    refine z_iadd X dJx4a65c_add_72be8_18 ?_
    refine z_putI (ci := 2) (j := 2) X dJx4a65c_add_72be8_19 ((show zc (zwr (zwr (zcpy (znew M b 25 22) e b 15) o 1 (some b)) b 15 (some v)) o = zc (zwr (zcpy (znew M b 25 22) e b 15) o 1 (some b)) o from rfl).trans ho9) rfl (by decide) hlk_48 (Or.inl rfl) (Or.inl rfl) (fun _ => rfl) rfl rfl ?_
    refine z_vret X rfl (by decide) (by decide) dJx4a65c_add_72be8_22 ?_
    exact ⟨rfl, rfl⟩

set_option maxRecDepth 100000 in
set_option maxHeartbeats 4000000 in
theorem c_add72_22 (l : Launch) (M : zMem) (o e b ci Nc : Nat) (C : String) (Tc : u_T) (hMi : zc M zMi = 19) (ho : zc M o = 3) (hre : zr M o 1 = some e) (hs : zc M e = 25) (hn : zn M e = 22) (hb0 : zc M b = 0) (hb1 : b ≠ zE0) (hb2 : b ≠ zMi) (hq : vwCl[ci]? = some (C, Tc, Nc)) (hC : C ∈ [RX1, RX3, RX4, RX5]) (hel : ∀ j v, j < 22 → zr M e j = some v → zc M v = ci + 1) (hsz : zi M o 2 = 22) (v cv Nv : Nat) (Cv : String) (Tv : u_T) (hv : zc M v = cv + 1) (hqv : vwCl[cv]? = some (Cv, Tv, Nv)) (hCv : Cv ∈ [RX1, RX3, RX4, RX5]) : zS l yJx4a65c_add_72be8 wsJx4a65c_add_72be8 10 178 1 40 [.ref o, .ref v, .ref e, .int 22] M (zpv (fun M1 => M1 = zwi (zwr (zwr (zcpy (znew M b 25 33) e b 22) o 1 (some b)) b 22 (some v)) o 2 (nI (22 + 1)))) zno := by
  refine z_intro (cc := cJx4a65c_add_72be8) (maxL := 4) (ret := none) (by decide +kernel) rfl (Nat.le_of_ble_eq_true rfl) ?_
  have hlk_48 : Cond.fieldLink RJx4a65c 48 "java/util/ArrayList" "size" "I" ∈ wsJx4a65c_add_72be8 := by decide +kernel
  intro g X
  show zE g 4 0 [(0, .ref o), (1, .ref v), (2, .ref e), (3, .int 22)] [] M 0 0
  refine z_iload_n X 3 dJx4a65c_add_72be8_0 rfl rfl ?_
  refine z_aload_n X 2 dJx4a65c_add_72be8_1 rfl rfl ?_
  refine z_alen (t := 5) (v := 22) X dJx4a65c_add_72be8_2 hs (by decide) (by rw [hn]; rfl) ?_
  refine z_icmp_ne X 11 dJx4a65c_add_72be8_3 (by decide) (fun c_3 => ?_) (fun c_3 => ?_)
  · exact absurd c_3 (by decide)
  · skip
    refine z_aload_n X 0 dJx4a65c_add_72be8_6 rfl rfl ?_
    refine z_callVr (As := []) (rest := []) (n1 := 0) (ci := 2) X dJx4a65c_add_72be8_7 (c_growd22 l _ o e b ci Nc C Tc hMi ho hre hs hn hb0 hb1 hb2 hq hC hel hsz) gJx4a65c_add_72be8_Jx4a65c_grow_d5877 rfl rfl (by decide +kernel) ⟨by decide, by decide⟩ ho rfl rfl (Nat.le_of_ble_eq_true rfl) ⟨by decide, by decide⟩ (fun _ h => h.elim) ?_
    rintro _ _ ⟨e8, e9⟩
    rw [e8, e9]
    clear e8 e9
    refine z_astore_n (ls' := [(2, .ref b), (0, .ref o), (1, .ref v), (3, .int 22)]) X dJx4a65c_add_72be8_10 rfl (by decide) rfl ?_
    have hbN : zn (zwr (zcpy (znew M b 25 33) e b 22) o 1 (some b)) b = 33 := if_pos rfl
    have hb25 : zc (zwr (zcpy (znew M b 25 33) e b 22) o 1 (some b)) b = 25 := if_pos rfl
    have hv9 : zc (zwr (zcpy (znew M b 25 33) e b 22) o 1 (some b)) v = cv + 1 := (if_neg (fun e9 => by rw [e9] at hv; rw [hv] at hb0; cases hb0)).trans hv
    have ho9 : zc (zwr (zcpy (znew M b 25 33) e b 22) o 1 (some b)) o = 3 := (if_neg (fun e9 => by rw [e9] at ho; rw [ho] at hb0; cases hb0)).trans ho
    refine z_aload_n X 0 dJx4a65c_add_72be8_11 rfl rfl ?_
    refine z_iload_n X 3 dJx4a65c_add_72be8_12 rfl rfl ?_
    refine z_aload_n X 2 dJx4a65c_add_72be8_13 rfl rfl ?_
    refine z_aast X (j := 22) (ci := cv) dJx4a65c_add_72be8_14 hb25 (by rw [hbN]; unfold vp_in; decide) (by decide) hv9 hqv hCv ?_
    refine z_aload_n X 1 dJx4a65c_add_72be8_15 rfl rfl ?_
    refine z_iload_n X 3 dJx4a65c_add_72be8_16 rfl rfl ?_
    refine z_iconst (v := 1) X dJx4a65c_add_72be8_17 (by decide) ?_
    refine z_iadd X dJx4a65c_add_72be8_18 ?_
    refine z_putI (ci := 2) (j := 2) X dJx4a65c_add_72be8_19 ((show zc (zwr (zwr (zcpy (znew M b 25 33) e b 22) o 1 (some b)) b 22 (some v)) o = zc (zwr (zcpy (znew M b 25 33) e b 22) o 1 (some b)) o from rfl).trans ho9) rfl (by decide) hlk_48 (Or.inl rfl) (Or.inl rfl) (fun _ => rfl) rfl rfl ?_
    refine z_vret X rfl (by decide) (by decide) dJx4a65c_add_72be8_22 ?_
    exact ⟨rfl, rfl⟩

set_option maxRecDepth 100000 in
set_option maxHeartbeats 4000000 in
theorem c_add0_A (l : Launch) (n : Nat → Nat) (i x : Nat → Nat → Int32) (lm : Nat → Nat → Int64) (y : Nat → Nat → Nat) (ol : Int64) (od : UInt64) (k : Nat) (hk : n 5 = k) (hlv : k < n 0) (h0 : k ≠ 0) (hkc : k < ccap k) : zS l yJx4a65c_add_9ea2d wsJx4a65c_add_9ea2d 11 201 1 40 [.ref 2, .ref (32 * k + 8)] (cmm n i x lm y ol od) (zpi (fun r M1 => M1 = cmm (nup n 5 (k + 1)) i x lm y ol od)) zno := by
  refine z_intro (cc := cJx4a65c_add_9ea2d) (maxL := 2) (ret := (some .boolean)) (by decide +kernel) rfl (Nat.le_of_ble_eq_true rfl) ?_
  have hlk_63 : Cond.fieldLink RJx4a65c 63 "java/util/ArrayList" "modCount" "I" ∈ wsJx4a65c_add_9ea2d := by decide +kernel
  have hlk_9 : Cond.fieldLink RJx4a65c 9 "java/util/ArrayList" "elementData" "[Ljava/lang/Object;" ∈ wsJx4a65c_add_9ea2d := by decide +kernel
  have hlk_48 : Cond.fieldLink RJx4a65c 48 "java/util/ArrayList" "size" "I" ∈ wsJx4a65c_add_9ea2d := by decide +kernel
  intro g X
  show zE g 2 0 [(0, .ref 2), (1, .ref (32 * k + 8))] [] (cmm n i x lm y ol od) 0 0
  have hkl : n (5 + 0) = k := hk
  have ho0 : zc (cmm n i x lm y ol od) 2 = 3 := ck_2 (j := 0) (by decide)
  have hm0 : zi (cmm n i x lm y ol od) 2 0 = nI k := ((show zi (cmm n i x lm y ol od) 2 0 = nI (n (5 + 0)) from ci_2_0 (j := 0)).trans (congrArg nI hkl))
  have ho1 : zc (zwi (cmm n i x lm y ol od) 2 0 (nI (k + 1))) 2 = 3 := ho0
  have hr1 : zr (zwi (cmm n i x lm y ol od) 2 0 (nI (k + 1))) 2 1 = some (cRow n 0) := (show zr (cmm n i x lm y ol od) 2 1 = some (cRow n 0) from cr_2_1 (j := 0))
  have hsz : zi (zwi (cmm n i x lm y ol od) 2 0 (nI (k + 1))) 2 2 = nI k := (zup_n (f := zi (cmm n i x lm y ol od)) (a := 2) (b := 0) (x := nI (k + 1)) (p := 2) (q := 2) (by decide)).trans (((show zi (cmm n i x lm y ol od) 2 2 = nI (n (5 + 0)) from ci_2_2 (j := 0)).trans (congrArg nI hkl)))
  refine z_aload_n X 0 dJx4a65c_add_9ea2d_0 rfl rfl ?_
  refine z_dup X dJx4a65c_add_9ea2d_1 rfl ?_
  refine z_getI (ci := 2) (j := 0) (x := nI k) X dJx4a65c_add_9ea2d_2 ho0 rfl (by decide) hlk_63 (Or.inr (by decide +kernel)) (fun _ => rfl) (hm0) ?_
  refine z_iconst (v := 1) X dJx4a65c_add_9ea2d_5 (by decide) ?_
  refine z_iadd X dJx4a65c_add_9ea2d_6 ?_
  refine z_putI (ci := 2) (j := 0) X dJx4a65c_add_9ea2d_7 ho0 rfl (by decide) hlk_63 (Or.inr (by decide +kernel)) (Or.inl rfl) (fun _ => rfl) rfl rfl ?_
  refine z_mem (M' := zwi (cmm n i x lm y ol od) 2 0 (nI (k + 1))) (by rw [nI_1]) ?_
  refine z_aload_n X 0 dJx4a65c_add_9ea2d_10 rfl rfl ?_
  refine z_aload_n X 1 dJx4a65c_add_9ea2d_11 rfl rfl ?_
  refine z_aload_n X 0 dJx4a65c_add_9ea2d_12 rfl rfl ?_
  refine z_getR (ci := 2) (j := 1) (o' := cRow n 0) X dJx4a65c_add_9ea2d_13 ho1 rfl (by decide) hlk_9 (Or.inl rfl) (fun _ => rfl) (hr1) ?_
  refine z_aload_n X 0 dJx4a65c_add_9ea2d_16 rfl rfl ?_
  refine z_getI (ci := 2) (j := 2) (x := nI k) X dJx4a65c_add_9ea2d_17 ho1 rfl (by decide) hlk_48 (Or.inl rfl) (fun _ => rfl) (hsz) ?_
  have hv0 : zc (zwi (cmm n i x lm y ol od) 2 0 (nI (k + 1))) (32 * k + 8) = 8 + 1 := (congrFun (show zc (zwi (cmm n i x lm y ol od) 2 0 (nI (k + 1))) = zc (cmm n i x lm y ol od) from rfl) _).trans (ck_8 hlv)
  have hne : n (5 + 0) ≠ 0 := by rw [hkl]; exact h0
  have hs0 : zc (cmm n i x lm y ol od) (cRow n 0) = 25 := ck_row (j := 0) (by decide) hne
  have hn0 : zn (cmm n i x lm y ol od) (cRow n 0) = ccap k := (cn_row (j := 0) (by decide) hne).trans (congrArg ccap hkl)
  have hcall := c_add72A l (zwi (cmm n i x lm y ol od) 2 0 (nI (k + 1))) 2 (cRow n 0) k (ccap k) ho1 hs0 hn0 hkc (ccap_33 _) (32 * k + 8) 8 _ _ _ hv0 rfl (by decide)
  refine z_callVv (As := [.ref (32 * k + 8), .ref (cRow n 0), .int (nI k)]) (rest := []) (n1 := 3) (ci := 2) X dJx4a65c_add_9ea2d_20 hcall gJx4a65c_add_9ea2d_Jx4a65c_add_72be8 rfl rfl (by decide +kernel) ⟨by decide, by decide⟩ ho1 rfl rfl (Nat.le_of_ble_eq_true rfl) ⟨by decide, by decide⟩ (fun _ h => h.elim) ?_
  rintro _ ⟨rfl, rfl⟩
  refine z_iconst (v := 1) X dJx4a65c_add_9ea2d_23 (by decide) ?_
  refine z_memq (zq_addA (l := 0) (by decide) hk h0 hkc) ?_
  refine z_iret X rfl (rfl) (by decide) (by decide) dJx4a65c_add_9ea2d_24 ?_
  exact ⟨_, rfl, rfl⟩

set_option maxRecDepth 100000 in
set_option maxHeartbeats 4000000 in
theorem c_add0_0 (l : Launch) (n : Nat → Nat) (i x : Nat → Nat → Int32) (lm : Nat → Nat → Int64) (y : Nat → Nat → Nat) (ol : Int64) (od : UInt64) (hk : n 5 = 0) (hlv : 0 < n 0) : zS l yJx4a65c_add_9ea2d wsJx4a65c_add_9ea2d 11 201 1 40 [.ref 2, .ref (32 * 0 + 8)] (cmm n i x lm y ol od) (zpi (fun r M1 => M1 = cmm (nup n 5 (0 + 1)) i x lm y ol od)) zno := by
  refine z_intro (cc := cJx4a65c_add_9ea2d) (maxL := 2) (ret := (some .boolean)) (by decide +kernel) rfl (Nat.le_of_ble_eq_true rfl) ?_
  have hlk_63 : Cond.fieldLink RJx4a65c 63 "java/util/ArrayList" "modCount" "I" ∈ wsJx4a65c_add_9ea2d := by decide +kernel
  have hlk_9 : Cond.fieldLink RJx4a65c 9 "java/util/ArrayList" "elementData" "[Ljava/lang/Object;" ∈ wsJx4a65c_add_9ea2d := by decide +kernel
  have hlk_48 : Cond.fieldLink RJx4a65c 48 "java/util/ArrayList" "size" "I" ∈ wsJx4a65c_add_9ea2d := by decide +kernel
  intro g X
  show zE g 2 0 [(0, .ref 2), (1, .ref (32 * 0 + 8))] [] (cmm n i x lm y ol od) 0 0
  have hkl : n (5 + 0) = 0 := hk
  have ho0 : zc (cmm n i x lm y ol od) 2 = 3 := ck_2 (j := 0) (by decide)
  have hm0 : zi (cmm n i x lm y ol od) 2 0 = 0 := ((show zi (cmm n i x lm y ol od) 2 0 = nI (n (5 + 0)) from ci_2_0 (j := 0)).trans (congrArg nI hkl)).trans (show nI 0 = 0 from by decide)
  have ho1 : zc (zwi (cmm n i x lm y ol od) 2 0 (nI (0 + 1))) 2 = 3 := ho0
  have hr1 : zr (zwi (cmm n i x lm y ol od) 2 0 (nI (0 + 1))) 2 1 = some 31 := (show zr (cmm n i x lm y ol od) 2 1 = some (cRow n 0) from cr_2_1 (j := 0)).trans (congrArg some (if_pos hkl))
  have hsz : zi (zwi (cmm n i x lm y ol od) 2 0 (nI (0 + 1))) 2 2 = 0 := (zup_n (f := zi (cmm n i x lm y ol od)) (a := 2) (b := 0) (x := nI (0 + 1)) (p := 2) (q := 2) (by decide)).trans (((show zi (cmm n i x lm y ol od) 2 2 = nI (n (5 + 0)) from ci_2_2 (j := 0)).trans (congrArg nI hkl)).trans (show nI 0 = 0 from by decide))
  refine z_aload_n X 0 dJx4a65c_add_9ea2d_0 rfl rfl ?_
  refine z_dup X dJx4a65c_add_9ea2d_1 rfl ?_
  refine z_getI (ci := 2) (j := 0) (x := 0) X dJx4a65c_add_9ea2d_2 ho0 rfl (by decide) hlk_63 (Or.inr (by decide +kernel)) (fun _ => rfl) (hm0) ?_
  refine z_iconst (v := 1) X dJx4a65c_add_9ea2d_5 (by decide) ?_
  refine z_iadd X dJx4a65c_add_9ea2d_6 ?_
  refine z_putI (ci := 2) (j := 0) X dJx4a65c_add_9ea2d_7 ho0 rfl (by decide) hlk_63 (Or.inr (by decide +kernel)) (Or.inl rfl) (fun _ => rfl) rfl rfl ?_
  refine z_mem (M' := zwi (cmm n i x lm y ol od) 2 0 (nI (0 + 1))) (by rw [show (0 + 1 : Int32) = nI (0 + 1) from by decide]) ?_
  refine z_aload_n X 0 dJx4a65c_add_9ea2d_10 rfl rfl ?_
  refine z_aload_n X 1 dJx4a65c_add_9ea2d_11 rfl rfl ?_
  refine z_aload_n X 0 dJx4a65c_add_9ea2d_12 rfl rfl ?_
  refine z_getR (ci := 2) (j := 1) (o' := 31) X dJx4a65c_add_9ea2d_13 ho1 rfl (by decide) hlk_9 (Or.inl rfl) (fun _ => rfl) (hr1) ?_
  refine z_aload_n X 0 dJx4a65c_add_9ea2d_16 rfl rfl ?_
  refine z_getI (ci := 2) (j := 2) (x := 0) X dJx4a65c_add_9ea2d_17 ho1 rfl (by decide) hlk_48 (Or.inl rfl) (fun _ => rfl) (hsz) ?_
  have hb0 : zc (zwi (cmm n i x lm y ol od) 2 0 (nI (0 + 1))) (32 * (4 * 10 + 0) + 3) = 0 := (congrFun (show zc (zwi (cmm n i x lm y ol od) 2 0 (nI (0 + 1))) = zc (cmm n i x lm y ol od) from rfl) _).trans ((show zc (cmm n i x lm y ol od) (32 * (4 * 10 + 0) + 3) = cC n 3 (4 * 10 + 0) from c_c (t := 3) (by decide)).trans (if_neg (fun e9 => by
    have e8 := e9.2
    rw [show (4 * 10 + 0) % 4 = 0 from rfl, show n (5 + 0) = 0 from hk] at e8
    exact absurd e8 (by decide))))
  have hre0 : zr (zwi (cmm n i x lm y ol od) 2 0 (nI (0 + 1))) 2 1 = some zE0 := hr1
  have hv0 : zc (zwi (cmm n i x lm y ol od) 2 0 (nI (0 + 1))) (32 * 0 + 8) = 8 + 1 := (congrFun (show zc (zwi (cmm n i x lm y ol od) 2 0 (nI (0 + 1))) = zc (cmm n i x lm y ol od) from rfl) _).trans (ck_8 hlv)
  have hE9 : zc (zwi (cmm n i x lm y ol od) 2 0 (nI (0 + 1))) zE0 = 26 := (ck_31 : zc (cmm n i x lm y ol od) 31 = 26)
  have hcall := c_add72_0 l (zwi (cmm n i x lm y ol od) 2 0 (nI (0 + 1))) 2 (32 * (4 * 10 + 0) + 3) hE9 ho1 hr1 rfl hb0 (by decide) (by decide) hsz (32 * 0 + 8) 8 _ _ _ hv0 rfl (by decide)
  refine z_callVv (As := [.ref (32 * 0 + 8), .ref 31, .int 0]) (rest := []) (n1 := 3) (ci := 2) X dJx4a65c_add_9ea2d_20 hcall gJx4a65c_add_9ea2d_Jx4a65c_add_72be8 rfl rfl (by decide +kernel) ⟨by decide, by decide⟩ ho1 rfl rfl (Nat.le_of_ble_eq_true rfl) ⟨by decide, by decide⟩ (fun _ h => h.elim) ?_
  rintro _ ⟨rfl, rfl⟩
  refine z_iconst (v := 1) X dJx4a65c_add_9ea2d_23 (by decide) ?_
  refine z_memq (zcpy_0 (M := znew (zwi (cmm n i x lm y ol od) 2 0 (nI (0 + 1))) (32 * (4 * 10 + 0) + 3) 25 10) (a := cRow n 0) (b := 32 * (4 * 10 + 0) + 3) ▸ zq_addB (l := 0) (k := 0) (N := 10) (by decide) hk (by decide)) ?_
  refine z_iret X rfl (rfl) (by decide) (by decide) dJx4a65c_add_9ea2d_24 ?_
  exact ⟨_, rfl, rfl⟩

theorem c_add0 (l : Launch) (n : Nat → Nat) (i x : Nat → Nat → Int32) (lm : Nat → Nat → Int64) (y : Nat → Nat → Nat) (ol : Int64) (od : UInt64) (k : Nat) (hk : n 5 = k) (hlv : k < n 0) (hmx : k < 4) : zS l yJx4a65c_add_9ea2d wsJx4a65c_add_9ea2d 11 201 1 40 [.ref 2, .ref (32 * k + 8)] (cmm n i x lm y ol od) (zpi (fun r M1 => M1 = cmm (nup n 5 (k + 1)) i x lm y ol od)) zno := by
  by_cases h0 : k = 0
  · subst h0
    exact c_add0_0 l _ _ _ _ _ _ _ hk hlv
  exact c_add0_A l _ _ _ _ _ _ _ k hk hlv h0 (by unfold ccap; (repeat' split) <;> omega)

set_option maxRecDepth 100000 in
set_option maxHeartbeats 4000000 in
theorem c_add1_A (l : Launch) (n : Nat → Nat) (i x : Nat → Nat → Int32) (lm : Nat → Nat → Int64) (y : Nat → Nat → Nat) (ol : Int64) (od : UInt64) (k : Nat) (hk : n 6 = k) (hlv : k < n 1) (h0 : k ≠ 0) (hkc : k < ccap k) : zS l yJx4a65c_add_9ea2d wsJx4a65c_add_9ea2d 11 201 1 40 [.ref 34, .ref (32 * k + 10)] (cmm n i x lm y ol od) (zpi (fun r M1 => M1 = cmm (nup n 6 (k + 1)) i x lm y ol od)) zno := by
  refine z_intro (cc := cJx4a65c_add_9ea2d) (maxL := 2) (ret := (some .boolean)) (by decide +kernel) rfl (Nat.le_of_ble_eq_true rfl) ?_
  have hlk_63 : Cond.fieldLink RJx4a65c 63 "java/util/ArrayList" "modCount" "I" ∈ wsJx4a65c_add_9ea2d := by decide +kernel
  have hlk_9 : Cond.fieldLink RJx4a65c 9 "java/util/ArrayList" "elementData" "[Ljava/lang/Object;" ∈ wsJx4a65c_add_9ea2d := by decide +kernel
  have hlk_48 : Cond.fieldLink RJx4a65c 48 "java/util/ArrayList" "size" "I" ∈ wsJx4a65c_add_9ea2d := by decide +kernel
  intro g X
  show zE g 2 0 [(0, .ref 34), (1, .ref (32 * k + 10))] [] (cmm n i x lm y ol od) 0 0
  have hkl : n (5 + 1) = k := hk
  have ho0 : zc (cmm n i x lm y ol od) 34 = 3 := ck_2 (j := 1) (by decide)
  have hm0 : zi (cmm n i x lm y ol od) 34 0 = nI k := ((show zi (cmm n i x lm y ol od) 34 0 = nI (n (5 + 1)) from ci_2_0 (j := 1)).trans (congrArg nI hkl))
  have ho1 : zc (zwi (cmm n i x lm y ol od) 34 0 (nI (k + 1))) 34 = 3 := ho0
  have hr1 : zr (zwi (cmm n i x lm y ol od) 34 0 (nI (k + 1))) 34 1 = some (cRow n 1) := (show zr (cmm n i x lm y ol od) 34 1 = some (cRow n 1) from cr_2_1 (j := 1))
  have hsz : zi (zwi (cmm n i x lm y ol od) 34 0 (nI (k + 1))) 34 2 = nI k := (zup_n (f := zi (cmm n i x lm y ol od)) (a := 34) (b := 0) (x := nI (k + 1)) (p := 34) (q := 2) (by decide)).trans (((show zi (cmm n i x lm y ol od) 34 2 = nI (n (5 + 1)) from ci_2_2 (j := 1)).trans (congrArg nI hkl)))
  refine z_aload_n X 0 dJx4a65c_add_9ea2d_0 rfl rfl ?_
  refine z_dup X dJx4a65c_add_9ea2d_1 rfl ?_
  refine z_getI (ci := 2) (j := 0) (x := nI k) X dJx4a65c_add_9ea2d_2 ho0 rfl (by decide) hlk_63 (Or.inr (by decide +kernel)) (fun _ => rfl) (hm0) ?_
  refine z_iconst (v := 1) X dJx4a65c_add_9ea2d_5 (by decide) ?_
  refine z_iadd X dJx4a65c_add_9ea2d_6 ?_
  refine z_putI (ci := 2) (j := 0) X dJx4a65c_add_9ea2d_7 ho0 rfl (by decide) hlk_63 (Or.inr (by decide +kernel)) (Or.inl rfl) (fun _ => rfl) rfl rfl ?_
  refine z_mem (M' := zwi (cmm n i x lm y ol od) 34 0 (nI (k + 1))) (by rw [nI_1]) ?_
  refine z_aload_n X 0 dJx4a65c_add_9ea2d_10 rfl rfl ?_
  refine z_aload_n X 1 dJx4a65c_add_9ea2d_11 rfl rfl ?_
  refine z_aload_n X 0 dJx4a65c_add_9ea2d_12 rfl rfl ?_
  refine z_getR (ci := 2) (j := 1) (o' := cRow n 1) X dJx4a65c_add_9ea2d_13 ho1 rfl (by decide) hlk_9 (Or.inl rfl) (fun _ => rfl) (hr1) ?_
  refine z_aload_n X 0 dJx4a65c_add_9ea2d_16 rfl rfl ?_
  refine z_getI (ci := 2) (j := 2) (x := nI k) X dJx4a65c_add_9ea2d_17 ho1 rfl (by decide) hlk_48 (Or.inl rfl) (fun _ => rfl) (hsz) ?_
  have hv0 : zc (zwi (cmm n i x lm y ol od) 34 0 (nI (k + 1))) (32 * k + 10) = 4 + 1 := (congrFun (show zc (zwi (cmm n i x lm y ol od) 34 0 (nI (k + 1))) = zc (cmm n i x lm y ol od) from rfl) _).trans (ck_10 hlv)
  have hne : n (5 + 1) ≠ 0 := by rw [hkl]; exact h0
  have hs0 : zc (cmm n i x lm y ol od) (cRow n 1) = 25 := ck_row (j := 1) (by decide) hne
  have hn0 : zn (cmm n i x lm y ol od) (cRow n 1) = ccap k := (cn_row (j := 1) (by decide) hne).trans (congrArg ccap hkl)
  have hcall := c_add72A l (zwi (cmm n i x lm y ol od) 34 0 (nI (k + 1))) 34 (cRow n 1) k (ccap k) ho1 hs0 hn0 hkc (ccap_33 _) (32 * k + 10) 4 _ _ _ hv0 rfl (by decide)
  refine z_callVv (As := [.ref (32 * k + 10), .ref (cRow n 1), .int (nI k)]) (rest := []) (n1 := 3) (ci := 2) X dJx4a65c_add_9ea2d_20 hcall gJx4a65c_add_9ea2d_Jx4a65c_add_72be8 rfl rfl (by decide +kernel) ⟨by decide, by decide⟩ ho1 rfl rfl (Nat.le_of_ble_eq_true rfl) ⟨by decide, by decide⟩ (fun _ h => h.elim) ?_
  rintro _ ⟨rfl, rfl⟩
  refine z_iconst (v := 1) X dJx4a65c_add_9ea2d_23 (by decide) ?_
  refine z_memq (zq_addA (l := 1) (by decide) hk h0 hkc) ?_
  refine z_iret X rfl (rfl) (by decide) (by decide) dJx4a65c_add_9ea2d_24 ?_
  exact ⟨_, rfl, rfl⟩

set_option maxRecDepth 100000 in
set_option maxHeartbeats 4000000 in
theorem c_add1_0 (l : Launch) (n : Nat → Nat) (i x : Nat → Nat → Int32) (lm : Nat → Nat → Int64) (y : Nat → Nat → Nat) (ol : Int64) (od : UInt64) (hk : n 6 = 0) (hlv : 0 < n 1) : zS l yJx4a65c_add_9ea2d wsJx4a65c_add_9ea2d 11 201 1 40 [.ref 34, .ref (32 * 0 + 10)] (cmm n i x lm y ol od) (zpi (fun r M1 => M1 = cmm (nup n 6 (0 + 1)) i x lm y ol od)) zno := by
  refine z_intro (cc := cJx4a65c_add_9ea2d) (maxL := 2) (ret := (some .boolean)) (by decide +kernel) rfl (Nat.le_of_ble_eq_true rfl) ?_
  have hlk_63 : Cond.fieldLink RJx4a65c 63 "java/util/ArrayList" "modCount" "I" ∈ wsJx4a65c_add_9ea2d := by decide +kernel
  have hlk_9 : Cond.fieldLink RJx4a65c 9 "java/util/ArrayList" "elementData" "[Ljava/lang/Object;" ∈ wsJx4a65c_add_9ea2d := by decide +kernel
  have hlk_48 : Cond.fieldLink RJx4a65c 48 "java/util/ArrayList" "size" "I" ∈ wsJx4a65c_add_9ea2d := by decide +kernel
  intro g X
  show zE g 2 0 [(0, .ref 34), (1, .ref (32 * 0 + 10))] [] (cmm n i x lm y ol od) 0 0
  have hkl : n (5 + 1) = 0 := hk
  have ho0 : zc (cmm n i x lm y ol od) 34 = 3 := ck_2 (j := 1) (by decide)
  have hm0 : zi (cmm n i x lm y ol od) 34 0 = 0 := ((show zi (cmm n i x lm y ol od) 34 0 = nI (n (5 + 1)) from ci_2_0 (j := 1)).trans (congrArg nI hkl)).trans (show nI 0 = 0 from by decide)
  have ho1 : zc (zwi (cmm n i x lm y ol od) 34 0 (nI (0 + 1))) 34 = 3 := ho0
  have hr1 : zr (zwi (cmm n i x lm y ol od) 34 0 (nI (0 + 1))) 34 1 = some 31 := (show zr (cmm n i x lm y ol od) 34 1 = some (cRow n 1) from cr_2_1 (j := 1)).trans (congrArg some (if_pos hkl))
  have hsz : zi (zwi (cmm n i x lm y ol od) 34 0 (nI (0 + 1))) 34 2 = 0 := (zup_n (f := zi (cmm n i x lm y ol od)) (a := 34) (b := 0) (x := nI (0 + 1)) (p := 34) (q := 2) (by decide)).trans (((show zi (cmm n i x lm y ol od) 34 2 = nI (n (5 + 1)) from ci_2_2 (j := 1)).trans (congrArg nI hkl)).trans (show nI 0 = 0 from by decide))
  refine z_aload_n X 0 dJx4a65c_add_9ea2d_0 rfl rfl ?_
  refine z_dup X dJx4a65c_add_9ea2d_1 rfl ?_
  refine z_getI (ci := 2) (j := 0) (x := 0) X dJx4a65c_add_9ea2d_2 ho0 rfl (by decide) hlk_63 (Or.inr (by decide +kernel)) (fun _ => rfl) (hm0) ?_
  refine z_iconst (v := 1) X dJx4a65c_add_9ea2d_5 (by decide) ?_
  refine z_iadd X dJx4a65c_add_9ea2d_6 ?_
  refine z_putI (ci := 2) (j := 0) X dJx4a65c_add_9ea2d_7 ho0 rfl (by decide) hlk_63 (Or.inr (by decide +kernel)) (Or.inl rfl) (fun _ => rfl) rfl rfl ?_
  refine z_mem (M' := zwi (cmm n i x lm y ol od) 34 0 (nI (0 + 1))) (by rw [show (0 + 1 : Int32) = nI (0 + 1) from by decide]) ?_
  refine z_aload_n X 0 dJx4a65c_add_9ea2d_10 rfl rfl ?_
  refine z_aload_n X 1 dJx4a65c_add_9ea2d_11 rfl rfl ?_
  refine z_aload_n X 0 dJx4a65c_add_9ea2d_12 rfl rfl ?_
  refine z_getR (ci := 2) (j := 1) (o' := 31) X dJx4a65c_add_9ea2d_13 ho1 rfl (by decide) hlk_9 (Or.inl rfl) (fun _ => rfl) (hr1) ?_
  refine z_aload_n X 0 dJx4a65c_add_9ea2d_16 rfl rfl ?_
  refine z_getI (ci := 2) (j := 2) (x := 0) X dJx4a65c_add_9ea2d_17 ho1 rfl (by decide) hlk_48 (Or.inl rfl) (fun _ => rfl) (hsz) ?_
  have hb0 : zc (zwi (cmm n i x lm y ol od) 34 0 (nI (0 + 1))) (32 * (4 * 10 + 1) + 3) = 0 := (congrFun (show zc (zwi (cmm n i x lm y ol od) 34 0 (nI (0 + 1))) = zc (cmm n i x lm y ol od) from rfl) _).trans ((show zc (cmm n i x lm y ol od) (32 * (4 * 10 + 1) + 3) = cC n 3 (4 * 10 + 1) from c_c (t := 3) (by decide)).trans (if_neg (fun e9 => by
    have e8 := e9.2
    rw [show (4 * 10 + 1) % 4 = 1 from rfl, show n (5 + 1) = 0 from hk] at e8
    exact absurd e8 (by decide))))
  have hre0 : zr (zwi (cmm n i x lm y ol od) 34 0 (nI (0 + 1))) 34 1 = some zE0 := hr1
  have hv0 : zc (zwi (cmm n i x lm y ol od) 34 0 (nI (0 + 1))) (32 * 0 + 10) = 4 + 1 := (congrFun (show zc (zwi (cmm n i x lm y ol od) 34 0 (nI (0 + 1))) = zc (cmm n i x lm y ol od) from rfl) _).trans (ck_10 hlv)
  have hE9 : zc (zwi (cmm n i x lm y ol od) 34 0 (nI (0 + 1))) zE0 = 26 := (ck_31 : zc (cmm n i x lm y ol od) 31 = 26)
  have hcall := c_add72_0 l (zwi (cmm n i x lm y ol od) 34 0 (nI (0 + 1))) 34 (32 * (4 * 10 + 1) + 3) hE9 ho1 hr1 rfl hb0 (by decide) (by decide) hsz (32 * 0 + 10) 4 _ _ _ hv0 rfl (by decide)
  refine z_callVv (As := [.ref (32 * 0 + 10), .ref 31, .int 0]) (rest := []) (n1 := 3) (ci := 2) X dJx4a65c_add_9ea2d_20 hcall gJx4a65c_add_9ea2d_Jx4a65c_add_72be8 rfl rfl (by decide +kernel) ⟨by decide, by decide⟩ ho1 rfl rfl (Nat.le_of_ble_eq_true rfl) ⟨by decide, by decide⟩ (fun _ h => h.elim) ?_
  rintro _ ⟨rfl, rfl⟩
  refine z_iconst (v := 1) X dJx4a65c_add_9ea2d_23 (by decide) ?_
  refine z_memq (zcpy_0 (M := znew (zwi (cmm n i x lm y ol od) 34 0 (nI (0 + 1))) (32 * (4 * 10 + 1) + 3) 25 10) (a := cRow n 1) (b := 32 * (4 * 10 + 1) + 3) ▸ zq_addB (l := 1) (k := 0) (N := 10) (by decide) hk (by decide)) ?_
  refine z_iret X rfl (rfl) (by decide) (by decide) dJx4a65c_add_9ea2d_24 ?_
  exact ⟨_, rfl, rfl⟩

theorem c_add1 (l : Launch) (n : Nat → Nat) (i x : Nat → Nat → Int32) (lm : Nat → Nat → Int64) (y : Nat → Nat → Nat) (ol : Int64) (od : UInt64) (k : Nat) (hk : n 6 = k) (hlv : k < n 1) (hmx : k < 5) : zS l yJx4a65c_add_9ea2d wsJx4a65c_add_9ea2d 11 201 1 40 [.ref 34, .ref (32 * k + 10)] (cmm n i x lm y ol od) (zpi (fun r M1 => M1 = cmm (nup n 6 (k + 1)) i x lm y ol od)) zno := by
  by_cases h0 : k = 0
  · subst h0
    exact c_add1_0 l _ _ _ _ _ _ _ hk hlv
  exact c_add1_A l _ _ _ _ _ _ _ k hk hlv h0 (by unfold ccap; (repeat' split) <;> omega)

set_option maxRecDepth 100000 in
set_option maxHeartbeats 4000000 in
theorem c_add2_A (l : Launch) (n : Nat → Nat) (i x : Nat → Nat → Int32) (lm : Nat → Nat → Int64) (y : Nat → Nat → Nat) (ol : Int64) (od : UInt64) (k : Nat) (hk : n 7 = k) (hlv : k < n 2) (h0 : k ≠ 0) (hkc : k < ccap k) : zS l yJx4a65c_add_9ea2d wsJx4a65c_add_9ea2d 11 201 1 40 [.ref 66, .ref (32 * k + 11)] (cmm n i x lm y ol od) (zpi (fun r M1 => M1 = cmm (nup n 7 (k + 1)) i x lm y ol od)) zno := by
  refine z_intro (cc := cJx4a65c_add_9ea2d) (maxL := 2) (ret := (some .boolean)) (by decide +kernel) rfl (Nat.le_of_ble_eq_true rfl) ?_
  have hlk_63 : Cond.fieldLink RJx4a65c 63 "java/util/ArrayList" "modCount" "I" ∈ wsJx4a65c_add_9ea2d := by decide +kernel
  have hlk_9 : Cond.fieldLink RJx4a65c 9 "java/util/ArrayList" "elementData" "[Ljava/lang/Object;" ∈ wsJx4a65c_add_9ea2d := by decide +kernel
  have hlk_48 : Cond.fieldLink RJx4a65c 48 "java/util/ArrayList" "size" "I" ∈ wsJx4a65c_add_9ea2d := by decide +kernel
  intro g X
  show zE g 2 0 [(0, .ref 66), (1, .ref (32 * k + 11))] [] (cmm n i x lm y ol od) 0 0
  have hkl : n (5 + 2) = k := hk
  have ho0 : zc (cmm n i x lm y ol od) 66 = 3 := ck_2 (j := 2) (by decide)
  have hm0 : zi (cmm n i x lm y ol od) 66 0 = nI k := ((show zi (cmm n i x lm y ol od) 66 0 = nI (n (5 + 2)) from ci_2_0 (j := 2)).trans (congrArg nI hkl))
  have ho1 : zc (zwi (cmm n i x lm y ol od) 66 0 (nI (k + 1))) 66 = 3 := ho0
  have hr1 : zr (zwi (cmm n i x lm y ol od) 66 0 (nI (k + 1))) 66 1 = some (cRow n 2) := (show zr (cmm n i x lm y ol od) 66 1 = some (cRow n 2) from cr_2_1 (j := 2))
  have hsz : zi (zwi (cmm n i x lm y ol od) 66 0 (nI (k + 1))) 66 2 = nI k := (zup_n (f := zi (cmm n i x lm y ol od)) (a := 66) (b := 0) (x := nI (k + 1)) (p := 66) (q := 2) (by decide)).trans (((show zi (cmm n i x lm y ol od) 66 2 = nI (n (5 + 2)) from ci_2_2 (j := 2)).trans (congrArg nI hkl)))
  refine z_aload_n X 0 dJx4a65c_add_9ea2d_0 rfl rfl ?_
  refine z_dup X dJx4a65c_add_9ea2d_1 rfl ?_
  refine z_getI (ci := 2) (j := 0) (x := nI k) X dJx4a65c_add_9ea2d_2 ho0 rfl (by decide) hlk_63 (Or.inr (by decide +kernel)) (fun _ => rfl) (hm0) ?_
  refine z_iconst (v := 1) X dJx4a65c_add_9ea2d_5 (by decide) ?_
  refine z_iadd X dJx4a65c_add_9ea2d_6 ?_
  refine z_putI (ci := 2) (j := 0) X dJx4a65c_add_9ea2d_7 ho0 rfl (by decide) hlk_63 (Or.inr (by decide +kernel)) (Or.inl rfl) (fun _ => rfl) rfl rfl ?_
  refine z_mem (M' := zwi (cmm n i x lm y ol od) 66 0 (nI (k + 1))) (by rw [nI_1]) ?_
  refine z_aload_n X 0 dJx4a65c_add_9ea2d_10 rfl rfl ?_
  refine z_aload_n X 1 dJx4a65c_add_9ea2d_11 rfl rfl ?_
  refine z_aload_n X 0 dJx4a65c_add_9ea2d_12 rfl rfl ?_
  refine z_getR (ci := 2) (j := 1) (o' := cRow n 2) X dJx4a65c_add_9ea2d_13 ho1 rfl (by decide) hlk_9 (Or.inl rfl) (fun _ => rfl) (hr1) ?_
  refine z_aload_n X 0 dJx4a65c_add_9ea2d_16 rfl rfl ?_
  refine z_getI (ci := 2) (j := 2) (x := nI k) X dJx4a65c_add_9ea2d_17 ho1 rfl (by decide) hlk_48 (Or.inl rfl) (fun _ => rfl) (hsz) ?_
  have hv0 : zc (zwi (cmm n i x lm y ol od) 66 0 (nI (k + 1))) (32 * k + 11) = 7 + 1 := (congrFun (show zc (zwi (cmm n i x lm y ol od) 66 0 (nI (k + 1))) = zc (cmm n i x lm y ol od) from rfl) _).trans (ck_11 hlv)
  have hne : n (5 + 2) ≠ 0 := by rw [hkl]; exact h0
  have hs0 : zc (cmm n i x lm y ol od) (cRow n 2) = 25 := ck_row (j := 2) (by decide) hne
  have hn0 : zn (cmm n i x lm y ol od) (cRow n 2) = ccap k := (cn_row (j := 2) (by decide) hne).trans (congrArg ccap hkl)
  have hcall := c_add72A l (zwi (cmm n i x lm y ol od) 66 0 (nI (k + 1))) 66 (cRow n 2) k (ccap k) ho1 hs0 hn0 hkc (ccap_33 _) (32 * k + 11) 7 _ _ _ hv0 rfl (by decide)
  refine z_callVv (As := [.ref (32 * k + 11), .ref (cRow n 2), .int (nI k)]) (rest := []) (n1 := 3) (ci := 2) X dJx4a65c_add_9ea2d_20 hcall gJx4a65c_add_9ea2d_Jx4a65c_add_72be8 rfl rfl (by decide +kernel) ⟨by decide, by decide⟩ ho1 rfl rfl (Nat.le_of_ble_eq_true rfl) ⟨by decide, by decide⟩ (fun _ h => h.elim) ?_
  rintro _ ⟨rfl, rfl⟩
  refine z_iconst (v := 1) X dJx4a65c_add_9ea2d_23 (by decide) ?_
  refine z_memq (zq_addA (l := 2) (by decide) hk h0 hkc) ?_
  refine z_iret X rfl (rfl) (by decide) (by decide) dJx4a65c_add_9ea2d_24 ?_
  exact ⟨_, rfl, rfl⟩

set_option maxRecDepth 100000 in
set_option maxHeartbeats 4000000 in
theorem c_add2_0 (l : Launch) (n : Nat → Nat) (i x : Nat → Nat → Int32) (lm : Nat → Nat → Int64) (y : Nat → Nat → Nat) (ol : Int64) (od : UInt64) (hk : n 7 = 0) (hlv : 0 < n 2) : zS l yJx4a65c_add_9ea2d wsJx4a65c_add_9ea2d 11 201 1 40 [.ref 66, .ref (32 * 0 + 11)] (cmm n i x lm y ol od) (zpi (fun r M1 => M1 = cmm (nup n 7 (0 + 1)) i x lm y ol od)) zno := by
  refine z_intro (cc := cJx4a65c_add_9ea2d) (maxL := 2) (ret := (some .boolean)) (by decide +kernel) rfl (Nat.le_of_ble_eq_true rfl) ?_
  have hlk_63 : Cond.fieldLink RJx4a65c 63 "java/util/ArrayList" "modCount" "I" ∈ wsJx4a65c_add_9ea2d := by decide +kernel
  have hlk_9 : Cond.fieldLink RJx4a65c 9 "java/util/ArrayList" "elementData" "[Ljava/lang/Object;" ∈ wsJx4a65c_add_9ea2d := by decide +kernel
  have hlk_48 : Cond.fieldLink RJx4a65c 48 "java/util/ArrayList" "size" "I" ∈ wsJx4a65c_add_9ea2d := by decide +kernel
  intro g X
  show zE g 2 0 [(0, .ref 66), (1, .ref (32 * 0 + 11))] [] (cmm n i x lm y ol od) 0 0
  have hkl : n (5 + 2) = 0 := hk
  have ho0 : zc (cmm n i x lm y ol od) 66 = 3 := ck_2 (j := 2) (by decide)
  have hm0 : zi (cmm n i x lm y ol od) 66 0 = 0 := ((show zi (cmm n i x lm y ol od) 66 0 = nI (n (5 + 2)) from ci_2_0 (j := 2)).trans (congrArg nI hkl)).trans (show nI 0 = 0 from by decide)
  have ho1 : zc (zwi (cmm n i x lm y ol od) 66 0 (nI (0 + 1))) 66 = 3 := ho0
  have hr1 : zr (zwi (cmm n i x lm y ol od) 66 0 (nI (0 + 1))) 66 1 = some 31 := (show zr (cmm n i x lm y ol od) 66 1 = some (cRow n 2) from cr_2_1 (j := 2)).trans (congrArg some (if_pos hkl))
  have hsz : zi (zwi (cmm n i x lm y ol od) 66 0 (nI (0 + 1))) 66 2 = 0 := (zup_n (f := zi (cmm n i x lm y ol od)) (a := 66) (b := 0) (x := nI (0 + 1)) (p := 66) (q := 2) (by decide)).trans (((show zi (cmm n i x lm y ol od) 66 2 = nI (n (5 + 2)) from ci_2_2 (j := 2)).trans (congrArg nI hkl)).trans (show nI 0 = 0 from by decide))
  refine z_aload_n X 0 dJx4a65c_add_9ea2d_0 rfl rfl ?_
  refine z_dup X dJx4a65c_add_9ea2d_1 rfl ?_
  refine z_getI (ci := 2) (j := 0) (x := 0) X dJx4a65c_add_9ea2d_2 ho0 rfl (by decide) hlk_63 (Or.inr (by decide +kernel)) (fun _ => rfl) (hm0) ?_
  refine z_iconst (v := 1) X dJx4a65c_add_9ea2d_5 (by decide) ?_
  refine z_iadd X dJx4a65c_add_9ea2d_6 ?_
  refine z_putI (ci := 2) (j := 0) X dJx4a65c_add_9ea2d_7 ho0 rfl (by decide) hlk_63 (Or.inr (by decide +kernel)) (Or.inl rfl) (fun _ => rfl) rfl rfl ?_
  refine z_mem (M' := zwi (cmm n i x lm y ol od) 66 0 (nI (0 + 1))) (by rw [show (0 + 1 : Int32) = nI (0 + 1) from by decide]) ?_
  refine z_aload_n X 0 dJx4a65c_add_9ea2d_10 rfl rfl ?_
  refine z_aload_n X 1 dJx4a65c_add_9ea2d_11 rfl rfl ?_
  refine z_aload_n X 0 dJx4a65c_add_9ea2d_12 rfl rfl ?_
  refine z_getR (ci := 2) (j := 1) (o' := 31) X dJx4a65c_add_9ea2d_13 ho1 rfl (by decide) hlk_9 (Or.inl rfl) (fun _ => rfl) (hr1) ?_
  refine z_aload_n X 0 dJx4a65c_add_9ea2d_16 rfl rfl ?_
  refine z_getI (ci := 2) (j := 2) (x := 0) X dJx4a65c_add_9ea2d_17 ho1 rfl (by decide) hlk_48 (Or.inl rfl) (fun _ => rfl) (hsz) ?_
  have hb0 : zc (zwi (cmm n i x lm y ol od) 66 0 (nI (0 + 1))) (32 * (4 * 10 + 2) + 3) = 0 := (congrFun (show zc (zwi (cmm n i x lm y ol od) 66 0 (nI (0 + 1))) = zc (cmm n i x lm y ol od) from rfl) _).trans ((show zc (cmm n i x lm y ol od) (32 * (4 * 10 + 2) + 3) = cC n 3 (4 * 10 + 2) from c_c (t := 3) (by decide)).trans (if_neg (fun e9 => by
    have e8 := e9.2
    rw [show (4 * 10 + 2) % 4 = 2 from rfl, show n (5 + 2) = 0 from hk] at e8
    exact absurd e8 (by decide))))
  have hre0 : zr (zwi (cmm n i x lm y ol od) 66 0 (nI (0 + 1))) 66 1 = some zE0 := hr1
  have hv0 : zc (zwi (cmm n i x lm y ol od) 66 0 (nI (0 + 1))) (32 * 0 + 11) = 7 + 1 := (congrFun (show zc (zwi (cmm n i x lm y ol od) 66 0 (nI (0 + 1))) = zc (cmm n i x lm y ol od) from rfl) _).trans (ck_11 hlv)
  have hE9 : zc (zwi (cmm n i x lm y ol od) 66 0 (nI (0 + 1))) zE0 = 26 := (ck_31 : zc (cmm n i x lm y ol od) 31 = 26)
  have hcall := c_add72_0 l (zwi (cmm n i x lm y ol od) 66 0 (nI (0 + 1))) 66 (32 * (4 * 10 + 2) + 3) hE9 ho1 hr1 rfl hb0 (by decide) (by decide) hsz (32 * 0 + 11) 7 _ _ _ hv0 rfl (by decide)
  refine z_callVv (As := [.ref (32 * 0 + 11), .ref 31, .int 0]) (rest := []) (n1 := 3) (ci := 2) X dJx4a65c_add_9ea2d_20 hcall gJx4a65c_add_9ea2d_Jx4a65c_add_72be8 rfl rfl (by decide +kernel) ⟨by decide, by decide⟩ ho1 rfl rfl (Nat.le_of_ble_eq_true rfl) ⟨by decide, by decide⟩ (fun _ h => h.elim) ?_
  rintro _ ⟨rfl, rfl⟩
  refine z_iconst (v := 1) X dJx4a65c_add_9ea2d_23 (by decide) ?_
  refine z_memq (zcpy_0 (M := znew (zwi (cmm n i x lm y ol od) 66 0 (nI (0 + 1))) (32 * (4 * 10 + 2) + 3) 25 10) (a := cRow n 2) (b := 32 * (4 * 10 + 2) + 3) ▸ zq_addB (l := 2) (k := 0) (N := 10) (by decide) hk (by decide)) ?_
  refine z_iret X rfl (rfl) (by decide) (by decide) dJx4a65c_add_9ea2d_24 ?_
  exact ⟨_, rfl, rfl⟩

set_option maxRecDepth 100000 in
set_option maxHeartbeats 4000000 in
theorem c_add2_10 (l : Launch) (n : Nat → Nat) (i x : Nat → Nat → Int32) (lm : Nat → Nat → Int64) (y : Nat → Nat → Nat) (ol : Int64) (od : UInt64) (hk : n 7 = 10) (hlv : 10 < n 2) : zS l yJx4a65c_add_9ea2d wsJx4a65c_add_9ea2d 11 201 1 40 [.ref 66, .ref (32 * 10 + 11)] (cmm n i x lm y ol od) (zpi (fun r M1 => M1 = cmm (nup n 7 (10 + 1)) i x lm y ol od)) zno := by
  refine z_intro (cc := cJx4a65c_add_9ea2d) (maxL := 2) (ret := (some .boolean)) (by decide +kernel) rfl (Nat.le_of_ble_eq_true rfl) ?_
  have hlk_63 : Cond.fieldLink RJx4a65c 63 "java/util/ArrayList" "modCount" "I" ∈ wsJx4a65c_add_9ea2d := by decide +kernel
  have hlk_9 : Cond.fieldLink RJx4a65c 9 "java/util/ArrayList" "elementData" "[Ljava/lang/Object;" ∈ wsJx4a65c_add_9ea2d := by decide +kernel
  have hlk_48 : Cond.fieldLink RJx4a65c 48 "java/util/ArrayList" "size" "I" ∈ wsJx4a65c_add_9ea2d := by decide +kernel
  intro g X
  show zE g 2 0 [(0, .ref 66), (1, .ref (32 * 10 + 11))] [] (cmm n i x lm y ol od) 0 0
  have hkl : n (5 + 2) = 10 := hk
  have ho0 : zc (cmm n i x lm y ol od) 66 = 3 := ck_2 (j := 2) (by decide)
  have hm0 : zi (cmm n i x lm y ol od) 66 0 = 10 := ((show zi (cmm n i x lm y ol od) 66 0 = nI (n (5 + 2)) from ci_2_0 (j := 2)).trans (congrArg nI hkl)).trans (show nI 10 = 10 from by decide)
  have ho1 : zc (zwi (cmm n i x lm y ol od) 66 0 (nI (10 + 1))) 66 = 3 := ho0
  have hr1 : zr (zwi (cmm n i x lm y ol od) 66 0 (nI (10 + 1))) 66 1 = some (cRow n 2) := (show zr (cmm n i x lm y ol od) 66 1 = some (cRow n 2) from cr_2_1 (j := 2))
  have hsz : zi (zwi (cmm n i x lm y ol od) 66 0 (nI (10 + 1))) 66 2 = 10 := (zup_n (f := zi (cmm n i x lm y ol od)) (a := 66) (b := 0) (x := nI (10 + 1)) (p := 66) (q := 2) (by decide)).trans (((show zi (cmm n i x lm y ol od) 66 2 = nI (n (5 + 2)) from ci_2_2 (j := 2)).trans (congrArg nI hkl)).trans (show nI 10 = 10 from by decide))
  refine z_aload_n X 0 dJx4a65c_add_9ea2d_0 rfl rfl ?_
  refine z_dup X dJx4a65c_add_9ea2d_1 rfl ?_
  refine z_getI (ci := 2) (j := 0) (x := 10) X dJx4a65c_add_9ea2d_2 ho0 rfl (by decide) hlk_63 (Or.inr (by decide +kernel)) (fun _ => rfl) (hm0) ?_
  refine z_iconst (v := 1) X dJx4a65c_add_9ea2d_5 (by decide) ?_
  refine z_iadd X dJx4a65c_add_9ea2d_6 ?_
  refine z_putI (ci := 2) (j := 0) X dJx4a65c_add_9ea2d_7 ho0 rfl (by decide) hlk_63 (Or.inr (by decide +kernel)) (Or.inl rfl) (fun _ => rfl) rfl rfl ?_
  refine z_mem (M' := zwi (cmm n i x lm y ol od) 66 0 (nI (10 + 1))) (by rw [show (10 + 1 : Int32) = nI (10 + 1) from by decide]) ?_
  refine z_aload_n X 0 dJx4a65c_add_9ea2d_10 rfl rfl ?_
  refine z_aload_n X 1 dJx4a65c_add_9ea2d_11 rfl rfl ?_
  refine z_aload_n X 0 dJx4a65c_add_9ea2d_12 rfl rfl ?_
  refine z_getR (ci := 2) (j := 1) (o' := cRow n 2) X dJx4a65c_add_9ea2d_13 ho1 rfl (by decide) hlk_9 (Or.inl rfl) (fun _ => rfl) (hr1) ?_
  refine z_aload_n X 0 dJx4a65c_add_9ea2d_16 rfl rfl ?_
  refine z_getI (ci := 2) (j := 2) (x := 10) X dJx4a65c_add_9ea2d_17 ho1 rfl (by decide) hlk_48 (Or.inl rfl) (fun _ => rfl) (hsz) ?_
  have hb0 : zc (zwi (cmm n i x lm y ol od) 66 0 (nI (10 + 1))) (32 * (4 * 15 + 2) + 3) = 0 := (congrFun (show zc (zwi (cmm n i x lm y ol od) 66 0 (nI (10 + 1))) = zc (cmm n i x lm y ol od) from rfl) _).trans ((show zc (cmm n i x lm y ol od) (32 * (4 * 15 + 2) + 3) = cC n 3 (4 * 15 + 2) from c_c (t := 3) (by decide)).trans (if_neg (fun e9 => by
    have e8 := e9.2
    rw [show (4 * 15 + 2) % 4 = 2 from rfl, show n (5 + 2) = 10 from hk] at e8
    exact absurd e8 (by decide))))
  have hne : n (5 + 2) ≠ 0 := by rw [show n (5 + 2) = 10 from hk]; decide
  have hel : ∀ (j v : Nat), j < 10 → zr (zwi (cmm n i x lm y ol od) 66 0 (nI (10 + 1))) (cRow n 2) j = some v → zc (zwi (cmm n i x lm y ol od) 66 0 (nI (10 + 1))) v = 7 + 1 := by
    intro j v hj he
    have e7 := (cr_row (n := n) (i := i) (x := x) (lm := lm) (y := y) (ol := ol) (od := od) (j := 2) (k := j) (by decide) (by rw [show n (5 + 2) = 10 from hk]; exact hj) (by rw [show n (5 + 2) = 10 from hk]; decide)).symm.trans he
    rw [← Option.some.inj e7]
    exact (congrFun (show zc (zwi (cmm n i x lm y ol od) 66 0 (nI (10 + 1))) = zc (cmm n i x lm y ol od) from rfl) _).trans (ck_11 (by omega))
  have hv0 : zc (zwi (cmm n i x lm y ol od) 66 0 (nI (10 + 1))) (32 * 10 + 11) = 7 + 1 := (congrFun (show zc (zwi (cmm n i x lm y ol od) 66 0 (nI (10 + 1))) = zc (cmm n i x lm y ol od) from rfl) _).trans (ck_11 hlv)
  have hs0 : zc (cmm n i x lm y ol od) (cRow n 2) = 25 := ck_row (j := 2) (by decide) hne
  have hn0 : zn (cmm n i x lm y ol od) (cRow n 2) = ccap 10 := (cn_row (j := 2) (by decide) hne).trans (congrArg ccap hkl)
  have hM9 : zc (zwi (cmm n i x lm y ol od) 66 0 (nI (10 + 1))) zMi = 19 := (ck_63 : zc (cmm n i x lm y ol od) 63 = 19)
  have hn1 : zn (zwi (cmm n i x lm y ol od) 66 0 (nI (10 + 1))) (cRow n 2) = 10 := hn0.trans (by decide)
  have hcall := c_add72_10 l (zwi (cmm n i x lm y ol od) 66 0 (nI (10 + 1))) 66 (cRow n 2) (32 * (4 * 15 + 2) + 3) 7 _ _ _ hM9 ho1 hr1 hs0 hn1 hb0 (by decide) (by decide) rfl (by decide) hel hsz (32 * 10 + 11) 7 _ _ _ hv0 rfl (by decide)
  refine z_callVv (As := [.ref (32 * 10 + 11), .ref (cRow n 2), .int 10]) (rest := []) (n1 := 3) (ci := 2) X dJx4a65c_add_9ea2d_20 hcall gJx4a65c_add_9ea2d_Jx4a65c_add_72be8 rfl rfl (by decide +kernel) ⟨by decide, by decide⟩ ho1 rfl rfl (Nat.le_of_ble_eq_true rfl) ⟨by decide, by decide⟩ (fun _ h => h.elim) ?_
  rintro _ ⟨rfl, rfl⟩
  refine z_iconst (v := 1) X dJx4a65c_add_9ea2d_23 (by decide) ?_
  refine z_memq (zq_addB (l := 2) (k := 10) (N := 15) (by decide) hk (by decide)) ?_
  refine z_iret X rfl (rfl) (by decide) (by decide) dJx4a65c_add_9ea2d_24 ?_
  exact ⟨_, rfl, rfl⟩

set_option maxRecDepth 100000 in
set_option maxHeartbeats 4000000 in
theorem c_add2_15 (l : Launch) (n : Nat → Nat) (i x : Nat → Nat → Int32) (lm : Nat → Nat → Int64) (y : Nat → Nat → Nat) (ol : Int64) (od : UInt64) (hk : n 7 = 15) (hlv : 15 < n 2) : zS l yJx4a65c_add_9ea2d wsJx4a65c_add_9ea2d 11 201 1 40 [.ref 66, .ref (32 * 15 + 11)] (cmm n i x lm y ol od) (zpi (fun r M1 => M1 = cmm (nup n 7 (15 + 1)) i x lm y ol od)) zno := by
  refine z_intro (cc := cJx4a65c_add_9ea2d) (maxL := 2) (ret := (some .boolean)) (by decide +kernel) rfl (Nat.le_of_ble_eq_true rfl) ?_
  have hlk_63 : Cond.fieldLink RJx4a65c 63 "java/util/ArrayList" "modCount" "I" ∈ wsJx4a65c_add_9ea2d := by decide +kernel
  have hlk_9 : Cond.fieldLink RJx4a65c 9 "java/util/ArrayList" "elementData" "[Ljava/lang/Object;" ∈ wsJx4a65c_add_9ea2d := by decide +kernel
  have hlk_48 : Cond.fieldLink RJx4a65c 48 "java/util/ArrayList" "size" "I" ∈ wsJx4a65c_add_9ea2d := by decide +kernel
  intro g X
  show zE g 2 0 [(0, .ref 66), (1, .ref (32 * 15 + 11))] [] (cmm n i x lm y ol od) 0 0
  have hkl : n (5 + 2) = 15 := hk
  have ho0 : zc (cmm n i x lm y ol od) 66 = 3 := ck_2 (j := 2) (by decide)
  have hm0 : zi (cmm n i x lm y ol od) 66 0 = 15 := ((show zi (cmm n i x lm y ol od) 66 0 = nI (n (5 + 2)) from ci_2_0 (j := 2)).trans (congrArg nI hkl)).trans (show nI 15 = 15 from by decide)
  have ho1 : zc (zwi (cmm n i x lm y ol od) 66 0 (nI (15 + 1))) 66 = 3 := ho0
  have hr1 : zr (zwi (cmm n i x lm y ol od) 66 0 (nI (15 + 1))) 66 1 = some (cRow n 2) := (show zr (cmm n i x lm y ol od) 66 1 = some (cRow n 2) from cr_2_1 (j := 2))
  have hsz : zi (zwi (cmm n i x lm y ol od) 66 0 (nI (15 + 1))) 66 2 = 15 := (zup_n (f := zi (cmm n i x lm y ol od)) (a := 66) (b := 0) (x := nI (15 + 1)) (p := 66) (q := 2) (by decide)).trans (((show zi (cmm n i x lm y ol od) 66 2 = nI (n (5 + 2)) from ci_2_2 (j := 2)).trans (congrArg nI hkl)).trans (show nI 15 = 15 from by decide))
  refine z_aload_n X 0 dJx4a65c_add_9ea2d_0 rfl rfl ?_
  refine z_dup X dJx4a65c_add_9ea2d_1 rfl ?_
  refine z_getI (ci := 2) (j := 0) (x := 15) X dJx4a65c_add_9ea2d_2 ho0 rfl (by decide) hlk_63 (Or.inr (by decide +kernel)) (fun _ => rfl) (hm0) ?_
  refine z_iconst (v := 1) X dJx4a65c_add_9ea2d_5 (by decide) ?_
  refine z_iadd X dJx4a65c_add_9ea2d_6 ?_
  refine z_putI (ci := 2) (j := 0) X dJx4a65c_add_9ea2d_7 ho0 rfl (by decide) hlk_63 (Or.inr (by decide +kernel)) (Or.inl rfl) (fun _ => rfl) rfl rfl ?_
  refine z_mem (M' := zwi (cmm n i x lm y ol od) 66 0 (nI (15 + 1))) (by rw [show (15 + 1 : Int32) = nI (15 + 1) from by decide]) ?_
  refine z_aload_n X 0 dJx4a65c_add_9ea2d_10 rfl rfl ?_
  refine z_aload_n X 1 dJx4a65c_add_9ea2d_11 rfl rfl ?_
  refine z_aload_n X 0 dJx4a65c_add_9ea2d_12 rfl rfl ?_
  refine z_getR (ci := 2) (j := 1) (o' := cRow n 2) X dJx4a65c_add_9ea2d_13 ho1 rfl (by decide) hlk_9 (Or.inl rfl) (fun _ => rfl) (hr1) ?_
  refine z_aload_n X 0 dJx4a65c_add_9ea2d_16 rfl rfl ?_
  refine z_getI (ci := 2) (j := 2) (x := 15) X dJx4a65c_add_9ea2d_17 ho1 rfl (by decide) hlk_48 (Or.inl rfl) (fun _ => rfl) (hsz) ?_
  have hb0 : zc (zwi (cmm n i x lm y ol od) 66 0 (nI (15 + 1))) (32 * (4 * 22 + 2) + 3) = 0 := (congrFun (show zc (zwi (cmm n i x lm y ol od) 66 0 (nI (15 + 1))) = zc (cmm n i x lm y ol od) from rfl) _).trans ((show zc (cmm n i x lm y ol od) (32 * (4 * 22 + 2) + 3) = cC n 3 (4 * 22 + 2) from c_c (t := 3) (by decide)).trans (if_neg (fun e9 => by
    have e8 := e9.2
    rw [show (4 * 22 + 2) % 4 = 2 from rfl, show n (5 + 2) = 15 from hk] at e8
    exact absurd e8 (by decide))))
  have hne : n (5 + 2) ≠ 0 := by rw [show n (5 + 2) = 15 from hk]; decide
  have hel : ∀ (j v : Nat), j < 15 → zr (zwi (cmm n i x lm y ol od) 66 0 (nI (15 + 1))) (cRow n 2) j = some v → zc (zwi (cmm n i x lm y ol od) 66 0 (nI (15 + 1))) v = 7 + 1 := by
    intro j v hj he
    have e7 := (cr_row (n := n) (i := i) (x := x) (lm := lm) (y := y) (ol := ol) (od := od) (j := 2) (k := j) (by decide) (by rw [show n (5 + 2) = 15 from hk]; exact hj) (by rw [show n (5 + 2) = 15 from hk]; decide)).symm.trans he
    rw [← Option.some.inj e7]
    exact (congrFun (show zc (zwi (cmm n i x lm y ol od) 66 0 (nI (15 + 1))) = zc (cmm n i x lm y ol od) from rfl) _).trans (ck_11 (by omega))
  have hv0 : zc (zwi (cmm n i x lm y ol od) 66 0 (nI (15 + 1))) (32 * 15 + 11) = 7 + 1 := (congrFun (show zc (zwi (cmm n i x lm y ol od) 66 0 (nI (15 + 1))) = zc (cmm n i x lm y ol od) from rfl) _).trans (ck_11 hlv)
  have hs0 : zc (cmm n i x lm y ol od) (cRow n 2) = 25 := ck_row (j := 2) (by decide) hne
  have hn0 : zn (cmm n i x lm y ol od) (cRow n 2) = ccap 15 := (cn_row (j := 2) (by decide) hne).trans (congrArg ccap hkl)
  have hM9 : zc (zwi (cmm n i x lm y ol od) 66 0 (nI (15 + 1))) zMi = 19 := (ck_63 : zc (cmm n i x lm y ol od) 63 = 19)
  have hn1 : zn (zwi (cmm n i x lm y ol od) 66 0 (nI (15 + 1))) (cRow n 2) = 15 := hn0.trans (by decide)
  have hcall := c_add72_15 l (zwi (cmm n i x lm y ol od) 66 0 (nI (15 + 1))) 66 (cRow n 2) (32 * (4 * 22 + 2) + 3) 7 _ _ _ hM9 ho1 hr1 hs0 hn1 hb0 (by decide) (by decide) rfl (by decide) hel hsz (32 * 15 + 11) 7 _ _ _ hv0 rfl (by decide)
  refine z_callVv (As := [.ref (32 * 15 + 11), .ref (cRow n 2), .int 15]) (rest := []) (n1 := 3) (ci := 2) X dJx4a65c_add_9ea2d_20 hcall gJx4a65c_add_9ea2d_Jx4a65c_add_72be8 rfl rfl (by decide +kernel) ⟨by decide, by decide⟩ ho1 rfl rfl (Nat.le_of_ble_eq_true rfl) ⟨by decide, by decide⟩ (fun _ h => h.elim) ?_
  rintro _ ⟨rfl, rfl⟩
  refine z_iconst (v := 1) X dJx4a65c_add_9ea2d_23 (by decide) ?_
  refine z_memq (zq_addB (l := 2) (k := 15) (N := 22) (by decide) hk (by decide)) ?_
  refine z_iret X rfl (rfl) (by decide) (by decide) dJx4a65c_add_9ea2d_24 ?_
  exact ⟨_, rfl, rfl⟩

set_option maxRecDepth 100000 in
set_option maxHeartbeats 4000000 in
theorem c_add2_22 (l : Launch) (n : Nat → Nat) (i x : Nat → Nat → Int32) (lm : Nat → Nat → Int64) (y : Nat → Nat → Nat) (ol : Int64) (od : UInt64) (hk : n 7 = 22) (hlv : 22 < n 2) : zS l yJx4a65c_add_9ea2d wsJx4a65c_add_9ea2d 11 201 1 40 [.ref 66, .ref (32 * 22 + 11)] (cmm n i x lm y ol od) (zpi (fun r M1 => M1 = cmm (nup n 7 (22 + 1)) i x lm y ol od)) zno := by
  refine z_intro (cc := cJx4a65c_add_9ea2d) (maxL := 2) (ret := (some .boolean)) (by decide +kernel) rfl (Nat.le_of_ble_eq_true rfl) ?_
  have hlk_63 : Cond.fieldLink RJx4a65c 63 "java/util/ArrayList" "modCount" "I" ∈ wsJx4a65c_add_9ea2d := by decide +kernel
  have hlk_9 : Cond.fieldLink RJx4a65c 9 "java/util/ArrayList" "elementData" "[Ljava/lang/Object;" ∈ wsJx4a65c_add_9ea2d := by decide +kernel
  have hlk_48 : Cond.fieldLink RJx4a65c 48 "java/util/ArrayList" "size" "I" ∈ wsJx4a65c_add_9ea2d := by decide +kernel
  intro g X
  show zE g 2 0 [(0, .ref 66), (1, .ref (32 * 22 + 11))] [] (cmm n i x lm y ol od) 0 0
  have hkl : n (5 + 2) = 22 := hk
  have ho0 : zc (cmm n i x lm y ol od) 66 = 3 := ck_2 (j := 2) (by decide)
  have hm0 : zi (cmm n i x lm y ol od) 66 0 = 22 := ((show zi (cmm n i x lm y ol od) 66 0 = nI (n (5 + 2)) from ci_2_0 (j := 2)).trans (congrArg nI hkl)).trans (show nI 22 = 22 from by decide)
  have ho1 : zc (zwi (cmm n i x lm y ol od) 66 0 (nI (22 + 1))) 66 = 3 := ho0
  have hr1 : zr (zwi (cmm n i x lm y ol od) 66 0 (nI (22 + 1))) 66 1 = some (cRow n 2) := (show zr (cmm n i x lm y ol od) 66 1 = some (cRow n 2) from cr_2_1 (j := 2))
  have hsz : zi (zwi (cmm n i x lm y ol od) 66 0 (nI (22 + 1))) 66 2 = 22 := (zup_n (f := zi (cmm n i x lm y ol od)) (a := 66) (b := 0) (x := nI (22 + 1)) (p := 66) (q := 2) (by decide)).trans (((show zi (cmm n i x lm y ol od) 66 2 = nI (n (5 + 2)) from ci_2_2 (j := 2)).trans (congrArg nI hkl)).trans (show nI 22 = 22 from by decide))
  refine z_aload_n X 0 dJx4a65c_add_9ea2d_0 rfl rfl ?_
  refine z_dup X dJx4a65c_add_9ea2d_1 rfl ?_
  refine z_getI (ci := 2) (j := 0) (x := 22) X dJx4a65c_add_9ea2d_2 ho0 rfl (by decide) hlk_63 (Or.inr (by decide +kernel)) (fun _ => rfl) (hm0) ?_
  refine z_iconst (v := 1) X dJx4a65c_add_9ea2d_5 (by decide) ?_
  refine z_iadd X dJx4a65c_add_9ea2d_6 ?_
  refine z_putI (ci := 2) (j := 0) X dJx4a65c_add_9ea2d_7 ho0 rfl (by decide) hlk_63 (Or.inr (by decide +kernel)) (Or.inl rfl) (fun _ => rfl) rfl rfl ?_
  refine z_mem (M' := zwi (cmm n i x lm y ol od) 66 0 (nI (22 + 1))) (by rw [show (22 + 1 : Int32) = nI (22 + 1) from by decide]) ?_
  refine z_aload_n X 0 dJx4a65c_add_9ea2d_10 rfl rfl ?_
  refine z_aload_n X 1 dJx4a65c_add_9ea2d_11 rfl rfl ?_
  refine z_aload_n X 0 dJx4a65c_add_9ea2d_12 rfl rfl ?_
  refine z_getR (ci := 2) (j := 1) (o' := cRow n 2) X dJx4a65c_add_9ea2d_13 ho1 rfl (by decide) hlk_9 (Or.inl rfl) (fun _ => rfl) (hr1) ?_
  refine z_aload_n X 0 dJx4a65c_add_9ea2d_16 rfl rfl ?_
  refine z_getI (ci := 2) (j := 2) (x := 22) X dJx4a65c_add_9ea2d_17 ho1 rfl (by decide) hlk_48 (Or.inl rfl) (fun _ => rfl) (hsz) ?_
  have hb0 : zc (zwi (cmm n i x lm y ol od) 66 0 (nI (22 + 1))) (32 * (4 * 33 + 2) + 3) = 0 := (congrFun (show zc (zwi (cmm n i x lm y ol od) 66 0 (nI (22 + 1))) = zc (cmm n i x lm y ol od) from rfl) _).trans ((show zc (cmm n i x lm y ol od) (32 * (4 * 33 + 2) + 3) = cC n 3 (4 * 33 + 2) from c_c (t := 3) (by decide)).trans (if_neg (fun e9 => by
    have e8 := e9.2
    rw [show (4 * 33 + 2) % 4 = 2 from rfl, show n (5 + 2) = 22 from hk] at e8
    exact absurd e8 (by decide))))
  have hne : n (5 + 2) ≠ 0 := by rw [show n (5 + 2) = 22 from hk]; decide
  have hel : ∀ (j v : Nat), j < 22 → zr (zwi (cmm n i x lm y ol od) 66 0 (nI (22 + 1))) (cRow n 2) j = some v → zc (zwi (cmm n i x lm y ol od) 66 0 (nI (22 + 1))) v = 7 + 1 := by
    intro j v hj he
    have e7 := (cr_row (n := n) (i := i) (x := x) (lm := lm) (y := y) (ol := ol) (od := od) (j := 2) (k := j) (by decide) (by rw [show n (5 + 2) = 22 from hk]; exact hj) (by rw [show n (5 + 2) = 22 from hk]; decide)).symm.trans he
    rw [← Option.some.inj e7]
    exact (congrFun (show zc (zwi (cmm n i x lm y ol od) 66 0 (nI (22 + 1))) = zc (cmm n i x lm y ol od) from rfl) _).trans (ck_11 (by omega))
  have hv0 : zc (zwi (cmm n i x lm y ol od) 66 0 (nI (22 + 1))) (32 * 22 + 11) = 7 + 1 := (congrFun (show zc (zwi (cmm n i x lm y ol od) 66 0 (nI (22 + 1))) = zc (cmm n i x lm y ol od) from rfl) _).trans (ck_11 hlv)
  have hs0 : zc (cmm n i x lm y ol od) (cRow n 2) = 25 := ck_row (j := 2) (by decide) hne
  have hn0 : zn (cmm n i x lm y ol od) (cRow n 2) = ccap 22 := (cn_row (j := 2) (by decide) hne).trans (congrArg ccap hkl)
  have hM9 : zc (zwi (cmm n i x lm y ol od) 66 0 (nI (22 + 1))) zMi = 19 := (ck_63 : zc (cmm n i x lm y ol od) 63 = 19)
  have hn1 : zn (zwi (cmm n i x lm y ol od) 66 0 (nI (22 + 1))) (cRow n 2) = 22 := hn0.trans (by decide)
  have hcall := c_add72_22 l (zwi (cmm n i x lm y ol od) 66 0 (nI (22 + 1))) 66 (cRow n 2) (32 * (4 * 33 + 2) + 3) 7 _ _ _ hM9 ho1 hr1 hs0 hn1 hb0 (by decide) (by decide) rfl (by decide) hel hsz (32 * 22 + 11) 7 _ _ _ hv0 rfl (by decide)
  refine z_callVv (As := [.ref (32 * 22 + 11), .ref (cRow n 2), .int 22]) (rest := []) (n1 := 3) (ci := 2) X dJx4a65c_add_9ea2d_20 hcall gJx4a65c_add_9ea2d_Jx4a65c_add_72be8 rfl rfl (by decide +kernel) ⟨by decide, by decide⟩ ho1 rfl rfl (Nat.le_of_ble_eq_true rfl) ⟨by decide, by decide⟩ (fun _ h => h.elim) ?_
  rintro _ ⟨rfl, rfl⟩
  refine z_iconst (v := 1) X dJx4a65c_add_9ea2d_23 (by decide) ?_
  refine z_memq (zq_addB (l := 2) (k := 22) (N := 33) (by decide) hk (by decide)) ?_
  refine z_iret X rfl (rfl) (by decide) (by decide) dJx4a65c_add_9ea2d_24 ?_
  exact ⟨_, rfl, rfl⟩

theorem c_add2 (l : Launch) (n : Nat → Nat) (i x : Nat → Nat → Int32) (lm : Nat → Nat → Int64) (y : Nat → Nat → Nat) (ol : Int64) (od : UInt64) (k : Nat) (hk : n 7 = k) (hlv : k < n 2) (hmx : k < 24) : zS l yJx4a65c_add_9ea2d wsJx4a65c_add_9ea2d 11 201 1 40 [.ref 66, .ref (32 * k + 11)] (cmm n i x lm y ol od) (zpi (fun r M1 => M1 = cmm (nup n 7 (k + 1)) i x lm y ol od)) zno := by
  by_cases h0 : k = 0
  · subst h0
    exact c_add2_0 l _ _ _ _ _ _ _ hk hlv
  by_cases h10 : k = 10
  · subst h10
    exact c_add2_10 l _ _ _ _ _ _ _ hk hlv
  by_cases h15 : k = 15
  · subst h15
    exact c_add2_15 l _ _ _ _ _ _ _ hk hlv
  by_cases h22 : k = 22
  · subst h22
    exact c_add2_22 l _ _ _ _ _ _ _ hk hlv
  exact c_add2_A l _ _ _ _ _ _ _ k hk hlv h0 (by unfold ccap; (repeat' split) <;> omega)

set_option maxRecDepth 100000 in
set_option maxHeartbeats 4000000 in
theorem c_add3_A (l : Launch) (n : Nat → Nat) (i x : Nat → Nat → Int32) (lm : Nat → Nat → Int64) (y : Nat → Nat → Nat) (ol : Int64) (od : UInt64) (k : Nat) (hk : n 8 = k) (hlv : k < n 3) (h0 : k ≠ 0) (hkc : k < ccap k) : zS l yJx4a65c_add_9ea2d wsJx4a65c_add_9ea2d 11 201 1 40 [.ref 98, .ref (32 * k + 13)] (cmm n i x lm y ol od) (zpi (fun r M1 => M1 = cmm (nup n 8 (k + 1)) i x lm y ol od)) zno := by
  refine z_intro (cc := cJx4a65c_add_9ea2d) (maxL := 2) (ret := (some .boolean)) (by decide +kernel) rfl (Nat.le_of_ble_eq_true rfl) ?_
  have hlk_63 : Cond.fieldLink RJx4a65c 63 "java/util/ArrayList" "modCount" "I" ∈ wsJx4a65c_add_9ea2d := by decide +kernel
  have hlk_9 : Cond.fieldLink RJx4a65c 9 "java/util/ArrayList" "elementData" "[Ljava/lang/Object;" ∈ wsJx4a65c_add_9ea2d := by decide +kernel
  have hlk_48 : Cond.fieldLink RJx4a65c 48 "java/util/ArrayList" "size" "I" ∈ wsJx4a65c_add_9ea2d := by decide +kernel
  intro g X
  show zE g 2 0 [(0, .ref 98), (1, .ref (32 * k + 13))] [] (cmm n i x lm y ol od) 0 0
  have hkl : n (5 + 3) = k := hk
  have ho0 : zc (cmm n i x lm y ol od) 98 = 3 := ck_2 (j := 3) (by decide)
  have hm0 : zi (cmm n i x lm y ol od) 98 0 = nI k := ((show zi (cmm n i x lm y ol od) 98 0 = nI (n (5 + 3)) from ci_2_0 (j := 3)).trans (congrArg nI hkl))
  have ho1 : zc (zwi (cmm n i x lm y ol od) 98 0 (nI (k + 1))) 98 = 3 := ho0
  have hr1 : zr (zwi (cmm n i x lm y ol od) 98 0 (nI (k + 1))) 98 1 = some (cRow n 3) := (show zr (cmm n i x lm y ol od) 98 1 = some (cRow n 3) from cr_2_1 (j := 3))
  have hsz : zi (zwi (cmm n i x lm y ol od) 98 0 (nI (k + 1))) 98 2 = nI k := (zup_n (f := zi (cmm n i x lm y ol od)) (a := 98) (b := 0) (x := nI (k + 1)) (p := 98) (q := 2) (by decide)).trans (((show zi (cmm n i x lm y ol od) 98 2 = nI (n (5 + 3)) from ci_2_2 (j := 3)).trans (congrArg nI hkl)))
  refine z_aload_n X 0 dJx4a65c_add_9ea2d_0 rfl rfl ?_
  refine z_dup X dJx4a65c_add_9ea2d_1 rfl ?_
  refine z_getI (ci := 2) (j := 0) (x := nI k) X dJx4a65c_add_9ea2d_2 ho0 rfl (by decide) hlk_63 (Or.inr (by decide +kernel)) (fun _ => rfl) (hm0) ?_
  refine z_iconst (v := 1) X dJx4a65c_add_9ea2d_5 (by decide) ?_
  refine z_iadd X dJx4a65c_add_9ea2d_6 ?_
  refine z_putI (ci := 2) (j := 0) X dJx4a65c_add_9ea2d_7 ho0 rfl (by decide) hlk_63 (Or.inr (by decide +kernel)) (Or.inl rfl) (fun _ => rfl) rfl rfl ?_
  refine z_mem (M' := zwi (cmm n i x lm y ol od) 98 0 (nI (k + 1))) (by rw [nI_1]) ?_
  refine z_aload_n X 0 dJx4a65c_add_9ea2d_10 rfl rfl ?_
  refine z_aload_n X 1 dJx4a65c_add_9ea2d_11 rfl rfl ?_
  refine z_aload_n X 0 dJx4a65c_add_9ea2d_12 rfl rfl ?_
  refine z_getR (ci := 2) (j := 1) (o' := cRow n 3) X dJx4a65c_add_9ea2d_13 ho1 rfl (by decide) hlk_9 (Or.inl rfl) (fun _ => rfl) (hr1) ?_
  refine z_aload_n X 0 dJx4a65c_add_9ea2d_16 rfl rfl ?_
  refine z_getI (ci := 2) (j := 2) (x := nI k) X dJx4a65c_add_9ea2d_17 ho1 rfl (by decide) hlk_48 (Or.inl rfl) (fun _ => rfl) (hsz) ?_
  have hv0 : zc (zwi (cmm n i x lm y ol od) 98 0 (nI (k + 1))) (32 * k + 13) = 6 + 1 := (congrFun (show zc (zwi (cmm n i x lm y ol od) 98 0 (nI (k + 1))) = zc (cmm n i x lm y ol od) from rfl) _).trans (ck_13 hlv)
  have hne : n (5 + 3) ≠ 0 := by rw [hkl]; exact h0
  have hs0 : zc (cmm n i x lm y ol od) (cRow n 3) = 25 := ck_row (j := 3) (by decide) hne
  have hn0 : zn (cmm n i x lm y ol od) (cRow n 3) = ccap k := (cn_row (j := 3) (by decide) hne).trans (congrArg ccap hkl)
  have hcall := c_add72A l (zwi (cmm n i x lm y ol od) 98 0 (nI (k + 1))) 98 (cRow n 3) k (ccap k) ho1 hs0 hn0 hkc (ccap_33 _) (32 * k + 13) 6 _ _ _ hv0 rfl (by decide)
  refine z_callVv (As := [.ref (32 * k + 13), .ref (cRow n 3), .int (nI k)]) (rest := []) (n1 := 3) (ci := 2) X dJx4a65c_add_9ea2d_20 hcall gJx4a65c_add_9ea2d_Jx4a65c_add_72be8 rfl rfl (by decide +kernel) ⟨by decide, by decide⟩ ho1 rfl rfl (Nat.le_of_ble_eq_true rfl) ⟨by decide, by decide⟩ (fun _ h => h.elim) ?_
  rintro _ ⟨rfl, rfl⟩
  refine z_iconst (v := 1) X dJx4a65c_add_9ea2d_23 (by decide) ?_
  refine z_memq (zq_addA (l := 3) (by decide) hk h0 hkc) ?_
  refine z_iret X rfl (rfl) (by decide) (by decide) dJx4a65c_add_9ea2d_24 ?_
  exact ⟨_, rfl, rfl⟩

set_option maxRecDepth 100000 in
set_option maxHeartbeats 4000000 in
theorem c_add3_0 (l : Launch) (n : Nat → Nat) (i x : Nat → Nat → Int32) (lm : Nat → Nat → Int64) (y : Nat → Nat → Nat) (ol : Int64) (od : UInt64) (hk : n 8 = 0) (hlv : 0 < n 3) : zS l yJx4a65c_add_9ea2d wsJx4a65c_add_9ea2d 11 201 1 40 [.ref 98, .ref (32 * 0 + 13)] (cmm n i x lm y ol od) (zpi (fun r M1 => M1 = cmm (nup n 8 (0 + 1)) i x lm y ol od)) zno := by
  refine z_intro (cc := cJx4a65c_add_9ea2d) (maxL := 2) (ret := (some .boolean)) (by decide +kernel) rfl (Nat.le_of_ble_eq_true rfl) ?_
  have hlk_63 : Cond.fieldLink RJx4a65c 63 "java/util/ArrayList" "modCount" "I" ∈ wsJx4a65c_add_9ea2d := by decide +kernel
  have hlk_9 : Cond.fieldLink RJx4a65c 9 "java/util/ArrayList" "elementData" "[Ljava/lang/Object;" ∈ wsJx4a65c_add_9ea2d := by decide +kernel
  have hlk_48 : Cond.fieldLink RJx4a65c 48 "java/util/ArrayList" "size" "I" ∈ wsJx4a65c_add_9ea2d := by decide +kernel
  intro g X
  show zE g 2 0 [(0, .ref 98), (1, .ref (32 * 0 + 13))] [] (cmm n i x lm y ol od) 0 0
  have hkl : n (5 + 3) = 0 := hk
  have ho0 : zc (cmm n i x lm y ol od) 98 = 3 := ck_2 (j := 3) (by decide)
  have hm0 : zi (cmm n i x lm y ol od) 98 0 = 0 := ((show zi (cmm n i x lm y ol od) 98 0 = nI (n (5 + 3)) from ci_2_0 (j := 3)).trans (congrArg nI hkl)).trans (show nI 0 = 0 from by decide)
  have ho1 : zc (zwi (cmm n i x lm y ol od) 98 0 (nI (0 + 1))) 98 = 3 := ho0
  have hr1 : zr (zwi (cmm n i x lm y ol od) 98 0 (nI (0 + 1))) 98 1 = some 31 := (show zr (cmm n i x lm y ol od) 98 1 = some (cRow n 3) from cr_2_1 (j := 3)).trans (congrArg some (if_pos hkl))
  have hsz : zi (zwi (cmm n i x lm y ol od) 98 0 (nI (0 + 1))) 98 2 = 0 := (zup_n (f := zi (cmm n i x lm y ol od)) (a := 98) (b := 0) (x := nI (0 + 1)) (p := 98) (q := 2) (by decide)).trans (((show zi (cmm n i x lm y ol od) 98 2 = nI (n (5 + 3)) from ci_2_2 (j := 3)).trans (congrArg nI hkl)).trans (show nI 0 = 0 from by decide))
  refine z_aload_n X 0 dJx4a65c_add_9ea2d_0 rfl rfl ?_
  refine z_dup X dJx4a65c_add_9ea2d_1 rfl ?_
  refine z_getI (ci := 2) (j := 0) (x := 0) X dJx4a65c_add_9ea2d_2 ho0 rfl (by decide) hlk_63 (Or.inr (by decide +kernel)) (fun _ => rfl) (hm0) ?_
  refine z_iconst (v := 1) X dJx4a65c_add_9ea2d_5 (by decide) ?_
  refine z_iadd X dJx4a65c_add_9ea2d_6 ?_
  refine z_putI (ci := 2) (j := 0) X dJx4a65c_add_9ea2d_7 ho0 rfl (by decide) hlk_63 (Or.inr (by decide +kernel)) (Or.inl rfl) (fun _ => rfl) rfl rfl ?_
  refine z_mem (M' := zwi (cmm n i x lm y ol od) 98 0 (nI (0 + 1))) (by rw [show (0 + 1 : Int32) = nI (0 + 1) from by decide]) ?_
  refine z_aload_n X 0 dJx4a65c_add_9ea2d_10 rfl rfl ?_
  refine z_aload_n X 1 dJx4a65c_add_9ea2d_11 rfl rfl ?_
  refine z_aload_n X 0 dJx4a65c_add_9ea2d_12 rfl rfl ?_
  refine z_getR (ci := 2) (j := 1) (o' := 31) X dJx4a65c_add_9ea2d_13 ho1 rfl (by decide) hlk_9 (Or.inl rfl) (fun _ => rfl) (hr1) ?_
  refine z_aload_n X 0 dJx4a65c_add_9ea2d_16 rfl rfl ?_
  refine z_getI (ci := 2) (j := 2) (x := 0) X dJx4a65c_add_9ea2d_17 ho1 rfl (by decide) hlk_48 (Or.inl rfl) (fun _ => rfl) (hsz) ?_
  have hb0 : zc (zwi (cmm n i x lm y ol od) 98 0 (nI (0 + 1))) (32 * (4 * 10 + 3) + 3) = 0 := (congrFun (show zc (zwi (cmm n i x lm y ol od) 98 0 (nI (0 + 1))) = zc (cmm n i x lm y ol od) from rfl) _).trans ((show zc (cmm n i x lm y ol od) (32 * (4 * 10 + 3) + 3) = cC n 3 (4 * 10 + 3) from c_c (t := 3) (by decide)).trans (if_neg (fun e9 => by
    have e8 := e9.2
    rw [show (4 * 10 + 3) % 4 = 3 from rfl, show n (5 + 3) = 0 from hk] at e8
    exact absurd e8 (by decide))))
  have hre0 : zr (zwi (cmm n i x lm y ol od) 98 0 (nI (0 + 1))) 98 1 = some zE0 := hr1
  have hv0 : zc (zwi (cmm n i x lm y ol od) 98 0 (nI (0 + 1))) (32 * 0 + 13) = 6 + 1 := (congrFun (show zc (zwi (cmm n i x lm y ol od) 98 0 (nI (0 + 1))) = zc (cmm n i x lm y ol od) from rfl) _).trans (ck_13 hlv)
  have hE9 : zc (zwi (cmm n i x lm y ol od) 98 0 (nI (0 + 1))) zE0 = 26 := (ck_31 : zc (cmm n i x lm y ol od) 31 = 26)
  have hcall := c_add72_0 l (zwi (cmm n i x lm y ol od) 98 0 (nI (0 + 1))) 98 (32 * (4 * 10 + 3) + 3) hE9 ho1 hr1 rfl hb0 (by decide) (by decide) hsz (32 * 0 + 13) 6 _ _ _ hv0 rfl (by decide)
  refine z_callVv (As := [.ref (32 * 0 + 13), .ref 31, .int 0]) (rest := []) (n1 := 3) (ci := 2) X dJx4a65c_add_9ea2d_20 hcall gJx4a65c_add_9ea2d_Jx4a65c_add_72be8 rfl rfl (by decide +kernel) ⟨by decide, by decide⟩ ho1 rfl rfl (Nat.le_of_ble_eq_true rfl) ⟨by decide, by decide⟩ (fun _ h => h.elim) ?_
  rintro _ ⟨rfl, rfl⟩
  refine z_iconst (v := 1) X dJx4a65c_add_9ea2d_23 (by decide) ?_
  refine z_memq (zcpy_0 (M := znew (zwi (cmm n i x lm y ol od) 98 0 (nI (0 + 1))) (32 * (4 * 10 + 3) + 3) 25 10) (a := cRow n 3) (b := 32 * (4 * 10 + 3) + 3) ▸ zq_addB (l := 3) (k := 0) (N := 10) (by decide) hk (by decide)) ?_
  refine z_iret X rfl (rfl) (by decide) (by decide) dJx4a65c_add_9ea2d_24 ?_
  exact ⟨_, rfl, rfl⟩

set_option maxRecDepth 100000 in
set_option maxHeartbeats 4000000 in
theorem c_add3_10 (l : Launch) (n : Nat → Nat) (i x : Nat → Nat → Int32) (lm : Nat → Nat → Int64) (y : Nat → Nat → Nat) (ol : Int64) (od : UInt64) (hk : n 8 = 10) (hlv : 10 < n 3) : zS l yJx4a65c_add_9ea2d wsJx4a65c_add_9ea2d 11 201 1 40 [.ref 98, .ref (32 * 10 + 13)] (cmm n i x lm y ol od) (zpi (fun r M1 => M1 = cmm (nup n 8 (10 + 1)) i x lm y ol od)) zno := by
  refine z_intro (cc := cJx4a65c_add_9ea2d) (maxL := 2) (ret := (some .boolean)) (by decide +kernel) rfl (Nat.le_of_ble_eq_true rfl) ?_
  have hlk_63 : Cond.fieldLink RJx4a65c 63 "java/util/ArrayList" "modCount" "I" ∈ wsJx4a65c_add_9ea2d := by decide +kernel
  have hlk_9 : Cond.fieldLink RJx4a65c 9 "java/util/ArrayList" "elementData" "[Ljava/lang/Object;" ∈ wsJx4a65c_add_9ea2d := by decide +kernel
  have hlk_48 : Cond.fieldLink RJx4a65c 48 "java/util/ArrayList" "size" "I" ∈ wsJx4a65c_add_9ea2d := by decide +kernel
  intro g X
  show zE g 2 0 [(0, .ref 98), (1, .ref (32 * 10 + 13))] [] (cmm n i x lm y ol od) 0 0
  have hkl : n (5 + 3) = 10 := hk
  have ho0 : zc (cmm n i x lm y ol od) 98 = 3 := ck_2 (j := 3) (by decide)
  have hm0 : zi (cmm n i x lm y ol od) 98 0 = 10 := ((show zi (cmm n i x lm y ol od) 98 0 = nI (n (5 + 3)) from ci_2_0 (j := 3)).trans (congrArg nI hkl)).trans (show nI 10 = 10 from by decide)
  have ho1 : zc (zwi (cmm n i x lm y ol od) 98 0 (nI (10 + 1))) 98 = 3 := ho0
  have hr1 : zr (zwi (cmm n i x lm y ol od) 98 0 (nI (10 + 1))) 98 1 = some (cRow n 3) := (show zr (cmm n i x lm y ol od) 98 1 = some (cRow n 3) from cr_2_1 (j := 3))
  have hsz : zi (zwi (cmm n i x lm y ol od) 98 0 (nI (10 + 1))) 98 2 = 10 := (zup_n (f := zi (cmm n i x lm y ol od)) (a := 98) (b := 0) (x := nI (10 + 1)) (p := 98) (q := 2) (by decide)).trans (((show zi (cmm n i x lm y ol od) 98 2 = nI (n (5 + 3)) from ci_2_2 (j := 3)).trans (congrArg nI hkl)).trans (show nI 10 = 10 from by decide))
  refine z_aload_n X 0 dJx4a65c_add_9ea2d_0 rfl rfl ?_
  refine z_dup X dJx4a65c_add_9ea2d_1 rfl ?_
  refine z_getI (ci := 2) (j := 0) (x := 10) X dJx4a65c_add_9ea2d_2 ho0 rfl (by decide) hlk_63 (Or.inr (by decide +kernel)) (fun _ => rfl) (hm0) ?_
  refine z_iconst (v := 1) X dJx4a65c_add_9ea2d_5 (by decide) ?_
  refine z_iadd X dJx4a65c_add_9ea2d_6 ?_
  refine z_putI (ci := 2) (j := 0) X dJx4a65c_add_9ea2d_7 ho0 rfl (by decide) hlk_63 (Or.inr (by decide +kernel)) (Or.inl rfl) (fun _ => rfl) rfl rfl ?_
  refine z_mem (M' := zwi (cmm n i x lm y ol od) 98 0 (nI (10 + 1))) (by rw [show (10 + 1 : Int32) = nI (10 + 1) from by decide]) ?_
  refine z_aload_n X 0 dJx4a65c_add_9ea2d_10 rfl rfl ?_
  refine z_aload_n X 1 dJx4a65c_add_9ea2d_11 rfl rfl ?_
  refine z_aload_n X 0 dJx4a65c_add_9ea2d_12 rfl rfl ?_
  refine z_getR (ci := 2) (j := 1) (o' := cRow n 3) X dJx4a65c_add_9ea2d_13 ho1 rfl (by decide) hlk_9 (Or.inl rfl) (fun _ => rfl) (hr1) ?_
  refine z_aload_n X 0 dJx4a65c_add_9ea2d_16 rfl rfl ?_
  refine z_getI (ci := 2) (j := 2) (x := 10) X dJx4a65c_add_9ea2d_17 ho1 rfl (by decide) hlk_48 (Or.inl rfl) (fun _ => rfl) (hsz) ?_
  have hb0 : zc (zwi (cmm n i x lm y ol od) 98 0 (nI (10 + 1))) (32 * (4 * 15 + 3) + 3) = 0 := (congrFun (show zc (zwi (cmm n i x lm y ol od) 98 0 (nI (10 + 1))) = zc (cmm n i x lm y ol od) from rfl) _).trans ((show zc (cmm n i x lm y ol od) (32 * (4 * 15 + 3) + 3) = cC n 3 (4 * 15 + 3) from c_c (t := 3) (by decide)).trans (if_neg (fun e9 => by
    have e8 := e9.2
    rw [show (4 * 15 + 3) % 4 = 3 from rfl, show n (5 + 3) = 10 from hk] at e8
    exact absurd e8 (by decide))))
  have hne : n (5 + 3) ≠ 0 := by rw [show n (5 + 3) = 10 from hk]; decide
  have hel : ∀ (j v : Nat), j < 10 → zr (zwi (cmm n i x lm y ol od) 98 0 (nI (10 + 1))) (cRow n 3) j = some v → zc (zwi (cmm n i x lm y ol od) 98 0 (nI (10 + 1))) v = 6 + 1 := by
    intro j v hj he
    have e7 := (cr_row (n := n) (i := i) (x := x) (lm := lm) (y := y) (ol := ol) (od := od) (j := 3) (k := j) (by decide) (by rw [show n (5 + 3) = 10 from hk]; exact hj) (by rw [show n (5 + 3) = 10 from hk]; decide)).symm.trans he
    rw [← Option.some.inj e7]
    exact (congrFun (show zc (zwi (cmm n i x lm y ol od) 98 0 (nI (10 + 1))) = zc (cmm n i x lm y ol od) from rfl) _).trans (ck_13 (by omega))
  have hv0 : zc (zwi (cmm n i x lm y ol od) 98 0 (nI (10 + 1))) (32 * 10 + 13) = 6 + 1 := (congrFun (show zc (zwi (cmm n i x lm y ol od) 98 0 (nI (10 + 1))) = zc (cmm n i x lm y ol od) from rfl) _).trans (ck_13 hlv)
  have hs0 : zc (cmm n i x lm y ol od) (cRow n 3) = 25 := ck_row (j := 3) (by decide) hne
  have hn0 : zn (cmm n i x lm y ol od) (cRow n 3) = ccap 10 := (cn_row (j := 3) (by decide) hne).trans (congrArg ccap hkl)
  have hM9 : zc (zwi (cmm n i x lm y ol od) 98 0 (nI (10 + 1))) zMi = 19 := (ck_63 : zc (cmm n i x lm y ol od) 63 = 19)
  have hn1 : zn (zwi (cmm n i x lm y ol od) 98 0 (nI (10 + 1))) (cRow n 3) = 10 := hn0.trans (by decide)
  have hcall := c_add72_10 l (zwi (cmm n i x lm y ol od) 98 0 (nI (10 + 1))) 98 (cRow n 3) (32 * (4 * 15 + 3) + 3) 6 _ _ _ hM9 ho1 hr1 hs0 hn1 hb0 (by decide) (by decide) rfl (by decide) hel hsz (32 * 10 + 13) 6 _ _ _ hv0 rfl (by decide)
  refine z_callVv (As := [.ref (32 * 10 + 13), .ref (cRow n 3), .int 10]) (rest := []) (n1 := 3) (ci := 2) X dJx4a65c_add_9ea2d_20 hcall gJx4a65c_add_9ea2d_Jx4a65c_add_72be8 rfl rfl (by decide +kernel) ⟨by decide, by decide⟩ ho1 rfl rfl (Nat.le_of_ble_eq_true rfl) ⟨by decide, by decide⟩ (fun _ h => h.elim) ?_
  rintro _ ⟨rfl, rfl⟩
  refine z_iconst (v := 1) X dJx4a65c_add_9ea2d_23 (by decide) ?_
  refine z_memq (zq_addB (l := 3) (k := 10) (N := 15) (by decide) hk (by decide)) ?_
  refine z_iret X rfl (rfl) (by decide) (by decide) dJx4a65c_add_9ea2d_24 ?_
  exact ⟨_, rfl, rfl⟩

theorem c_add3 (l : Launch) (n : Nat → Nat) (i x : Nat → Nat → Int32) (lm : Nat → Nat → Int64) (y : Nat → Nat → Nat) (ol : Int64) (od : UInt64) (k : Nat) (hk : n 8 = k) (hlv : k < n 3) (hmx : k < 12) : zS l yJx4a65c_add_9ea2d wsJx4a65c_add_9ea2d 11 201 1 40 [.ref 98, .ref (32 * k + 13)] (cmm n i x lm y ol od) (zpi (fun r M1 => M1 = cmm (nup n 8 (k + 1)) i x lm y ol od)) zno := by
  by_cases h0 : k = 0
  · subst h0
    exact c_add3_0 l _ _ _ _ _ _ _ hk hlv
  by_cases h10 : k = 10
  · subst h10
    exact c_add3_10 l _ _ _ _ _ _ _ hk hlv
  exact c_add3_A l _ _ _ _ _ _ _ k hk hlv h0 (by unfold ccap; (repeat' split) <;> omega)
