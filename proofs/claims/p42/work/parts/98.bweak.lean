/-! PART 98b: what a call that changes leaves, in two cases: it threw, or it did its work -/
def xst (bd ok : Int32 → Prop) (n : Nat → Nat) (i x : Nat → Nat → Int32) (lm : Nat → Nat → Int64) (y : Nat → Nat → Nat) (ol : Int64) (od : UInt64) (dr dk dn : Nat) (tm : Int32) (pr : Nat → Int32) (Z : (Nat → Nat) → (Nat → Nat → Int32) → Prop) (v : Int32) (M1 : zMem) : Prop :=
  (bd v ∧ M1 = cmm n i x lm y ol od) ∨ (ok v ∧ xgO n ol od dr dk dn tm pr Z M1)
theorem xst_ok {bd ok : Int32 → Prop} {n : Nat → Nat} {i x : Nat → Nat → Int32} {lm : Nat → Nat → Int64} {y : Nat → Nat → Nat} {ol : Int64} {od : UInt64} {dr dk dn : Nat} {tm : Int32} {pr : Nat → Int32} {Z : (Nat → Nat) → (Nat → Nat → Int32) → Prop} {v : Int32} {M1 : zMem} (h : xst bd ok n i x lm y ol od dr dk dn tm pr Z v M1) : zCok M1 := by
  rcases h with ⟨-, rfl⟩ | ⟨-, n', i', x', lm', y', t', rfl, -⟩
  · exact zCok_cmm
  · exact zCok_cmm
theorem xst_i {c A B P : Prop} [Decidable c] (hv : if c then A else B) (hA : A → P) (hB : B → P) : P := by
  by_cases h : c
  · rw [if_pos h] at hv; exact hA hv
  · rw [if_neg h] at hv; exact hB hv
theorem xi_no {c A B : Prop} [Decidable c] (h : ¬ c) (hv : if c then A else B) : B := by rw [if_neg h] at hv; exact hv
theorem xi_yes {c A B : Prop} [Decidable c] (h : c) (hv : if c then A else B) : A := by rw [if_pos h] at hv; exact hv
theorem zr_imp {l : Launch} {y : MethodName} {ws : List Cond} {fr lo mc ms : Nat} {av : List Value} {C : zMem} {P : Int32 → zMem → Prop} {V : Int32} (h : zS l y ws fr lo mc ms av C (zpi P) zno) (k : ∀ v M, P v M → v = V ∧ M = C) : zS l y ws fr lo mc ms av C (zpi (fun v M1 => v = V ∧ M1 = C)) zno := by
  refine zS_imp h ?_
  rintro v M ⟨r, rfl, hr⟩
  exact ⟨r, rfl, k r M hr⟩
set_option maxRecDepth 100000 in
set_option maxHeartbeats 4000000 in
theorem w_setL (l : Launch) (hl0 : l.stackTraces = false) {n : Nat → Nat} {i x : Nat → Nat → Int32} {lm : Nat → Nat → Int64} {y : Nat → Nat → Nat} {t : Nat} (h : xSI n i x lm y t) (ol : Int64) (od : UInt64) (r : Int32) (a : Int32) (b : Int32) : zS l yL_sets wsL_sets 11 200 4 40 [.ref 1, .int r, .int 108, .int a, .int b] (cmm n i x lm y ol od) (zpi (xst (fun v => v < -1000) (fun v => ¬ v < -1000) n i x lm y ol od 0 0 0 (i 1 0) (i 138) (xZT))) zno := by
  refine zS_imp (h_setL l hl0 h ol od r a b) ?_
  rintro v9 M9 ⟨r9, rfl, hv⟩
  exact ⟨r9, rfl, xst_i hv (fun hv => xst_i hv (fun hv => Or.inr hv) (fun e => by obtain ⟨rfl, rfl⟩ := e; exact Or.inl ⟨by decide, rfl⟩)) (fun e => by obtain ⟨rfl, rfl⟩ := e; exact Or.inl ⟨by decide, rfl⟩)⟩
set_option maxRecDepth 100000 in
set_option maxHeartbeats 4000000 in
theorem w_setD (l : Launch) (hl0 : l.stackTraces = false) {n : Nat → Nat} {i x : Nat → Nat → Int32} {lm : Nat → Nat → Int64} {y : Nat → Nat → Nat} {t : Nat} (h : xSI n i x lm y t) (ol : Int64) (od : UInt64) (r : Int32) (a : Int32) (b : Int32) : zS l yL_sets wsL_sets 11 200 4 40 [.ref 1, .int r, .int 100, .int a, .int b] (cmm n i x lm y ol od) (zpi (xst (fun v => v < -1000) (fun v => ¬ v < -1000) n i x lm y ol od 0 0 0 (i 1 0) (i 138) (xZT))) zno := by
  refine zS_imp (h_setD l hl0 h ol od r a b) ?_
  rintro v9 M9 ⟨r9, rfl, hv⟩
  exact ⟨r9, rfl, xst_i hv (fun hv => xst_i hv (fun hv => Or.inr hv) (fun e => by obtain ⟨rfl, rfl⟩ := e; exact Or.inl ⟨by decide, rfl⟩)) (fun e => by obtain ⟨rfl, rfl⟩ := e; exact Or.inl ⟨by decide, rfl⟩)⟩
set_option maxRecDepth 100000 in
set_option maxHeartbeats 4000000 in
theorem w_setO (l : Launch) (hl0 : l.stackTraces = false) {n : Nat → Nat} {i x : Nat → Nat → Int32} {lm : Nat → Nat → Int64} {y : Nat → Nat → Nat} {t : Nat} (h : xSI n i x lm y t) (ol : Int64) (od : UInt64) (r : Int32) (a : Int32) (b : Int32) : zS l yL_sets wsL_sets 8 134 4 40 [.ref 1, .int r, .int 111, .int a, .int b] (cmm n i x lm y ol od) (zpi (xst (fun v => v < -1000) (fun v => ¬ v < -1000) n i x lm y ol od 0 0 0 (i 1 0) (i 138) (xZT))) zno := by
  refine zS_imp (h_setO l hl0 h ol od r a b) ?_
  rintro v9 M9 ⟨r9, rfl, hv⟩
  exact ⟨r9, rfl, xst_i hv (fun hv => Or.inr hv) (fun e => by obtain ⟨rfl, rfl⟩ := e; exact Or.inl ⟨by decide, rfl⟩)⟩
set_option maxRecDepth 100000 in
set_option maxHeartbeats 4000000 in
theorem w_setC (l : Launch) (hl0 : l.stackTraces = false) {n : Nat → Nat} {i x : Nat → Nat → Int32} {lm : Nat → Nat → Int64} {y : Nat → Nat → Nat} {t : Nat} (h : xSI n i x lm y t) (ol : Int64) (od : UInt64) (r : Int32) (a : Int32) (b : Int32) : zS l yL_sets wsL_sets 8 134 4 40 [.ref 1, .int r, .int 99, .int a, .int b] (cmm n i x lm y ol od) (zpi (xst (fun v => v < -1000) (fun v => ¬ v < -1000) n i x lm y ol od 0 0 0 (i 1 0) (i 138) (xZT))) zno := by
  refine zS_imp (h_setC l hl0 h ol od r a b) ?_
  rintro v9 M9 ⟨r9, rfl, hv⟩
  exact ⟨r9, rfl, xst_i hv (fun hv => Or.inr hv) (fun e => by obtain ⟨rfl, rfl⟩ := e; exact Or.inl ⟨by decide, rfl⟩)⟩
set_option maxRecDepth 100000 in
set_option maxHeartbeats 4000000 in
theorem w_setP (l : Launch) (hl0 : l.stackTraces = false) {n : Nat → Nat} {i x : Nat → Nat → Int32} {lm : Nat → Nat → Int64} {y : Nat → Nat → Nat} {t : Nat} (h : xSI n i x lm y t) (ol : Int64) (od : UInt64) (r : Int32) (a : Int32) (b : Int32) : zS l yL_sets wsL_sets 8 134 4 40 [.ref 1, .int r, .int 112, .int a, .int b] (cmm n i x lm y ol od) (zpi (xst (fun v => v < -1000) (fun v => ¬ v < -1000) n i x lm y ol od 0 0 0 (i 1 0) (i 138) (xZT))) zno := by
  refine zS_imp (h_setP l hl0 h ol od r a b) ?_
  rintro v9 M9 ⟨r9, rfl, hv⟩
  exact ⟨r9, rfl, xst_i hv (fun hv => Or.inr hv) (fun e => by obtain ⟨rfl, rfl⟩ := e; exact Or.inl ⟨by decide, rfl⟩)⟩
set_option maxRecDepth 100000 in
set_option maxHeartbeats 4000000 in
theorem w_mode (l : Launch) (hl0 : l.stackTraces = false) {n : Nat → Nat} {i x : Nat → Nat → Int32} {lm : Nat → Nat → Int64} {y : Nat → Nat → Nat} {t : Nat} (h : xSI n i x lm y t) (ol : Int64) (od : UInt64) (r : Int32) (m : Int32) (hm : narrow .char (.int m) = .int m) : zS l yL_mode wsL_mode 11 199 4 40 [.ref 1, .int r, .int m] (cmm n i x lm y ol od) (zpi (xst (fun v => v < 97) (fun v => ¬ v < 97) n i x lm y ol od 0 0 0 (i 1 0) (i 138) (xZT))) zno := by
  refine zS_imp (h_mode l hl0 h ol od r m hm) ?_
  rintro v9 M9 ⟨r9, rfl, hv⟩
  exact ⟨r9, rfl, xst_i hv (fun hv => xst_i hv (fun hv => Or.inr hv) (fun e => by obtain ⟨rfl, rfl⟩ := e; exact Or.inl ⟨by decide, rfl⟩)) (fun e => by obtain ⟨rfl, rfl⟩ := e; exact Or.inl ⟨by decide, rfl⟩)⟩
set_option maxRecDepth 100000 in
set_option maxHeartbeats 4000000 in
theorem w_prices (l : Launch) (hl0 : l.stackTraces = false) {n : Nat → Nat} {i x : Nat → Nat → Int32} {lm : Nat → Nat → Int64} {y : Nat → Nat → Nat} {t : Nat} (h : xSI n i x lm y t) (ol : Int64) (od : UInt64) (a : Int32) (b : Int32) (f : Int32) (e : Int32) : zS l yL_prices wsL_prices 8 137 4 40 [.ref 1, .int a, .int b, .int f, .int e] (cmm n i x lm y ol od) (zpi (xst (fun v => v < -1000) (fun v => ¬ v < -1000) n i x lm y ol od 0 0 0 (i 1 0) (i 138) (xZT))) zno := by
  refine zS_imp (h_prices l hl0 h ol od a b f e) ?_
  rintro v9 M9 ⟨r9, rfl, hv⟩
  exact ⟨r9, rfl, xst_i hv (fun hv => Or.inr hv) (fun e => by obtain ⟨rfl, rfl⟩ := e; exact Or.inl ⟨by decide, rfl⟩)⟩
set_option maxRecDepth 100000 in
set_option maxHeartbeats 4000000 in
theorem w_room (l : Launch) (hl0 : l.stackTraces = false) {n : Nat → Nat} {i x : Nat → Nat → Int32} {lm : Nat → Nat → Int64} {y : Nat → Nat → Nat} {t : Nat} (h : xSI n i x lm y t) (ol : Int64) (od : UInt64) (a : Int32) (b : Int32) (c : Int32) : zS l yL_room wsL_room 13 246 8 1100 [.ref 1, .int a, .int b, .int c] (cmm n i x lm y ol od) (zpi (xst (fun v => v < -1000) (fun v => ¬ v < 0) n i x lm y ol od 1 0 0 (i 1 0) (i 138) (xZT))) zno := by
  refine zS_imp (h_room l hl0 h ol od a b c) ?_
  rintro v9 M9 ⟨r9, rfl, hv⟩
  exact ⟨r9, rfl, xst_i hv (fun hv => xst_i hv (fun hv => Or.inr hv) (fun e => by obtain ⟨rfl, rfl⟩ := e; exact Or.inl ⟨by decide, rfl⟩)) (fun e => by obtain ⟨rfl, rfl⟩ := e; exact Or.inl ⟨by decide, rfl⟩)⟩
set_option maxRecDepth 100000 in
set_option maxHeartbeats 4000000 in
theorem w_kind (l : Launch) (hl0 : l.stackTraces = false) {n : Nat → Nat} {i x : Nat → Nat → Int32} {lm : Nat → Nat → Int64} {y : Nat → Nat → Nat} {t : Nat} (h : xSI n i x lm y t) (ol : Int64) (od : UInt64) (a : Int32) (b : Int32) (c : Int32) : zS l yL_kind wsL_kind 13 245 8 1100 [.ref 1, .int a, .int b, .int c] (cmm n i x lm y ol od) (zpi (xst (fun v => v < -1000) (fun v => ¬ v < 0) n i x lm y ol od 0 1 0 (i 1 0) (i 138) (xZT))) zno := by
  refine zS_imp (h_kind l hl0 h ol od a b c) ?_
  rintro v9 M9 ⟨r9, rfl, hv⟩
  exact ⟨r9, rfl, xst_i hv (fun hv => xst_i hv (fun hv => Or.inr hv) (fun e => by obtain ⟨rfl, rfl⟩ := e; exact Or.inl ⟨by decide, rfl⟩)) (fun e => by obtain ⟨rfl, rfl⟩ := e; exact Or.inl ⟨by decide, rfl⟩)⟩
set_option maxRecDepth 100000 in
set_option maxHeartbeats 4000000 in
theorem w_putP (l : Launch) (hl0 : l.stackTraces = false) {n : Nat → Nat} {i x : Nat → Nat → Int32} {lm : Nat → Nat → Int64} {y : Nat → Nat → Nat} {t : Nat} (h : xSI n i x lm y t) (ol : Int64) (od : UInt64) (kd : Int32) (r : Int32) : zS l yL_puts wsL_puts 13 247 8 1100 [.ref 1, .int 112, .int kd, .int r] (cmm n i x lm y ol od) (zpi (xst (fun v => v < -1000) (fun v => ¬ v < -1000) n i x lm y ol od 0 0 0 (i 1 0) (i 138) (xZT))) zno := by
  refine zS_imp (h_putP l hl0 h ol od kd r) ?_
  rintro v9 M9 ⟨r9, rfl, hv⟩
  exact ⟨r9, rfl, xst_i hv (fun hv => xst_i hv (fun hv => xst_i hv (fun hv => Or.inr hv) (fun e => by obtain ⟨rfl, rfl⟩ := e; exact Or.inl ⟨by decide, rfl⟩)) (fun e => by obtain ⟨rfl, rfl⟩ := e; exact Or.inl ⟨by decide, rfl⟩)) (fun e => by obtain ⟨rfl, rfl⟩ := e; exact Or.inl ⟨by decide, rfl⟩)⟩
set_option maxRecDepth 100000 in
set_option maxHeartbeats 4000000 in
theorem w_putM (l : Launch) (hl0 : l.stackTraces = false) {n : Nat → Nat} {i x : Nat → Nat → Int32} {lm : Nat → Nat → Int64} {y : Nat → Nat → Nat} {t : Nat} (h : xSI n i x lm y t) (ol : Int64) (od : UInt64) (p : Int32) (r : Int32) : zS l yL_puts wsL_puts 12 224 8 1100 [.ref 1, .int 109, .int p, .int r] (cmm n i x lm y ol od) (zpi (xst (fun v => v < -1000) (fun v => ¬ v < -1000) n i x lm y ol od 0 0 0 (i 1 0) (i 138) (xZT))) zno := by
  refine zS_imp (h_putM l hl0 h ol od p r) ?_
  rintro v9 M9 ⟨r9, rfl, hv⟩
  exact ⟨r9, rfl, xst_i hv (fun hv => xst_i hv (fun hv => xst_i hv (fun hv => xst_i hv (fun hv => Or.inr hv) (fun e => by obtain ⟨rfl, rfl⟩ := e; exact Or.inl ⟨by decide, rfl⟩)) (fun e => by obtain ⟨rfl, rfl⟩ := e; exact Or.inl ⟨by decide, rfl⟩)) (fun e => by obtain ⟨rfl, rfl⟩ := e; exact Or.inl ⟨by decide, rfl⟩)) (fun e => by obtain ⟨rfl, rfl⟩ := e; exact Or.inl ⟨by decide, rfl⟩)⟩
set_option maxRecDepth 100000 in
set_option maxHeartbeats 4000000 in
theorem w_scrap (l : Launch) (hl0 : l.stackTraces = false) {n : Nat → Nat} {i x : Nat → Nat → Int32} {lm : Nat → Nat → Int64} {y : Nat → Nat → Nat} {t : Nat} (h : xSI n i x lm y t) (ol : Int64) (od : UInt64) (p : Int32) : zS l yL_pallet wsL_pallet 11 197 4 40 [.ref 1, .int p, .int 4] (cmm n i x lm y ol od) (zpi (xst (fun v => v < -1000) (fun v => ¬ v < -1000) n i x lm y ol od 0 0 0 (i 1 0) (i 138) (xZT))) zno := by
  refine zS_imp (h_scrap l hl0 h ol od p) ?_
  rintro v9 M9 ⟨r9, rfl, hv⟩
  exact ⟨r9, rfl, xst_i hv (fun hv => xst_i hv (fun hv => Or.inr hv) (fun e => by obtain ⟨rfl, rfl⟩ := e; exact Or.inl ⟨by decide, rfl⟩)) (fun e => by obtain ⟨rfl, rfl⟩ := e; exact Or.inl ⟨by decide, rfl⟩)⟩
set_option maxRecDepth 100000 in
set_option maxHeartbeats 4000000 in
theorem w_order (l : Launch) (hl0 : l.stackTraces = false) {n : Nat → Nat} {i x : Nat → Nat → Int32} {lm : Nat → Nat → Int64} {y : Nat → Nat → Nat} {t : Nat} (h : xSI n i x lm y t) (ol : Int64) (od : UInt64) (kd : Int32) (a : Int32) (b : Int32) (c : Int32) : zS l yL_order wsL_order 13 247 8 1100 [.ref 1, .int kd, .int a, .int b, .int c] (cmm n i x lm y ol od) (zpi (xst (fun v => v < -1000) (fun v => v = nI (n 8)) n i x lm y ol od 0 0 1 (i 1 0) (fun o => if o = n 8 then b else i 138 o) (xZT))) zno := by
  refine zS_imp (h_order l hl0 h ol od kd a b c) ?_
  rintro v9 M9 ⟨r9, rfl, hv⟩
  exact ⟨r9, rfl, xst_i hv (fun hv => xst_i hv (fun hv => xst_i hv (fun hv => Or.inr hv) (fun e => by obtain ⟨rfl, rfl⟩ := e; exact Or.inl ⟨by decide, rfl⟩)) (fun e => by obtain ⟨rfl, rfl⟩ := e; exact Or.inl ⟨by decide, rfl⟩)) (fun e => by obtain ⟨rfl, rfl⟩ := e; exact Or.inl ⟨by decide, rfl⟩)⟩
set_option maxRecDepth 100000 in
set_option maxHeartbeats 4000000 in
theorem w_cancel (l : Launch) (hl0 : l.stackTraces = false) {n : Nat → Nat} {i x : Nat → Nat → Int32} {lm : Nat → Nat → Int64} {y : Nat → Nat → Nat} {t : Nat} (h : xSI n i x lm y t) (ol : Int64) (od : UInt64) (o : Int32) : zS l yL_orders wsL_orders 11 198 4 40 [.ref 1, .int o, .int 0] (cmm n i x lm y ol od) (zpi (xst (fun v => v < -1000) (fun v => ¬ v < -1000) n i x lm y ol od 0 0 0 (i 1 0) (i 138) (xZT))) zno := by
  refine zS_imp (h_cancel l hl0 h ol od o) ?_
  rintro v9 M9 ⟨r9, rfl, hv⟩
  exact ⟨r9, rfl, xst_i hv (fun hv => xst_i hv (fun hv => Or.inr hv) (fun e => by obtain ⟨rfl, rfl⟩ := e; exact Or.inl ⟨by decide, rfl⟩)) (fun e => by obtain ⟨rfl, rfl⟩ := e; exact Or.inl ⟨by decide, rfl⟩)⟩
set_option maxRecDepth 100000 in
set_option maxHeartbeats 4000000 in
theorem w_ship (l : Launch) (hl0 : l.stackTraces = false) {n : Nat → Nat} {i x : Nat → Nat → Int32} {lm : Nat → Nat → Int64} {y : Nat → Nat → Nat} {t : Nat} (h : xSI n i x lm y t) (ol : Int64) (od : UInt64) (o : Int32) : zS l yL_orders wsL_orders 12 226 8 1100 [.ref 1, .int o, .int 1] (cmm n i x lm y ol od) (zpi (xst (fun v => v < -1000) (fun v => ¬ v < -1000) n i x lm y ol od 0 0 0 (i 1 0) (i 138) (fun n' i' => (cl o < n' 8 ∧ o = nI (cl o)) ∧ i' 140 (cl o) = 115 ∧ m_cntN i' (cl o) (n' 7) < m_cntN i (cl o) (n 7)))) zno := by
  refine zS_imp (h_ship l hl0 h ol od o) ?_
  rintro v9 M9 ⟨r9, rfl, hv⟩
  exact ⟨r9, rfl, xst_i hv (fun hv => xst_i hv (fun hv => xst_i hv (fun hv => Or.inr hv) (fun e => by obtain ⟨rfl, rfl⟩ := e; exact Or.inl ⟨by decide, rfl⟩)) (fun e => by obtain ⟨rfl, rfl⟩ := e; exact Or.inl ⟨by decide, rfl⟩)) (fun e => by obtain ⟨rfl, rfl⟩ := e; exact Or.inl ⟨by decide, rfl⟩)⟩
set_option maxRecDepth 100000 in
set_option maxHeartbeats 4000000 in
theorem w_pass (l : Launch) (hl0 : l.stackTraces = false) {n : Nat → Nat} {i x : Nat → Nat → Int32} {lm : Nat → Nat → Int64} {y : Nat → Nat → Nat} {t : Nat} (h : xSI n i x lm y t) (ol : Int64) (od : UInt64) (u : Int32) : zS l yL_pass wsL_pass 14 273 8 1100 [.ref 1, .int u] (cmm n i x lm y ol od) (zpi (xst (fun v => v < -1000) (fun v => ¬ v < -1000) n i x lm y ol od 0 0 0 (i 1 0 + u) (i 138) (xZT))) zno := by
  refine zS_imp (h_pass l hl0 h ol od u) ?_
  rintro v9 M9 ⟨r9, rfl, hv⟩
  exact ⟨r9, rfl, xst_i hv (fun hv => xst_i hv (fun hv => Or.inr hv) (fun e => by obtain ⟨rfl, rfl⟩ := e; exact Or.inl ⟨by decide, rfl⟩)) (fun e => by obtain ⟨rfl, rfl⟩ := e; exact Or.inl ⟨by decide, rfl⟩)⟩
