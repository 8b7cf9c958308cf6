/-! PART 86: what holds between the calls, behind small changes -/
def cHid (a b : Nat) : Prop := a = 113 ∨ a = 114 ∨ a = 115 ∨ a = 132 ∨ (a = 1 ∧ (b = 17 ∨ b = 20 ∨ b = 30 ∨ b = 35 ∨ b = 42 ∨ b = 43))
/-- alike where the class looks -/
def eV (i j : Nat → Nat → Int32) : Prop := ∀ a b, ¬ cHid a b → i a b = j a b
theorem cmm_eV {n : Nat → Nat} {i j x : Nat → Nat → Int32} {lm lm' : Nat → Nat → Int64} {y : Nat → Nat → Nat} {ol : Int64} {od : UInt64} (h : eV i j) (hl : lm 1 26 = lm' 1 26) : cmm n i x lm y ol od = cmm n j x lm' y ol od := by
  have h1 : ∀ w ∈ cTl, w.2.2 ≠ 2017 ∧ w.2.2 ≠ 2020 ∧ w.2.2 ≠ 2030 ∧ w.2.2 ≠ 2035 ∧ w.2.2 ≠ 2042 ∧ w.2.2 ≠ 2043 ∧ w.2.2 ≠ 1113 ∧ w.2.2 ≠ 1114 ∧ w.2.2 ≠ 1115 ∧ w.2.2 ≠ 1132 ∧ w.2.2 ≠ 1001 := by decide +kernel
  have e : ∀ t q k, cI n i x t q k = cI n j x t q k := fun t q k => by
    unfold cI
    split
    · rfl
    · split
      · rfl
      · split
        · rfl
        · unfold cI0
          split
          · rfl
          · split
            · rfl
            · split
              · rfl
              · split
                · split
                  · refine h _ _ (fun a => ?_)
                    have h2 := h1 _ (cTc_mem (t := t) (k := k) rfl (by omega))
                    simp only at h2
                    unfold cHid at a
                    omega
                  · rfl
                · split
                  · refine h _ _ (fun a => ?_)
                    have h2 := h1 _ (cTc_mem (t := t) (k := k) rfl (by omega))
                    simp only at h2
                    unfold cHid at a
                    omega
                  · rfl
  have eR : ∀ t q k, cR n i y t q k = cR n j y t q k := fun t q k => by
    unfold cR
    rw [h 131 q (by unfold cHid; omega), h 136 q (by unfold cHid; omega)]
  unfold cmm
  rw [hl]
  refine Prod.ext rfl (Prod.ext rfl (Prod.ext (funext fun p => funext fun q => eR _ _ _) (Prod.ext (funext fun p => funext fun q => e _ _ _) rfl)))
theorem eV_rf {i : Nat → Nat → Int32} : eV i i := fun _ _ _ => rfl
theorem eV_43 {i j : Nat → Nat → Int32} {b : Nat} {v : Int32} (hb : b = 17 ∨ b = 20 ∨ b = 30 ∨ b = 35 ∨ b = 42 ∨ b = 43) (h : eV i j) : eV i (zup j 1 b v) := fun a c hn => (h a c hn).trans (zup_n (fun e => hn (by unfold cHid; omega))).symm
theorem eV_132 {i j : Nat → Nat → Int32} {b : Nat} {v : Int32} (h : eV i j) : eV i (zup j 132 b v) := fun a c hn => (h a c hn).trans (zup_n (fun e => hn (by unfold cHid; omega))).symm
theorem eV_zup {i j : Nat → Nat → Int32} {a b : Nat} {v w : Int32} (h : eV i j) (e : v = w) : eV (zup i a b v) (zup j a b w) := by
  intro p q hn
  subst e
  by_cases c : p = a ∧ q = b
  · rw [c.1, c.2, zup_s, zup_s]
  · rw [zup_n c, zup_n c]; exact h p q hn
theorem eT_eV {i j : Nat → Nat → Int32} (h : eT i j) : eV i j := fun a b hn => h a b (fun e => hn (by unfold cHid; omega)) (fun e => hn (by unfold cHid; omega))
theorem CI_i {n : Nat → Nat} {i i' x x' : Nat → Nat → Int32} {lm : Nat → Nat → Int64} {y : Nat → Nat → Nat} {t : Nat} (h : CI n i x lm y t)
    (e1 : ∀ b, b = 0 ∨ b = 17 ∨ b = 24 ∨ b = 25 ∨ b = 30 ∨ b = 35 ∨ b = 42 → i' 1 b = i 1 b) (eO : zin (i' 1 1) (-300) 450) (eP : cP i' x')
    (e2 : ∀ a b, a = 102 ∨ a = 103 ∨ a = 110 ∨ a = 111 ∨ a = 112 ∨ a = 114 ∨ a = 116 ∨ a = 127 ∨ a = 128 ∨ a = 129 ∨ a = 131 ∨ a = 132 ∨ a = 133 ∨ a = 134 ∨ a = 136 ∨ a = 137 ∨ a = 139 ∨ a = 141 → i' a b = i a b)
    (e105 : ∀ r, r < n 5 → i' 105 r ≤ i' 106 r) (e109 : ∀ r, r < n 5 → i' 109 r = 97 ∨ i' 109 r = 111 ∨ i' 109 r = 110) (n109 : ∀ j, narrow .char (.int (i' 109 j)) = .int (i' 109 j))
    (e107 : ∀ r, n 5 ≤ r → i' 107 r = 0 ∧ i' 108 r = 0) (n140 : ∀ j, narrow .char (.int (i' 140 j)) = .int (i' 140 j)) (e140 : ∀ o, o < n 8 → i' 140 o = 111 → i 140 o = 111)
    (ex : ∀ a b, a ≠ 7 → x' a b = x a b) : CI n i' x' lm y t := by
  obtain ⟨hW, ⟨h0, h960, g17, g30, g35, g42, hO, hP⟩, ⟨b111, b112, k109, k134, k140⟩, ⟨hr, hf⟩, hk, hl, hs, hx, ⟨m1, m2, m3⟩, ⟨ho, hof⟩, hfl⟩ := h
  have hls : ∀ k d, c_ls i' k d = c_ls i k d := fun k d => by unfold c_ls; rw [e2 129 k (by omega), e2 128 k (by omega)]
  have hX4 : ∀ s, x' 4 s = x 4 s := fun s => ex 4 s (by decide)
  have hrc := c_rc_eq (x := x) (x' := x') t (fun k _ => ⟨ex 1 k (by decide), ex 2 k (by decide)⟩)
  refine ⟨hW.of (fun b => ⟨e2 131 b (by omega), e2 132 b (by omega), e2 136 b (by omega)⟩), ⟨(e1 0 (by omega)).trans h0, h960, (e1 17 (by omega)).trans g17, (e1 30 (by omega)).trans g30, (e1 35 (by omega)).trans g35, (e1 42 (by omega)).trans g42, eO, eP⟩,
    ⟨fun j => by rw [e2 111 j (by omega)]; exact b111 j, fun j => by rw [e2 112 j (by omega)]; exact b112 j, n109, fun j => by rw [e2 134 j (by omega)]; exact k134 j, n140⟩, ⟨fun r hr5 => ?_, fun r hr5 => ?_⟩, fun k hk6 => by rw [e2 127 k (by omega), e2 128 k (by omega)]; exact hk k hk6, fun p hp => ?_,
    fun s hs4 => by rw [hX4 s]; exact ⟨(hs s hs4).1, (hs s hs4).2.1, fun q e => by rw [hX4 q]; exact (hs s hs4).2.2 q e⟩, fun a b ha => by rw [ex a b (by omega)]; exact hx a b ha, ⟨by rw [hrc.1]; exact m1, by rw [hrc.2, e1 25 (by omega)]; exact m2, by rw [e1 24 (by omega), e1 25 (by omega)]; exact m3⟩, ⟨fun o ho8 => ?_, fun o ho8 => by rw [e2 141 o (by omega)]; exact hof o ho8⟩, fun r hr5 => ?_⟩
  · obtain ⟨q1, q2, q3, q4, q5, q6, q7⟩ := hr r hr5
    unfold rI
    rw [e2 102 r (by omega), e2 103 r (by omega), e2 110 r (by omega), e2 116 r (by omega), e2 114 r (by omega), ex 6 r (by decide), ex 5 r (by decide)]
    exact ⟨q1, e105 r hr5, e109 r hr5, q4, q5, q6, q7⟩
  · obtain ⟨f1, f2, f3, f4, f5, f6⟩ := hf r hr5
    unfold rF
    rw [e2 111 r (by omega), e2 112 r (by omega), e2 116 r (by omega)]
    exact ⟨(e107 r hr5).1, (e107 r hr5).2, f3, f4, f5, f6⟩
  · obtain ⟨l1, l2, l3⟩ := hl p hp
    have en : c_en i' x' p t = c_en i x p t := by unfold c_en; rw [e2 134 p (by omega), ex 3 p (by decide)]
    unfold lI
    rw [en, hX4, ex 3 p (by decide), e2 133 p (by omega), e2 131 p (by omega), e2 127 _ (by omega)]
    refine ⟨l1, l2, l3.trans ?_⟩
    have w2 := (hW.2.2.1 p hp).2.1
    rw [c_rlN_c (T := t) (N := n 4) (i' := i') (x' := x') (y' := y) (hls _) (fun r q _ => ex (10 + r) q (by omega)) (fun s hs4 => ⟨(hW.2.2.2.1 s hs4).2, rfl, rfl, hX4 s, (hs s hs4).2.1⟩) (n 4) (y 0 p + 1) _ (by omega) l1.2]
  · obtain ⟨⟨c, c1, c2, c3⟩, c4⟩ := ho o ho8
    refine ⟨⟨c, c1, c2, by rw [e2 137 o (by omega)]; exact c3⟩, fun e => ?_⟩
    rw [e2 139 o (by omega)]
    exact c4 (e140 o ho8 e)
  · rw [show flN i' r (n 7) = flN i r (n 7) from zcnt_eq _ (fun p _ => by rw [e2 134 p (by omega), e2 132 p (by omega)])]
    exact hfl r hr5
section CI1
variable {n : Nat → Nat} {i x : Nat → Nat → Int32} {lm : Nat → Nat → Int64} {y : Nat → Nat → Nat} {t : Nat}
/-- a change of the first row alone, of no number that counts, and of no peak -/
theorem CI_1 (h : CI n i x lm y t) {b : Nat} {v : Int32} (hb : b ≠ 0 ∧ b ≠ 1 ∧ b ≠ 17 ∧ b ≠ 20 ∧ b ≠ 21 ∧ b ≠ 24 ∧ b ≠ 25 ∧ b ≠ 30 ∧ b ≠ 35 ∧ b ≠ 42) : CI n (zup i 1 b v) x lm y t :=
  CI_i h (fun c hc => zup_n (by omega)) (by rw [zup_n (by omega)]; exact h.2.1.2.2.2.2.2.2.1) (by have := h.2.1.2.2.2.2.2.2.2; unfold cP at this ⊢; rw [zup_n (by omega), zup_n (by omega)]; exact this) (fun a c hc => zup_n (by omega))
    (fun r hr => by rw [zup_n (by omega), zup_n (by omega)]; exact (h.2.2.2.1.1 r hr).2.1) (fun r hr => by rw [zup_n (by omega)]; exact (h.2.2.2.1.1 r hr).2.2.1) (fun j => by rw [zup_n (by omega)]; exact h.2.2.1.2.2.1 j)
    (fun r hr => by rw [zup_n (by omega), zup_n (by omega)]; exact ⟨(h.2.2.2.1.2 r hr).1, (h.2.2.2.1.2 r hr).2.1⟩) (fun j => by rw [zup_n (by omega)]; exact h.2.2.1.2.2.2.2 j) (fun o _ e => by rw [zup_n (by omega)] at e; exact e) (fun _ _ _ => rfl)
theorem CI_43 (h : CI n i x lm y t) {v : Int32} : CI n (zup i 1 43 v) x lm y t := CI_1 h (by decide)
theorem CI_out (h : CI n i x lm y t) {v : Int32} (hv : zin v (-300) 450) : CI n (zup i 1 1 v) x lm y t :=
  CI_i h (fun c hc => zup_n (by omega)) (by rw [zup_s]; exact hv) (by have := h.2.1.2.2.2.2.2.2.2; unfold cP at this ⊢; rw [zup_n (by omega), zup_n (by omega)]; exact this) (fun a c hc => zup_n (by omega))
    (fun r hr => by rw [zup_n (by omega), zup_n (by omega)]; exact (h.2.2.2.1.1 r hr).2.1) (fun r hr => by rw [zup_n (by omega)]; exact (h.2.2.2.1.1 r hr).2.2.1) (fun j => by rw [zup_n (by omega)]; exact h.2.2.1.2.2.1 j)
    (fun r hr => by rw [zup_n (by omega), zup_n (by omega)]; exact ⟨(h.2.2.2.1.2 r hr).1, (h.2.2.2.1.2 r hr).2.1⟩) (fun j => by rw [zup_n (by omega)]; exact h.2.2.1.2.2.2.2 j) (fun o _ e => by rw [zup_n (by omega)] at e; exact e) (fun _ _ _ => rfl)
theorem CI_peak (h : CI n i x lm y t) {f e : Int32} (hf : zin f 0 95) (he : zin e f 95) : CI n (zup (zup i 1 20 f) 1 21 e) (zup x 7 0 f) lm y t :=
  CI_i h (fun c hc => by rw [zup_n (by omega), zup_n (by omega)]) (by rw [zup_n (by omega), zup_n (by omega)]; exact h.2.1.2.2.2.2.2.2.1) (by unfold cP; rw [zup_s, zup_s, zup_n (by omega), zup_s]; exact Or.inr ⟨rfl, hf, he⟩) (fun a c hc => by rw [zup_n (by omega), zup_n (by omega)])
    (fun r hr => by rw [zup_n (by omega), zup_n (by omega), zup_n (by omega), zup_n (by omega)]; exact (h.2.2.2.1.1 r hr).2.1) (fun r hr => by rw [zup_n (by omega), zup_n (by omega)]; exact (h.2.2.2.1.1 r hr).2.2.1) (fun j => by rw [zup_n (by omega), zup_n (by omega)]; exact h.2.2.1.2.2.1 j)
    (fun r hr => by rw [zup_n (by omega), zup_n (by omega), zup_n (by omega), zup_n (by omega)]; exact ⟨(h.2.2.2.1.2 r hr).1, (h.2.2.2.1.2 r hr).2.1⟩) (fun j => by rw [zup_n (by omega), zup_n (by omega)]; exact h.2.2.1.2.2.2.2 j) (fun o _ e => by rw [zup_n (by omega), zup_n (by omega)] at e; exact e) (fun a b ha => zup_n (by omega))
theorem CI_lim (h : CI n i x lm y t) {r : Nat} {a b : Int32} (hab : a ≤ b) : CI n (zup (zup i 105 r a) 106 r b) x lm y t :=
  CI_i h (fun c hc => by rw [zup_n (by omega), zup_n (by omega)]) (by rw [zup_n (by omega), zup_n (by omega)]; exact h.2.1.2.2.2.2.2.2.1) (by have := h.2.1.2.2.2.2.2.2.2; unfold cP at this ⊢; rw [zup_n (by omega), zup_n (by omega), zup_n (by omega), zup_n (by omega)]; exact this) (fun a c hc => by rw [zup_n (by omega), zup_n (by omega)])
    (fun q hq => by
      by_cases e : q = r
      · rw [e, zup_n (by omega), zup_s, zup_s]; exact hab
      · rw [zup_n (by omega), zup_n (by omega), zup_n (by omega), zup_n (by omega)]; exact (h.2.2.2.1.1 q hq).2.1) (fun r hr => by rw [zup_n (by omega), zup_n (by omega)]; exact (h.2.2.2.1.1 r hr).2.2.1) (fun j => by rw [zup_n (by omega), zup_n (by omega)]; exact h.2.2.1.2.2.1 j)
    (fun r hr => by rw [zup_n (by omega), zup_n (by omega), zup_n (by omega), zup_n (by omega)]; exact ⟨(h.2.2.2.1.2 r hr).1, (h.2.2.2.1.2 r hr).2.1⟩) (fun j => by rw [zup_n (by omega), zup_n (by omega)]; exact h.2.2.1.2.2.2.2 j) (fun o _ e => by rw [zup_n (by omega), zup_n (by omega)] at e; exact e) (fun _ _ _ => rfl)
theorem CI_mode (h : CI n i x lm y t) {r : Nat} {v : Int32} (hv : v = 97 ∨ v = 111 ∨ v = 110) : CI n (zup i 109 r v) x lm y t :=
  CI_i h (fun c hc => zup_n (by omega)) (by rw [zup_n (by omega)]; exact h.2.1.2.2.2.2.2.2.1) (by have := h.2.1.2.2.2.2.2.2.2; unfold cP at this ⊢; rw [zup_n (by omega), zup_n (by omega)]; exact this) (fun a c hc => zup_n (by omega))
    (fun r hr => by rw [zup_n (by omega), zup_n (by omega)]; exact (h.2.2.2.1.1 r hr).2.1) (fun q hq => by
      by_cases e : q = r
      · rw [e, zup_s]; exact hv
      · rw [zup_n (by omega)]; exact (h.2.2.2.1.1 q hq).2.2.1) (fun j => by
      by_cases e : j = r
      · rw [e, zup_s]; rcases hv with e | e | e <;> rw [e] <;> rfl
      · rw [zup_n (by omega)]; exact h.2.2.1.2.2.1 j)
    (fun r hr => by rw [zup_n (by omega), zup_n (by omega)]; exact ⟨(h.2.2.2.1.2 r hr).1, (h.2.2.2.1.2 r hr).2.1⟩) (fun j => by rw [zup_n (by omega)]; exact h.2.2.1.2.2.2.2 j) (fun o _ e => by rw [zup_n (by omega)] at e; exact e) (fun _ _ _ => rfl)
theorem CI_lead (h : CI n i x lm y t) {r : Nat} {a b : Int32} (hr5 : r < n 5) : CI n (zup (zup i 107 r a) 108 r b) x lm y t :=
  CI_i h (fun c hc => by rw [zup_n (by omega), zup_n (by omega)]) (by rw [zup_n (by omega), zup_n (by omega)]; exact h.2.1.2.2.2.2.2.2.1) (by have := h.2.1.2.2.2.2.2.2.2; unfold cP at this ⊢; rw [zup_n (by omega), zup_n (by omega), zup_n (by omega), zup_n (by omega)]; exact this) (fun a c hc => by rw [zup_n (by omega), zup_n (by omega)])
    (fun r hr => by rw [zup_n (by omega), zup_n (by omega), zup_n (by omega), zup_n (by omega)]; exact (h.2.2.2.1.1 r hr).2.1) (fun r hr => by rw [zup_n (by omega), zup_n (by omega)]; exact (h.2.2.2.1.1 r hr).2.2.1) (fun j => by rw [zup_n (by omega), zup_n (by omega)]; exact h.2.2.1.2.2.1 j)
    (fun q hq => by rw [zup_n (by omega), zup_n (by omega), zup_n (by omega), zup_n (by omega)]; exact ⟨(h.2.2.2.1.2 q hq).1, (h.2.2.2.1.2 q hq).2.1⟩) (fun j => by rw [zup_n (by omega), zup_n (by omega)]; exact h.2.2.1.2.2.2.2 j) (fun o _ e => by rw [zup_n (by omega), zup_n (by omega)] at e; exact e) (fun _ _ _ => rfl)
theorem CI_can (h : CI n i x lm y t) {o : Nat} : CI n (zup i 140 o 99) x lm y t :=
  CI_i h (fun c hc => zup_n (by omega)) (by rw [zup_n (by omega)]; exact h.2.1.2.2.2.2.2.2.1) (by have := h.2.1.2.2.2.2.2.2.2; unfold cP at this ⊢; rw [zup_n (by omega), zup_n (by omega)]; exact this) (fun a c hc => zup_n (by omega))
    (fun r hr => by rw [zup_n (by omega), zup_n (by omega)]; exact (h.2.2.2.1.1 r hr).2.1) (fun r hr => by rw [zup_n (by omega)]; exact (h.2.2.2.1.1 r hr).2.2.1) (fun j => by rw [zup_n (by omega)]; exact h.2.2.1.2.2.1 j)
    (fun r hr => by rw [zup_n (by omega), zup_n (by omega)]; exact ⟨(h.2.2.2.1.2 r hr).1, (h.2.2.2.1.2 r hr).2.1⟩) (fun j => by
      by_cases e : j = o
      · rw [e, zup_s]; rfl
      · rw [zup_n (by omega)]; exact h.2.2.1.2.2.2.2 j) (fun q _ e => by
      by_cases d : q = o
      · rw [d, zup_s] at e; exact absurd e (by decide)
      · rw [zup_n (by omega)] at e; exact e) (fun _ _ _ => rfl)
end CI1
