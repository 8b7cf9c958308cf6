/-! PART 89: what holds between the calls, behind a move and ships -/
section CI4
variable {n : Nat → Nat} {i x : Nat → Nat → Int32} {lm : Nat → Nat → Int64} {y : Nat → Nat → Nat} {t : Nat}
theorem zup_self {f : Nat → Nat → Int32} {a b : Nat} {v : Int32} (h : v = f a b) : zup f a b v = f := by
  funext p q
  by_cases c : p = a ∧ q = b
  · rw [c.1, c.2, zup_s]; exact h
  · exact zup_n c
theorem CI_move (h : CI n i x lm y t) {p : Nat} {r : Int32} (hp : p < n 7) (hr : cl r < n 5 ∧ r = nI (cl r)) (hin : i 134 p = 114) (hne : ¬ y 1 (y 0 p) = cl r) (hf8 : flN i (cl r) (n 7) < 8) :
    CI (nup n 4 (n 4 + 1)) (zup i 132 p r) (zup x 4 (n 4) (i 1 0)) lm (zup (zup (zup y 1 (n 4) (cl r)) 2 (n 4) (if x 4 (y 0 p) = i 1 0 then y 2 (y 0 p) else y 0 p + 1)) 0 p (n 4)) t := by
  obtain ⟨e, he⟩ : ∃ e, e = (if x 4 (y 0 p) = i 1 0 then y 2 (y 0 p) else y 0 p + 1) := ⟨_, rfl⟩
  obtain ⟨n', hn'⟩ : ∃ m, m = nup n 4 (n 4 + 1) := ⟨_, rfl⟩
  obtain ⟨i', hi'⟩ : ∃ j, j = zup i 132 p r := ⟨_, rfl⟩
  obtain ⟨x', hx'⟩ : ∃ j, j = zup x 4 (n 4) (i 1 0) := ⟨_, rfl⟩
  rw [← he]
  obtain ⟨y', hy'⟩ : ∃ j, j = zup (zup (zup y 1 (n 4) (cl r)) 2 (n 4) e) 0 p (n 4) := ⟨_, rfl⟩
  rw [← hn', ← hi', ← hx', ← hy']
  have h0 := h
  obtain ⟨hW, ⟨g0, h960, g17, g30, g35, g42, hO, -⟩, -, -, hkk, hl, hs, -, -, ⟨ho, hof⟩, hfl⟩ := h
  obtain ⟨⟨w0, w1, w2, w3⟩, ⟨w5, w6, w7, w8⟩, wp, ws, wo⟩ := id hW
  have nn : ∀ k, k ≠ 4 → n' k = n k := fun k e1 => by rw [hn', nup_n e1]
  have n4 : n' 4 = n 4 + 1 := by rw [hn', nup_s]
  have ii : ∀ a q, a ≠ 132 → i' a q = i a q := fun a q e1 => by rw [hi', zup_n (by omega)]
  have i132 : i' 132 p = r := by rw [hi', zup_s]
  have i132' : ∀ q, q ≠ p → i' 132 q = i 132 q := fun q e => by rw [hi', zup_n (by omega)]
  have xx : ∀ a q, a ≠ 4 → x' a q = x a q := fun a q e1 => by rw [hx', zup_n (by omega)]
  have x4 : ∀ s, s ≠ n 4 → x' 4 s = x 4 s := fun q e => by rw [hx', zup_n (by omega)]
  have x4n : x' 4 (n 4) = nI t := by rw [hx', zup_s, g0]
  have y0 : ∀ q, q ≠ p → y' 0 q = y 0 q := fun q e => by rw [hy', zup_n (by omega), zup_n (by omega), zup_n (by omega)]
  have y0n : y' 0 p = n 4 := by rw [hy', zup_s]
  have y1 : ∀ s, s ≠ n 4 → y' 1 s = y 1 s ∧ y' 2 s = y 2 s := fun s e => ⟨by rw [hy', zup_n (by omega), zup_n (by omega), zup_n (by omega)], by rw [hy', zup_n (by omega), zup_n (by omega), zup_n (by omega)]⟩
  have y1n : y' 1 (n 4) = cl r ∧ y' 2 (n 4) = e := ⟨by rw [hy', zup_n (by omega), zup_n (by omega), zup_s], by rw [hy', zup_n (by omega), zup_s]⟩
  have ct : cl (nI t) = t := nI_clamp (by omega)
  obtain ⟨u1, u2, u3⟩ := wp p hp
  have hyp := (ws _ u2).2
  have hen : e ≤ n 4 := by rw [he]; split <;> omega
  have hesx : ∀ s2, e = s2 + 1 → s2 < n 4 ∧ cl (x 4 s2) ≤ t := fun s2 e2 => ⟨by omega, (hs s2 (by omega)).2.1⟩
  have en0 : c_en i x p t = t := if_pos hin
  refine CI_G h0 ⟨⟨by rw [nn 0 (by decide), nn 5 (by decide)]; exact w0, by rw [nn 1 (by decide), nn 6 (by decide)]; exact w1, by rw [nn 2 (by decide), nn 7 (by decide)]; exact w2, by rw [nn 3 (by decide), nn 8 (by decide)]; exact w3⟩,
      ⟨by rw [nn 5 (by decide)]; exact w5, by rw [nn 6 (by decide)]; exact w6, by rw [nn 7 (by decide)]; exact w7, by rw [nn 8 (by decide)]; exact w8⟩, fun q hq => ?_, fun s hs9 => ?_, fun o ho9 => ?_⟩
    ⟨ii 1 0 (by decide), by rw [ii 1 17 (by decide), nn 5 (by decide)]; exact g17, by rw [ii 1 30 (by decide), nn 6 (by decide)]; exact g30, by rw [ii 1 35 (by decide), nn 7 (by decide)]; exact g35, by rw [ii 1 42 (by decide), nn 8 (by decide)]; exact g42, ii 1 1 (by decide), ii 1 20 (by decide), ii 1 21 (by decide), ii 1 24 (by decide), ii 1 25 (by decide), xx 7 0 (by decide)⟩
    (fun j => ⟨Or.inl (ii 111 j (by decide)), Or.inl (ii 112 j (by decide)), Or.inl (ii 109 j (by decide)), Or.inl (ii 134 j (by decide)), Or.inl (ii 140 j (by decide))⟩)
    (fun r hr => Or.inl ⟨by rw [nn 5 (by decide)] at hr; exact hr, fun q hq => ii q r (by omega), xx 6 r (by decide), xx 5 r (by decide)⟩)
    (fun r hr => ⟨by rw [nn 5 (by decide)] at hr; exact hr, fun q hq => ii q r (by omega)⟩)
    (fun k hk => Or.inl ⟨by rw [nn 6 (by decide)] at hk; exact hk, ii 127 k (by decide), ii 128 k (by decide)⟩) (fun q hq => ?_)
    (fun s hs9 => ?_) (fun a q e => Or.inl (xx a q (by omega))) (fun q => ⟨xx 1 q (by decide), xx 2 q (by decide)⟩) (fun o ho9 => Or.inl ⟨by rw [nn 8 (by decide)] at ho9; exact ho9, ii 137 o (by decide), ii 139 o (by decide), fun e => by rw [ii 140 o (by decide)] at e; exact e⟩)
    (fun o ho9 => by rw [nn 8 (by decide)] at ho9; rw [ii 141 o (by decide)]; exact hof o ho9) (fun q hq => ?_)
  · rw [nn 7 (by decide)] at hq
    rw [nn 6 (by decide), n4, ii 131 q (by decide)]
    by_cases e : q = p
    · rw [e, i132, y0n, y1n.1]
      exact ⟨u1, by omega, hr.2⟩
    · obtain ⟨v1, v2, v3⟩ := wp q hq
      rw [i132' q e, y0 q e, (y1 _ (by omega)).1]
      exact ⟨v1, by omega, v3⟩
  · rw [nn 5 (by decide)]
    by_cases e : s = n 4
    · rw [e, y1n.1, y1n.2]
      exact ⟨hr.1, hen⟩
    · rw [(y1 s e).1, (y1 s e).2]
      exact ws s (by omega)
  · rw [nn 8 (by decide)] at ho9
    rw [ii 136 o (by decide), nn 6 (by decide)]
    exact wo o ho9
  · rw [nn 7 (by decide)] at hq
    by_cases e9 : q = p
    · subst e9
      obtain ⟨l1, l2, l3⟩ := hl q hp
      have en : c_en i' x' q t = t := if_pos ((ii 134 q (by decide)).trans hin)
      refine ⟨⟨by rw [en, y0n, x4n, ct]; exact Nat.le_refl _, by rw [en]; exact Nat.le_refl _⟩, by rw [xx 3 q (by decide)]; exact l2, ?_⟩
      rw [en, ii 133 q (by decide), ii 131 q (by decide), ii 127 _ (by decide), n4, y0n, l3, en0]
      have hls : ∀ d, c_ls i' (cl (i 131 q)) d = c_ls i (cl (i 131 q)) d := fun d => by unfold c_ls; rw [ii 128 _ (by decide), ii 129 _ (by decide)]
      have hnew : c_rlN i' x' y' (cl (i 131 q)) (n 4 + 1) (n 4 + 1) t = c_rlN i x y (cl (i 131 q)) (n 4) e t := by
        show c_raN i' x' (cl (i 131 q)) (y' 1 (n 4)) (cl (x' 4 (n 4))) (t - cl (x' 4 (n 4))) + c_rlN i' x' y' (cl (i 131 q)) (n 4) (y' 2 (n 4)) (cl (x' 4 (n 4))) = _
        rw [x4n, ct, y1n.2, Nat.sub_self, c_rlN_c2 (R := n 5) (N := n 4) hls (fun r q _ => xx (10 + r) q (by omega)) (fun s q => ⟨(ws s q).2, (y1 s (by omega)).1, (y1 s (by omega)).2, x4 s (by omega), (ws s q).1⟩) (n 4) e t hen]
        exact Nat.zero_add _
      rw [hnew]
      by_cases c : x 4 (y 0 q) = i 1 0
      · have ee : e = y 2 (y 0 q) := by rw [he, if_pos c]
        obtain ⟨f, hf4⟩ : ∃ f, n 4 = f + 1 := ⟨n 4 - 1, by omega⟩
        have hold : c_rlN i x y (cl (i 131 q)) (n 4) (y 0 q + 1) t = c_rlN i x y (cl (i 131 q)) f e t := by
          rw [hf4]
          show c_raN i x (cl (i 131 q)) (y 1 (y 0 q)) (cl (x 4 (y 0 q))) (t - cl (x 4 (y 0 q))) + c_rlN i x y (cl (i 131 q)) f (y 2 (y 0 q)) (cl (x 4 (y 0 q))) = _
          rw [c, g0, ct, Nat.sub_self, ← ee]
          exact Nat.zero_add _
        rw [hold, c_rlN_f (N := n 4) (fun s q => (ws s q).2) f (n 4) e t (by omega) (by omega) hen]
      · have ee : e = y 0 q + 1 := by rw [he, if_neg c]
        rw [ee]
    · exact lI_same h0 hq (by omega) (y0 q e9) (ii 134 q (by decide)) (ii 133 q (by decide)) (ii 131 q (by decide)) (fun k _ => ⟨ii 127 k (by decide), ii 128 k (by decide), ii 129 k (by decide)⟩) (xx 3 q (by decide)) (fun s hs9 => ⟨x4 s (by omega), y1 s (by omega)⟩) (fun r q _ => xx (10 + r) q (by omega))
  · by_cases e9 : s = n 4
    · rw [e9, x4n, y1n.2, ct]
      exact ⟨rfl, Nat.le_refl _, fun s2 e2 => by
        obtain ⟨v1, v2⟩ := hesx s2 e2
        rw [x4 s2 (by omega)]; exact v2⟩
    · have hs4 : s < n 4 := by omega
      rw [x4 s e9, (y1 s e9).2]
      obtain ⟨v1, v2, v3⟩ := hs s hs4
      exact ⟨v1, v2, fun s2 e2 => by
        have := (ws s hs4).2
        rw [x4 s2 (by omega)]; exact v3 s2 e2⟩
  · rw [nn 5 (by decide)] at hq
    rw [nn 7 (by decide)]
    by_cases e9 : q = cl r
    · subst e9
      have := zcnt_1 (P := fun a => i 134 a = 114 ∧ i 132 a = nI (cl r)) (R := fun a => i' 134 a = 114 ∧ i' 132 a = nI (cl r)) (b := p) (fun c => hne (by
        have u := c.2
        rw [u3] at u
        exact nI_inj2 (by have := (ws _ u2).1; omega) (by omega) u)) ⟨(ii 134 p (by decide)).trans hin, by rw [i132]; exact hr.2⟩ (n 7) hp (fun a _ hap => by rw [ii 134 a (by decide), i132' a hap])
      have h9 : flN i' (cl r) (n 7) = flN i (cl r) (n 7) + 1 := this
      omega
    · refine Nat.le_trans (zcnt_le (n 7) (fun a _ c => ?_)) (hfl q hq)
      by_cases d : a = p
      · have u := c.2
        rw [d, i132, hr.2] at u
        exact absurd (nI_inj2 (by omega) (by omega) u).symm e9
      · exact ⟨by rw [← ii 134 a (by decide)]; exact c.1, by rw [← i132' a d]; exact c.2⟩
theorem CI_sh (h : CI n i x lm y t) {i' x' : Nat → Nat → Int32} (hsh : ∀ p, (i' 134 p = i 134 p ∧ x' 3 p = x 3 p) ∨ (i 134 p = 114 ∧ (i' 134 p = 115 ∨ i' 134 p = 120) ∧ x' 3 p = i 1 0)) (hx : ∀ a b, a ≠ 3 → x' a b = x a b)
    (e2 : ∀ a b, a ≠ 134 → a ≠ 140 → a ≠ 141 → i' a b = i a b) (e140 : ∀ o, i' 140 o = i 140 o ∨ i' 140 o = 115) (e141 : ∀ o, n 8 ≤ o → i' 141 o = i 141 o) : CI n i' x' lm y t := by
  have h0 := h
  obtain ⟨hW, ⟨g0, h960, g17, g30, g35, g42, hO, -⟩, -, -, hkk, hl, hs, -, -, ⟨ho, hof⟩, hfl⟩ := h
  have ct : cl (nI t) = t := nI_clamp (by omega)
  have ii : ∀ a b, a ≠ 134 → a ≠ 140 → a ≠ 141 → i' a b = i a b := e2
  refine CI_G h0 (hW.of (fun b => ⟨ii 131 b (by decide) (by decide) (by decide), ii 132 b (by decide) (by decide) (by decide), ii 136 b (by decide) (by decide) (by decide)⟩))
    ⟨ii 1 0 (by decide) (by decide) (by decide), (ii 1 17 (by decide) (by decide) (by decide)).trans g17, (ii 1 30 (by decide) (by decide) (by decide)).trans g30, (ii 1 35 (by decide) (by decide) (by decide)).trans g35, (ii 1 42 (by decide) (by decide) (by decide)).trans g42, ii 1 1 (by decide) (by decide) (by decide), ii 1 20 (by decide) (by decide) (by decide), ii 1 21 (by decide) (by decide) (by decide), ii 1 24 (by decide) (by decide) (by decide), ii 1 25 (by decide) (by decide) (by decide), hx 7 0 (by decide)⟩
    (fun j => ⟨Or.inl (ii 111 j (by decide) (by decide) (by decide)), Or.inl (ii 112 j (by decide) (by decide) (by decide)), Or.inl (ii 109 j (by decide) (by decide) (by decide)), by
      rcases hsh j with ⟨e, -⟩ | ⟨-, e, -⟩
      · exact Or.inl e
      · exact Or.inr (Or.inr e), by
      rcases e140 j with e | e
      · exact Or.inl e
      · exact Or.inr (Or.inr e)⟩)
    (fun r hr => Or.inl ⟨hr, fun q hq => ii q r (by omega) (by omega) (by omega), hx 6 r (by decide), hx 5 r (by decide)⟩)
    (fun r hr => ⟨hr, fun q hq => ii q r (by omega) (by omega) (by omega)⟩)
    (fun k hk => Or.inl ⟨hk, ii 127 k (by decide) (by decide) (by decide), ii 128 k (by decide) (by decide) (by decide)⟩) (fun p hp => ?_)
    (fun s hs9 => by rw [hx 4 s (by decide)]; exact ⟨(hs s hs9).1, (hs s hs9).2.1, fun q e => by rw [hx 4 q (by decide)]; exact (hs s hs9).2.2 q e⟩) (fun a q e => Or.inl (hx a q (by omega))) (fun q => ⟨hx 1 q (by decide), hx 2 q (by decide)⟩) (fun o ho9 => Or.inl ⟨ho9, ii 137 o (by decide) (by decide) (by decide), ii 139 o (by decide) (by decide) (by decide), fun e => ?_⟩)
    (fun o ho9 => (e141 o ho9).trans (hof o ho9)) (fun r hr => ?_)
  · obtain ⟨l1, l2, l3⟩ := hl p hp
    have en : c_en i' x' p t = c_en i x p t := by
      unfold c_en
      rcases hsh p with ⟨e, e3⟩ | ⟨e1, e, e3⟩
      · rw [e, e3]
      · rw [if_neg (by rcases e with e | e <;> rw [e] <;> decide), if_pos e1, e3, g0, ct]
    have hls : ∀ k d, c_ls i' k d = c_ls i k d := fun k d => by unfold c_ls; rw [ii 129 k (by decide) (by decide) (by decide), ii 128 k (by decide) (by decide) (by decide)]
    unfold lI
    rw [en, hx 4 _ (by decide), ii 133 p (by decide) (by decide) (by decide), ii 131 p (by decide) (by decide) (by decide), ii 127 _ (by decide) (by decide) (by decide)]
    refine ⟨l1, ?_, l3.trans ?_⟩
    · rcases hsh p with ⟨-, e3⟩ | ⟨-, -, e3⟩
      · rw [e3]; exact l2
      · rw [e3, g0, ct]; exact ⟨rfl, h960⟩
    · have w2 := (hW.2.2.1 p hp).2.1
      rw [c_rlN_c2 (R := n 5) (N := n 4) (hls _) (fun r q _ => hx (10 + r) q (by omega)) (fun s q => ⟨(hW.2.2.2.1 s q).2, rfl, rfl, hx 4 s (by decide), (hW.2.2.2.1 s q).1⟩) (n 4) (y 0 p + 1) _ (by omega)]
  · rcases e140 o with d | d
    · rw [← d]; exact e
    · rw [d] at e; exact absurd e (by decide)
  · refine Nat.le_trans (zcnt_le (n 7) (fun p _ e => ?_)) (hfl r hr)
    refine ⟨?_, by rw [← ii 132 p (by decide) (by decide) (by decide)]; exact e.2⟩
    rcases hsh p with ⟨d, -⟩ | ⟨d, -, -⟩
    · rw [← d]; exact e.1
    · exact d
end CI4
