/-! PART 87: what holds between the calls, behind new objects, moves and ships -/
theorem c_rlN_c2 {i x i' x' : Nat → Nat → Int32} {y y' : Nat → Nat → Nat} {k R N : Nat} (h1 : ∀ d, c_ls i' k d = c_ls i k d) (h2 : ∀ r q, r < R → x' (10 + r) q = x (10 + r) q) (hY : ∀ s, s < N → y 2 s ≤ s ∧ y' 1 s = y 1 s ∧ y' 2 s = y 2 s ∧ x' 4 s = x 4 s ∧ y 1 s < R) :
    ∀ f s1 en, s1 ≤ N → c_rlN i' x' y' k f s1 en = c_rlN i x y k f s1 en
  | 0, _, _, _ => rfl
  | _ + 1, 0, _, _ => rfl
  | f + 1, s + 1, en, hN => by
    obtain ⟨k1, k2, k3, k4, k5⟩ := hY s (by omega)
    show c_raN i' x' k (y' 1 s) (cl (x' 4 s)) (en - cl (x' 4 s)) + c_rlN i' x' y' k f (y' 2 s) (cl (x' 4 s)) = c_raN i x k (y 1 s) (cl (x 4 s)) (en - cl (x 4 s)) + c_rlN i x y k f (y 2 s) (cl (x 4 s))
    rw [k2, k3, k4, c_raN_c (T := cl (x 4 s) + (en - cl (x 4 s))) h1 (fun q _ => h2 (y 1 s) q k5) (en - cl (x 4 s)) (by omega), c_rlN_c2 h1 h2 hY f (y 2 s) (cl (x 4 s)) (by omega)]
section CI2
variable {n : Nat → Nat} {i x : Nat → Nat → Int32} {lm : Nat → Nat → Int64} {y : Nat → Nat → Nat} {t : Nat}
theorem lI_same (h : CI n i x lm y t) {p : Nat} (hp : p < n 7) {n' : Nat → Nat} {i' x' : Nat → Nat → Int32} {y' : Nat → Nat → Nat} (h4 : n 4 ≤ n' 4) (e0 : y' 0 p = y 0 p) (e134 : i' 134 p = i 134 p) (e133 : i' 133 p = i 133 p) (e131 : i' 131 p = i 131 p)
    (ek : ∀ k, k < n 6 → i' 127 k = i 127 k ∧ i' 128 k = i 128 k ∧ i' 129 k = i 129 k) (e3 : x' 3 p = x 3 p) (e4 : ∀ s, s < n 4 → x' 4 s = x 4 s ∧ y' 1 s = y 1 s ∧ y' 2 s = y 2 s) (ex : ∀ r q, r < n 5 → x' (10 + r) q = x (10 + r) q) : lI n' i' x' y' t p := by
  obtain ⟨hW, -, -, -, -, hl, hs, -, -, -, -⟩ := h
  obtain ⟨l1, l2, l3⟩ := hl p hp
  obtain ⟨w1, w2, -⟩ := hW.2.2.1 p hp
  obtain ⟨k1, k2, k3⟩ := ek _ w1.1
  have en : c_en i' x' p t = c_en i x p t := by unfold c_en; rw [e134, e3]
  have hls : ∀ d, c_ls i' (cl (i 131 p)) d = c_ls i (cl (i 131 p)) d := fun d => by unfold c_ls; rw [k2, k3]
  unfold lI
  rw [en, e0, (e4 _ w2).1, e3, e133, e131, k1]
  refine ⟨l1, l2, l3.trans ?_⟩
  rw [c_rlN_c2 (R := n 5) (N := n 4) hls ex (fun s q => ⟨(hW.2.2.2.1 s q).2, (e4 s q).2.1, (e4 s q).2.2, (e4 s q).1, (hW.2.2.2.1 s q).1⟩) (n' 4) (y 0 p + 1) _ (by omega), c_rlN_f (N := n 4) (fun s q => (hW.2.2.2.1 s q).2) (n' 4) (n 4) (y 0 p + 1) _ (by omega) (by omega) (by omega)]
theorem CI_G (h : CI n i x lm y t) {n' : Nat → Nat} {i' x' : Nat → Nat → Int32} {y' : Nat → Nat → Nat} (hW : cW n' i' y')
    (g1 : i' 1 0 = i 1 0 ∧ i' 1 17 = nI (n' 5) ∧ i' 1 30 = nI (n' 6) ∧ i' 1 35 = nI (n' 7) ∧ i' 1 42 = nI (n' 8) ∧ i' 1 1 = i 1 1 ∧ i' 1 20 = i 1 20 ∧ i' 1 21 = i 1 21 ∧ i' 1 24 = i 1 24 ∧ i' 1 25 = i 1 25 ∧ x' 7 0 = x 7 0)
    (gb : ∀ j, (i' 111 j = i 111 j ∨ i' 111 j = 0) ∧ (i' 112 j = i 112 j ∨ i' 112 j = 0) ∧ (i' 109 j = i 109 j ∨ i' 109 j = 97) ∧ (i' 134 j = i 134 j ∨ i' 134 j = 114 ∨ i' 134 j = 115 ∨ i' 134 j = 120) ∧ (i' 140 j = i 140 j ∨ i' 140 j = 111 ∨ i' 140 j = 115))
    (gr : ∀ r, r < n' 5 → (r < n 5 ∧ (∀ a, a = 102 ∨ a = 103 ∨ a = 105 ∨ a = 106 ∨ a = 109 ∨ a = 110 ∨ a = 114 ∨ a = 116 → i' a r = i a r) ∧ x' 6 r = x 6 r ∧ x' 5 r = x 5 r) ∨ rI i' x' lm t r)
    (gf : ∀ r, n' 5 ≤ r → n 5 ≤ r ∧ ∀ a, a = 107 ∨ a = 108 ∨ a = 111 ∨ a = 112 ∨ a = 116 → i' a r = i a r)
    (gk : ∀ k, k < n' 6 → (k < n 6 ∧ i' 127 k = i 127 k ∧ i' 128 k = i 128 k) ∨ (zin (i' 127 k) 1 9999 ∧ zin (i' 128 k) (-300) 300))
    (gl : ∀ p, p < n' 7 → lI n' i' x' y' t p)
    (gs : ∀ s, s < n' 4 → x' 4 s = nI (cl (x' 4 s)) ∧ cl (x' 4 s) ≤ t ∧ ∀ s2, y' 2 s = s2 + 1 → cl (x' 4 s2) ≤ cl (x' 4 s))
    (gx : ∀ a b, 10 ≤ a → x' a b = x a b ∨ x' a b = 0) (gm : ∀ b, x' 1 b = x 1 b ∧ x' 2 b = x 2 b)
    (go : ∀ o, o < n' 8 → (o < n 8 ∧ i' 137 o = i 137 o ∧ i' 139 o = i 139 o ∧ (i' 140 o = 111 → i 140 o = 111)) ∨ ((∃ c, 1 ≤ c ∧ c ≤ 8 ∧ i' 137 o = nI c) ∧ (i' 140 o = 111 → nI t < i' 139 o)))
    (gof : ∀ o, n' 8 ≤ o → i' 141 o = 0) (gfl : ∀ r, r < n' 5 → flN i' r (n' 7) ≤ 8) : CI n' i' x' lm y' t := by
  obtain ⟨-, ⟨h0, h960, -, -, -, -, hO, hP⟩, ⟨b111, b112, k109, k134, k140⟩, ⟨hr, hf⟩, hk, -, -, hx, ⟨m1, m2, m3⟩, ⟨ho, -⟩, -⟩ := h
  obtain ⟨a0, a17, a30, a35, a42, a1, a20, a21, a24, a25, a7⟩ := g1
  have hrc := c_rc_eq (x := x) (x' := x') t (fun k _ => gm k)
  refine ⟨hW, ⟨a0.trans h0, h960, a17, a30, a35, a42, by rw [a1]; exact hO, ?_⟩, ⟨fun j => ?_, fun j => ?_, fun j => ?_, fun j => ?_, fun j => ?_⟩, ⟨fun r hr5 => ?_, fun r hr5 => ?_⟩, fun k hk6 => ?_, gl, gs, fun a b ha => ?_, ⟨by rw [hrc.1]; exact m1, by rw [hrc.2, a25]; exact m2, by rw [a24, a25]; exact m3⟩, ⟨fun o ho8 => ?_, gof⟩, gfl⟩
  · unfold cP at hP ⊢
    rw [a20, a21, a7]; exact hP
  · rcases (gb j).1 with e | e
    · rw [e]; exact b111 j
    · exact Or.inl e
  · rcases (gb j).2.1 with e | e
    · rw [e]; exact b112 j
    · exact Or.inl e
  · rcases (gb j).2.2.1 with e | e
    · rw [e]; exact k109 j
    · rw [e]; rfl
  · rcases (gb j).2.2.2.1 with e | e | e | e
    · rw [e]; exact k134 j
    · rw [e]; rfl
    · rw [e]; rfl
    · rw [e]; rfl
  · rcases (gb j).2.2.2.2 with e | e | e
    · rw [e]; exact k140 j
    · rw [e]; rfl
    · rw [e]; rfl
  · rcases gr r hr5 with ⟨q, e, e6, e5⟩ | e
    · have := hr r q
      unfold rI at this ⊢
      rw [e 102 (by omega), e 103 (by omega), e 105 (by omega), e 106 (by omega), e 109 (by omega), e 110 (by omega), e 114 (by omega), e 116 (by omega), e6, e5]
      exact this
    · exact e
  · obtain ⟨q, e⟩ := gf r hr5
    have := hf r q
    unfold rF at this ⊢
    rw [e 107 (by omega), e 108 (by omega), e 111 (by omega), e 112 (by omega), e 116 (by omega)]
    exact this
  · rcases gk k hk6 with ⟨q, e1, e2⟩ | e
    · rw [e1, e2]; exact hk k q
    · exact e
  · rcases gx a b ha with e | e
    · rw [e]; exact hx a b ha
    · rw [e]; exact ⟨by decide, by decide⟩
  · rcases go o ho8 with ⟨q, e1, e2, e3⟩ | e
    · obtain ⟨⟨c, c1, c2, c3⟩, c4⟩ := ho o q
      exact ⟨⟨c, c1, c2, e1.trans c3⟩, fun e9 => by rw [e2]; exact c4 (e3 e9)⟩
    · exact e
theorem flN_same {i' : Nat → Nat → Int32} {r np : Nat} (h : ∀ p, p < np → i' 134 p = i 134 p ∧ i' 132 p = i 132 p) : flN i' r np = flN i r np := zcnt_eq np (fun p hp => by rw [(h p hp).1, (h p hp).2])
theorem CI_kind (h : CI n i x lm y t) {a b c : Int32} (hN : n 6 < 5) (ha : zin a 1 9999) (hb : zin b (-300) 300) : CI (nup (nup n 1 (n 1 + 1)) 6 (n 1 + 1)) (zup (zup (zup (zup i 127 (n 6) a) 128 (n 6) b) 129 (n 6) c) 1 30 (nI (n 6) + 1)) x lm y t := by
  obtain ⟨n', hn'⟩ : ∃ m, m = nup (nup n 1 (n 1 + 1)) 6 (n 1 + 1) := ⟨_, rfl⟩
  obtain ⟨i', hi'⟩ : ∃ j, j = zup (zup (zup (zup i 127 (n 6) a) 128 (n 6) b) 129 (n 6) c) 1 30 (nI (n 6) + 1) := ⟨_, rfl⟩
  rw [← hn', ← hi']
  have h0 := h
  obtain ⟨hW, ⟨g0, h960, g17, g30, g35, g42, -, -⟩, -, -, -, hl, hs, -, -, ⟨ho, hof⟩, hfl⟩ := h
  obtain ⟨⟨w0, w1, w2, w3⟩, ⟨w5, w6, w7, w8⟩, wp, ws, wo⟩ := id hW
  have nn : ∀ k, k ≠ 1 → k ≠ 6 → n' k = n k := fun k e1 e2 => by rw [hn', nup_n e2, nup_n e1]
  have n6 : n' 6 = n 6 + 1 := by rw [hn', nup_s, w1]
  have n1 : n' 1 = n 6 + 1 := by rw [hn', nup_n (by decide), nup_s, w1]
  have ii : ∀ p q, p ≠ 127 → p ≠ 128 → p ≠ 129 → ¬ (p = 1 ∧ q = 30) → i' p q = i p q := fun p q e1 e2 e3 e4 => by rw [hi', zup_n e4, zup_n (by omega), zup_n (by omega), zup_n (by omega)]
  have ik : ∀ p q, q ≠ n 6 → p ≠ 1 → i' p q = i p q := fun p q e1 e2 => by rw [hi', zup_n (by omega), zup_n (by omega), zup_n (by omega), zup_n (by omega)]
  have i127 : i' 127 (n 6) = a := by rw [hi', zup_n (by omega), zup_n (by omega), zup_n (by omega), zup_s]
  have i128 : i' 128 (n 6) = b := by rw [hi', zup_n (by omega), zup_n (by omega), zup_s]
  refine CI_G h0 ⟨⟨by rw [nn 0 (by decide) (by decide), nn 5 (by decide) (by decide)]; exact w0, by rw [n1, n6], by rw [nn 2 (by decide) (by decide), nn 7 (by decide) (by decide)]; exact w2, by rw [nn 3 (by decide) (by decide), nn 8 (by decide) (by decide)]; exact w3⟩,
      ⟨by rw [nn 5 (by decide) (by decide)]; exact w5, by omega, by rw [nn 7 (by decide) (by decide)]; exact w7, by rw [nn 8 (by decide) (by decide)]; exact w8⟩, fun p hp => ?_, fun s hs9 => ?_, fun o ho9 => ?_⟩
    ⟨ii 1 0 (by decide) (by decide) (by decide) (by omega), by rw [ii 1 17 (by decide) (by decide) (by decide) (by omega), nn 5 (by decide) (by decide)]; exact g17, by rw [hi', zup_s, n6, nI_1], by rw [ii 1 35 (by decide) (by decide) (by decide) (by omega), nn 7 (by decide) (by decide)]; exact g35, by rw [ii 1 42 (by decide) (by decide) (by decide) (by omega), nn 8 (by decide) (by decide)]; exact g42, ii 1 1 (by decide) (by decide) (by decide) (by omega), ii 1 20 (by decide) (by decide) (by decide) (by omega), ii 1 21 (by decide) (by decide) (by decide) (by omega), ii 1 24 (by decide) (by decide) (by decide) (by omega), ii 1 25 (by decide) (by decide) (by decide) (by omega), rfl⟩
    (fun j => ⟨Or.inl (ii 111 j (by decide) (by decide) (by decide) (by omega)), Or.inl (ii 112 j (by decide) (by decide) (by decide) (by omega)), Or.inl (ii 109 j (by decide) (by decide) (by decide) (by omega)), Or.inl (ii 134 j (by decide) (by decide) (by decide) (by omega)), Or.inl (ii 140 j (by decide) (by decide) (by decide) (by omega))⟩)
    (fun r hr => Or.inl ⟨by rw [nn 5 (by decide) (by decide)] at hr; exact hr, fun q hq => ii q r (by omega) (by omega) (by omega) (by omega), rfl, rfl⟩)
    (fun r hr => ⟨by rw [nn 5 (by decide) (by decide)] at hr; exact hr, fun q hq => ii q r (by omega) (by omega) (by omega) (by omega)⟩) (fun k hk => ?_) (fun p hp => ?_)
    (fun s hs9 => by rw [nn 4 (by decide) (by decide)] at hs9; exact hs s hs9) (fun _ _ _ => Or.inl rfl) (fun _ => ⟨rfl, rfl⟩) (fun o ho9 => Or.inl ⟨by rw [nn 8 (by decide) (by decide)] at ho9; exact ho9, ii 137 o (by decide) (by decide) (by decide) (by omega), ii 139 o (by decide) (by decide) (by decide) (by omega), fun e => by rw [ii 140 o (by decide) (by decide) (by decide) (by omega)] at e; exact e⟩)
    (fun o ho9 => by rw [nn 8 (by decide) (by decide)] at ho9; rw [ii 141 o (by decide) (by decide) (by decide) (by omega)]; exact hof o ho9) (fun r hr => ?_)
  · rw [nn 7 (by decide) (by decide)] at hp
    rw [ii 131 p (by decide) (by decide) (by decide) (by omega), ii 132 p (by decide) (by decide) (by decide) (by omega), n6, nn 4 (by decide) (by decide)]
    obtain ⟨⟨q1, q2⟩, q3⟩ := wp p hp
    exact ⟨⟨by omega, q2⟩, q3⟩
  · rw [nn 4 (by decide) (by decide)] at hs9
    rw [nn 5 (by decide) (by decide)]
    exact ws s hs9
  · rw [nn 8 (by decide) (by decide)] at ho9
    rw [ii 136 o (by decide) (by decide) (by decide) (by omega), n6]
    obtain ⟨q1, q2⟩ := wo o ho9
    exact ⟨by omega, q2⟩
  · by_cases e : k = n 6
    · rw [e, i127, i128]; exact Or.inr ⟨ha, hb⟩
    · exact Or.inl ⟨by omega, ik 127 k e (by decide), ik 128 k e (by decide)⟩
  · rw [nn 7 (by decide) (by decide)] at hp
    exact lI_same h0 hp (by rw [nn 4 (by decide) (by decide)]; exact Nat.le_refl _) rfl (ii 134 p (by decide) (by decide) (by decide) (by omega)) (ii 133 p (by decide) (by decide) (by decide) (by omega)) (ii 131 p (by decide) (by decide) (by decide) (by omega))
      (fun k hk => ⟨ik 127 k (by omega) (by decide), ik 128 k (by omega) (by decide), ik 129 k (by omega) (by decide)⟩) rfl (fun _ _ => ⟨rfl, rfl, rfl⟩) (fun _ _ _ => rfl)
  · rw [nn 5 (by decide) (by decide)] at hr
    rw [nn 7 (by decide) (by decide), flN_same (fun p _ => ⟨ii 134 p (by decide) (by decide) (by decide) (by omega), ii 132 p (by decide) (by decide) (by decide) (by omega)⟩)]
    exact hfl r hr
end CI2
