/-! PART 88: what holds between the calls, behind an order, a room, a pallet, a move, ships -/
section CI3
variable {n : Nat → Nat} {i x : Nat → Nat → Int32} {lm : Nat → Nat → Int64} {y : Nat → Nat → Nat} {t : Nat}
theorem d_8 : (8 : Int32) = nI 8 := by decide +kernel
theorem CI_order (h : CI n i x lm y t) {kd a b c : Int32} (hN : n 8 < 12) (hk : cl kd < n 6 ∧ kd = nI (cl kd)) (ha : zin a 1 8) (hc : zin c (i 1 0 + 1) 960) :
    CI (nup (nup n 3 (n 3 + 1)) 8 (n 3 + 1)) (zup (zup (zup (zup (zup (zup i 136 (n 8) kd) 137 (n 8) a) 138 (n 8) b) 139 (n 8) c) 140 (n 8) 111) 1 42 (nI (n 8) + 1)) x lm y t := by
  obtain ⟨n', hn'⟩ : ∃ m, m = nup (nup n 3 (n 3 + 1)) 8 (n 3 + 1) := ⟨_, rfl⟩
  obtain ⟨i', hi'⟩ : ∃ j, j = zup (zup (zup (zup (zup (zup i 136 (n 8) kd) 137 (n 8) a) 138 (n 8) b) 139 (n 8) c) 140 (n 8) 111) 1 42 (nI (n 8) + 1) := ⟨_, rfl⟩
  rw [← hn', ← hi']
  have h0 := h
  obtain ⟨hW, ⟨g0, h960, g17, g30, g35, g42, -, -⟩, -, -, -, hl, hs, -, -, ⟨ho, hof⟩, hfl⟩ := h
  obtain ⟨⟨w0, w1, w2, w3⟩, ⟨w5, w6, w7, w8⟩, wp, ws, wo⟩ := id hW
  have nn : ∀ k, k ≠ 3 → k ≠ 8 → n' k = n k := fun k e1 e2 => by rw [hn', nup_n e2, nup_n e1]
  have n8 : n' 8 = n 8 + 1 := by rw [hn', nup_s, w3]
  have n3 : n' 3 = n 8 + 1 := by rw [hn', nup_n (by decide), nup_s, w3]
  have ii : ∀ p q, p ≠ 136 → p ≠ 137 → p ≠ 138 → p ≠ 139 → p ≠ 140 → ¬ (p = 1 ∧ q = 42) → i' p q = i p q := fun p q e1 e2 e3 e4 e5 e6 => by rw [hi', zup_n e6, zup_n (by omega), zup_n (by omega), zup_n (by omega), zup_n (by omega), zup_n (by omega)]
  have ik : ∀ p q, q ≠ n 8 → p ≠ 1 → i' p q = i p q := fun p q e1 e2 => by rw [hi', zup_n (by omega), zup_n (by omega), zup_n (by omega), zup_n (by omega), zup_n (by omega), zup_n (by omega)]
  have i136 : i' 136 (n 8) = kd := by rw [hi', zup_n (by omega), zup_n (by omega), zup_n (by omega), zup_n (by omega), zup_n (by omega), zup_s]
  have i137 : i' 137 (n 8) = a := by rw [hi', zup_n (by omega), zup_n (by omega), zup_n (by omega), zup_n (by omega), zup_s]
  have i139 : i' 139 (n 8) = c := by rw [hi', zup_n (by omega), zup_n (by omega), zup_s]
  have i140 : i' 140 (n 8) = 111 := by rw [hi', zup_n (by omega), zup_s]
  refine CI_G h0 ⟨⟨by rw [nn 0 (by decide) (by decide), nn 5 (by decide) (by decide)]; exact w0, by rw [nn 1 (by decide) (by decide), nn 6 (by decide) (by decide)]; exact w1, by rw [nn 2 (by decide) (by decide), nn 7 (by decide) (by decide)]; exact w2, by rw [n3, n8]⟩,
      ⟨by rw [nn 5 (by decide) (by decide)]; exact w5, by rw [nn 6 (by decide) (by decide)]; exact w6, by rw [nn 7 (by decide) (by decide)]; exact w7, by omega⟩, fun p hp => ?_, fun s hs9 => ?_, fun o ho9 => ?_⟩
    ⟨ii 1 0 (by decide) (by decide) (by decide) (by decide) (by decide) (by omega), by rw [ii 1 17 (by decide) (by decide) (by decide) (by decide) (by decide) (by omega), nn 5 (by decide) (by decide)]; exact g17, by rw [ii 1 30 (by decide) (by decide) (by decide) (by decide) (by decide) (by omega), nn 6 (by decide) (by decide)]; exact g30, by rw [ii 1 35 (by decide) (by decide) (by decide) (by decide) (by decide) (by omega), nn 7 (by decide) (by decide)]; exact g35, by rw [hi', zup_s, n8, nI_1], ii 1 1 (by decide) (by decide) (by decide) (by decide) (by decide) (by omega), ii 1 20 (by decide) (by decide) (by decide) (by decide) (by decide) (by omega), ii 1 21 (by decide) (by decide) (by decide) (by decide) (by decide) (by omega), ii 1 24 (by decide) (by decide) (by decide) (by decide) (by decide) (by omega), ii 1 25 (by decide) (by decide) (by decide) (by decide) (by decide) (by omega), rfl⟩
    (fun j => ⟨Or.inl (ii 111 j (by decide) (by decide) (by decide) (by decide) (by decide) (by omega)), Or.inl (ii 112 j (by decide) (by decide) (by decide) (by decide) (by decide) (by omega)), Or.inl (ii 109 j (by decide) (by decide) (by decide) (by decide) (by decide) (by omega)), Or.inl (ii 134 j (by decide) (by decide) (by decide) (by decide) (by decide) (by omega)), by
      by_cases e : j = n 8
      · rw [e, i140]; exact Or.inr (Or.inl rfl)
      · exact Or.inl (ik 140 j e (by decide))⟩)
    (fun r hr => Or.inl ⟨by rw [nn 5 (by decide) (by decide)] at hr; exact hr, fun q hq => ii q r (by omega) (by omega) (by omega) (by omega) (by omega) (by omega), rfl, rfl⟩)
    (fun r hr => ⟨by rw [nn 5 (by decide) (by decide)] at hr; exact hr, fun q hq => ii q r (by omega) (by omega) (by omega) (by omega) (by omega) (by omega)⟩)
    (fun k hk => Or.inl ⟨by rw [nn 6 (by decide) (by decide)] at hk; exact hk, ii 127 k (by decide) (by decide) (by decide) (by decide) (by decide) (by omega), ii 128 k (by decide) (by decide) (by decide) (by decide) (by decide) (by omega)⟩) (fun p hp => ?_)
    (fun s hs9 => by rw [nn 4 (by decide) (by decide)] at hs9; exact hs s hs9) (fun _ _ _ => Or.inl rfl) (fun _ => ⟨rfl, rfl⟩) (fun o ho9 => ?_)
    (fun o ho9 => by rw [ii 141 o (by decide) (by decide) (by decide) (by decide) (by decide) (by omega)]; exact hof o (by omega)) (fun r hr => ?_)
  · rw [nn 7 (by decide) (by decide)] at hp
    rw [ii 131 p (by decide) (by decide) (by decide) (by decide) (by decide) (by omega), ii 132 p (by decide) (by decide) (by decide) (by decide) (by decide) (by omega), nn 6 (by decide) (by decide), nn 4 (by decide) (by decide)]
    exact wp p hp
  · rw [nn 4 (by decide) (by decide)] at hs9
    rw [nn 5 (by decide) (by decide)]
    exact ws s hs9
  · rw [nn 6 (by decide) (by decide)]
    by_cases e : o = n 8
    · rw [e, i136]; exact hk
    · rw [ik 136 o e (by decide)]; exact wo o (by omega)
  · rw [nn 7 (by decide) (by decide)] at hp
    exact lI_same h0 hp (by rw [nn 4 (by decide) (by decide)]; exact Nat.le_refl _) rfl (ii 134 p (by decide) (by decide) (by decide) (by decide) (by decide) (by omega)) (ii 133 p (by decide) (by decide) (by decide) (by decide) (by decide) (by omega)) (ii 131 p (by decide) (by decide) (by decide) (by decide) (by decide) (by omega))
      (fun k _ => ⟨ii 127 k (by decide) (by decide) (by decide) (by decide) (by decide) (by omega), ii 128 k (by decide) (by decide) (by decide) (by decide) (by decide) (by omega), ii 129 k (by decide) (by decide) (by decide) (by decide) (by decide) (by omega)⟩) rfl (fun _ _ => ⟨rfl, rfl, rfl⟩) (fun _ _ _ => rfl)
  · by_cases e : o = n 8
    · rw [e, i137, i139]
      rw [d_8] at ha
      obtain ⟨j, j1, j2, j3⟩ := zin_pos ha
      refine Or.inr ⟨⟨j, j2, j1, j3⟩, fun _ => ?_⟩
      have h1 := hc.1
      rw [g0, nI_1, Int32.lt_iff_toInt_lt, nI_toInt (by omega)] at h1
      rw [Int32.lt_iff_toInt_lt, nI_toInt (by omega)]
      omega
    · exact Or.inl ⟨by omega, ik 137 o e (by decide), ik 139 o e (by decide), fun e9 => by rw [ik 140 o e (by decide)] at e9; exact e9⟩
  · rw [nn 5 (by decide) (by decide)] at hr
    rw [nn 7 (by decide) (by decide), flN_same (fun p _ => ⟨ii 134 p (by decide) (by decide) (by decide) (by decide) (by decide) (by omega), ii 132 p (by decide) (by decide) (by decide) (by decide) (by decide) (by omega)⟩)]
    exact hfl r hr
theorem CI_room (h : CI n i x lm y t) {a b c : Int32} (hN : n 5 < 4) (ha : zin a 1 50) (hb : zin b 1 100) :
    CI (nup (nup n 0 (n 0 + 1)) 5 (n 0 + 1)) (zup (zup (zup (zup (zup (zup (zup (zup i 102 (n 5) a) 103 (n 5) b) 104 (n 5) c) 105 (n 5) 20) 106 (n 5) 50) 109 (n 5) 97) 110 (n 5) (i 1 1)) 1 17 (nI (n 5) + 1)) (zup (zup (zup (zrow x (n 0)) 0 (n 0) 0) 6 (n 0) 0) 5 (n 0) (-400)) lm y t := by
  obtain ⟨n', hn'⟩ : ∃ m, m = nup (nup n 0 (n 0 + 1)) 5 (n 0 + 1) := ⟨_, rfl⟩
  obtain ⟨i', hi'⟩ : ∃ j, j = zup (zup (zup (zup (zup (zup (zup (zup i 102 (n 5) a) 103 (n 5) b) 104 (n 5) c) 105 (n 5) 20) 106 (n 5) 50) 109 (n 5) 97) 110 (n 5) (i 1 1)) 1 17 (nI (n 5) + 1) := ⟨_, rfl⟩
  obtain ⟨x', hx'⟩ : ∃ j, j = zup (zup (zup (zrow x (n 0)) 0 (n 0) 0) 6 (n 0) 0) 5 (n 0) (-400) := ⟨_, rfl⟩
  rw [← hn', ← hi', ← hx']
  have h0 := h
  obtain ⟨hW, ⟨g0, h960, g17, g30, g35, g42, hO, -⟩, -, ⟨-, hf⟩, -, hl, hs, -, -, ⟨ho, hof⟩, hfl⟩ := h
  obtain ⟨⟨w0, w1, w2, w3⟩, ⟨w5, w6, w7, w8⟩, wp, ws, wo⟩ := id hW
  have nn : ∀ k, k ≠ 0 → k ≠ 5 → n' k = n k := fun k e1 e2 => by rw [hn', nup_n e2, nup_n e1]
  have n5 : n' 5 = n 5 + 1 := by rw [hn', nup_s, w0]
  have n0 : n' 0 = n 5 + 1 := by rw [hn', nup_n (by decide), nup_s, w0]
  have ii : ∀ p q, p ≠ 102 → p ≠ 103 → p ≠ 104 → p ≠ 105 → p ≠ 106 → p ≠ 109 → p ≠ 110 → ¬ (p = 1 ∧ q = 17) → i' p q = i p q := fun p q e1 e2 e3 e4 e5 e6 e7 e8 => by
    rw [hi', zup_n e8, zup_n (by omega), zup_n (by omega), zup_n (by omega), zup_n (by omega), zup_n (by omega), zup_n (by omega), zup_n (by omega)]
  have iw : ∀ p q, 111 ≤ p → i' p q = i p q := fun p q e => ii p q (by omega) (by omega) (by omega) (by omega) (by omega) (by omega) (by omega) (by omega)
  have i1 : ∀ q, q ≠ 17 → i' 1 q = i 1 q := fun q e => ii 1 q (by omega) (by omega) (by omega) (by omega) (by omega) (by omega) (by omega) (by omega)
  have ik : ∀ p q, q ≠ n 5 → p ≠ 1 → i' p q = i p q := fun p q e1 e2 => by rw [hi', zup_n (by omega), zup_n (by omega), zup_n (by omega), zup_n (by omega), zup_n (by omega), zup_n (by omega), zup_n (by omega), zup_n (by omega)]
  have i102 : i' 102 (n 5) = a := by rw [hi', zup_n (by omega), zup_n (by omega), zup_n (by omega), zup_n (by omega), zup_n (by omega), zup_n (by omega), zup_n (by omega), zup_s]
  have i103 : i' 103 (n 5) = b := by rw [hi', zup_n (by omega), zup_n (by omega), zup_n (by omega), zup_n (by omega), zup_n (by omega), zup_n (by omega), zup_s]
  have i105 : i' 105 (n 5) = 20 := by rw [hi', zup_n (by omega), zup_n (by omega), zup_n (by omega), zup_n (by omega), zup_s]
  have i106 : i' 106 (n 5) = 50 := by rw [hi', zup_n (by omega), zup_n (by omega), zup_n (by omega), zup_s]
  have i109 : i' 109 (n 5) = 97 := by rw [hi', zup_n (by omega), zup_n (by omega), zup_s]
  have i110 : i' 110 (n 5) = i 1 1 := by rw [hi', zup_n (by omega), zup_s]
  have xx : ∀ p q, q ≠ n 5 → p < 10 → x' p q = x p q := fun p q e1 e2 => by rw [hx', zup_n (by omega), zup_n (by omega), zup_n (by omega)]; exact if_neg (by omega)
  have xy : ∀ p q, p ≠ 0 → p ≠ 5 → p ≠ 6 → p < 10 → x' p q = x p q := fun p q e1 e2 e3 e4 => by rw [hx', zup_n (by omega), zup_n (by omega), zup_n (by omega)]; exact if_neg (by omega)
  have x10 : ∀ p q, 10 ≤ p → x' p q = if p = 10 + n 5 then 0 else x p q := fun p q e => by rw [hx', zup_n (by omega), zup_n (by omega), zup_n (by omega), w0]; rfl
  have x5 : x' 5 (n 5) = -400 := by rw [hx', w0, zup_s]
  have x6 : x' 6 (n 5) = 0 := by rw [hx', w0, zup_n (by omega), zup_s]
  obtain ⟨f1, f2, f3, f4, f5, f6⟩ := hf (n 5) (Nat.le_refl _)
  refine CI_G h0 ⟨⟨by rw [n0, n5], by rw [nn 1 (by decide) (by decide), nn 6 (by decide) (by decide)]; exact w1, by rw [nn 2 (by decide) (by decide), nn 7 (by decide) (by decide)]; exact w2, by rw [nn 3 (by decide) (by decide), nn 8 (by decide) (by decide)]; exact w3⟩,
      ⟨by omega, by rw [nn 6 (by decide) (by decide)]; exact w6, by rw [nn 7 (by decide) (by decide)]; exact w7, by rw [nn 8 (by decide) (by decide)]; exact w8⟩, fun p hp => ?_, fun s hs9 => ?_, fun o ho9 => ?_⟩
    ⟨i1 0 (by decide), by rw [hi', zup_s, n5, nI_1], by rw [i1 30 (by decide), nn 6 (by decide) (by decide)]; exact g30, by rw [i1 35 (by decide), nn 7 (by decide) (by decide)]; exact g35, by rw [i1 42 (by decide), nn 8 (by decide) (by decide)]; exact g42, i1 1 (by decide), i1 20 (by decide), i1 21 (by decide), i1 24 (by decide), i1 25 (by decide), xy 7 0 (by decide) (by decide) (by decide) (by decide)⟩
    (fun j => ⟨Or.inl (iw 111 j (by decide)), Or.inl (iw 112 j (by decide)), by
      by_cases e : j = n 5
      · rw [e, i109]; exact Or.inr rfl
      · exact Or.inl (ik 109 j e (by decide)), Or.inl (iw 134 j (by decide)), Or.inl (iw 140 j (by decide))⟩)
    (fun r hr => ?_)
    (fun r hr => ⟨by omega, fun q hq => ik q r (by omega) (by omega)⟩)
    (fun k hk => Or.inl ⟨by rw [nn 6 (by decide) (by decide)] at hk; exact hk, iw 127 k (by decide), iw 128 k (by decide)⟩) (fun p hp => ?_)
    (fun s hs9 => by rw [nn 4 (by decide) (by decide)] at hs9; rw [xy 4 s (by decide) (by decide) (by decide) (by decide)]; exact ⟨(hs s hs9).1, (hs s hs9).2.1, fun q e => by rw [xy 4 q (by decide) (by decide) (by decide) (by decide)]; exact (hs s hs9).2.2 q e⟩)
    (fun p q e => by
      rw [x10 p q e]
      by_cases d : p = 10 + n 5
      · exact Or.inr (if_pos d)
      · exact Or.inl (if_neg d)) (fun q => ⟨xy 1 q (by decide) (by decide) (by decide) (by decide), xy 2 q (by decide) (by decide) (by decide) (by decide)⟩) (fun o ho9 => Or.inl ⟨by rw [nn 8 (by decide) (by decide)] at ho9; exact ho9, iw 137 o (by decide), iw 139 o (by decide), fun e => by rw [iw 140 o (by decide)] at e; exact e⟩)
    (fun o ho9 => by rw [nn 8 (by decide) (by decide)] at ho9; rw [iw 141 o (by decide)]; exact hof o ho9) (fun r hr => ?_)
  · rw [nn 7 (by decide) (by decide)] at hp
    rw [iw 131 p (by decide), iw 132 p (by decide), nn 6 (by decide) (by decide), nn 4 (by decide) (by decide)]
    exact wp p hp
  · rw [nn 4 (by decide) (by decide)] at hs9
    obtain ⟨q1, q2⟩ := ws s hs9
    exact ⟨by omega, q2⟩
  · rw [nn 8 (by decide) (by decide)] at ho9
    rw [iw 136 o (by decide), nn 6 (by decide) (by decide)]
    exact wo o ho9
  · by_cases e : r = n 5
    · refine Or.inr ?_
      subst e
      have e116 : i' 116 (n 5) = 0 := (iw 116 _ (by decide)).trans f5
      refine ⟨⟨by rw [i102]; exact ha, by rw [i103]; exact hb⟩, by rw [i105, i106]; decide, Or.inl i109, ?_, ⟨0, Nat.zero_le _, by rw [e116, nI_0], by rw [x6]; decide, by rw [x6]; decide⟩, by rw [x5, if_pos e116], by rw [x6, f6]; decide⟩
      rw [i110]
      have h1 := i_zin hO
      rw [n_300, n_450] at h1
      exact i_zin2 (by rw [n_400, n_450]; omega)
    · exact Or.inl ⟨by omega, fun q hq => ik q r e (by omega), xx 6 r e (by decide), xx 5 r e (by decide)⟩
  · rw [nn 7 (by decide) (by decide)] at hp
    exact lI_same h0 hp (by rw [nn 4 (by decide) (by decide)]; exact Nat.le_refl _) rfl (iw 134 p (by decide)) (iw 133 p (by decide)) (iw 131 p (by decide))
      (fun k _ => ⟨iw 127 k (by decide), iw 128 k (by decide), iw 129 k (by decide)⟩) (xy 3 p (by decide) (by decide) (by decide) (by decide)) (fun s _ => ⟨xy 4 s (by decide) (by decide) (by decide) (by decide), rfl, rfl⟩) (fun r q hr => by rw [x10 (10 + r) q (by omega), if_neg (by omega)])
  · rw [nn 7 (by decide) (by decide), flN_same (fun p _ => ⟨iw 134 p (by decide), iw 132 p (by decide)⟩)]
    by_cases e : r = n 5
    · refine Nat.le_trans (zcnt_le (R := fun _ => False) (n 7) (fun p hp q => ?_)) (by rw [zcnt_F]; exact Nat.zero_le _)
      obtain ⟨-, u2, u3⟩ := wp p hp
      have u4 := (ws _ u2).1
      have u5 := q.2
      rw [u3, e] at u5
      have := nI_inj2 (by omega) (by omega) u5
      omega
    · exact hfl r (by omega)
theorem CI_pallet (h : CI n i x lm y t) {kd r : Int32} (hN : n 7 < 24) (hk : cl kd < n 6 ∧ kd = nI (cl kd)) (hr : cl r < n 5 ∧ r = nI (cl r)) (hf8 : flN i (cl r) (n 7) < 8) :
    CI (nup (nup (nup n 2 (n 2 + 1)) 4 (n 4 + 1)) 7 (n 2 + 1)) (zup (zup (zup (zup (zup i 131 (n 7) kd) 132 (n 7) r) 133 (n 7) (i 127 (cl kd))) 134 (n 7) 114) 1 35 (nI (n 7) + 1)) (zup (zup x 3 (n 2) 960) 4 (n 4) (i 1 0)) lm (zup (zup (zup y 1 (n 4) (cl r)) 2 (n 4) 0) 0 (n 2) (n 4)) t := by
  obtain ⟨n', hn'⟩ : ∃ m, m = nup (nup (nup n 2 (n 2 + 1)) 4 (n 4 + 1)) 7 (n 2 + 1) := ⟨_, rfl⟩
  obtain ⟨i', hi'⟩ : ∃ j, j = zup (zup (zup (zup (zup i 131 (n 7) kd) 132 (n 7) r) 133 (n 7) (i 127 (cl kd))) 134 (n 7) 114) 1 35 (nI (n 7) + 1) := ⟨_, rfl⟩
  obtain ⟨x', hx'⟩ : ∃ j, j = zup (zup x 3 (n 2) 960) 4 (n 4) (i 1 0) := ⟨_, rfl⟩
  obtain ⟨y', hy'⟩ : ∃ j, j = zup (zup (zup y 1 (n 4) (cl r)) 2 (n 4) 0) 0 (n 2) (n 4) := ⟨_, rfl⟩
  rw [← hn', ← hi', ← hx', ← hy']
  have h0 := h
  obtain ⟨hW, ⟨g0, h960, g17, g30, g35, g42, hO, -⟩, -, -, hkk, hl, hs, -, -, ⟨ho, hof⟩, hfl⟩ := h
  obtain ⟨⟨w0, w1, w2, w3⟩, ⟨w5, w6, w7, w8⟩, wp, ws, wo⟩ := id hW
  have nn : ∀ k, k ≠ 2 → k ≠ 4 → k ≠ 7 → n' k = n k := fun k e1 e2 e3 => by rw [hn', nup_n e3, nup_n e2, nup_n e1]
  have n7 : n' 7 = n 7 + 1 := by rw [hn', nup_s, w2]
  have n4 : n' 4 = n 4 + 1 := by rw [hn', nup_n (by decide), nup_s]
  have n2 : n' 2 = n 7 + 1 := by rw [hn', nup_n (by decide), nup_n (by decide), nup_s, w2]
  have ii : ∀ p q, p ≠ 131 → p ≠ 132 → p ≠ 133 → p ≠ 134 → ¬ (p = 1 ∧ q = 35) → i' p q = i p q := fun p q e1 e2 e3 e4 e5 => by rw [hi', zup_n e5, zup_n (by omega), zup_n (by omega), zup_n (by omega), zup_n (by omega)]
  have ik : ∀ p q, q ≠ n 7 → p ≠ 1 → i' p q = i p q := fun p q e1 e2 => by rw [hi', zup_n (by omega), zup_n (by omega), zup_n (by omega), zup_n (by omega), zup_n (by omega)]
  have i131 : i' 131 (n 7) = kd := by rw [hi', zup_n (by omega), zup_n (by omega), zup_n (by omega), zup_n (by omega), zup_s]
  have i132 : i' 132 (n 7) = r := by rw [hi', zup_n (by omega), zup_n (by omega), zup_n (by omega), zup_s]
  have i133 : i' 133 (n 7) = i 127 (cl kd) := by rw [hi', zup_n (by omega), zup_n (by omega), zup_s]
  have i134 : i' 134 (n 7) = 114 := by rw [hi', zup_n (by omega), zup_s]
  have xx : ∀ p q, p ≠ 3 → p ≠ 4 → x' p q = x p q := fun p q e1 e2 => by rw [hx', zup_n (by omega), zup_n (by omega)]
  have x3 : ∀ q, q ≠ n 7 → x' 3 q = x 3 q := fun q e => by rw [hx', zup_n (by omega), zup_n (by omega)]
  have x3n : x' 3 (n 7) = 960 := by rw [hx', zup_n (by omega), w2, zup_s]
  have x4 : ∀ s, s ≠ n 4 → x' 4 s = x 4 s := fun q e => by rw [hx', zup_n (by omega), zup_n (by omega)]
  have x4n : x' 4 (n 4) = nI t := by rw [hx', zup_s, g0]
  have y0 : ∀ q, q ≠ n 7 → y' 0 q = y 0 q := fun q e => by rw [hy', zup_n (by omega), zup_n (by omega), zup_n (by omega)]
  have y0n : y' 0 (n 7) = n 4 := by rw [hy', w2, zup_s]
  have y1 : ∀ s, s ≠ n 4 → y' 1 s = y 1 s ∧ y' 2 s = y 2 s := fun s e => ⟨by rw [hy', zup_n (by omega), zup_n (by omega), zup_n (by omega)], by rw [hy', zup_n (by omega), zup_n (by omega), zup_n (by omega)]⟩
  have y1n : y' 1 (n 4) = cl r ∧ y' 2 (n 4) = 0 := ⟨by rw [hy', zup_n (by omega), zup_n (by omega), zup_s], by rw [hy', zup_n (by omega), zup_s]⟩
  have ct : cl (nI t) = t := nI_clamp (by omega)
  refine CI_G h0 ⟨⟨by rw [nn 0 (by decide) (by decide) (by decide), nn 5 (by decide) (by decide) (by decide)]; exact w0, by rw [nn 1 (by decide) (by decide) (by decide), nn 6 (by decide) (by decide) (by decide)]; exact w1, by rw [n2, n7], by rw [nn 3 (by decide) (by decide) (by decide), nn 8 (by decide) (by decide) (by decide)]; exact w3⟩,
      ⟨by rw [nn 5 (by decide) (by decide) (by decide)]; exact w5, by rw [nn 6 (by decide) (by decide) (by decide)]; exact w6, by omega, by rw [nn 8 (by decide) (by decide) (by decide)]; exact w8⟩, fun p hp => ?_, fun s hs9 => ?_, fun o ho9 => ?_⟩
    ⟨ii 1 0 (by decide) (by decide) (by decide) (by decide) (by omega), by rw [ii 1 17 (by decide) (by decide) (by decide) (by decide) (by omega), nn 5 (by decide) (by decide) (by decide)]; exact g17, by rw [ii 1 30 (by decide) (by decide) (by decide) (by decide) (by omega), nn 6 (by decide) (by decide) (by decide)]; exact g30, by rw [hi', zup_s, n7, nI_1], by rw [ii 1 42 (by decide) (by decide) (by decide) (by decide) (by omega), nn 8 (by decide) (by decide) (by decide)]; exact g42, ii 1 1 (by decide) (by decide) (by decide) (by decide) (by omega), ii 1 20 (by decide) (by decide) (by decide) (by decide) (by omega), ii 1 21 (by decide) (by decide) (by decide) (by decide) (by omega), ii 1 24 (by decide) (by decide) (by decide) (by decide) (by omega), ii 1 25 (by decide) (by decide) (by decide) (by decide) (by omega), xx 7 0 (by decide) (by decide)⟩
    (fun j => ⟨Or.inl (ii 111 j (by decide) (by decide) (by decide) (by decide) (by omega)), Or.inl (ii 112 j (by decide) (by decide) (by decide) (by decide) (by omega)), Or.inl (ii 109 j (by decide) (by decide) (by decide) (by decide) (by omega)), by
      by_cases e : j = n 7
      · rw [e, i134]; exact Or.inr (Or.inl rfl)
      · exact Or.inl (ik 134 j e (by decide)), Or.inl (ii 140 j (by decide) (by decide) (by decide) (by decide) (by omega))⟩)
    (fun r hr => Or.inl ⟨by rw [nn 5 (by decide) (by decide) (by decide)] at hr; exact hr, fun q hq => ii q r (by omega) (by omega) (by omega) (by omega) (by omega), xx 6 r (by decide) (by decide), xx 5 r (by decide) (by decide)⟩)
    (fun r hr => ⟨by rw [nn 5 (by decide) (by decide) (by decide)] at hr; exact hr, fun q hq => ii q r (by omega) (by omega) (by omega) (by omega) (by omega)⟩)
    (fun k hk => Or.inl ⟨by rw [nn 6 (by decide) (by decide) (by decide)] at hk; exact hk, ii 127 k (by decide) (by decide) (by decide) (by decide) (by omega), ii 128 k (by decide) (by decide) (by decide) (by decide) (by omega)⟩) (fun p hp => ?_)
    (fun s hs9 => ?_) (fun p q e => Or.inl (xx p q (by omega) (by omega))) (fun q => ⟨xx 1 q (by decide) (by decide), xx 2 q (by decide) (by decide)⟩) (fun o ho9 => Or.inl ⟨by rw [nn 8 (by decide) (by decide) (by decide)] at ho9; exact ho9, ii 137 o (by decide) (by decide) (by decide) (by decide) (by omega), ii 139 o (by decide) (by decide) (by decide) (by decide) (by omega), fun e => by rw [ii 140 o (by decide) (by decide) (by decide) (by decide) (by omega)] at e; exact e⟩)
    (fun o ho9 => by rw [nn 8 (by decide) (by decide) (by decide)] at ho9; rw [ii 141 o (by decide) (by decide) (by decide) (by decide) (by omega)]; exact hof o ho9) (fun q hq => ?_)
  · rw [nn 6 (by decide) (by decide) (by decide), n4]
    by_cases e : p = n 7
    · rw [e, i131, i132, y0n, y1n.1]
      exact ⟨hk, by omega, hr.2⟩
    · have hp7 : p < n 7 := by omega
      obtain ⟨u1, u2, u3⟩ := wp p hp7
      rw [ik 131 p e (by decide), ik 132 p e (by decide), y0 p e, (y1 _ (by omega)).1]
      exact ⟨u1, by omega, u3⟩
  · rw [nn 5 (by decide) (by decide) (by decide)]
    by_cases e : s = n 4
    · rw [e, y1n.1, y1n.2]
      exact ⟨hr.1, Nat.zero_le _⟩
    · rw [(y1 s e).1, (y1 s e).2]
      exact ws s (by omega)
  · rw [nn 8 (by decide) (by decide) (by decide)] at ho9
    rw [ii 136 o (by decide) (by decide) (by decide) (by decide) (by omega), nn 6 (by decide) (by decide) (by decide)]
    exact wo o ho9
  · by_cases e : p = n 7
    · subst e
      have en : c_en i' x' (n 7) t = t := if_pos i134
      obtain ⟨F1, F2, F3⟩ := F_nat (hkk _ hk.1).1
      have e127 : i' 127 (cl kd) = i 127 (cl kd) := ii 127 _ (by decide) (by decide) (by decide) (by decide) (by omega)
      have c960 : cl 960 = 960 := by decide +kernel
      refine ⟨⟨by rw [en, y0n, x4n, ct]; exact Nat.le_refl _, by rw [en]; exact Nat.le_refl _⟩, ⟨by rw [x3n, c960]; decide +kernel, by rw [x3n, c960]; exact Nat.le_refl _⟩, ?_⟩
      rw [en, i133, i131, e127, n4, y0n]
      show _ = nI (_ - (c_raN i' x' (cl kd) (y' 1 (n 4)) (cl (x' 4 (n 4))) (t - cl (x' 4 (n 4))) + c_rlN i' x' y' (cl kd) (n 4) (y' 2 (n 4)) (cl (x' 4 (n 4)))))
      rw [x4n, ct, y1n.2, c_rlN_0, Nat.sub_self]
      exact F1
    · exact lI_same h0 (by omega) (by omega) (y0 p e) (ik 134 p e (by decide)) (ik 133 p e (by decide)) (ik 131 p e (by decide)) (fun k _ => ⟨ii 127 k (by decide) (by decide) (by decide) (by decide) (by omega), ii 128 k (by decide) (by decide) (by decide) (by decide) (by omega), ii 129 k (by decide) (by decide) (by decide) (by decide) (by omega)⟩)
        (x3 p e) (fun s hs9 => ⟨x4 s (by omega), y1 s (by omega)⟩) (fun r q _ => xx (10 + r) q (by omega) (by omega))
  · by_cases e : s = n 4
    · rw [e, x4n, y1n.2, ct]
      exact ⟨rfl, Nat.le_refl _, fun s2 e => nomatch e⟩
    · have hs4 : s < n 4 := by omega
      rw [x4 s e, (y1 s e).2]
      obtain ⟨u1, u2, u3⟩ := hs s hs4
      exact ⟨u1, u2, fun s2 e2 => by
        have := (ws s hs4).2
        rw [x4 s2 (by omega)]; exact u3 s2 e2⟩
  · rw [nn 5 (by decide) (by decide) (by decide)] at hq
    rw [n7]
    show zcnt _ (n 7) + (if i' 134 (n 7) = 114 ∧ i' 132 (n 7) = nI q then 1 else 0) ≤ 8
    have hsame : zcnt (fun p => i' 134 p = 114 ∧ i' 132 p = nI q) (n 7) = flN i q (n 7) := flN_same (i := i) (i' := i') (fun p hp => ⟨ik 134 p (by omega) (by decide), ik 132 p (by omega) (by decide)⟩)
    rw [hsame]
    by_cases e : q = cl r
    · subst e
      split <;> omega
    · rw [if_neg (fun c => e (by
        have u := c.2
        rw [i132, hr.2] at u
        exact (nI_inj2 (by omega) (by omega) u).symm))]
      exact hfl q hq
end CI3
