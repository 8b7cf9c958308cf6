/-! PART 79: records and lives as natural numbers -/
theorem i_nat {v : Int32} {N : Nat} (h : 0 ≤ v.toInt) (h2 : v.toInt ≤ N) : v = nI (cl v) ∧ cl v ≤ N := by
  obtain ⟨j, hj, rfl⟩ := nI_of (x := v) (fun e => by rw [Int32.lt_iff_toInt_lt, z_0] at e; omega)
  have e : cl (nI j) = j := nI_clamp hj
  rw [e]
  rw [nI_toInt hj] at h2
  exact ⟨rfl, by omega⟩
theorem n_10 : (10 : Int32).toInt = 10 := by decide
theorem i_div20 {a : Int32} : (a / 20).toInt = a.toInt.tdiv 20 := Int32.toInt_div_of_ne_right a 20 (by decide)
theorem c_ls_N {i : Nat → Nat → Int32} {k : Nat} {d : Int32} (hd : zin d (-400) 450) (hb : zin (i 128 k) (-300) 300) : c_ls i k d = nI (cl (c_ls i k d)) ∧ cl (c_ls i k d) ≤ 40 := by
  have b1 := i_zin hd
  have b2 := i_zin hb
  rw [n_400, n_450] at b1
  rw [n_300, p_300] at b2
  have h : 0 ≤ (c_ls i k d).toInt ∧ (c_ls i k d).toInt ≤ (40 : Nat) := by
    unfold c_ls
    split
    · rw [n_10]; omega
    · split
      · rename_i c
        rw [Int32.lt_iff_toInt_lt] at c
        have hs : (d - i 128 k).toInt = d.toInt - (i 128 k).toInt := i_sub (by omega)
        have hq : ((d - i 128 k) / 20).toInt = (d - i 128 k).toInt / 20 := by rw [i_div20, Int.tdiv_eq_ediv_of_nonneg (by omega)]
        rw [i_add (by rw [n_1]; omega), n_1, hq]
        omega
      · rw [n_1]; omega
  exact i_nat h.1 h.2
def c_raN (i x : Nat → Nat → Int32) (k r s : Nat) : Nat → Nat
  | 0 => 0
  | m + 1 => c_raN i x k r s m + cl (c_ls i k (x (10 + r) (s + m)))
def c_rlN (i x : Nat → Nat → Int32) (y : Nat → Nat → Nat) (k : Nat) : Nat → Nat → Nat → Nat
  | 0, _, _ => 0
  | _ + 1, 0, _ => 0
  | f + 1, s + 1, en => c_raN i x k (y 1 s) (cl (x 4 s)) (en - cl (x 4 s)) + c_rlN i x y k f (y 2 s) (cl (x 4 s))
section RLN
variable {i x : Nat → Nat → Int32} {y : Nat → Nat → Nat} {k : Nat}
theorem c_ra_N (hx : ∀ a b, 10 ≤ a → zin (x a b) (-400) 450) (hb : zin (i 128 k) (-300) 300) {r s a : Nat} : ∀ m, c_ra i x k r s (nI a) m = nI (a + c_raN i x k r s m)
  | 0 => rfl
  | m + 1 => by
    show c_ra i x k r s (nI a) m + c_ls i k (x (10 + r) (s + m)) = nI (a + (c_raN i x k r s m + cl (c_ls i k (x (10 + r) (s + m)))))
    have h9 := (c_ls_N (i := i) (k := k) (hx (10 + r) (s + m) (by omega)) hb).1
    rw [c_ra_N hx hb m, ← Nat.add_assoc, ← nI_add (a + c_raN i x k r s m), ← h9]
theorem c_rl_N (hx : ∀ a b, 10 ≤ a → zin (x a b) (-400) 450) (hb : zin (i 128 k) (-300) 300) : ∀ f s1 en a, c_rl i x y k f s1 en (nI a) = nI (a + c_rlN i x y k f s1 en)
  | 0, _, _, _ => rfl
  | _ + 1, 0, _, _ => rfl
  | f + 1, s + 1, en, a => by
    show c_rl i x y k f (y 2 s) (cl (x 4 s)) (c_ra i x k (y 1 s) (cl (x 4 s)) (nI a) (en - cl (x 4 s))) = nI (a + (c_raN i x k (y 1 s) (cl (x 4 s)) (en - cl (x 4 s)) + c_rlN i x y k f (y 2 s) (cl (x 4 s))))
    rw [c_ra_N hx hb, c_rl_N hx hb f, Nat.add_assoc]
theorem c_raN_le (hx : ∀ a b, 10 ≤ a → zin (x a b) (-400) 450) (hb : zin (i 128 k) (-300) 300) {r s : Nat} : ∀ m, c_raN i x k r s m ≤ 40 * m
  | 0 => Nat.le_refl _
  | m + 1 => by
    have h1 := c_raN_le hx hb (r := r) (s := s) m
    have h2 := (c_ls_N (k := k) (hx (10 + r) (s + m) (by omega)) hb).2
    show c_raN i x k r s m + cl (c_ls i k (x (10 + r) (s + m))) ≤ 40 * (m + 1)
    omega
theorem c_rlN_le (hx : ∀ a b, 10 ≤ a → zin (x a b) (-400) 450) (hb : zin (i 128 k) (-300) 300) {N : Nat} (hY : ∀ s, s < N → y 2 s ≤ s) (hS : ∀ s, s < N → ∀ s2, y 2 s = s2 + 1 → cl (x 4 s2) ≤ cl (x 4 s)) :
    ∀ f s1 en, s1 ≤ N → (∀ s, s1 = s + 1 → cl (x 4 s) ≤ en) → c_rlN i x y k f s1 en ≤ 40 * en
  | 0, _, _, _, _ => Nat.zero_le _
  | _ + 1, 0, _, _, _ => Nat.zero_le _
  | f + 1, s + 1, en, hN, he => by
    have h1 := c_raN_le (i := i) (x := x) (k := k) hx hb (r := y 1 s) (s := cl (x 4 s)) (en - cl (x 4 s))
    have h2 := c_rlN_le hx hb hY hS f (y 2 s) (cl (x 4 s)) (by have := hY s (by omega); omega) (fun s2 e => hS s (by omega) s2 e)
    have h3 := he s rfl
    show c_raN i x k (y 1 s) (cl (x 4 s)) (en - cl (x 4 s)) + c_rlN i x y k f (y 2 s) (cl (x 4 s)) ≤ 40 * en
    omega
theorem c_rlN_0 : ∀ f en, c_rlN i x y k f 0 en = 0
  | 0, _ => rfl
  | _ + 1, _ => rfl
theorem c_rlN_f {N : Nat} (hY : ∀ s, s < N → y 2 s ≤ s) : ∀ f g s1 en, s1 ≤ f → s1 ≤ g → s1 ≤ N → c_rlN i x y k f s1 en = c_rlN i x y k g s1 en
  | 0, g, s1, en, h1, _, _ => by
    obtain rfl : s1 = 0 := by omega
    rw [c_rlN_0, c_rlN_0]
  | f + 1, g, 0, en, _, _, _ => by rw [c_rlN_0, c_rlN_0]
  | f + 1, 0, s + 1, en, _, h2, _ => absurd h2 (Nat.not_succ_le_zero _)
  | f + 1, g + 1, s + 1, en, h1, h2, h3 => by
    have h4 := hY s (by omega)
    show c_raN i x k (y 1 s) (cl (x 4 s)) (en - cl (x 4 s)) + c_rlN i x y k f (y 2 s) (cl (x 4 s)) = c_raN i x k (y 1 s) (cl (x 4 s)) (en - cl (x 4 s)) + c_rlN i x y k g (y 2 s) (cl (x 4 s))
    rw [c_rlN_f hY f g (y 2 s) (cl (x 4 s)) (by omega) (by omega) (by omega)]
theorem c_raN_c {i' x' : Nat → Nat → Int32} {T : Nat} (h1 : ∀ d, c_ls i' k d = c_ls i k d) {r s : Nat} (h2 : ∀ q, q < T → x' (10 + r) q = x (10 + r) q) : ∀ m, s + m ≤ T ∨ m = 0 → c_raN i' x' k r s m = c_raN i x k r s m
  | 0, _ => rfl
  | m + 1, hm => by
    show c_raN i' x' k r s m + cl (c_ls i' k (x' (10 + r) (s + m))) = c_raN i x k r s m + cl (c_ls i k (x (10 + r) (s + m)))
    rw [c_raN_c h1 h2 m (Or.inl (by omega)), h1, h2 _ (by omega)]
theorem c_rlN_c {i' x' : Nat → Nat → Int32} {y' : Nat → Nat → Nat} {T N : Nat} (h1 : ∀ d, c_ls i' k d = c_ls i k d) (h2 : ∀ r q, q < T → x' (10 + r) q = x (10 + r) q) (hY : ∀ s, s < N → y 2 s ≤ s ∧ y' 1 s = y 1 s ∧ y' 2 s = y 2 s ∧ x' 4 s = x 4 s ∧ cl (x 4 s) ≤ T) :
    ∀ f s1 en, s1 ≤ N → en ≤ T → c_rlN i' x' y' k f s1 en = c_rlN i x y k f s1 en
  | 0, _, _, _, _ => rfl
  | _ + 1, 0, _, _, _ => rfl
  | f + 1, s + 1, en, hN, he => by
    obtain ⟨k1, k2, k3, k4, k5⟩ := hY s (by omega)
    show c_raN i' x' k (y' 1 s) (cl (x' 4 s)) (en - cl (x' 4 s)) + c_rlN i' x' y' k f (y' 2 s) (cl (x' 4 s)) = c_raN i x k (y 1 s) (cl (x 4 s)) (en - cl (x 4 s)) + c_rlN i x y k f (y 2 s) (cl (x 4 s))
    rw [k2, k3, k4, c_raN_c h1 (h2 (y 1 s)) (en - cl (x 4 s)) (by omega), c_rlN_c h1 h2 hY f (y 2 s) (cl (x 4 s)) (by omega) k5]
end RLN
def flN (i : Nat → Nat → Int32) (r np : Nat) : Nat := zcnt (fun p => i 134 p = 114 ∧ i 132 p = nI r) np
theorem m_filled_N {i : Nat → Nat → Int32} {r : Nat} : ∀ np, m_filled i (nI r) np = nI (flN i r np)
  | 0 => rfl
  | n + 1 => by
    unfold m_filled
    rw [m_filled_N n]
    show _ = nI (zcnt _ n + if i 134 n = 114 ∧ i 132 n = nI r then 1 else 0)
    by_cases c : i 134 n = 114 ∧ i 132 n = nI r
    · rw [if_pos c, zb_t c, nI_1]; rfl
    · rw [if_neg c, zb_f c, Int32.add_zero]; rfl
/-- a room's numbers at the time t -/
def rI (i x : Nat → Nat → Int32) (lm : Nat → Nat → Int64) (t r : Nat) : Prop :=
  (zin (i 102 r) 1 50 ∧ zin (i 103 r) 1 100) ∧ i 105 r ≤ i 106 r ∧ (i 109 r = 97 ∨ i 109 r = 111 ∨ i 109 r = 110) ∧ zin (i 110 r) (-400) 450 ∧
  (∃ c : Nat, c ≤ t ∧ i 116 r = nI c ∧ -(450 * (c : Int)) ≤ (x 6 r).toInt ∧ (x 6 r).toInt ≤ 450 * (c : Int)) ∧ x 5 r = (if i 116 r = 0 then -400 else i 114 r) ∧ lm 115 r = (x 6 r).toInt64
/-- the numbers of a room that there isn't yet -/
def rF (i : Nat → Nat → Int32) (lm : Nat → Nat → Int64) (r : Nat) : Prop := i 107 r = 0 ∧ i 108 r = 0 ∧ i 111 r = 0 ∧ i 112 r = 0 ∧ i 116 r = 0 ∧ lm 115 r = 0
/-- a pallet's numbers -/
def lI (n : Nat → Nat) (i x : Nat → Nat → Int32) (y : Nat → Nat → Nat) (t p : Nat) : Prop :=
  (cl (x 4 (y 0 p)) ≤ c_en i x p t ∧ c_en i x p t ≤ t) ∧ (x 3 p = nI (cl (x 3 p)) ∧ cl (x 3 p) ≤ 960) ∧
  i 133 p = nI (cl (i 127 (cl (i 131 p))) - c_rlN i x y (cl (i 131 p)) (n 4) (y 0 p + 1) (c_en i x p t))
def CI (n : Nat → Nat) (i x : Nat → Nat → Int32) (lm : Nat → Nat → Int64) (y : Nat → Nat → Nat) (t : Nat) : Prop :=
  cW n i y ∧
  (i 1 0 = nI t ∧ t ≤ 960 ∧ i 1 17 = nI (n 5) ∧ i 1 30 = nI (n 6) ∧ i 1 35 = nI (n 7) ∧ i 1 42 = nI (n 8) ∧ zin (i 1 1) (-300) 450 ∧ cP i x) ∧
  ((∀ j, i 111 j = 0 ∨ i 111 j = 1) ∧ (∀ j, i 112 j = 0 ∨ i 112 j = 1) ∧ (∀ j, narrow .char (.int (i 109 j)) = .int (i 109 j)) ∧ (∀ j, narrow .char (.int (i 134 j)) = .int (i 134 j)) ∧ (∀ j, narrow .char (.int (i 140 j)) = .int (i 140 j))) ∧
  ((∀ r, r < n 5 → rI i x lm t r) ∧ (∀ r, n 5 ≤ r → rF i lm r)) ∧
  (∀ k, k < n 6 → zin (i 127 k) 1 9999 ∧ zin (i 128 k) (-300) 300) ∧
  (∀ p, p < n 7 → lI n i x y t p) ∧
  (∀ s, s < n 4 → x 4 s = nI (cl (x 4 s)) ∧ cl (x 4 s) ≤ t ∧ ∀ s2, y 2 s = s2 + 1 → cl (x 4 s2) ≤ cl (x 4 s)) ∧
  (∀ a b, 10 ≤ a → zin (x a b) (-400) 450) ∧
  (lm 1 26 = c_rc x t ∧ i 1 25 = c_rg x t ∧ i 1 24 ≤ i 1 25) ∧
  ((∀ o, o < n 8 → (∃ c, 1 ≤ c ∧ c ≤ 8 ∧ i 137 o = nI c) ∧ (i 140 o = 111 → nI t < i 139 o)) ∧ (∀ o, n 8 ≤ o → i 141 o = 0)) ∧
  (∀ r, r < n 5 → flN i r (n 7) ≤ 8)
/-- what the records tell of a pallet is its life -/
theorem lI_N {n : Nat → Nat} {i x : Nat → Nat → Int32} {y : Nat → Nat → Nat} {t p : Nat} (hW : cW n i y) (ht : t ≤ 960) (hp : p < n 7) (hx : ∀ a b, 10 ≤ a → zin (x a b) (-400) 450) (hb : zin (i 128 (cl (i 131 p))) (-300) 300)
    (hs : ∀ s, s < n 4 → x 4 s = nI (cl (x 4 s)) ∧ cl (x 4 s) ≤ t ∧ ∀ s2, y 2 s = s2 + 1 → cl (x 4 s2) ≤ cl (x 4 s)) (h : cl (x 4 (y 0 p)) ≤ c_en i x p t ∧ c_en i x p t ≤ t) : c_rlN i x y (cl (i 131 p)) (n 4) (y 0 p + 1) (c_en i x p t) ≤ 38400 := by
  have w2 := (hW.2.2.1 p hp).2.1
  have := c_rlN_le (i := i) (x := x) (y := y) (k := cl (i 131 p)) hx hb (N := n 4) (fun s q => (hW.2.2.2.1 s q).2) (fun s q => (hs s q).2.2) (n 4) (y 0 p + 1) (c_en i x p t) (by omega) (fun s e => by
    obtain rfl : s = y 0 p := by omega
    exact h.1)
  omega
theorem F_nat {v : Int32} (h : zin v 1 9999) : v = nI (cl v) ∧ cl v ≤ 9999 ∧ 1 ≤ cl v := by
  have hF := i_zin h
  have e9999 : (9999 : Int32).toInt = 9999 := by decide
  rw [n_1, e9999] at hF
  obtain ⟨f1, f2⟩ := i_nat (N := 9999) (v := v) (by omega) (by omega)
  refine ⟨f1, f2, ?_⟩
  have h1 := hF.1
  rw [f1, nI_toInt (by omega)] at h1
  omega
theorem lI_rv {n : Nat → Nat} {i x : Nat → Nat → Int32} {lm : Nat → Nat → Int64} {y : Nat → Nat → Nat} {t p : Nat} (h : CI n i x lm y t) (hp : p < n 7) : i 133 p = c_rv i x y n p t ∧ ¬ i 133 p < 0 ∧ i 133 p ≤ i 127 (cl (i 131 p)) := by
  obtain ⟨hW, ⟨-, ht, -⟩, -, -, hk, hl, hs, hx, -, -, -⟩ := h
  obtain ⟨h1, -, h4⟩ := hl p hp
  have w1 := (hW.2.2.1 p hp).1.1
  obtain ⟨k1, k2⟩ := hk _ w1
  obtain ⟨f1, f2, -⟩ := F_nat k1
  have hN := lI_N hW ht hp hx k2 hs h1
  have e : c_rL i x y n p t = nI (c_rlN i x y (cl (i 131 p)) (n 4) (y 0 p + 1) (c_en i x p t)) := by
    have := c_rl_N (i := i) (x := x) (y := y) (k := cl (i 131 p)) hx k2 (n 4) (y 0 p + 1) (c_en i x p t) 0
    rw [Nat.zero_add, nI_0] at this
    exact this
  have e2 : c_rv i x y n p t = nI (cl (i 127 (cl (i 131 p))) - c_rlN i x y (cl (i 131 p)) (n 4) (y 0 p + 1) (c_en i x p t)) := by
    unfold c_rv
    rw [e]
    have := nI_mon (a := cl (i 127 (cl (i 131 p)))) (b := c_rlN i x y (cl (i 131 p)) (n 4) (y 0 p + 1) (c_en i x p t)) (by omega) (by omega)
    rw [← f1] at this
    exact this
  refine ⟨h4.trans e2.symm, ?_, ?_⟩
  · rw [h4]; exact nI_nn _ (by omega)
  · rw [h4]
    refine Int32.le_trans (nI_le (b := cl (i 127 (cl (i 131 p)))) (by omega) (by omega)) ?_
    rw [← f1]
    exact Int32.le_refl _
