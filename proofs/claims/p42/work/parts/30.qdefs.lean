/-! PART 30: the calls as functions of the model: T the code of what is thrown, V the answer, F the ints behind it -/
theorem zin_vp {x r : Int32} {n N : Nat} (h : zin r 0 (x - 1)) (hx : x = nI n) (hN : n ≤ N) (hb : N < 2 ^ 30) : vp_in r N := by
  subst hx
  rcases Nat.eq_zero_or_pos n with e | e
  · subst e
    exfalso
    obtain ⟨h1, h2⟩ := h
    rw [Int32.lt_iff_toInt_lt] at h1 h2
    rw [show (nI 0 - 1).toInt = -1 by decide] at h2
    rw [show (0 : Int32).toInt = 0 by decide] at h1
    omega
  · obtain ⟨h1, h2⟩ := h
    rw [show nI n - 1 = nI (n - 1) by rw [show nI n = nI (n - 1 + 1) by rw [Nat.sub_add_cancel e]]; exact nI_pred _] at h2
    obtain ⟨j, hj, rfl⟩ := nI_of h1
    refine vp_in_nI (Nat.lt_of_not_le fun q => h2 (nI_lt (by omega) hj)) (by omega)
theorem nI_ltc {n N : Nat} (h : n ≤ N) (c : ¬ nI n = nI N) : n < N := by
  rcases Nat.lt_or_ge n N with q | q
  · exact q
  · exact absurd (congrArg nI (Nat.le_antisymm h q)) c
def q_nowT (i : Nat → Nat → Int32) : Int32 := 0
def q_nowV (i : Nat → Nat → Int32) : Int32 := i 1 0
def q_nowF (i : Nat → Nat → Int32) : Nat → Nat → Int32 := zup i 1 43 0
def q_powerT (i : Nat → Nat → Int32) : Int32 := 0
def q_powerV (i : Nat → Nat → Int32) : Int32 := i 1 24
def q_powerF (i : Nat → Nat → Int32) : Nat → Nat → Int32 := zup i 1 43 0
def q_greatestPowerT (i : Nat → Nat → Int32) : Int32 := 0
def q_greatestPowerV (i : Nat → Nat → Int32) : Int32 := i 1 25
def q_greatestPowerF (i : Nat → Nat → Int32) : Nat → Nat → Int32 := zup i 1 43 0
def q_palletsT (i : Nat → Nat → Int32) : Int32 := 0
def q_palletsV (i : Nat → Nat → Int32) : Int32 := i 1 35
def q_palletsF (i : Nat → Nat → Int32) : Nat → Nat → Int32 := zup i 1 43 0
def q_billT (i : Nat → Nat → Int32) : Int32 := 0
def q_billV (i : Nat → Nat → Int32) (lm : Nat → Nat → Int64) : Int64 := lm 1 26 + (i 1 25).toInt64 * (i 1 22).toInt64
def q_billF (i : Nat → Nat → Int32) : Nat → Nat → Int32 := zup i 1 43 0
def q_billByRecordsT (i : Nat → Nat → Int32) : Int32 := 0
def q_billByRecordsV (i : Nat → Nat → Int32) (lm : Nat → Nat → Int64) : Int64 := q_billV i lm
def q_billByRecordsF (i : Nat → Nat → Int32) : Nat → Nat → Int32 := q_billF i
def q_isConsistentT (i : Nat → Nat → Int32) : Int32 := 0
def q_isConsistentV (i : Nat → Nat → Int32) : Int32 := 1
def q_isConsistentF (i : Nat → Nat → Int32) : Nat → Nat → Int32 := zup i 1 43 0
def q_setOutsideT (i : Nat → Nat → Int32) (t : Int32) : Int32 := if zin t (-300) 450 then 0 else 1
def q_setOutsideV (i : Nat → Nat → Int32) (t : Int32) : Int32 := if zin t (-300) 450 then i 1 1 else 0
def q_setOutsideF (i : Nat → Nat → Int32) (t : Int32) : Nat → Nat → Int32 := if zin t (-300) 450 then zup (zup i 1 43 0) 1 1 (t) else zup i 1 43 1
def q_setChargeT (i : Nat → Nat → Int32) (c : Int32) : Int32 := if zin c 0 1000 then 0 else 1
def q_setChargeV (i : Nat → Nat → Int32) (c : Int32) : Int32 := if zin c 0 1000 then i 1 22 else 0
def q_setChargeF (i : Nat → Nat → Int32) (c : Int32) : Nat → Nat → Int32 := if zin c 0 1000 then zup (zup i 1 43 0) 1 22 (c) else zup i 1 43 1
def q_setPowerLimitT (i : Nat → Nat → Int32) (c : Int32) : Int32 := if zin c 0 400 then 0 else 1
def q_setPowerLimitV (i : Nat → Nat → Int32) (c : Int32) : Int32 := if zin c 0 400 then i 1 23 else 0
def q_setPowerLimitF (i : Nat → Nat → Int32) (c : Int32) : Nat → Nat → Int32 := if zin c 0 400 then zup (zup i 1 43 0) 1 23 (c) else zup i 1 43 1
def q_setPricesT (i : Nat → Nat → Int32) (n : Int32) (p : Int32) (f : Int32) (e : Int32) : Int32 := if zin n 0 1000 ∧ zin p 0 1000 ∧ zin f 0 95 ∧ zin e f 95 then 0 else 1
def q_setPricesV (i : Nat → Nat → Int32) (n : Int32) (p : Int32) (f : Int32) (e : Int32) : Int32 := if zin n 0 1000 ∧ zin p 0 1000 ∧ zin f 0 95 ∧ zin e f 95 then i 1 18 else 0
def q_setPricesF (i : Nat → Nat → Int32) (n : Int32) (p : Int32) (f : Int32) (e : Int32) : Nat → Nat → Int32 := if zin n 0 1000 ∧ zin p 0 1000 ∧ zin f 0 95 ∧ zin e f 95 then zup (zup (zup (zup (zup i 1 43 0) 1 18 (n)) 1 19 (p)) 1 20 (f)) 1 21 (e) else zup i 1 43 1
def q_temperatureT (i : Nat → Nat → Int32) (r : Int32) : Int32 := if zin r 0 (i 1 17 - 1) then 0 else 1
def q_temperatureV (i : Nat → Nat → Int32) (r : Int32) : Int32 := if zin r 0 (i 1 17 - 1) then i 110 (cl r) else 0
def q_temperatureF (i : Nat → Nat → Int32) (r : Int32) : Nat → Nat → Int32 := if zin r 0 (i 1 17 - 1) then zup i 1 43 0 else zup i 1 43 1
def q_isCooledT (i : Nat → Nat → Int32) (r : Int32) : Int32 := if zin r 0 (i 1 17 - 1) then 0 else 1
def q_isCooledV (i : Nat → Nat → Int32) (r : Int32) : Int32 := if zin r 0 (i 1 17 - 1) then zb (¬ i 112 (cl r) = 0) else 0
def q_isCooledF (i : Nat → Nat → Int32) (r : Int32) : Nat → Nat → Int32 := if zin r 0 (i 1 17 - 1) then zup i 1 43 0 else zup i 1 43 1
def q_warmestT (i : Nat → Nat → Int32) (r : Int32) : Int32 := if ¬ zin r 0 (i 1 17 - 1) then 1 else (if i 116 (cl r) = 0 then 2 else (0))
def q_warmestV (i : Nat → Nat → Int32) (r : Int32) : Int32 := if ¬ zin r 0 (i 1 17 - 1) then 0 else (if i 116 (cl r) = 0 then 0 else (i 114 (cl r)))
def q_warmestF (i : Nat → Nat → Int32) (r : Int32) : Nat → Nat → Int32 := if ¬ zin r 0 (i 1 17 - 1) then zup i 1 43 1 else (if i 116 (cl r) = 0 then zup i 1 43 2 else (zup i 1 43 0))
def q_freeSpaceT (i : Nat → Nat → Int32) (np : Nat) (r : Int32) : Int32 := if ¬ zin r 0 (i 1 17 - 1) then 1 else (0)
def q_freeSpaceV (i : Nat → Nat → Int32) (np : Nat) (r : Int32) : Int32 := if ¬ zin r 0 (i 1 17 - 1) then 0 else (8 - m_filled (zup i 1 43 0) r np)
def q_freeSpaceF (i : Nat → Nat → Int32) (np : Nat) (r : Int32) : Nat → Nat → Int32 := if ¬ zin r 0 (i 1 17 - 1) then zup i 1 43 1 else (zup i 1 43 0)
def q_addRoomT (i : Nat → Nat → Int32) (nr : Nat) (a : Int32) (b : Int32) (c : Int32) : Int32 := if ¬ (zin a 1 50 ∧ zin b 1 100 ∧ zin c 1 100) then 1 else (if nI nr = 4 then 2 else (0))
def q_addRoomV (i : Nat → Nat → Int32) (nr : Nat) (a : Int32) (b : Int32) (c : Int32) : Int32 := if ¬ (zin a 1 50 ∧ zin b 1 100 ∧ zin c 1 100) then 0 else (if nI nr = 4 then 0 else (nI nr + 1 - 1))
def q_addRoomF (i : Nat → Nat → Int32) (nr : Nat) (a : Int32) (b : Int32) (c : Int32) : Nat → Nat → Int32 := if ¬ (zin a 1 50 ∧ zin b 1 100 ∧ zin c 1 100) then zup i 1 43 1 else (if nI nr = 4 then zup i 1 43 2 else (zup (zup (zup (zup (zup (zup (zup (zup (zup i 1 43 0) 102 nr a) 103 nr b) 104 nr c) 105 nr 20) 106 nr 50) 109 nr 97) 110 nr (i 1 1)) 1 17 (nI nr + 1)))
def q_setLimitsT (i : Nat → Nat → Int32) (r : Int32) (a : Int32) (b : Int32) : Int32 := if ¬ zin r 0 (i 1 17 - 1) then 1 else (if ¬ (zin a (-300) 300 ∧ zin b a 300) then 2 else (0))
def q_setLimitsV (i : Nat → Nat → Int32) (r : Int32) (a : Int32) (b : Int32) : Int32 := if ¬ zin r 0 (i 1 17 - 1) then 0 else (if ¬ (zin a (-300) 300 ∧ zin b a 300) then 0 else (i 105 (cl r)))
def q_setLimitsF (i : Nat → Nat → Int32) (r : Int32) (a : Int32) (b : Int32) : Nat → Nat → Int32 := if ¬ zin r 0 (i 1 17 - 1) then zup i 1 43 1 else (if ¬ (zin a (-300) 300 ∧ zin b a 300) then zup i 1 43 2 else (zup (zup (zup i 1 43 0) 105 (cl r) a) 106 (cl r) b))
def q_setModeT (i : Nat → Nat → Int32) (r : Int32) (m : Int32) : Int32 := if ¬ zin r 0 (i 1 17 - 1) then 1 else (if ¬ m = 97 ∧ ¬ m = 111 ∧ ¬ m = 110 then 2 else (0))
def q_setModeV (i : Nat → Nat → Int32) (r : Int32) (m : Int32) : Int32 := if ¬ zin r 0 (i 1 17 - 1) then 32 else (if ¬ m = 97 ∧ ¬ m = 111 ∧ ¬ m = 110 then 32 else (i 109 (cl r)))
def q_setModeF (i : Nat → Nat → Int32) (r : Int32) (m : Int32) : Nat → Nat → Int32 := if ¬ zin r 0 (i 1 17 - 1) then zup i 1 43 1 else (if ¬ m = 97 ∧ ¬ m = 111 ∧ ¬ m = 110 then zup i 1 43 2 else (zup (zup i 1 43 0) 109 (cl r) m))
def q_setLeadT (i : Nat → Nat → Int32) (r : Int32) (a : Int32) (b : Int32) : Int32 := if ¬ zin r 0 (i 1 17 - 1) then 1 else (if ¬ (zin a 0 16 ∧ zin b 0 100) then 2 else (0))
def q_setLeadV (i : Nat → Nat → Int32) (r : Int32) (a : Int32) (b : Int32) : Int32 := if ¬ zin r 0 (i 1 17 - 1) then 0 else (if ¬ (zin a 0 16 ∧ zin b 0 100) then 0 else (i 107 (cl r)))
def q_setLeadF (i : Nat → Nat → Int32) (r : Int32) (a : Int32) (b : Int32) : Nat → Nat → Int32 := if ¬ zin r 0 (i 1 17 - 1) then zup i 1 43 1 else (if ¬ (zin a 0 16 ∧ zin b 0 100) then zup i 1 43 2 else (zup (zup (zup i 1 43 0) 107 (cl r) a) 108 (cl r) b))
def q_addKindT (i : Nat → Nat → Int32) (nk : Nat) (a : Int32) (b : Int32) (c : Int32) : Int32 := if ¬ (zin a 1 9999 ∧ zin b (-300) 300 ∧ zin c (-400) (b - 1)) then 1 else (if nI nk = 5 then 2 else (0))
def q_addKindV (i : Nat → Nat → Int32) (nk : Nat) (a : Int32) (b : Int32) (c : Int32) : Int32 := if ¬ (zin a 1 9999 ∧ zin b (-300) 300 ∧ zin c (-400) (b - 1)) then 0 else (if nI nk = 5 then 0 else (nI nk + 1 - 1))
def q_addKindF (i : Nat → Nat → Int32) (nk : Nat) (a : Int32) (b : Int32) (c : Int32) : Nat → Nat → Int32 := if ¬ (zin a 1 9999 ∧ zin b (-300) 300 ∧ zin c (-400) (b - 1)) then zup i 1 43 1 else (if nI nk = 5 then zup i 1 43 2 else (zup (zup (zup (zup (zup i 1 43 0) 127 nk a) 128 nk b) 129 nk c) 1 30 (nI nk + 1)))
def q_addPalletT (i : Nat → Nat → Int32) (nk : Nat) (np : Nat) (kd : Int32) (r : Int32) : Int32 := if ¬ (zin kd 0 (nI nk - 1) ∧ zin r 0 (i 1 17 - 1)) then 1 else (if nI np = 24 ∨ m_filled i r np = 8 then 2 else (0))
def q_addPalletV (i : Nat → Nat → Int32) (nk : Nat) (np : Nat) (kd : Int32) (r : Int32) : Int32 := if ¬ (zin kd 0 (nI nk - 1) ∧ zin r 0 (i 1 17 - 1)) then 0 else (if nI np = 24 ∨ m_filled i r np = 8 then 0 else (nI np + 1 - 1))
def q_addPalletF (i : Nat → Nat → Int32) (nk : Nat) (np : Nat) (kd : Int32) (r : Int32) : Nat → Nat → Int32 := if ¬ (zin kd 0 (nI nk - 1) ∧ zin r 0 (i 1 17 - 1)) then zup i 1 43 1 else (if nI np = 24 ∨ m_filled i r np = 8 then zup i 1 43 2 else (zup (zup (zup (zup (zup (zup i 1 43 0) 131 np kd) 132 np r) 133 np (i 127 (cl kd))) 134 np 114) 1 35 (nI np + 1)))
def q_movePalletT (i : Nat → Nat → Int32) (np : Nat) (p : Int32) (r : Int32) : Int32 := if ¬ (zin p 0 (i 1 35 - 1) ∧ zin r 0 (i 1 17 - 1)) then 1 else (if ¬ i 134 (cl p) = 114 then 2 else (if ¬ i 132 (cl p) = r ∧ m_filled i r np = 8 then 3 else (0)))
def q_movePalletV (i : Nat → Nat → Int32) (np : Nat) (p : Int32) (r : Int32) : Int32 := if ¬ (zin p 0 (i 1 35 - 1) ∧ zin r 0 (i 1 17 - 1)) then 0 else (if ¬ i 134 (cl p) = 114 then 0 else (if ¬ i 132 (cl p) = r ∧ m_filled i r np = 8 then 0 else (i 132 (cl p))))
def q_movePalletF (i : Nat → Nat → Int32) (np : Nat) (p : Int32) (r : Int32) : Nat → Nat → Int32 := if ¬ (zin p 0 (i 1 35 - 1) ∧ zin r 0 (i 1 17 - 1)) then zup i 1 43 1 else (if ¬ i 134 (cl p) = 114 then zup i 1 43 2 else (if ¬ i 132 (cl p) = r ∧ m_filled i r np = 8 then zup i 1 43 3 else (zup (zup i 1 43 0) 132 (cl p) r)))
def q_scrapT (i : Nat → Nat → Int32) (p : Int32) : Int32 := if ¬ zin p 0 (i 1 35 - 1) then 1 else (if ¬ i 134 (cl p) = 114 then 2 else (0))
def q_scrapV (i : Nat → Nat → Int32) (p : Int32) : Int32 := if ¬ zin p 0 (i 1 35 - 1) then 0 else (if ¬ i 134 (cl p) = 114 then 0 else (i 133 (cl p)))
def q_scrapF (i : Nat → Nat → Int32) (p : Int32) : Nat → Nat → Int32 := if ¬ zin p 0 (i 1 35 - 1) then zup i 1 43 1 else (if ¬ i 134 (cl p) = 114 then zup i 1 43 2 else (zup (zup i 1 43 0) 134 (cl p) 120))
def q_stateT (i : Nat → Nat → Int32) (p : Int32) : Int32 := if ¬ zin p 0 (i 1 35 - 1) then 1 else (0)
def q_stateV (i : Nat → Nat → Int32) (p : Int32) : Int32 := if ¬ zin p 0 (i 1 35 - 1) then 32 else (i 134 (cl p))
def q_stateF (i : Nat → Nat → Int32) (p : Int32) : Nat → Nat → Int32 := if ¬ zin p 0 (i 1 35 - 1) then zup i 1 43 1 else (zup i 1 43 0)
def q_roomOfT (i : Nat → Nat → Int32) (p : Int32) : Int32 := if ¬ zin p 0 (i 1 35 - 1) then 1 else (if ¬ i 134 (cl p) = 114 then 2 else (0))
def q_roomOfV (i : Nat → Nat → Int32) (p : Int32) : Int32 := if ¬ zin p 0 (i 1 35 - 1) then 0 else (if ¬ i 134 (cl p) = 114 then 0 else (i 132 (cl p)))
def q_roomOfF (i : Nat → Nat → Int32) (p : Int32) : Nat → Nat → Int32 := if ¬ zin p 0 (i 1 35 - 1) then zup i 1 43 1 else (if ¬ i 134 (cl p) = 114 then zup i 1 43 2 else (zup i 1 43 0))
def q_lifeT (i : Nat → Nat → Int32) (p : Int32) : Int32 := if ¬ zin p 0 (i 1 35 - 1) then 1 else (0)
def q_lifeV (i : Nat → Nat → Int32) (p : Int32) : Int32 := if ¬ zin p 0 (i 1 35 - 1) then 0 else (i 133 (cl p))
def q_lifeF (i : Nat → Nat → Int32) (p : Int32) : Nat → Nat → Int32 := if ¬ zin p 0 (i 1 35 - 1) then zup i 1 43 1 else (zup i 1 43 0)
def q_lifeByRecordsT (i : Nat → Nat → Int32) (p : Int32) : Int32 := q_lifeT i p
def q_lifeByRecordsV (i : Nat → Nat → Int32) (p : Int32) : Int32 := q_lifeV i p
def q_lifeByRecordsF (i : Nat → Nat → Int32) (p : Int32) : Nat → Nat → Int32 := q_lifeF i p
