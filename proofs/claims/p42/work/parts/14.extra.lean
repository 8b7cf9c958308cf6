/-! PART 14: Math.max and min, loops, small facts -/
section ZX
variable {g : zCtx} {l0 : Launch} {cc : ByteArray} {nL : Nat} {ret : Option FieldType} {own nm : String} {Ts : List Cond} {fr lo mc ms : Nat} {M00 : zMem} {post : Option Value → zMem → Prop} {xp : String → Prop} {tab : List ExceptionTableEntry}
variable {pc : Nat} {ls ls' : List (Nat × Value)} {st rest : List Value} {M : zMem} {k n : Nat}
theorem z_lse (h : ls = ls') (kk : zE g nL pc ls' st M k n) : zE g nL pc ls st M k n := h ▸ kk
theorem z_ste {st' : List Value} (h : st = st') (kk : zE g nL pc ls st' M k n) : zE g nL pc ls st M k n := h ▸ kk
theorem z_mmax (X : zCx g l0 cc nL ret own nm Ts fr lo mc ms M00 post xp tab) {index : Nat} {x y : Int32} (d : decode cc pc = .ok (.invokestatic index, 3)) (hlink : Cond.methodLink own index Lib.Math.max.name ∈ Ts) (hst : Cond.static Lib.Math.max.name ∈ Ts) (hini : Cond.initialized "java/lang/Math" ∈ Ts) (hcode : Cond.code Lib.Math.max.name Lib.Math.max.code 2 (some .int) ∈ Ts)
    (hfr : 1 ≤ fr) (hlo : (rest.map fun v => v.category).sum + 13 ≤ lo) (hk : k ≤ mc) (hn : n ≤ ms) (kk : zE g nL (pc + 3) ls (.int (if x < y then y else x) :: rest) M k n) : zE g nL pc ls (.int y :: .int x :: rest) M k n := by
  obtain ⟨p, l, e, R, s, m, args, below, meth, c, D, ad0, M0, Q⟩ := g
  obtain ⟨h0, hx, hb, hml, hrt, hown, hnm, hts, hR, hM0, hQ, hlk, htab, hks⟩ := X
  intro ad H locs lss hr hz hS hl hL hT
  subst hR
  exact va_mmax hx hb (hml.trans hl.1.symm) hown (hts _ hlink) (hts _ hst) (hts _ hini) (hts _ hcode) hfr (by rw [zcats]; exact hlo) hk hn d (kk ad H locs lss hr hz hS hl hL (zls_c zlv_int (zls_t (zls_t hT))))
theorem z_mmin (X : zCx g l0 cc nL ret own nm Ts fr lo mc ms M00 post xp tab) {index : Nat} {x y : Int32} (d : decode cc pc = .ok (.invokestatic index, 3)) (hlink : Cond.methodLink own index Lib.Math.min.name ∈ Ts) (hst : Cond.static Lib.Math.min.name ∈ Ts) (hini : Cond.initialized "java/lang/Math" ∈ Ts) (hcode : Cond.code Lib.Math.min.name Lib.Math.min.code 2 (some .int) ∈ Ts)
    (hfr : 1 ≤ fr) (hlo : (rest.map fun v => v.category).sum + 13 ≤ lo) (hk : k ≤ mc) (hn : n ≤ ms) (kk : zE g nL (pc + 3) ls (.int (if y < x then y else x) :: rest) M k n) : zE g nL pc ls (.int y :: .int x :: rest) M k n := by
  obtain ⟨p, l, e, R, s, m, args, below, meth, c, D, ad0, M0, Q⟩ := g
  obtain ⟨h0, hx, hb, hml, hrt, hown, hnm, hts, hR, hM0, hQ, hlk, htab, hks⟩ := X
  intro ad H locs lss hr hz hS hl hL hT
  subst hR
  exact va_mmin hx hb (hml.trans hl.1.symm) hown (hts _ hlink) (hts _ hst) (hts _ hini) (hts _ hcode) hfr (by rw [zcats]; exact hlo) hk hn d (kk ad H locs lss hr hz hS hl hL (zls_c zlv_int (zls_t (zls_t hT))))
end ZX
/-- a counting loop, from its end backwards -/
theorem z_loop (P : Nat → Prop) (N : Nat) (hx : P N) (hs : ∀ p, p < N → P (p + 1) → P p) : ∀ p, p ≤ N → P p := by
  intro p hp
  obtain ⟨d, rfl⟩ : ∃ d, N = p + d := ⟨N - p, by omega⟩
  clear hp
  induction d generalizing p with
  | zero => exact hx
  | succ d ih => exact hs p (by omega) (ih (p + 1) (by rw [show p + 1 + d = p + (d + 1) by omega]; exact hx) (fun q hq h => hs q (by omega) h))
def zb (p : Prop) [Decidable p] : Int32 := if p then 1 else 0
theorem zb_t {p : Prop} [Decidable p] (h : p) : zb p = 1 := if_pos h
theorem zb_f {p : Prop} [Decidable p] (h : ¬ p) : zb p = 0 := if_neg h
theorem zb_0 {p : Prop} [Decidable p] : zb p = 0 ↔ ¬ p := by
  by_cases h : p
  · rw [zb_t h]; exact ⟨fun e => absurd e (by decide), fun k => absurd h k⟩
  · rw [zb_f h]; exact ⟨fun _ => h, fun _ => rfl⟩
theorem zb_n0 {p : Prop} [Decidable p] : ¬ zb p = 0 ↔ p := by rw [zb_0]; exact Classical.not_not
theorem zb_1 {p : Prop} [Decidable p] : zb p = 1 ↔ p := by
  by_cases h : p
  · rw [zb_t h]; exact ⟨fun _ => h, fun _ => rfl⟩
  · rw [zb_f h]; exact ⟨fun e => absurd e (by decide), fun k => absurd k h⟩
theorem zb_nar {p : Prop} [Decidable p] : narrow .boolean (.int (zb p)) = .int (zb p) := by
  by_cases h : p
  · rw [zb_t h]; rfl
  · rw [zb_f h]; rfl
/-- v lies in lo .. hi -/
abbrev zin (v lo hi : Int32) : Prop := ¬ v < lo ∧ ¬ hi < v
theorem zup_id {α : Type} (f : Nat → Nat → α) (a b : Nat) : zup f a b (f a b) = f := by
  funext p q
  by_cases h : p = a ∧ q = b
  · obtain ⟨rfl, rfl⟩ := h; exact zup_s
  · exact zup_n h
theorem zup_ss {α : Type} (f : Nat → Nat → α) (a b : Nat) (x y : α) : zup (zup f a b x) a b y = zup f a b y := by
  funext p q
  by_cases h : p = a ∧ q = b
  · obtain ⟨rfl, rfl⟩ := h; rw [zup_s, zup_s]
  · rw [zup_n h, zup_n h, zup_n h]
theorem zup_cm {α : Type} (f : Nat → Nat → α) {a b c d : Nat} (hne : ¬ (a = c ∧ b = d)) (x y : α) : zup (zup f a b x) c d y = zup (zup f c d y) a b x := by
  funext p q
  by_cases h : p = c ∧ q = d
  · obtain ⟨rfl, rfl⟩ := h
    rw [zup_s, zup_n (fun e => hne ⟨e.1.symm, e.2.symm⟩), zup_s]
  · rw [zup_n h]
    by_cases h2 : p = a ∧ q = b
    · obtain ⟨rfl, rfl⟩ := h2; rw [zup_s, zup_s]
    · rw [zup_n h2, zup_n h2, zup_n h]
