/-! PART 36: a mean is no greater than the greatest; shares -/
theorem zf_lt (a b : Int) : a < b ∨ b ≤ a := by omega
theorem zf_sg {s : Bool} {u : Nat} {z : Int} (h : Jvm.FP.Core.signed s u = z) : u = z.natAbs ∧ (s = true → z ≤ 0) ∧ (s = false → 0 ≤ z) := by
  unfold Jvm.FP.Core.signed at h
  cases s
  · rw [if_neg (by decide)] at h
    subst h
    exact ⟨(Int.natAbs_natCast u).symm, fun e => (by cases e), fun _ => Int.natCast_nonneg u⟩
  · rw [if_pos rfl] at h
    subst h
    refine ⟨?_, fun _ => ?_, fun e => (by cases e)⟩ <;> omega
theorem zf_quo {f : Jvm.FP.Core.Fmt} (hf : Jvm.FP.Core.Good f) {a b g : Int} {x y V : Jvm.FP.Core.Datum} (hx : Jvm.FP.Core.fits f x) (hy : Jvm.FP.Core.fits f y) (hV : Jvm.FP.Core.fits f V)
    (wx : Jvm.FP.Core.Whole a x) (wy : Jvm.FP.Core.Whole b y) (wV : Jvm.FP.Core.Whole g V) (hb : 0 < b) (h : a ≤ b * g) : Jvm.FP.Core.zval f (Jvm.FP.Core.quotient f x y) ≤ Jvm.FP.Core.zval f V := by
  have hnV : V ≠ .nan := fun e => by rw [e] at wV; exact wV.elim
  have zx := Jvm.FP.Core.whole_zval hf hx wx
  have zy := Jvm.FP.Core.whole_zval hf hy wy
  have zV := Jvm.FP.Core.whole_zval hf hV wV
  have hq := Jvm.FP.Core.qmin_neg hf
  cases x with
  | nan => exact wx.elim
  | inf s => exact wx.elim
  | fin s c q =>
    cases y with
    | nan => exact wy.elim
    | inf s => exact wy.elim
    | fin t d r =>
      obtain ⟨E, hE⟩ : ∃ E : Nat, E = 2 ^ (-f.qmin).toNat := ⟨_, rfl⟩
      have hE0 : 0 < E := by rw [hE]; exact Nat.two_pow_pos _
      rw [← hE] at zx zy zV
      obtain ⟨x1, x2, x3⟩ := zf_sg (s := s) (u := Jvm.FP.Core.inUnits c q f.qmin) zx
      obtain ⟨y1, y2, y3⟩ := zf_sg (s := t) (u := Jvm.FP.Core.inUnits d r f.qmin) zy
      obtain ⟨v1, v2, v3⟩ := zf_sg (s := Jvm.FP.Core.sgn V) (u := Jvm.FP.Core.zmag f V) zV
      rw [Int.natAbs_mul, Int.natAbs_natCast] at x1 y1 v1
      have hbE : 0 < b * (E : Int) := Int.mul_pos hb (by omega)
      have ht : t = false := by
        cases t
        · rfl
        · exact absurd (y2 rfl) (by omega)
      subst ht
      have hd : d ≠ 0 := by
        intro e
        subst e
        have : Jvm.FP.Core.inUnits 0 r f.qmin = 0 := Nat.zero_mul _
        rw [this] at y1
        have : 0 < b.natAbs * E := Nat.mul_pos (by omega) hE0
        omega
      have hw : Jvm.FP.Core.quotient f (.fin s c q) (.fin false d r) = Jvm.FP.Core.roundRatio f s c d (q - r) := by
        show (if d = 0 then _ else Jvm.FP.Core.roundRatio f (s != false) c d (q - r)) = _
        rw [if_neg hd]
        cases s <;> rfl
      rw [hw]
      obtain ⟨e0, he0⟩ : ∃ e0 : Int, e0 = min f.qmin (q - r) := ⟨_, rfl⟩
      have h0 : e0 ≤ f.qmin := by omega
      have h0e : e0 ≤ q - r := by omega
      have hrq : f.qmin ≤ r := hy.2.1
      have hqq : f.qmin ≤ q := hx.2.1
      obtain ⟨K, hK⟩ : ∃ K : Nat, K = 2 ^ (r - f.qmin).toNat := ⟨_, rfl⟩
      have hK0 : 0 < K := by rw [hK]; exact Nat.two_pow_pos _
      obtain ⟨F, hF⟩ : ∃ F : Nat, F = 2 ^ (-e0).toNat := ⟨_, rfl⟩
      have hF0 : 0 < F := by rw [hF]; exact Nat.two_pow_pos _
      have kL : Jvm.FP.Core.inUnits c (q - r) e0 * K = a.natAbs * (E * F) := by
        have e1 : Jvm.FP.Core.inUnits c (q - r) e0 * K = Jvm.FP.Core.inUnits c q f.qmin * F := by
          unfold Jvm.FP.Core.inUnits
          rw [hK, hF, Nat.mul_assoc, Nat.mul_assoc, ← Nat.pow_add, ← Nat.pow_add]
          congr 2
          omega
        rw [e1, x1, Nat.mul_assoc]
      have kR : Jvm.FP.Core.zmag f V * 2 ^ (f.qmin - e0).toNat * d * K = g.natAbs * b.natAbs * (E * F) := by
        have e1 : d * K = b.natAbs * E := by
          rw [← y1, hK]; rfl
        have e2 : 2 ^ (f.qmin - e0).toNat * E = F := by
          rw [hE, hF, ← Nat.pow_add]
          congr 1
          omega
        rw [Nat.mul_assoc, e1, v1, ← e2]
        ac_rfl
      have hEF : 0 < E * F := Nat.mul_pos hE0 hF0
      have hz : Jvm.FP.Core.zval f (Jvm.FP.Core.roundRatio f s c d (q - r)) = Jvm.FP.Core.signed s (Jvm.FP.Core.zmag f (Jvm.FP.Core.roundRatio f s c d (q - r))) := by
        unfold Jvm.FP.Core.zval
        rw [Jvm.FP.Core.sgn_roundRatio]
      rw [hz, zV]
      have hsE : ∀ z : Int, 0 ≤ z * (E : Int) → 0 ≤ z := fun z hz => by
        rcases zf_lt z 0 with w | w
        · have := Int.mul_neg_of_neg_of_pos w (show (0 : Int) < E by omega)
          omega
        · exact w
      cases s with
      | false =>
        have ha : 0 ≤ a := hsE a (x3 rfl)
        have hg : 0 ≤ g := by
          rcases zf_lt g 0 with w | w
          · have := Int.mul_neg_of_pos_of_neg hb w
            omega
          · exact w
        have hab : a.natAbs ≤ g.natAbs * b.natAbs := by
          rw [← Int.natAbs_mul]
          have : b * g = g * b := Int.mul_comm _ _
          omega
        have hle := Jvm.FP.Core.zmag_roundRatio_le hf (s := false) (A := c) (B := d) (e := q - r) (e0 := e0) (V := V) (by omega) hV hnV h0 h0e (Nat.le_of_mul_le_mul_right (by rw [kL, kR]; exact Nat.mul_le_mul_right _ hab) hK0)
        have hcast : ((g.natAbs * E : Nat) : Int) = g * (E : Int) := by
          rw [Int.natCast_mul, Int.natAbs_of_nonneg hg]
        show ((Jvm.FP.Core.zmag f (Jvm.FP.Core.roundRatio f false c d (q - r)) : Nat) : Int) ≤ g * (E : Int)
        omega
      | true =>
        have ha : a * (E : Int) ≤ 0 := x2 rfl
        have ha' : a ≤ 0 := by
          rcases zf_lt 0 a with w | w
          · have := Int.mul_pos w (show (0 : Int) < E by omega)
            omega
          · exact w
        show -((Jvm.FP.Core.zmag f (Jvm.FP.Core.roundRatio f true c d (q - r)) : Nat) : Int) ≤ g * (E : Int)
        rcases zf_lt g 0 with w | w
        · have hab : g.natAbs * b.natAbs ≤ a.natAbs := by
            rw [← Int.natAbs_mul]
            have : b * g = g * b := Int.mul_comm _ _
            have := Int.mul_neg_of_neg_of_pos w hb
            omega
          have hle := Jvm.FP.Core.zmag_roundRatio_ge hf (s := true) (A := c) (B := d) (e := q - r) (e0 := e0) (V := V) (by omega) hV h0 h0e (Nat.le_of_mul_le_mul_right (by rw [kL, kR]; exact Nat.mul_le_mul_right _ hab) hK0)
          have hcast : ((g.natAbs * E : Nat) : Int) = -(g * (E : Int)) := by
            rw [Int.natCast_mul, show ((g.natAbs : Nat) : Int) = -g by omega, Int.neg_mul]
          omega
        · have := Int.mul_nonneg w (show (0 : Int) ≤ E by omega)
          omega
theorem zf_mean_le {a b g : Int32} (hb : 0 < b.toInt) (h : a.toInt ≤ b.toInt * g.toInt) : ¬ FP.dcmp (FP.ddiv (FP.i2d a) (FP.i2d b)) (FP.i2d g) = some .gt := by
  intro e
  have e' : Jvm.FP.Core.dcmp (Jvm.FP.Core.ddiv (Jvm.FP.Core.i2d a) (Jvm.FP.Core.i2d b)) (Jvm.FP.Core.i2d g) = some .gt := e
  obtain ⟨-, -, k⟩ := Jvm.FP.Core.dcmp_gt.mp e'
  rw [Jvm.FP.Core.val64_ddiv] at k
  have := zf_quo Jvm.FP.Core.good_b64 (Jvm.FP.Core.val64_fits _) (Jvm.FP.Core.val64_fits _) (Jvm.FP.Core.val64_fits (Jvm.FP.Core.i2d g)) (Jvm.FP.Core.i2d_int a) (Jvm.FP.Core.i2d_int b) (Jvm.FP.Core.i2d_int g) hb h
  omega
theorem zf_cmpv {o : Option Ordering} {op : CmpOp} (h : ¬ o = some .gt) (hl : o = none → op = .l) : ¬ 0 < Op.cmpValue o op := by
  cases o with
  | none => rw [hl rfl]; decide
  | some r =>
    cases r with
    | lt => cases op <;> decide
    | eq => cases op <;> decide
    | gt => exact absurd rfl h
theorem zf_lost : ∀ m : Fin 25, ∀ j : Fin 25, j.val ≤ m.val → ¬ m.val = 0 → Op.cmpValue (FP.fcmp (FP.fdiv (FP.i2f (nI j.val)) (FP.i2f (nI m.val))) (FP.i2f (-1))) .l ≠ 0 ∧ ¬ 0 < Op.cmpValue (FP.fcmp (FP.fdiv (FP.i2f (nI j.val)) (FP.i2f (nI m.val))) (FP.i2f 1)) .g := by decide +kernel
