/-! PART 32: numbers that are no NaN -/
theorem zf_n64 {r : UInt64} (h : Jvm.FP.Core.dIsNaN r = false) : vf_n64 r := by
  unfold vf_n64
  rw [UInt64.le_iff_toNat_le, UInt64.toNat_and]
  have h1 : ¬ (9218868437227405312 < r.toNat % 2 ^ 63) := fun q => by
    rw [(Jvm.FP.Core.isNaN_bits r).mpr q] at h
    cases h
  show r.toNat &&& 9223372036854775807 ≤ 9218868437227405312
  rw [show (9223372036854775807 : Nat) = 2 ^ 63 - 1 from rfl, Nat.and_two_pow_sub_one_eq_mod]
  omega
theorem zf_n32 {r : UInt32} (h : Jvm.FP.Core.fIsNaN r = false) : vf_n32 r := by
  unfold vf_n32
  rw [UInt32.le_iff_toNat_le, UInt32.toNat_and]
  have h1 : ¬ (2139095040 < r.toNat % 2 ^ 31) := fun q => by
    rw [(Jvm.FP.Core.isNaN_bits32 r).mpr q] at h
    cases h
  show r.toNat &&& 2147483647 ≤ 2139095040
  rw [show (2147483647 : Nat) = 2 ^ 31 - 1 from rfl, Nat.and_two_pow_sub_one_eq_mod]
  omega
theorem zf_fin {a : UInt64} (h : Jvm.FP.Core.DFin a) : Jvm.FP.Core.dIsNaN a = false := by
  rw [Jvm.FP.Core.notNaN_iff]
  obtain ⟨s, c, q, h⟩ := h
  rw [h]
  exact fun e => by cases e
theorem zf_fin32 {a : UInt32} (h : Jvm.FP.Core.FFin a) : Jvm.FP.Core.fIsNaN a = false := by
  rw [Jvm.FP.Core.notNaN_iff32]
  obtain ⟨s, c, q, h⟩ := h
  rw [h]
  exact fun e => by cases e
theorem zf_mean (a : Int64) {b : Int32} (hb : ¬ b = 0) : vf_n64 (FP.ddiv (FP.l2d a) (FP.i2d b)) :=
  zf_n64 (Jvm.FP.Core.ddiv_out (zf_fin (Jvm.FP.Core.l2d_fin a)) (Jvm.FP.Core.i2d_fin b) (fun z => Jvm.FP.Core.i2d_ne_zero hb ((Jvm.FP.Core.zero_bits2 _).mp z)))
theorem zf_meanI (a : Int32) {b : Int32} (hb : ¬ b = 0) : vf_n64 (FP.ddiv (FP.i2d a) (FP.i2d b)) :=
  zf_n64 (Jvm.FP.Core.ddiv_out (zf_fin (Jvm.FP.Core.i2d_fin a)) (Jvm.FP.Core.i2d_fin b) (fun z => Jvm.FP.Core.i2d_ne_zero hb ((Jvm.FP.Core.zero_bits2 _).mp z)))
theorem zf_l2d (x : Int32) : FP.l2d x.toInt64 = FP.i2d x := (Jvm.FP.Core.i2d_l2d x).symm
theorem zf_share0 (a : Int32) {b : Int32} (hb : ¬ b = 0) : Jvm.FP.Core.fIsNaN (FP.fdiv (FP.i2f a) (FP.i2f b)) = false :=
  Jvm.FP.Core.fdiv_out (zf_fin32 (Jvm.FP.Core.i2f_fin a)) (Jvm.FP.Core.i2f_fin b) (fun z => Jvm.FP.Core.i2f_ne_zero hb ((Jvm.FP.Core.zero_bits232 _).mp z))
theorem zf_share (a : Int32) {b : Int32} (hb : ¬ b = 0) : vf_n32 (FP.fdiv (FP.i2f a) (FP.i2f b)) := zf_n32 (zf_share0 a hb)
theorem zf_shareD (a : Int32) {b : Int32} (hb : ¬ b = 0) : vf_n64 (FP.f2d (FP.fdiv (FP.i2f a) (FP.i2f b))) := zf_n64 ((Jvm.FP.f2d_nan _).trans (zf_share0 a hb))
