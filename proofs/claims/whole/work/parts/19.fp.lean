-- quotients of converted numbers are numbers
theorem n64_of {r : UInt64} (h : FP.Core.dIsNaN r = false) : vf_n64 r := by
  have h1 : ¬ FP.Core.infBits FP.Core.b64 < FP.Core.mag FP.Core.b64 r.toNat := fun q => by
    have h2 : FP.Core.decode FP.Core.b64 r.toNat = .nan := (FP.Core.decode_nan r.toNat).mpr q
    have h3 : FP.Core.dIsNaN r = true := decide_eq_true h2
    rw [h] at h3; cases h3
  have h4 : FP.Core.mag FP.Core.b64 r.toNat = r.toNat % 2 ^ 63 := by
    show r.toNat % FP.Core.half FP.Core.b64 = _
    rw [FP.Core.half_b64]
  rw [h4, FP.Core.infBits_b64] at h1
  unfold vf_n64
  rw [UInt64.le_iff_toNat_le, UInt64.toNat_and]
  show r.toNat &&& (2 ^ 63 - 1) ≤ 9218868437227405312
  rw [Nat.and_two_pow_sub_one_eq_mod]
  omega
theorem n32_of {r : UInt32} (h : FP.Core.fIsNaN r = false) : vf_n32 r := by
  have h1 : ¬ FP.Core.infBits FP.Core.b32 < FP.Core.mag FP.Core.b32 r.toNat := fun q => by
    have h2 : FP.Core.decode FP.Core.b32 r.toNat = .nan := (FP.Core.decode_nan r.toNat).mpr q
    have h3 : FP.Core.fIsNaN r = true := decide_eq_true h2
    rw [h] at h3; cases h3
  have h4 : FP.Core.mag FP.Core.b32 r.toNat = r.toNat % 2 ^ 31 := rfl
  have h5 : FP.Core.infBits FP.Core.b32 = 2139095040 := by decide
  rw [h4, h5] at h1
  unfold vf_n32
  rw [UInt32.le_iff_toNat_le, UInt32.toNat_and]
  show r.toNat &&& (2 ^ 31 - 1) ≤ 2139095040
  rw [Nat.and_two_pow_sub_one_eq_mod]
  omega
