-- the missed share is a number
theorem msS_nan {g : Nat → Int64} : FP.Core.fIsNaN (msS g) = false := by
  unfold msS
  split
  · decide +kernel
  · exact n32_fll' (by assumption)
theorem msS_d {g : Nat → Int64} : FP.Core.dIsNaN (FP.f2d (msS g)) = false := (FP.f2d_nan _).trans msS_nan
theorem msS_n {g : Nat → Int64} : vf_n64 (FP.f2d (msS g)) := n64_of msS_d
theorem msS_cmp {g : Nat → Int64} : Op.cmpValue (FP.dcmp (FP.f2d (msS g)) (FP.f2d (msS g))) .l = 0 := by
  have h : FP.dcmp (FP.f2d (msS g)) (FP.f2d (msS g)) = some .eq := FP.Core.dcmp_self ((FP.Core.notNaN_iff _).mp msS_d)
  rw [h]
  rfl
