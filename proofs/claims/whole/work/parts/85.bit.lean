-- bits of a row of flags
theorem bi_sh : ∀ l, l < 32 → ((1 : Int32) <<< (nI l &&& 31)).toBitVec = BitVec.twoPow 32 l := by decide +kernel
def bg (m : Int32) (j : Nat) : Bool := m.toBitVec.getLsbD j
theorem bi_and (m : Int32) {l : Nat} (hl : l < 32) : (m &&& ((1 : Int32) <<< (nI l &&& 31))) = 0 ↔ bg m l = false := by
  rw [← Int32.toBitVec_inj, Int32.toBitVec_and, bi_sh l hl, BitVec.and_twoPow]
  unfold bg
  cases h : m.toBitVec.getLsbD l with
  | true =>
    rw [if_pos rfl]
    refine ⟨fun q => ?_, fun q => absurd q (by decide)⟩
    have z := congrArg (fun y : BitVec 32 => y.getLsbD l) q
    simp [BitVec.getLsbD_twoPow, hl] at z
  | false => exact ⟨fun _ => rfl, fun _ => rfl⟩
theorem bi_or (m : Int32) {l j : Nat} (hl : l < 32) : bg (m ||| ((1 : Int32) <<< (nI l &&& 31))) j = (bg m j || decide (j = l)) := by
  unfold bg
  rw [Int32.toBitVec_or, bi_sh l hl, BitVec.getLsbD_or, BitVec.getLsbD_twoPow]
  congr 1
  by_cases e : j = l
  · subst e; simp [hl]
  · simp [e]; exact fun _ q => e q.symm
theorem bg_0 {j : Nat} : bg 0 j = false := by
  unfold bg
  simp
