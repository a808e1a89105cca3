-- numbers, rows of copies, what Settings, Tally, Events hold
theorem xor_nn {a b : Nat} (ha : a < 2 ^ 31) (hb : b < 2 ^ 31) : ¬ (nI a ^^^ nI b) < 0 := by
  have key : ∀ {n : Nat}, n < 2 ^ 31 → (nI n).toBitVec.msb = false := by
    intro n hn
    have h1 : (nI n).toBitVec.toInt = (n : Int) := nI_toInt hn
    rw [BitVec.msb_eq_toInt, h1]
    simp
  have h2 : (nI a ^^^ nI b).toBitVec.msb = false := by
    rw [Int32.toBitVec_xor, BitVec.msb_xor, key ha, key hb]; rfl
  rw [BitVec.msb_eq_toInt] at h2
  have h3 : ¬ (nI a ^^^ nI b).toBitVec.toInt < 0 := of_decide_eq_false h2
  rw [Int32.lt_iff_toInt_lt]
  exact h3
def imx (x y : Int32) : Int32 := if x < y then y else x
def imn (x y : Int32) : Int32 := if y < x then y else x
def iab (x : Int32) : Int32 := if 0 ≤ x then x else 0 - x
def dUp (x y : Int32) : Int32 := if y ≤ 0 then 0 else (x + y - 1) / y
theorem clI {k : Nat} (h : k < 2 ^ 31) : (nI k).toNatClampNeg = k := nI_clamp h
def cpT (f g : Nat → Int32) (n : Nat) : Nat → Int32 := fun j => if j < n then f j else g j
theorem cpT_in {f g : Nat → Int32} {n j : Nat} (h : j < n) : cpT f g n j = f j := if_pos h
section Q2
variable {l : Launch} {G : GC} {M : MD} {R : Room} {Fi : CX → State → Prop} {pc : Nat} {ls : List (Option Value)} {st : List Value} {cs : Nat × Nat} {h : AH}
theorem q_copy0 {ix i j n0 n1 k : Nat} {n : Int32} (hlk : ACl (mY M).cls ix) (hW : World h) (ha0 : ka i 11 n0) (ha1 : ka j 11 n1) (hn : n = nI k) (h4 : k ≤ n0) (h5 : k ≤ n1) (hk : k < 2 ^ 31) (hrm : Nat.ble 1 R.frames = true) (hrl : Nat.ble (8 + (nativeFrameWords "java/lang/System" "arraycopy" 5 + 11)) R.locals = true) (hst : (st.map fun v => v.category).sum ≤ 8)
    (hd : decode (mC M) pc = .ok (.invokestatic ix, 3)) (kk : PW l G M R Fi NT (pc + 3) ls st cs (cI h j (cpT (aI h i) (aI h j) k))) : PW l G M R Fi NT pc ls (.int n :: .int 0 :: .ref j :: .int 0 :: .ref i :: st) cs h := by
  have hz : (0 : Int32).toNatClampNeg = 0 := rfl
  subst hn
  refine r_copyi hlk (hW.isA ha0) (hW.isA ha1) (by decide) (by decide) (nI_pos hk) (by rw [hz, clI hk]; omega) (by rw [hz, clI hk]; omega) hrm hrl hst hd ?_
  rw [hz, clI hk]
  have e : va_cpy (aI h i) (aI h j) 0 0 k = cpT (aI h i) (aI h j) k := by
    funext t
    unfold va_cpy cpT
    simp
  rw [e]; exact kk
theorem q_aleni {i n : Nat} (hW : World h) (ha : ka i 11 n) (hd : decode (mC M) pc = .ok (.arraylength, 1)) (kk : PW l G M R Fi NT (pc + 1) ls (.int (nI n) :: st) cs h) : PW l G M R Fi NT pc ls (.ref i :: st) cs h :=
  r_alen (c := 11) (t0 := 1) (cA := gY G 11) (x := (aL h i, .inl (aI h i))) (hW.isA ha) (by decide) rfl (hW.isA ha).2 rfl hd kk
theorem q_max {ix : Nat} {x y : Int32} (hlk : MM (mY M).cls ix Lib.Math.max.name Lib.Math.max.code 2) (hrm : mmOK R cs = true) (hst : (st.map fun v => v.category).sum ≤ 8) (hd : decode (mC M) pc = .ok (.invokestatic ix, 3)) (kk : PW l G M R Fi NT (pc + 3) ls (.int (imx x y) :: st) cs h) : PW l G M R Fi NT pc ls (.int y :: .int x :: st) cs h := r_max hlk hrm hst hd kk
theorem q_min {ix : Nat} {x y : Int32} (hlk : MM (mY M).cls ix Lib.Math.min.name Lib.Math.min.code 2) (hrm : mmOK R cs = true) (hst : (st.map fun v => v.category).sum ≤ 8) (hd : decode (mC M) pc = .ok (.invokestatic ix, 3)) (kk : PW l G M R Fi NT (pc + 3) ls (.int (imn x y) :: st) cs h) : PW l G M R Fi NT pc ls (.int y :: .int x :: st) cs h := r_min hlk hrm hst hd kk
theorem q_abs {ix : Nat} {x : Int32} (hlk : MM (mY M).cls ix Lib.Math.abs.name Lib.Math.abs.code 1) (hrm : mmOK R cs = true) (hst : (st.map fun v => v.category).sum ≤ 8) (hd : decode (mC M) pc = .ok (.invokestatic ix, 3)) (kk : PW l G M R Fi NT (pc + 3) ls (.int (iab x) :: st) cs h) : PW l G M R Fi NT pc ls (.int x :: st) cs h := r_abs hlk hrm hst hd kk
end Q2
def SetR (h : AH) (o : Nat) (s : Nat → Int32) (ld : List Int32) : Prop := (∀ k, k < 16 → aI h o k = s k) ∧ aI h o 17 = nI ld.length ∧ ld.length ≤ 24 ∧ ∀ j, j < ld.length → aI h (o + 1) j = ld.getD j 0
theorem SetR.cg {h h' : AH} {o : Nat} {s : Nat → Int32} {ld : List Int32} (hm : SetR h o s ld) (h0 : aI h' o = aI h o) (h1 : aI h' (o + 1) = aI h (o + 1)) : SetR h' o s ld := by
  unfold SetR; rw [h0, h1]; exact hm
theorem SetR.eqx {h h' : AH} {o : Nat} {s : Nat → Int32} {ld : List Int32} {S : Nat → Prop} (hm : SetR h o s ld) (e : eqx h h' S) (h0 : ¬ S o) (h1 : ¬ S (o + 1)) : SetR h' o s ld := hm.cg (e.I h0) (e.I h1)
def TalR (h : AH) (o : Nat) (tl : Nat → Int64) (tI dc : Nat → Int32) : Prop := (∀ k, k < 5 → aJ h o k = tl k) ∧ (∀ k, 5 ≤ k → k < 9 → aI h o k = tI k) ∧ ∀ k, k < 6 → aI h (o + 1) k = dc k
theorem TalR.eqx {h h' : AH} {o : Nat} {tl : Nat → Int64} {tI dc : Nat → Int32} {S : Nat → Prop} (hm : TalR h o tl tI dc) (e : eqx h h' S) (h0 : ¬ S o) (h1 : ¬ S (o + 1)) : TalR h' o tl tI dc := by
  unfold TalR; rw [e.I h0, e.J h0, e.I h1]; exact hm
abbrev Ev : Type := Int32 × Int32 × Int32 × Int32
def EvR (h : AH) (o tot : Nat) (ev : Nat → Ev) : Prop := aI h o 4 = nI tot ∧ ∀ i, i < tot → tot ≤ i + 60 → aI h (o + 1) (i % 60) = (ev i).1 ∧ aI h (o + 2) (i % 60) = (ev i).2.1 ∧ aI h (o + 3) (i % 60) = (ev i).2.2.1 ∧ aI h (o + 4) (i % 60) = (ev i).2.2.2
theorem EvR.eqx {h h' : AH} {o tot : Nat} {ev : Nat → Ev} {S : Nat → Prop} (hm : EvR h o tot ev) (e : eqx h h' S) (hS : ∀ i, o ≤ i → i ≤ o + 4 → ¬ S i) : EvR h' o tot ev := by
  unfold EvR
  rw [e.I (hS o (by omega) (by omega)), e.I (hS (o + 1) (by omega) (by omega)), e.I (hS (o + 2) (by omega) (by omega)), e.I (hS (o + 3) (by omega) (by omega)), e.I (hS (o + 4) (by omega) (by omega))]
  exact hm
def evU (ev : Nat → Ev) (n : Nat) (x : Ev) : Nat → Ev := fun i => if i = n then x else ev i
def ldA (ld : List Int32) (t : Nat) : Int32 := if ld.length = 0 then 0 else ld.getD (t % ld.length) 0
def szF (s : Nat → Int32) (fc : Int32) : Int32 := imn (s 1) (imx (s 0) (dUp (100 * fc) (s 3 * s 2)))
def tpS (s : Nat → Int32) (p : Int32) : Nat → Int32 := upd (if p = 2 then (if s 7 = 2 then s else upd s 8 24) else upd s 8 0) 7 p
def set0 (mn mx cap : Int32) : Nat → Int32 := fun k => match k with | 0 => mn | 1 => mx | 2 => cap | 3 => 70 | 4 => 2 | 5 => 4 | 6 => 2 | 10 => 1 | 11 => 1 | 12 => 3 | 13 => 5 | 14 => 1 | 15 => 1 | _ => 0
def tlT (tl : Nat → Int64) (d pw ch fn : Int32) : Nat → Int64 := fun k => match k with
  | 0 => tl 0 + (d - imx 0 (d - pw)).toInt64
  | 1 => tl 1 + (imx 0 (d - pw)).toInt64
  | 2 => tl 2 + (ch + fn * imx 0 (d - pw)).toInt64
  | 3 => tl 3 + pw.toInt64
  | k => tl k
def tIT (tI : Nat → Int32) (d pw : Int32) : Nat → Int32 := fun k => match k with
  | 6 => imx (tI 6) d
  | 7 => if 0 < imx 0 (d - pw) then tI 7 + 1 else 0
  | 8 => imx (tI 8) (if 0 < imx 0 (d - pw) then tI 7 + 1 else 0)
  | k => tI k
