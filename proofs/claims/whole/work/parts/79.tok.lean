-- the text's tokens and statements
def kdB (b : Nat → Int32) (n i : Nat) : Nat := if i < n then (if 97 ≤ b i ∧ b i ≤ 122 then 1 else if 48 ≤ b i ∧ b i ≤ 57 then 2 else if b i = 32 ∨ b i = 10 then 4 else if b i = 59 then 3 else 5) else 0
theorem kdB_lt {b : Nat → Int32} {n i : Nat} : kdB b n i < 6 := by
  unfold kdB
  repeat (first | decide | split)
theorem kdB_in {b : Nat → Int32} {n i : Nat} (h : kdB b n i ≠ 0) : i < n := by
  refine Classical.byContradiction fun q => h ?_
  unfold kdB; exact if_neg q
theorem kdB_out {b : Nat → Int32} {n i : Nat} (h : n ≤ i) : kdB b n i = 0 := by unfold kdB; exact if_neg (by omega)
theorem kdB_0 {b : Nat → Int32} {n i : Nat} (h : kdB b n i = 0) : n ≤ i := by
  refine Classical.byContradiction fun q => ?_
  unfold kdB at h
  rw [if_pos (by omega)] at h
  revert h
  repeat (first | decide | split)
/-- the first place from i on that is not of the kind k -/
def rnB (b : Nat → Int32) (n k : Nat) : Nat → Nat → Nat
  | 0, i => i
  | f + 1, i => if kdB b n i = k then rnB b n k f (i + 1) else i
theorem rnB_go {b : Nat → Int32} {n k i : Nat} (hk : k ≠ 0) (h : kdB b n i = k) {f : Nat} (hf : n ≤ i + f) : rnB b n k f i = rnB b n k (f - 1) (i + 1) := by
  have := kdB_in (b := b) (n := n) (i := i) (by rw [h]; exact hk)
  cases f with
  | zero => omega
  | succ f => show (if _ then _ else _) = _; rw [if_pos h]; rfl
theorem rnB_no {b : Nat → Int32} {n k i : Nat} (h : kdB b n i ≠ k) {f : Nat} : rnB b n k f i = i := by
  cases f with
  | zero => rfl
  | succ f => exact if_neg h
theorem rnB_ge {b : Nat → Int32} {n k : Nat} : ∀ f i, i ≤ rnB b n k f i
  | 0, _ => Nat.le_refl _
  | f + 1, i => by
    show i ≤ (if _ then _ else _)
    split
    · have := rnB_ge (b := b) (n := n) (k := k) f (i + 1); omega
    · exact Nat.le_refl _
theorem rnB_le {b : Nat → Int32} {n k : Nat} (hk : k ≠ 0) : ∀ f i, i ≤ n → rnB b n k f i ≤ n
  | 0, _, h => h
  | f + 1, i, h => by
    show (if _ then _ else _) ≤ n
    split
    · next q =>
      have := kdB_in (b := b) (n := n) (i := i) (by rw [q]; exact hk)
      exact rnB_le hk f (i + 1) (by omega)
    · exact h
theorem rnB_ne {b : Nat → Int32} {n k : Nat} (hk : k ≠ 0) : ∀ f i, n ≤ i + f → kdB b n (rnB b n k f i) ≠ k
  | 0, i, h => by
    show kdB b n i ≠ k
    rw [kdB_out (by omega)]; exact fun q => hk q.symm
  | f + 1, i, h => by
    show kdB b n (if _ then _ else _) ≠ k
    split
    · exact rnB_ne hk f (i + 1) (by omega)
    · next q => exact q
/-- the token from p on: where it begins, its kind, where it ends, its value -/
def tS (b : Nat → Int32) (n p : Nat) : Nat := rnB b n 4 n p
def tK (b : Nat → Int32) (n p : Nat) : Nat := kdB b n (tS b n p)
def tE (b : Nat → Int32) (n p : Nat) : Nat := if tK b n p = 0 then tS b n p else if tK b n p = 1 ∨ tK b n p = 2 then rnB b n (tK b n p) n (tS b n p + 1) else tS b n p + 1
def vlB (b : Nat → Int32) (s : Nat) : Nat → Int32
  | 0 => 0
  | j + 1 => 10 * vlB b s j + b (s + j) - 48
def tV (b : Nat → Int32) (n p : Nat) : Int32 := vlB b (tS b n p) (min 3 (tE b n p - tS b n p))
/-- a number of more than three digits is no token -/
def tC (b : Nat → Int32) (n p : Nat) : Nat := if tK b n p = 2 ∧ 3 < tE b n p - tS b n p then 5 else tK b n p
theorem tS_ge {b : Nat → Int32} {n p : Nat} : p ≤ tS b n p := rnB_ge _ _
theorem tS_le {b : Nat → Int32} {n p : Nat} (h : p ≤ n) : tS b n p ≤ n := rnB_le (by decide) _ _ h
theorem tK_4 {b : Nat → Int32} {n p : Nat} : tK b n p ≠ 4 := rnB_ne (by decide) _ _ (by omega)
theorem tK_lt {b : Nat → Int32} {n p : Nat} : tK b n p < 6 := kdB_lt
theorem tE_gt {b : Nat → Int32} {n p : Nat} (h : tK b n p ≠ 0) : tS b n p + 1 ≤ tE b n p := by
  unfold tE
  rw [if_neg h]
  split
  · exact rnB_ge _ _
  · exact Nat.le_refl _
theorem tE_ge {b : Nat → Int32} {n p : Nat} : tS b n p ≤ tE b n p := by
  by_cases h : tK b n p = 0
  · unfold tE; rw [if_pos h]; exact Nat.le_refl _
  · have := tE_gt h; omega
theorem tE_le {b : Nat → Int32} {n p : Nat} (h : p ≤ n) : tE b n p ≤ n := by
  have h1 := tS_le (b := b) h
  unfold tE
  split
  · exact h1
  · next q =>
    have h2 : tS b n p < n := kdB_in q
    split
    · exact rnB_le q _ _ (by omega)
    · omega
theorem tC_lt {b : Nat → Int32} {n p : Nat} : tC b n p < 6 := by
  unfold tC
  split
  · decide
  · exact tK_lt
theorem tC_2 {b : Nat → Int32} {n p : Nat} : tC b n p = 2 ↔ tK b n p = 2 ∧ tE b n p - tS b n p ≤ 3 := by
  unfold tC
  split
  · next q => exact ⟨fun z => absurd z (by decide), fun z => absurd q.2 (by omega)⟩
  · next q => exact ⟨fun z => ⟨z, by refine Classical.byContradiction fun z2 => q ⟨z, by omega⟩⟩, fun z => z.1⟩
theorem tC_k {b : Nat → Int32} {n p k : Nat} (hk : k ≠ 2) (hk5 : k ≠ 5) : tC b n p = k ↔ tK b n p = k := by
  unfold tC
  split
  · next q => exact ⟨fun z => absurd z.symm hk5, fun z => absurd (q.1.symm.trans z).symm hk⟩
  · exact Iff.rfl
/-- the String constant j at s -/
def eqW (b : Nat → Int32) (s j : Nat) : Nat → Bool
  | 0 => true
  | k + 1 => eqW b s j k && decide (b (s + k) = (strByt.getD j []).getD k 0)
def isW (b : Nat → Int32) (n p j : Nat) : Bool := decide (tK b n p = 1) && (decide (tE b n p - tS b n p = strLen.getD j 0) && eqW b (tS b n p) j (strLen.getD j 0))
theorem eqW_f {b : Nat → Int32} {s j k : Nat} (h : ¬ b (s + k) = (strByt.getD j []).getD k 0) : ∀ m, k < m → eqW b s j m = false
  | 0, q => absurd q (Nat.not_lt_zero _)
  | m + 1, q => by
    show (eqW b s j m && _) = false
    by_cases e : k = m
    · subst e; rw [decide_eq_false h, Bool.and_false]
    · rw [eqW_f h m (by omega), Bool.false_and]
/-- error's code and place, or 0 and where the text goes on -/
abbrev ER : Type := Nat × Nat
def nmC (b : Nat → Int32) (n p : Nat) (lo hi : Int32) : Nat := if tC b n p = 2 then (if lo ≤ tV b n p ∧ tV b n p ≤ hi then 0 else 2) else 1
def nmS (b : Nat → Int32) (n : Nat) (e : ER) (lo hi : Int32) : ER := if e.1 = 0 then (if nmC b n e.2 lo hi = 0 then (0, tE b n e.2) else (nmC b n e.2 lo hi, tS b n e.2)) else e
def vlS (b : Nat → Int32) (n : Nat) (e : ER) (lo hi : Int32) : Int32 := if e.1 = 0 ∧ nmC b n e.2 lo hi = 0 then tV b n e.2 else lo
def smiS (b : Nat → Int32) (n : Nat) (e : ER) : ER := if e.1 = 0 then (if tC b n e.2 = 3 then (0, tE b n e.2) else (1, tS b n e.2)) else e
def erOK (n : Nat) (e : ER) : Prop := e.1 < 10 ∧ e.2 ≤ n
theorem nmC_lt {b : Nat → Int32} {n p : Nat} {lo hi : Int32} : nmC b n p lo hi < 3 := by
  unfold nmC
  repeat (first | decide | split)
theorem nmS_ok {b : Nat → Int32} {n : Nat} {e : ER} {lo hi : Int32} (h : erOK n e) : erOK n (nmS b n e lo hi) := by
  unfold nmS
  have := nmC_lt (b := b) (n := n) (p := e.2) (lo := lo) (hi := hi)
  split
  · split
    · exact ⟨Nat.le_of_ble_eq_true rfl, tE_le h.2⟩
    · exact ⟨by show nmC _ _ _ _ _ < 10; omega, tS_le h.2⟩
  · exact h
theorem smiS_ok {b : Nat → Int32} {n : Nat} {e : ER} (h : erOK n e) : erOK n (smiS b n e) := by
  unfold smiS
  split
  · split
    · exact ⟨Nat.le_of_ble_eq_true rfl, tE_le h.2⟩
    · exact ⟨Nat.le_of_ble_eq_true rfl, tS_le h.2⟩
  · exact h
