-- plain functions that both sides are told by
def cn (P : Nat → Bool) : Nat → Nat
  | 0 => 0
  | n + 1 => cn P n + (if P n then 1 else 0)
theorem cn_le (P : Nat → Bool) : ∀ n, cn P n ≤ n
  | 0 => Nat.le_refl _
  | n + 1 => by
    have := cn_le P n
    show cn P n + _ ≤ _
    split <;> omega
theorem cn_t {P : Nat → Bool} {n : Nat} (h : P n = true) : cn P (n + 1) = cn P n + 1 := by show cn P n + _ = _; rw [h]; rfl
theorem cn_f {P : Nat → Bool} {n : Nat} (h : P n = false) : cn P (n + 1) = cn P n := by show cn P n + _ = _; rw [h]; rfl
/-- the first place below n of a kind -/
def fi (P : Nat → Bool) : Nat → Option Nat
  | 0 => none
  | n + 1 => match fi P n with
    | some k => some k
    | none => if P n then some n else none
def oI (o : Option Nat) : Int32 := match o with
  | some k => nI k
  | none => -1
theorem fi_keep {P : Nat → Bool} {i k : Nat} (h : fi P i = some k) : ∀ n, i ≤ n → fi P n = some k := by
  intro n hn
  induction n with
  | zero => rw [← h]; congr 1; omega
  | succ n ih =>
    rcases Nat.lt_or_ge n i with q | q
    · rw [← h]; congr 1; omega
    · show (match fi P n with | some k => some k | none => _) = _
      rw [ih q]
theorem fi_hit {P : Nat → Bool} {i : Nat} (h : fi P i = none) (hp : P i = true) {n : Nat} (hn : i < n) : fi P n = some i := by
  refine fi_keep (i := i + 1) ?_ n hn
  show (match fi P i with | some k => some k | none => _) = _
  rw [h, hp]; rfl
theorem fi_pass {P : Nat → Bool} {i : Nat} (h : fi P i = none) (hp : P i = false) : fi P (i + 1) = none := by
  show (match fi P i with | some k => some k | none => _) = _
  rw [h, hp]; rfl
theorem fi_lt {P : Nat → Bool} {n k : Nat} (h : fi P n = some k) : k < n ∧ P k = true := by
  induction n with
  | zero => cases h
  | succ n ih =>
    have h' : (match fi P n with | some k => some k | none => if P n then some n else none) = some k := h
    cases hq : fi P n with
    | some j =>
      rw [hq] at h'
      cases h'
      exact ⟨by have := (ih hq).1; omega, (ih hq).2⟩
    | none =>
      rw [hq] at h'
      by_cases hp : P n = true
      · rw [hp] at h'; cases h'; exact ⟨by omega, hp⟩
      · rw [Bool.eq_false_iff.mpr hp] at h'; cases h'
def bI (b : Bool) : Int32 := if b then 1 else 0
theorem bI_01 (b : Bool) : bI b = 0 ∨ bI b = 1 := by cases b <;> simp [bI]
theorem bI_0 {b : Bool} : bI b = 0 ↔ b = false := by cases b <;> simp [bI]
theorem bI_1 {b : Bool} : ¬ bI b = 0 ↔ b = true := by cases b <;> simp [bI]
theorem dT {p : Prop} [Decidable p] (h : p) : bI (decide p) = 1 := by simp [bI, h]
theorem dF {p : Prop} [Decidable p] (h : ¬ p) : bI (decide p) = 0 := by simp [bI, h]
theorem i_lt {x y : Int32} : ¬ y ≤ x ↔ x < y := by rw [Int32.not_le]
theorem i_le {x y : Int32} : ¬ y < x ↔ x ≤ y := by rw [Int32.not_lt]
theorem loopN {P : Nat → Prop} (n : Nat) (hs : ∀ i, (i < n → P (i + 1)) → P i) (i : Nat) : P i := by
  rcases Nat.lt_or_ge i n with h | h
  · obtain ⟨d, hd⟩ : ∃ d, n = i + d := ⟨n - i, by omega⟩
    clear h
    induction d generalizing i with
    | zero => exact hs i (fun q => absurd q (by omega))
    | succ d ih => exact hs i (fun _ => ih (i + 1) (by omega))
  · exact hs i (fun q => absurd q (by omega))
theorem some_int {x y : Int32} (h : x = y) : (some (Value.int x) : Option Value) = some (.int y) := by rw [h]
theorem wsI {h : AH} {i k : Nat} {v : Int32} (hW : World h) : World (sI h i k v) := hW
theorem wsJ {h : AH} {i k : Nat} {v : Int64} (hW : World h) : World (sJ h i k v) := hW
theorem wcI {h : AH} {i : Nat} {f : Nat → Int32} (hW : World h) : World (cI h i f) := hW
-- reading what was written
theorem sI_o {h : AH} {i k j : Nat} {v : Int32} (e : j ≠ i) : aI (sI h i k v) j = aI h j := if_neg e
theorem sI_r {h : AH} {i k : Nat} {v : Int32} : aI (sI h i k v) i = upd (aI h i) k v := cI_eq
theorem sJ_r {h : AH} {i k : Nat} {v : Int64} : aJ (sJ h i k v) i = vp_updL (aJ h i) k v := cJ_eq
theorem sI_s {h : AH} {i k : Nat} {v : Int32} : aI (sI h i k v) i k = v := (congrFun cI_eq k).trans pk_us
theorem sI_k {h : AH} {i k j : Nat} {v : Int32} (e : j ≠ k) : aI (sI h i k v) i j = aI h i j := (congrFun cI_eq j).trans (pk_un e)
theorem sJ_o {h : AH} {i k j : Nat} {v : Int64} (e : j ≠ i) : aJ (sJ h i k v) j = aJ h j := if_neg e
theorem sJ_s {h : AH} {i k : Nat} {v : Int64} : aJ (sJ h i k v) i k = v := (congrFun cJ_eq k).trans pk_uLs
theorem sJ_k {h : AH} {i k j : Nat} {v : Int64} (e : j ≠ k) : aJ (sJ h i k v) i j = aJ h i j := (congrFun cJ_eq j).trans (pk_uLn e)
theorem sIJ {h : AH} {i k : Nat} {v : Int32} : aJ (sI h i k v) = aJ h := rfl
theorem sJI {h : AH} {i k : Nat} {v : Int64} : aI (sJ h i k v) = aI h := rfl
theorem cIJ {h : AH} {i : Nat} {f : Nat → Int32} : aJ (cI h i f) = aJ h := rfl
theorem ne_of {a b : Nat} (h : a < b ∨ b < a) : a ≠ b := by omega
/-- h' is h but for the objects of S -/
def eqx (h h' : AH) (S : Nat → Prop) : Prop := h'.2.2.2 = h.2.2.2 ∧ aD h' = aD h ∧ ∀ i, ¬ S i → aI h' i = aI h i ∧ aJ h' i = aJ h i
theorem eqx.rf {h : AH} {S : Nat → Prop} : eqx h h S := ⟨rfl, rfl, fun _ _ => ⟨rfl, rfl⟩⟩
theorem eqx.W {h h' : AH} {S : Nat → Prop} (e : eqx h h' S) (hW : World h) : World h' := by unfold World; rw [e.1]; exact hW
theorem eqx.R {h h' : AH} {S : Nat → Prop} (e : eqx h h' S) : aR h' = aR h := congrArg Prod.fst e.1
theorem eqx.I {h h' : AH} {S : Nat → Prop} (e : eqx h h' S) {i : Nat} (hi : ¬ S i) : aI h' i = aI h i := (e.2.2 i hi).1
theorem eqx.J {h h' : AH} {S : Nat → Prop} (e : eqx h h' S) {i : Nat} (hi : ¬ S i) : aJ h' i = aJ h i := (e.2.2 i hi).2
theorem eqx.sI {h h' : AH} {S : Nat → Prop} (e : eqx h h' S) {i k : Nat} {v : Int32} (hi : S i) : eqx h (sI h' i k v) S :=
  ⟨e.1, e.2.1, fun j hj => ⟨(sI_o (fun q : j = i => hj (by rw [q]; exact hi))).trans (e.2.2 j hj).1, (e.2.2 j hj).2⟩⟩
theorem eqx.cI {h h' : AH} {S : Nat → Prop} (e : eqx h h' S) {i : Nat} {f : Nat → Int32} (hi : S i) : eqx h (cI h' i f) S :=
  ⟨e.1, e.2.1, fun j hj => ⟨(cI_ne (fun q : j = i => hj (by rw [q]; exact hi))).trans (e.2.2 j hj).1, (e.2.2 j hj).2⟩⟩
theorem eqx.sJ {h h' : AH} {S : Nat → Prop} (e : eqx h h' S) {i k : Nat} {v : Int64} (hi : S i) : eqx h (sJ h' i k v) S :=
  ⟨e.1, e.2.1, fun j hj => ⟨(e.2.2 j hj).1, (sJ_o (fun q : j = i => hj (by rw [q]; exact hi))).trans (e.2.2 j hj).2⟩⟩
theorem eqx.tr {h h' h'' : AH} {S : Nat → Prop} (e : eqx h h' S) (e2 : eqx h' h'' S) : eqx h h'' S :=
  ⟨e2.1.trans e.1, e2.2.1.trans e.2.1, fun j hj => ⟨(e2.2.2 j hj).1.trans (e.2.2 j hj).1, (e2.2.2 j hj).2.trans (e.2.2 j hj).2⟩⟩
theorem eqx.wk {h h' : AH} {S T : Nat → Prop} (e : eqx h h' S) (hs : ∀ i, S i → T i) : eqx h h' T :=
  ⟨e.1, e.2.1, fun j hj => e.2.2 j (fun q => hj (hs j q))⟩
/-- the objects from a to b -/
def btw (a b : Nat) : Nat → Prop := fun i => a ≤ i ∧ i ≤ b
-- members: number, came at, ready from, protected
abbrev Mb : Type := Int32 × Int32 × Int32 × Bool
def mD : Mb := (0, 0, 0, false)
def mNum (l : List Mb) (k : Nat) : Int32 := (l.getD k mD).1
def mCame (l : List Mb) (k : Nat) : Int32 := (l.getD k mD).2.1
def mRdy (l : List Mb) (k : Nat) : Int32 := (l.getD k mD).2.2.1
def mPrt (l : List Mb) (k : Nat) : Bool := (l.getD k mD).2.2.2
def MemR (h : AH) (o : Nat) (l : List Mb) : Prop := aI h o 4 = nI l.length ∧ l.length ≤ 20 ∧ ∀ k, k < l.length → aI h (o + 1) k = mNum l k ∧ aI h (o + 2) k = mCame l k ∧ aI h (o + 3) k = mRdy l k ∧ aI h (o + 4) k = bI (mPrt l k)
theorem MemR.cg {h h' : AH} {o : Nat} {l : List Mb} (hm : MemR h o l) (h0 : aI h' o = aI h o) (h1 : aI h' (o + 1) = aI h (o + 1)) (h2 : aI h' (o + 2) = aI h (o + 2)) (h3 : aI h' (o + 3) = aI h (o + 3)) (h4 : aI h' (o + 4) = aI h (o + 4)) : MemR h' o l := by
  unfold MemR; rw [h0, h1, h2, h3, h4]; exact hm
theorem MemR.eqx {h h' : AH} {o : Nat} {l : List Mb} {S : Nat → Prop} (hm : MemR h o l) (e : eqx h h' S) (hS : ∀ i, o ≤ i → i ≤ o + 4 → ¬ S i) : MemR h' o l :=
  hm.cg (e.I (hS _ (by omega) (by omega))) (e.I (hS _ (by omega) (by omega))) (e.I (hS _ (by omega) (by omega))) (e.I (hS _ (by omega) (by omega))) (e.I (hS _ (by omega) (by omega)))
theorem fi_cg {P Q : Nat → Bool} : ∀ {n : Nat}, (∀ k, k < n → P k = Q k) → fi P n = fi Q n
  | 0, _ => rfl
  | n + 1, h => by
    show (match fi P n with | some k => some k | none => _) = (match fi Q n with | some k => some k | none => _)
    rw [fi_cg (fun k hk => h k (by omega)), h n (by omega)]
theorem cn_cg {P Q : Nat → Bool} : ∀ {n : Nat}, (∀ k, k < n → P k = Q k) → cn P n = cn Q n
  | 0, _ => rfl
  | n + 1, h => by
    show cn P n + _ = cn Q n + _
    rw [cn_cg (fun k hk => h k (by omega)), h n (by omega)]
/-- the member that goes first, among the first n: by the rule (0 newest, 1 oldest, 2 cold) -/
def ngB (l : List Mb) (rule : Int32) (a b : Nat) : Bool := if rule = 2 then decide (mRdy l b ≤ mRdy l a) else decide (rule = 0)
def ng (l : List Mb) (rule : Int32) : Nat → Option Nat
  | 0 => none
  | n + 1 => if mPrt l n then ng l rule n else match ng l rule n with
    | none => some n
    | some b => if ngB l rule n b then some n else some b
theorem ng_lt {l : List Mb} {rule : Int32} : ∀ {n k : Nat}, ng l rule n = some k → k < n
  | 0, k, h => by cases h
  | n + 1, k, h => by
    have h' : (if mPrt l n then ng l rule n else match ng l rule n with | none => some n | some b => if ngB l rule n b then some n else some b) = some k := h
    split at h'
    · have := ng_lt h'; omega
    · cases hq : ng l rule n with
      | none => rw [hq] at h'; cases h'; omega
      | some b =>
        rw [hq] at h'
        have := ng_lt hq
        have h'' : (if ngB l rule n b then some n else some b) = some k := h'
        split at h'' <;> (cases h''; omega)
theorem ng_p {l : List Mb} {rule : Int32} {n : Nat} (h : mPrt l n = true) : ng l rule (n + 1) = ng l rule n := by
  show (if mPrt l n then _ else _) = _; rw [h]; rfl
theorem ng_n {l : List Mb} {rule : Int32} {n : Nat} (h : mPrt l n = false) (h2 : ng l rule n = none) : ng l rule (n + 1) = some n := by
  show (if mPrt l n then _ else _) = _; rw [h, h2]; rfl
theorem ng_s {l : List Mb} {rule : Int32} {n b : Nat} (h : mPrt l n = false) (h2 : ng l rule n = some b) : ng l rule (n + 1) = if ngB l rule n b then some n else some b := by
  show (if mPrt l n then _ else _) = _; rw [h, h2]; rfl
theorem getD_del {α : Type} (l : List α) (d : α) (g k : Nat) : (l.eraseIdx g).getD k d = if k < g then l.getD k d else l.getD (k + 1) d := by
  rw [List.getD_eq_getElem?_getD, List.getElem?_eraseIdx]
  split <;> rw [List.getD_eq_getElem?_getD]
theorem getD_app {α : Type} (l : List α) (d x : α) (k : Nat) : (l ++ [x]).getD k d = if k < l.length then l.getD k d else if k = l.length then x else d := by
  rw [List.getD_eq_getElem?_getD]
  split
  · next h => rw [List.getElem?_append_left h, List.getD_eq_getElem?_getD]
  · next h =>
    rw [List.getElem?_append_right (by omega)]
    split
    · next h2 => subst h2; simp
    · next h2 => rw [List.getElem?_eq_none (by simp; omega)]; rfl
