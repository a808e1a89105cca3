-- the abstract heap: rows of ints, of longs, of doubles, of references (0: null) by the object's number, its kind, its length
abbrev AH : Type := (Nat → Nat → Int32) × (Nat → Nat → Int64) × (Nat → Nat → UInt64) × (Nat → Nat → Nat) × (Nat → Nat) × (Nat → Nat)
def aI (h : AH) : Nat → Nat → Int32 := h.1
def aJ (h : AH) : Nat → Nat → Int64 := h.2.1
def aD (h : AH) : Nat → Nat → UInt64 := h.2.2.1
def aR (h : AH) : Nat → Nat → Nat := h.2.2.2.1
def aK (h : AH) : Nat → Nat := h.2.2.2.2.1
def aL (h : AH) : Nat → Nat := h.2.2.2.2.2
def cI (h : AH) (i : Nat) (f : Nat → Int32) : AH := (fun a => if a = i then f else h.1 a, h.2)
def cJ (h : AH) (i : Nat) (f : Nat → Int64) : AH := (h.1, fun a => if a = i then f else h.2.1 a, h.2.2)
def cD (h : AH) (i : Nat) (f : Nat → UInt64) : AH := (h.1, h.2.1, fun a => if a = i then f else h.2.2.1 a, h.2.2.2)
def cR (h : AH) (i : Nat) (f : Nat → Nat) : AH := (h.1, h.2.1, h.2.2.1, fun a => if a = i then f else h.2.2.2.1 a, h.2.2.2.2)
def sI (h : AH) (i k : Nat) (v : Int32) : AH := cI h i (upd (aI h i) k v)
def sJ (h : AH) (i k : Nat) (v : Int64) : AH := cJ h i (vp_updL (aJ h i) k v)
def sD (h : AH) (i k : Nat) (v : UInt64) : AH := cD h i (vf_upd (aD h i) k v)
def sR (h : AH) (i k : Nat) (v : Nat) : AH := cR h i (va_up (aR h i) k v)
/-- a new object, of number N, of a kind, with a length -/
def nW (h : AH) (N c n : Nat) : AH :=
  (fun a => if a = N then fun _ => 0 else h.1 a, fun a => if a = N then fun _ => 0 else h.2.1 a, fun a => if a = N then fun _ => 0 else h.2.2.1 a,
   fun a => if a = N then fun _ => 0 else h.2.2.2.1 a, fun a => if a = N then c else h.2.2.2.2.1 a, fun a => if a = N then n else h.2.2.2.2.2 a)
-- what is fixed for the whole run: the classes' numbers, the arrays' classes by kind, the heap's place ahead of the first object, the script's place, length, contents, the String constants' places and their rows'
abbrev GC : Type := va_G × (Nat → ClassId) × Nat × Nat × Nat × (Nat → Int32) × (Nat → Nat) × (Nat → Nat)
def gD (G : GC) : va_G := G.1
def gY (G : GC) : Nat → ClassId := G.2.1
def gB (G : GC) : Nat := G.2.2.1
def gS (G : GC) : Nat := G.2.2.2.1
def gL (G : GC) : Nat := G.2.2.2.2.1
def gX (G : GC) : Nat → Int32 := G.2.2.2.2.2.1
def gKs (G : GC) : Nat → Nat := G.2.2.2.2.2.2.1
def gVs (G : GC) : Nat → Nat := G.2.2.2.2.2.2.2
/-- where the object of a number lies: 0 the script, from 1000000 on the String constants -/
def ga (G : GC) (i : Nat) : Nat := if i = 0 then gS G else if i < 1000000 then gB G + i else gKs G (i - 1000000)
def gv (G : GC) : Value → Value := fun v => match v with
  | .ref i => .ref (ga G i)
  | w => w
def ro (G : GC) (r : Nat) : Option Nat := if r = 0 then none else some (ga G r)
def gA (G : GC) : Nat → Prop := fun q => gB G < q
theorem ga_o (G : GC) {i : Nat} (h0 : 0 < i) (h1 : i < 1000000) : ga G i = gB G + i := by
  unfold ga; rw [if_neg (by omega), if_pos h1]
theorem gv_cat (G : GC) (v : Value) : (gv G v).category = v.category := by cases v <;> rfl
theorem gv_cats (G : GC) (l : List Value) : ((l.map (gv G)).map fun v => v.category) = l.map fun v => v.category := by
  induction l with
  | nil => rfl
  | cons a l ih => simp only [List.map_cons, gv_cat, ih]
-- the classes
def clT (c : Nat) : u_T := match c with | 0 => TX0 | 1 => TX1 | 2 => TX2 | 3 => TX3 | 4 => TX4 | 5 => TX5 | 6 => TX6 | 7 => TX7 | 8 => TX8 | _ => TX9
def clY (c : Nat) : Nat → FieldType := match c with | 0 => tyX0 | 1 => tyX1 | 2 => tyX2 | 3 => tyX3 | 4 => tyX4 | 5 => tyX5 | 6 => tyX6 | 7 => tyX7 | 8 => tyX8 | _ => tyX9
def clR (c : Nat) : String := match c with | 0 => RX0 | 1 => RX1 | 2 => RX2 | 3 => RX3 | 4 => RX4 | 5 => RX5 | 6 => RX6 | 7 => RX7 | 8 => RX8 | _ => RX9
def clN (c : Nat) : Nat := match c with | 0 => 5 | 1 => 5 | 2 => 2 | 3 => 13 | 4 => 18 | 5 => 9 | 6 => 5 | 7 => 10 | 8 => 12 | _ => 30
theorem cl10 {P : Nat → Prop} (h0 : P 0) (h1 : P 1) (h2 : P 2) (h3 : P 3) (h4 : P 4) (h5 : P 5) (h6 : P 6) (h7 : P 7) (h8 : P 8) (h9 : P 9) : ∀ c, c < 10 → P c
  | 0, _ => h0 | 1, _ => h1 | 2, _ => h2 | 3, _ => h3 | 4, _ => h4 | 5, _ => h5 | 6, _ => h6 | 7, _ => h7 | 8, _ => h8 | 9, _ => h9
  | n + 10, h => by omega
theorem cl_at : ∀ c, c < 10 → vwCl[c]? = some (clR c, clT c, clN c) := cl10 rfl rfl rfl rfl rfl rfl rfl rfl rfl rfl
theorem cl_ty : ∀ c, c < 10 → ∀ k, k < clN c → parseFieldDescriptor (clT c k).2.2.1 = some (clY c k) := cl10 tyX0_ok tyX1_ok tyX2_ok tyX3_ok tyX4_ok tyX5_ok tyX6_ok tyX7_ok tyX8_ok tyX9_ok
theorem cl_nm : ∀ c, c < 10 → ∀ a, a < clN c → ∀ b, b < clN c → a ≠ b → (clT c a).2.1 ≠ (clT c b).2.1 := cl10 nmX0 nmX1 nmX2 nmX3 nmX4 nmX5 nmX6 nmX7 nmX8 nmX9
-- the words
theorem lay_ok : ∀ c, c < 10 → ∀ w ∈ u_ws (clR c) (clT c) (clN c), w ∈ lw_tbl := cl10 (by decide +kernel) (by decide +kernel) (by decide +kernel) (by decide +kernel) (by decide +kernel) (by decide +kernel) (by decide +kernel) (by decide +kernel) (by decide +kernel) (by decide +kernel)
theorem lay_gd : ∀ c, c < 10 → ∀ w ∈ u_ws (clR c) (clT c) (clN c), goodWord w = true := cl10 (by decide +kernel) (by decide +kernel) (by decide +kernel) (by decide +kernel) (by decide +kernel) (by decide +kernel) (by decide +kernel) (by decide +kernel) (by decide +kernel) (by decide +kernel)
theorem lay_in {c : Nat} (h : c < 10) : ∀ w ∈ u_ws (clR c) (clT c) (clN c), w ∈ tblG := fun w hw => tg (lay_ok c h w hw) (lay_gd c h w hw)
-- what a field holds
def tk : FieldType → Nat := fun ty => match ty with
  | .long => 1
  | .object _ => 2
  | .array _ => 2
  | _ => 0
def fv (G : GC) (h : AH) (i k t : Nat) : Value := if t = 0 then .int (aI h i k) else if t = 1 then .long (aJ h i k) else va_rf (ro G (aR h i k))
def fvs (G : GC) (h : AH) (i c : Nat) : List Value := (List.range (clN c)).map fun k => fv G h i k (tk (clY c k))
def entA (G : GC) (h : AH) (i t : Nat) : va_E :=
  if t = 10 ∨ t = 11 ∨ t = 13 then .inl (gY G t, aL h i, .inl (aI h i))
  else if t = 12 then .inl (gY G t, aL h i, .inr (.inl (aJ h i)))
  else if t = 16 then .inl (gY G t, aL h i, .inr (.inr (.inr (.inl (aD h i)))))
  else .inl (gY G t, aL h i, .inr (.inr (.inr (.inr fun j => ro G (aR h i j)))))
def ent (G : GC) (h : AH) (i : Nat) : va_E := if aK h i < 10 then .inr (aK h i, fvs G h i (aK h i)) else entA G h i (aK h i)
def wsA (G : GC) (N : Nat) (h : AH) : va_W := (List.range N).map fun i => (gB G + (i + 1), ent G h (i + 1))
/-- object i of the first N is of kind c: 0..9 a class, 10 byte[], 11 int[], 12 long[], 13 boolean[], 14 Pool[], 15 State[], 16 double[] -/
def isK (N : Nat) (h : AH) (i c : Nat) : Prop := aK h i = c ∧ 0 < i ∧ i ≤ N
def isA (N : Nat) (h : AH) (i c n : Nat) : Prop := isK N h i c ∧ aL h i = n
abbrev NT : Nat := 738
/-- the heap H holds the first N objects of h; while they are being made, nothing else is made since s -/
def Rep (G : GC) (N k : Nat) (h : AH) (s : State) (H : Heap) : Prop := va_P (gD G) vwCl (wsA G N h) H ∧ N ≤ NT ∧ (N < NT → s.heap.size + k ≤ gB G + 1 + N)
theorem wsA_len (G : GC) (N : Nat) (h : AH) : (wsA G N h).length = N := by simp [wsA]
theorem wsA_at (G : GC) {N : Nat} (h : AH) {i : Nat} (h0 : 0 < i) (h1 : i ≤ N) : (wsA G N h)[i - 1]? = some (gB G + i, ent G h i) := by
  obtain ⟨j, rfl⟩ : ∃ j, i = j + 1 := ⟨i - 1, by omega⟩
  unfold wsA
  rw [Nat.add_sub_cancel, List.getElem?_map, List.getElem?_range (by omega)]
  rfl
theorem wsA_D (G : GC) (N : Nat) (h : AH) : va_D (gA G) (wsA G N h) := by
  have key : ∀ (k : Nat) (q : Nat × va_E), (wsA G N h)[k]? = some q → q.1 = gB G + (k + 1) := by
    intro k q hq
    unfold wsA at hq
    rw [List.getElem?_map] at hq
    by_cases hk : k < N
    · rw [List.getElem?_range hk] at hq
      cases hq; rfl
    · rw [List.getElem?_eq_none (by simp; omega)] at hq
      cases hq
  refine ⟨fun i j p q hp hq e => ?_, fun k q hq => ?_⟩
  · have h1 := key i p hp
    have h2 := key j q hq
    omega
  · show gB G < q.1
    rw [key k q hq]; omega
theorem wsA_set (G : GC) {N : Nat} {h h' : AH} {i : Nat} {e : va_E} (h0 : 0 < i) (he : ent G h' i = e) (ho : ∀ j, j ≠ i → ent G h' j = ent G h j) : (wsA G N h).set (i - 1) (gB G + i, e) = wsA G N h' := by
  apply List.ext_getElem?
  intro k
  unfold wsA
  rw [List.getElem?_set, List.getElem?_map, List.getElem?_map, List.length_map, List.length_range]
  by_cases hk : k < N
  · rw [List.getElem?_range hk]
    by_cases hik : i - 1 = k
    · rw [if_pos hik, if_pos (by omega)]
      have : k + 1 = i := by omega
      simp only [Option.map_some, this, he]
    · rw [if_neg hik]
      simp only [Option.map_some]
      rw [ho (k + 1) (by omega)]
  · rw [List.getElem?_eq_none (by simp; omega)]
    by_cases hik : i - 1 = k
    · rw [if_pos hik, if_neg (by omega)]; rfl
    · rw [if_neg hik]
      rfl
theorem wsA_push (G : GC) {N : Nat} {h h' : AH} {e : va_E} (he : ent G h' (N + 1) = e) (ho : ∀ j, j ≤ N → ent G h' j = ent G h j) : wsA G N h ++ [(gB G + (N + 1), e)] = wsA G (N + 1) h' := by
  unfold wsA
  rw [List.range_succ, List.map_append, List.map_cons, List.map_nil, he]
  congr 1
  apply List.map_congr_left
  intro j hj
  rw [ho (j + 1) (by have := List.mem_range.mp hj; omega)]
theorem ent_o (G : GC) {N : Nat} {h : AH} {i c : Nat} (hk : isK N h i c) (hc : c < 10) : ent G h i = .inr (c, fvs G h i c) := by
  unfold ent; rw [hk.1, if_pos hc]
theorem ent_a (G : GC) {N : Nat} {h : AH} {i c : Nat} (hk : isK N h i c) (hc : ¬ c < 10) : ent G h i = entA G h i c := by
  unfold ent; rw [hk.1, if_neg hc]
theorem fvs_at (G : GC) (h : AH) (i c : Nat) {k : Nat} (hk : k < clN c) : (fvs G h i c)[k]? = some (fv G h i k (tk (clY c k))) := by
  unfold fvs; rw [List.getElem?_map, List.getElem?_range hk]; rfl
theorem fvs_len (G : GC) (h : AH) (i c : Nat) : (fvs G h i c).length = clN c := by simp [fvs]
theorem fvs_set (G : GC) {h h' : AH} {i c k : Nat} {v : Value} (hk : k < clN c) (hv : fv G h' i k (tk (clY c k)) = v) (ho : ∀ j, j ≠ k → fv G h' i j (tk (clY c j)) = fv G h i j (tk (clY c j))) : (fvs G h i c).set k v = fvs G h' i c := by
  apply List.ext_getElem?
  intro j
  rw [List.getElem?_set]
  by_cases hj : j < clN c
  · rw [fvs_at G h' i c hj, fvs_at G h i c hj, fvs_len]
    by_cases e : k = j
    · subst e; rw [if_pos rfl, if_pos hk, hv]
    · rw [if_neg e, ho j (fun q => e q.symm)]
  · rw [List.getElem?_eq_none (by rw [fvs_len]; omega), List.getElem?_eq_none (by rw [fvs_len]; omega)]
    rw [if_neg (by omega)]
