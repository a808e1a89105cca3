-- the state that stays: the classes, the links to private members of nest mates, the String constants, the statics, the script
def nestW : List Cond := [(.methodLinkNest "PoolScaler" (22 : Nat) ({ cls := "PoolScaler$SetupReader", name := "<init>", desc := "()V" }) "PoolScaler"), (.methodLinkNest "PoolScaler" (29 : Nat) ({ cls := "PoolScaler$Output", name := "<init>", desc := "()V" }) "PoolScaler"), (.methodLinkNest "PoolScaler$State" (19 : Nat) ({ cls := "PoolScaler$Events", name := "<init>", desc := "()V" }) "PoolScaler"), (.methodLinkNest "PoolScaler$State" (24 : Nat) ({ cls := "PoolScaler$Pool", name := "<init>", desc := "()V" }) "PoolScaler"), (.methodLinkNest "PoolScaler$Pool" (11 : Nat) ({ cls := "PoolScaler$Settings", name := "<init>", desc := "()V" }) "PoolScaler"), (.methodLinkNest "PoolScaler$Pool" (20 : Nat) ({ cls := "PoolScaler$Members", name := "<init>", desc := "()V" }) "PoolScaler"), (.methodLinkNest "PoolScaler$Pool" (27 : Nat) ({ cls := "PoolScaler$Tally", name := "<init>", desc := "()V" }) "PoolScaler"), (.methodLinkNest "PoolScaler$Pool" (170 : Nat) ({ cls := "PoolScaler", name := "dividedUp", desc := "(II)I" }) "PoolScaler"), (.methodLinkNest "PoolScaler$Settings" (79 : Nat) ({ cls := "PoolScaler", name := "dividedUp", desc := "(II)I" }) "PoolScaler")]
def strTab : List (String × Nat × String × Nat) := [("PoolScaler$SetupReader", 195, "pool", 0), ("PoolScaler$SetupReader", 197, "step", 1), ("PoolScaler$SetupReader", 199, "cool", 2), ("PoolScaler$SetupReader", 201, "target", 3), ("PoolScaler$SetupReader", 202, "warm", 4), ("PoolScaler$SetupReader", 203, "window", 5), ("PoolScaler$SetupReader", 204, "lead", 6), ("PoolScaler$SetupReader", 205, "policy", 7), ("PoolScaler$SetupReader", 206, "drop", 8), ("PoolScaler$SetupReader", 208, "cost", 9), ("PoolScaler$SetupReader", 210, "load", 10), ("PoolScaler$SetupReader", 212, "protect", 11), ("PoolScaler$SetupReader", 142, "watch", 12), ("PoolScaler$SetupReader", 151, "trend", 13), ("PoolScaler$SetupReader", 153, "season", 14), ("PoolScaler$SetupReader", 158, "newest", 15), ("PoolScaler$SetupReader", 163, "oldest", 16), ("PoolScaler$SetupReader", 165, "cold", 17), ("PoolScaler", 107, "no such number", 18), ("PoolScaler", 387, "no such pool", 19), ("PoolScaler", 390, "out of range", 20), ("PoolScaler", 161, "no such member", 21), ("PoolScaler", 183, "no such index", 22), ("PoolScaler", 191, "no such demand", 23), ("PoolScaler", 265, "no such event", 24), ("PoolScaler", 305, "more than MAX members", 25), ("PoolScaler", 318, "the member must stay", 26), ("PoolScaler", 324, "the member is in this pool", 27), ("PoolScaler", 326, "the pool has MAX members", 28), ("PoolScaler", 383, "no state is saved", 29), ("PoolScalerModel", 277, "pool", 0), ("PoolScalerModel", 282, "step", 1), ("PoolScalerModel", 284, "cool", 2), ("PoolScalerModel", 239, "target", 3), ("PoolScalerModel", 245, "warm", 4), ("PoolScalerModel", 247, "window", 5), ("PoolScalerModel", 249, "lead", 6), ("PoolScalerModel", 251, "policy", 7), ("PoolScalerModel", 223, "watch", 12), ("PoolScalerModel", 229, "trend", 13), ("PoolScalerModel", 231, "season", 14), ("PoolScalerModel", 257, "drop", 8), ("PoolScalerModel", 233, "newest", 15), ("PoolScalerModel", 235, "oldest", 16), ("PoolScalerModel", 237, "cold", 17), ("PoolScalerModel", 262, "cost", 9), ("PoolScalerModel", 267, "load", 10), ("PoolScalerModel", 272, "protect", 11)]
def strLen : List Nat := [4, 4, 4, 6, 4, 6, 4, 6, 4, 4, 4, 7, 5, 5, 6, 6, 6, 4, 14, 12, 12, 14, 13, 14, 13, 21, 20, 26, 24, 17]
def strByt : List (List Int32) := [[112, 111, 111, 108], [115, 116, 101, 112], [99, 111, 111, 108], [116, 97, 114, 103, 101, 116], [119, 97, 114, 109], [119, 105, 110, 100, 111, 119], [108, 101, 97, 100], [112, 111, 108, 105, 99, 121], [100, 114, 111, 112], [99, 111, 115, 116], [108, 111, 97, 100], [112, 114, 111, 116, 101, 99, 116], [119, 97, 116, 99, 104], [116, 114, 101, 110, 100], [115, 101, 97, 115, 111, 110], [110, 101, 119, 101, 115, 116], [111, 108, 100, 101, 115, 116], [99, 111, 108, 100], [110, 111, 32, 115, 117, 99, 104, 32, 110, 117, 109, 98, 101, 114], [110, 111, 32, 115, 117, 99, 104, 32, 112, 111, 111, 108], [111, 117, 116, 32, 111, 102, 32, 114, 97, 110, 103, 101], [110, 111, 32, 115, 117, 99, 104, 32, 109, 101, 109, 98, 101, 114], [110, 111, 32, 115, 117, 99, 104, 32, 105, 110, 100, 101, 120], [110, 111, 32, 115, 117, 99, 104, 32, 100, 101, 109, 97, 110, 100], [110, 111, 32, 115, 117, 99, 104, 32, 101, 118, 101, 110, 116], [109, 111, 114, 101, 32, 116, 104, 97, 110, 32, 77, 65, 88, 32, 109, 101, 109, 98, 101, 114, 115], [116, 104, 101, 32, 109, 101, 109, 98, 101, 114, 32, 109, 117, 115, 116, 32, 115, 116, 97, 121], [116, 104, 101, 32, 109, 101, 109, 98, 101, 114, 32, 105, 115, 32, 105, 110, 32, 116, 104, 105, 115, 32, 112, 111, 111, 108], [116, 104, 101, 32, 112, 111, 111, 108, 32, 104, 97, 115, 32, 77, 65, 88, 32, 109, 101, 109, 98, 101, 114, 115], [110, 111, 32, 115, 116, 97, 116, 101, 32, 105, 115, 32, 115, 97, 118, 101, 100]]
abbrev nStr : Nat := 30
def ncTab : List (String × String) := [("java/lang/IllegalArgumentException", "java/lang/IndexOutOfBoundsException"), ("java/lang/IllegalArgumentException", "java/lang/IllegalStateException"), ("java/lang/IllegalArgumentException", "java/util/NoSuchElementException"), ("java/lang/IndexOutOfBoundsException", "java/lang/IllegalArgumentException"), ("java/lang/IndexOutOfBoundsException", "java/lang/IllegalStateException"), ("java/lang/IndexOutOfBoundsException", "java/util/NoSuchElementException"), ("java/lang/IllegalStateException", "java/lang/IllegalArgumentException"), ("java/lang/IllegalStateException", "java/lang/IndexOutOfBoundsException"), ("java/lang/IllegalStateException", "java/util/NoSuchElementException"), ("java/util/NoSuchElementException", "java/lang/IllegalArgumentException"), ("java/util/NoSuchElementException", "java/lang/IndexOutOfBoundsException"), ("java/util/NoSuchElementException", "java/lang/IllegalStateException")]
def caTab : List String := ["java/lang/IllegalArgumentException", "java/lang/IndexOutOfBoundsException", "java/lang/IllegalStateException", "java/util/NoSuchElementException"]
def deTab : List String := ["java/lang/RuntimeException", "java/lang/Exception", "java/lang/Throwable"]
def tysG (G : GC) : List (ClassId × FieldType) := [(gY G 10, .byte), (gY G 11, .int), (gY G 12, .long), (gY G 13, .boolean), (gY G 14, .object "PoolScaler$Pool"), (gY G 15, .object "PoolScaler$State"), (gY G 16, .double)]
/-- what is of the tables alone -/
def GT (G : GC) (s : State) : Prop := va_K (gD G) vwCl (tysG G) s ∧ (∀ w ∈ nestW, va_Nw w s) ∧ va_AO "PoolScaler$Pool" s ∧ va_AO "PoolScaler$State" s ∧ (∀ q ∈ strTab, vk_R q.1 q.2.1 q.2.2.1 (gKs G q.2.2.2) s) ∧ (∀ q ∈ ncTab, va_Nc q.1 q.2 s) ∧ (∀ E ∈ caTab, va_Nw (.castable E E) s) ∧ ∀ X ∈ deTab, va_Nw (.declares (Bundle.initS X)) s
/-- what is of the heap below the first object -/
def GH (G : GC) (s : State) : Prop := va_X (gS G) (gL G) (gX G) s s.heap ∧ gS G ≤ gB G ∧ gB G < s.heap.size ∧ vx_Zq Bundle.tN "UNASSIGNED_STACK" Bundle.steD (gA G) s s.heap ∧ vx_Zq Bundle.tN "SUPPRESSED_SENTINEL" Bundle.listD (gA G) s s.heap ∧
  vk_S nStr strLen strByt (gKs G) (gVs G) (gA G) s s.heap ∧ va_Z "java/lang/String" "COMPACT_STRINGS" "Z" (.int 1) (gA G) s s.heap ∧ va_Zq "jdk/internal/util/Preconditions" "SIOOBE_FORMATTER" "Ljava/util/function/BiFunction;" (gA G) s s.heap
def GS (G : GC) (s : State) : Prop := GT G s ∧ GH G s
theorem nest_warm {s U : State} (hW : s.WarmedH U.vm) (h : ∀ w ∈ nestW, va_Nw w s) : ∀ w ∈ nestW, va_Nw w U := by
  intro w hw
  have h1 := h w hw
  simp only [nestW, List.mem_cons, List.not_mem_nil, or_false] at hw
  rcases hw with rfl | rfl | rfl | rfl | rfl | rfl | rfl | rfl | rfl <;> exact va_Nw.warmM hW h1
theorem GS.to {G : GC} {s U : State} {H : Heap} {locs : List Loc} (h : GS G s) (hS : va_S (gA G) s.heap H locs) (hU : U.heap = H) (hW : s.WarmedH U.vm) : GS G U := by
  obtain ⟨⟨k1, k2, k3, k4, k5, k6, k7, k8⟩, x1, x2, x3, x4, x5, x6, x7, x8⟩ := h
  have hq : ∀ a : Nat, a < s.heap.size → ¬ gA G a → U.heap[a]? = s.heap[a]? := fun a h1 h2 => by rw [hU]; exact hS.2.1 a h1 h2
  have hm := hW.alike
  have hb : ¬ gA G (gS G) := Nat.not_lt.mpr x2
  refine ⟨⟨va_K.moved hm k1, nest_warm hW k2, va_AO.moved hm k3, va_AO.moved hm k4, fun q hq => vk_R.warm hW (k5 q hq), fun q hq => va_Nc.moved hm (k6 q hq), fun E hE => va_Nw.warmC hW (k7 E hE), fun X hX => va_Nw.warmD hW (k8 X hX)⟩, ?_⟩
  exact ⟨(x1.moved hm).kept (hq _ (Nat.lt_of_le_of_lt x2 x3) hb), x2, by rw [hU]; exact Nat.lt_of_lt_of_le x3 hS.1, (x4.moved hm).kept hq, (x5.moved hm).kept hq, (x6.moved hm).kept hq, (x7.moved hm).kept hq, (x8.moved hm).kept hq⟩
theorem GS.same {G : GC} {s U : State} (h : GS G s) (hU : U.heap = s.heap) (hW : U.vm = s.vm) : GS G U := by
  refine h.to (H := s.heap) va_S.rf hU ?_
  rw [hW]; exact State.WarmedH.refl s
-- a method: its name, its code, its locals, its answer's type, its room, its handlers
abbrev MD : Type := MethodName × ByteArray × Nat × Option FieldType × Room × List (Nat × Nat × Nat × Nat)
def mY (M : MD) : MethodName := M.1
def mC (M : MD) : ByteArray := M.2.1
def mL (M : MD) : Nat := M.2.2.1
def mR (M : MD) : Option FieldType := M.2.2.2.1
def mO (M : MD) : Room := M.2.2.2.2.1
def mH (M : MD) : List (Nat × Nat × Nat × Nat) := M.2.2.2.2.2
abbrev CX : Type := Program × Env × State × MethodId × Array Value × List Frame × Method × Code
def Cx (l : Launch) (G : GC) (M : MD) (p : Program) (s : State) (m : MethodId) (args : Array Value) (meth : Method) (c : Code) : Prop :=
  p.tables.exec = Jvm.exec ∧ c.code = mC M ∧ c.maxLocals = mL M ∧ meth.sig.returnType = mR M ∧ meth.locks = false ∧ s.vm.findClass (mY M).cls = some m.cls ∧ (∀ w ∈ tblG, w.before args s = true) ∧ GS G s ∧ c.exceptionTable.toList = tableOf (mH M) ∧ meth.name = (mY M).name ∧ l.stackTraces = false
def asc (G : GC) : Nat → List (Option Value) → List (Nat × Value)
  | _, [] => []
  | i, none :: r => asc G (i + 1) r
  | i, some v :: r => (i, gv G v) :: asc G (i + 1) r
theorem asc_mem (G : GC) (ls : List (Option Value)) : ∀ (i : Nat) (q : Nat × Value), q ∈ asc G i ls ↔ ∃ (j : Nat) (v : Value), ls[j]? = some (some v) ∧ q.1 = i + j ∧ q.2 = gv G v := by
  induction ls with
  | nil => intro i q; simp [asc]
  | cons a r ih =>
    intro i q
    have step : (∃ (j : Nat) (v : Value), (a :: r)[j]? = some (some v) ∧ q.1 = i + j ∧ q.2 = gv G v) ↔ (∃ v, a = some v ∧ q.1 = i ∧ q.2 = gv G v) ∨ ∃ (j : Nat) (v : Value), r[j]? = some (some v) ∧ q.1 = (i + 1) + j ∧ q.2 = gv G v := by
      constructor
      · rintro ⟨j, v, h1, h2, h3⟩
        cases j with
        | zero => exact Or.inl ⟨v, by simpa using h1, h2, h3⟩
        | succ j => exact Or.inr ⟨j, v, by simpa using h1, by omega, h3⟩
      · rintro (⟨v, h1, h2, h3⟩ | ⟨j, v, h1, h2, h3⟩)
        · exact ⟨0, v, by simp [h1], h2, h3⟩
        · exact ⟨j + 1, v, by simpa using h1, by omega, h3⟩
    rw [step]
    cases a with
    | none => simp only [asc, ih (i + 1) q]; simp
    | some v =>
      simp only [asc, List.mem_cons, ih (i + 1) q]
      constructor
      · rintro (rfl | h)
        · exact Or.inl ⟨v, rfl, rfl, rfl⟩
        · exact Or.inr h
      · rintro (⟨v', h1, h2, h3⟩ | h)
        · cases h1
          exact Or.inl (Prod.ext h2 h3)
        · exact Or.inr h
theorem asc_at {G : GC} {ls : List (Option Value)} {la : Array Slot} {n k : Nat} {v : Value} (h : lv_has la n (asc G 0 ls)) (hk : ls[k]? = some (some v)) : la[k]? = some (.val (gv G v)) :=
  h.2.2 (k, gv G v) ((asc_mem G ls 0 (k, gv G v)).mpr ⟨k, v, hk, by simp, rfl⟩)
/-- a store of one slot, of two slots -/
def cl2 (o : Option Value) : Option Value := match o with
  | some (.long _) => none
  | some (.double _) => none
  | o => o
def st1 (ls : List (Option Value)) (k : Nat) (v : Value) : List (Option Value) := match k with
  | 0 => ls.set 0 (some v)
  | k + 1 => (ls.set k (cl2 (ls.getD k none))).set (k + 1) (some v)
def st2 (ls : List (Option Value)) (k : Nat) (v : Value) : List (Option Value) := (st1 ls k v).set (k + 1) none
theorem cl2_spec {o : Option Value} {x : Value} (h : cl2 o = some x) : o = some x ∧ ¬ x.category = 2 := by
  match o, h with
  | some (.int _), h => cases h; exact ⟨rfl, by simp [Value.category]⟩
  | some (.float _), h => cases h; exact ⟨rfl, by simp [Value.category]⟩
  | some (.ref _), h => cases h; exact ⟨rfl, by simp [Value.category]⟩
  | some .null, h => cases h; exact ⟨rfl, by simp [Value.category]⟩
  | some (.retAddr _), h => cases h; exact ⟨rfl, by simp [Value.category]⟩
theorem st1_spec (ls : List (Option Value)) (k : Nat) (v : Value) (j : Nat) (x : Value) (h : (st1 ls k v)[j]? = some (some x)) : (j = k ∧ x = v) ∨ (ls[j]? = some (some x) ∧ ¬ j = k ∧ ¬ (j + 1 = k ∧ x.category = 2)) := by
  have setq : ∀ (l : List (Option Value)) (a b : Nat) (o : Option Value), (l.set a o)[b]? = if a = b then (if a < l.length then some o else none) else l[b]? := fun l a b o => List.getElem?_set
  cases k with
  | zero =>
    simp only [st1, setq] at h
    split at h
    · next e =>
      split at h
      · cases h; exact Or.inl ⟨e.symm, rfl⟩
      · cases h
    · next e => exact Or.inr ⟨h, fun q => e q.symm, fun q => by omega⟩
  | succ k =>
    simp only [st1, setq] at h
    split at h
    · next e =>
      split at h
      · cases h; exact Or.inl ⟨e.symm, rfl⟩
      · cases h
    · next e =>
      split at h
      · next e2 =>
        split at h
        · next e3 =>
          obtain ⟨h1, h2⟩ := cl2_spec (Option.some.inj h)
          refine Or.inr ⟨?_, fun q => e q.symm, fun q => h2 q.2⟩
          rw [← e2, ← h1, List.getD_eq_getElem?_getD]
          rw [List.getElem?_eq_getElem e3]
          rfl
        · cases h
      · next e2 => exact Or.inr ⟨h, fun q => e q.symm, fun q => e2 (by omega)⟩
theorem st2_spec (ls : List (Option Value)) (k : Nat) (v : Value) (j : Nat) (x : Value) (h : (st2 ls k v)[j]? = some (some x)) : (j = k ∧ x = v) ∨ (ls[j]? = some (some x) ∧ ¬ j = k ∧ ¬ j = k + 1 ∧ ¬ (j + 1 = k ∧ x.category = 2)) := by
  unfold st2 at h
  rw [List.getElem?_set] at h
  split at h
  · split at h <;> cases h
  · next e =>
    rcases st1_spec ls k v j x h with h1 | ⟨h1, h2, h3⟩
    · exact Or.inl h1
    · exact Or.inr ⟨h1, h2, fun q => e q.symm, h3⟩
theorem lh_1 {G : GC} {ls : List (Option Value)} {la : Array Slot} {n k : Nat} {v : Value} {w : Value} (hw : w = gv G v) (hc : v.category = 1) {lv' : List (Nat × Value)} (hl : (k, w) :: (asc G 0 ls).filter (fun q => !(q.1 == k) && !(q.1 + 1 == k && q.2.category == 2)) = lv') (h : lv_has la n lv') : lv_has la n (asc G 0 (st1 ls k v)) := by
  refine ⟨h.1, h.2.1, fun q hq => h.2.2 q ?_⟩
  rw [← hl]
  obtain ⟨j, x, h1, h2, h3⟩ := (asc_mem G _ 0 q).mp hq
  rcases st1_spec ls k v j x h1 with ⟨e1, e2⟩ | ⟨e1, e2, e3⟩
  · refine List.mem_cons.mpr (Or.inl ?_)
    subst e1; subst e2
    exact Prod.ext (by omega) (by rw [h3, hw])
  · refine List.mem_cons.mpr (Or.inr (List.mem_filter.mpr ⟨(asc_mem G ls 0 q).mpr ⟨j, x, e1, h2, h3⟩, ?_⟩))
    have hcat : q.2.category = x.category := by rw [h3, gv_cat]
    have hj : q.1 = j := by omega
    simp only [hj, hcat, Bool.and_eq_true, Bool.not_eq_true', beq_eq_false_iff_ne, ne_eq, Bool.and_eq_false_iff]
    refine ⟨e2, ?_⟩
    by_cases hk : j + 1 = k
    · exact Or.inr (fun c => e3 ⟨hk, c⟩)
    · exact Or.inl hk
theorem lh_2 {G : GC} {ls : List (Option Value)} {la : Array Slot} {n k : Nat} {v : Value} {w : Value} (hw : w = gv G v) {lv' : List (Nat × Value)} (hl : (k, w) :: (asc G 0 ls).filter (fun q => !(q.1 == k) && (!(q.1 == k + 1) && !(q.1 + 1 == k && q.2.category == 2))) = lv') (h : lv_has la n lv') : lv_has la n (asc G 0 (st2 ls k v)) := by
  refine ⟨h.1, h.2.1, fun q hq => h.2.2 q ?_⟩
  rw [← hl]
  obtain ⟨j, x, h1, h2, h3⟩ := (asc_mem G _ 0 q).mp hq
  rcases st2_spec ls k v j x h1 with ⟨e1, e2⟩ | ⟨e1, e2, e4, e3⟩
  · refine List.mem_cons.mpr (Or.inl ?_)
    subst e1; subst e2
    exact Prod.ext (by omega) (by rw [h3, hw])
  · refine List.mem_cons.mpr (Or.inr (List.mem_filter.mpr ⟨(asc_mem G ls 0 q).mpr ⟨j, x, e1, h2, h3⟩, ?_⟩))
    have hcat : q.2.category = x.category := by rw [h3, gv_cat]
    have hj : q.1 = j := by omega
    simp only [hj, hcat, Bool.and_eq_true, Bool.not_eq_true', beq_eq_false_iff_ne, ne_eq, Bool.and_eq_false_iff]
    refine ⟨e2, e4, ?_⟩
    by_cases hk : j + 1 = k
    · exact Or.inr (fun c => e3 ⟨hk, c⟩)
    · exact Or.inl hk
/-- the walk of a method's body, from pc on, with locals, a stack, what is made so far, a heap -/
def PW (l : Launch) (G : GC) (M : MD) (R : Room) (Fi : CX → State → Prop) (N : Nat) (pc : Nat) (ls : List (Option Value)) (st : List Value) (cs : Nat × Nat) (h : AH) : Prop :=
  ∀ (p : Program) (e : Env) (s : State) (m : MethodId) (args : Array Value) (below : List Frame) (meth : Method) (c : Code) (H : Heap) (locs : List Loc) (la : Array Slot),
    Cx l G M p s m args meth c → Rep G N cs.1 h s H → va_S (gA G) s.heap H locs → lv_has la (mL M) (asc G 0 ls) →
    W p l e R s m args below meth c H locs cs.1 cs.2 (Fi (p, e, s, m, args, below, meth, c)) (F0 m pc la (st.map (gv G)))
section RR
variable {l : Launch} {G : GC} {M : MD} {R : Room} {Fi : CX → State → Prop} {N pc : Nat} {ls : List (Option Value)} {st : List Value} {cs : Nat × Nat} {h : AH}

theorem r_iadd {x y : Int32} (hd : decode (mC M) pc = .ok (.iadd, 1)) (k : PW l G M R Fi N (pc + 1) ls (.int (x + y) :: st) cs h) : PW l G M R Fi N pc ls (.int y :: .int x :: st) cs h :=
  fun p e s m args below meth c H locs la C hr hs hl => lv_iadd C.1 C.2.1 hd (k p e s m args below meth c H locs la C hr hs hl)
theorem r_isub {x y : Int32} (hd : decode (mC M) pc = .ok (.isub, 1)) (k : PW l G M R Fi N (pc + 1) ls (.int (x - y) :: st) cs h) : PW l G M R Fi N pc ls (.int y :: .int x :: st) cs h :=
  fun p e s m args below meth c H locs la C hr hs hl => lv_isub C.1 C.2.1 hd (k p e s m args below meth c H locs la C hr hs hl)
theorem r_imul {x y : Int32} (hd : decode (mC M) pc = .ok (.imul, 1)) (k : PW l G M R Fi N (pc + 1) ls (.int (x * y) :: st) cs h) : PW l G M R Fi N pc ls (.int y :: .int x :: st) cs h :=
  fun p e s m args below meth c H locs la C hr hs hl => lv_imul C.1 C.2.1 hd (k p e s m args below meth c H locs la C hr hs hl)
theorem r_iand {x y : Int32} (hd : decode (mC M) pc = .ok (.iand, 1)) (k : PW l G M R Fi N (pc + 1) ls (.int (x &&& y) :: st) cs h) : PW l G M R Fi N pc ls (.int y :: .int x :: st) cs h :=
  fun p e s m args below meth c H locs la C hr hs hl => lv_iand C.1 C.2.1 hd (k p e s m args below meth c H locs la C hr hs hl)
theorem r_ior {x y : Int32} (hd : decode (mC M) pc = .ok (.ior, 1)) (k : PW l G M R Fi N (pc + 1) ls (.int (x ||| y) :: st) cs h) : PW l G M R Fi N pc ls (.int y :: .int x :: st) cs h :=
  fun p e s m args below meth c H locs la C hr hs hl => lv_ior C.1 C.2.1 hd (k p e s m args below meth c H locs la C hr hs hl)
theorem r_ixor {x y : Int32} (hd : decode (mC M) pc = .ok (.ixor, 1)) (k : PW l G M R Fi N (pc + 1) ls (.int (x ^^^ y) :: st) cs h) : PW l G M R Fi N pc ls (.int y :: .int x :: st) cs h :=
  fun p e s m args below meth c H locs la C hr hs hl => lv_ixor C.1 C.2.1 hd (k p e s m args below meth c H locs la C hr hs hl)
theorem r_idiv {x y : Int32} (hd : decode (mC M) pc = .ok (.idiv, 1)) (hne : ¬ y = 0) (k : PW l G M R Fi N (pc + 1) ls (.int (x / y) :: st) cs h) : PW l G M R Fi N pc ls (.int y :: .int x :: st) cs h :=
  fun p e s m args below meth c H locs la C hr hs hl => lv_idiv C.1 C.2.1 hd hne (k p e s m args below meth c H locs la C hr hs hl)
theorem r_irem {x y : Int32} (hd : decode (mC M) pc = .ok (.irem, 1)) (hne : ¬ y = 0) (k : PW l G M R Fi N (pc + 1) ls (.int (x - x / y * y) :: st) cs h) : PW l G M R Fi N pc ls (.int y :: .int x :: st) cs h :=
  fun p e s m args below meth c H locs la C hr hs hl => lv_irem C.1 C.2.1 hd hne (k p e s m args below meth c H locs la C hr hs hl)
theorem r_ineg {x : Int32} (hd : decode (mC M) pc = .ok (.ineg, 1)) (k : PW l G M R Fi N (pc + 1) ls (.int (-x) :: st) cs h) : PW l G M R Fi N pc ls (.int x :: st) cs h :=
  fun p e s m args below meth c H locs la C hr hs hl => lv_ineg C.1 C.2.1 hd (k p e s m args below meth c H locs la C hr hs hl)
theorem r_ishl {x y : Int32} (hd : decode (mC M) pc = .ok (.ishl, 1)) (k : PW l G M R Fi N (pc + 1) ls (.int (x <<< (y &&& 31)) :: st) cs h) : PW l G M R Fi N pc ls (.int y :: .int x :: st) cs h :=
  fun p e s m args below meth c H locs la C hr hs hl => lv_ishl C.1 C.2.1 hd (k p e s m args below meth c H locs la C hr hs hl)
theorem r_ishr {x y : Int32} (hd : decode (mC M) pc = .ok (.ishr, 1)) (k : PW l G M R Fi N (pc + 1) ls (.int (x >>> (y &&& 31)) :: st) cs h) : PW l G M R Fi N pc ls (.int y :: .int x :: st) cs h :=
  fun p e s m args below meth c H locs la C hr hs hl => lv_ishr C.1 C.2.1 hd (k p e s m args below meth c H locs la C hr hs hl)
theorem r_iushr {x y : Int32} (hd : decode (mC M) pc = .ok (.iushr, 1)) (k : PW l G M R Fi N (pc + 1) ls (.int ((x.toUInt32 >>> (y.toUInt32 &&& Int32.toUInt32 31)).toInt32) :: st) cs h) : PW l G M R Fi N pc ls (.int y :: .int x :: st) cs h :=
  fun p e s m args below meth c H locs la C hr hs hl => lv_iushr C.1 C.2.1 hd rfl (k p e s m args below meth c H locs la C hr hs hl)
theorem r_i2l {x : Int32} (hd : decode (mC M) pc = .ok (.i2l, 1)) (k : PW l G M R Fi N (pc + 1) ls (.long x.toInt64 :: st) cs h) : PW l G M R Fi N pc ls (.int x :: st) cs h :=
  fun p e s m args below meth c H locs la C hr hs hl => lv_i2l C.1 C.2.1 hd rfl (k p e s m args below meth c H locs la C hr hs hl)
theorem r_l2i {x : Int64} (hd : decode (mC M) pc = .ok (.l2i, 1)) (k : PW l G M R Fi N (pc + 1) ls (.int x.toInt32 :: st) cs h) : PW l G M R Fi N pc ls (.long x :: st) cs h :=
  fun p e s m args below meth c H locs la C hr hs hl => lv_l2i C.1 C.2.1 hd rfl (k p e s m args below meth c H locs la C hr hs hl)
theorem r_i2b {x : Int32} (hd : decode (mC M) pc = .ok (.i2b, 1)) (k : PW l G M R Fi N (pc + 1) ls (.int x.toInt8.toInt32 :: st) cs h) : PW l G M R Fi N pc ls (.int x :: st) cs h :=
  fun p e s m args below meth c H locs la C hr hs hl => lv_i2b C.1 C.2.1 hd rfl (k p e s m args below meth c H locs la C hr hs hl)
theorem r_ladd {x y : Int64} (hd : decode (mC M) pc = .ok (.ladd, 1)) (k : PW l G M R Fi N (pc + 1) ls (.long (x + y) :: st) cs h) : PW l G M R Fi N pc ls (.long y :: .long x :: st) cs h :=
  fun p e s m args below meth c H locs la C hr hs hl => lv_ladd C.1 C.2.1 hd (k p e s m args below meth c H locs la C hr hs hl)
theorem r_lsub {x y : Int64} (hd : decode (mC M) pc = .ok (.lsub, 1)) (k : PW l G M R Fi N (pc + 1) ls (.long (x - y) :: st) cs h) : PW l G M R Fi N pc ls (.long y :: .long x :: st) cs h :=
  fun p e s m args below meth c H locs la C hr hs hl => lv_lsub C.1 C.2.1 hd (k p e s m args below meth c H locs la C hr hs hl)
theorem r_lcmp {x y : Int64} (hd : decode (mC M) pc = .ok (.lcmp, 1)) (k : PW l G M R Fi N (pc + 1) ls (.int (lg_cmp x y) :: st) cs h) : PW l G M R Fi N pc ls (.long y :: .long x :: st) cs h :=
  fun p e s m args below meth c H locs la C hr hs hl => W.lcmp C.1 C.2.1 hd (k p e s m args below meth c H locs la C hr hs hl)
theorem r_i2d {x : Int32} (hd : decode (mC M) pc = .ok (.i2d, 1)) (k : PW l G M R Fi N (pc + 1) ls (.double (FP.i2d x) :: st) cs h) : PW l G M R Fi N pc ls (.int x :: st) cs h :=
  fun p e s m args below meth c H locs la C hr hs hl => lv_i2d C.1 C.2.1 hd (k p e s m args below meth c H locs la C hr hs hl)
theorem r_l2d {x : Int64} (hd : decode (mC M) pc = .ok (.l2d, 1)) (k : PW l G M R Fi N (pc + 1) ls (.double (FP.l2d x) :: st) cs h) : PW l G M R Fi N pc ls (.long x :: st) cs h :=
  fun p e s m args below meth c H locs la C hr hs hl => lv_l2d C.1 C.2.1 hd (k p e s m args below meth c H locs la C hr hs hl)
theorem r_l2f {x : Int64} (hd : decode (mC M) pc = .ok (.l2f, 1)) (k : PW l G M R Fi N (pc + 1) ls (.float (FP.l2f x) :: st) cs h) : PW l G M R Fi N pc ls (.long x :: st) cs h :=
  fun p e s m args below meth c H locs la C hr hs hl => lv_l2f C.1 C.2.1 hd (k p e s m args below meth c H locs la C hr hs hl)
theorem r_ddiv {x y : UInt64} (hd : decode (mC M) pc = .ok (.ddiv, 1)) (hne : vf_n64 (FP.ddiv x y)) (k : PW l G M R Fi N (pc + 1) ls (.double (FP.ddiv x y) :: st) cs h) : PW l G M R Fi N pc ls (.double y :: .double x :: st) cs h :=
  fun p e s m args below meth c H locs la C hr hs hl => lv_ddiv C.1 C.2.1 hd hne (k p e s m args below meth c H locs la C hr hs hl)
theorem r_fdiv {x y : UInt32} (hd : decode (mC M) pc = .ok (.fdiv, 1)) (hne : vf_n32 (FP.fdiv x y)) (k : PW l G M R Fi N (pc + 1) ls (.float (FP.fdiv x y) :: st) cs h) : PW l G M R Fi N pc ls (.float y :: .float x :: st) cs h :=
  fun p e s m args below meth c H locs la C hr hs hl => lv_fdiv C.1 C.2.1 hd hne (k p e s m args below meth c H locs la C hr hs hl)
theorem r_f2d {x : UInt32} (hd : decode (mC M) pc = .ok (.f2d, 1)) (hne : vf_n64 (FP.f2d x)) (k : PW l G M R Fi N (pc + 1) ls (.double (FP.f2d x) :: st) cs h) : PW l G M R Fi N pc ls (.float x :: st) cs h :=
  fun p e s m args below meth c H locs la C hr hs hl => lv_f2d C.1 C.2.1 hd hne (k p e s m args below meth c H locs la C hr hs hl)
theorem r_dcmp {x y : UInt64} {op : CmpOp} (hd : decode (mC M) pc = .ok (.dcmp op, 1)) (k : PW l G M R Fi N (pc + 1) ls (.int (Op.cmpValue (FP.dcmp x y) op) :: st) cs h) : PW l G M R Fi N pc ls (.double y :: .double x :: st) cs h :=
  fun p e s m args below meth c H locs la C hr hs hl => lv_dcmp C.1 C.2.1 hd (k p e s m args below meth c H locs la C hr hs hl)
theorem r_fcmp {x y : UInt32} {op : CmpOp} (hd : decode (mC M) pc = .ok (.fcmp op, 1)) (k : PW l G M R Fi N (pc + 1) ls (.int (Op.cmpValue (FP.fcmp x y) op) :: st) cs h) : PW l G M R Fi N pc ls (.float y :: .float x :: st) cs h :=
  fun p e s m args below meth c H locs la C hr hs hl => lv_fcmp C.1 C.2.1 hd (k p e s m args below meth c H locs la C hr hs hl)
theorem r_dconst0 (hd : decode (mC M) pc = .ok (.dconst 0, 1)) (k : PW l G M R Fi N (pc + 1) ls (.double FP.dconst0 :: st) cs h) : PW l G M R Fi N pc ls ( st) cs h :=
  fun p e s m args below meth c H locs la C hr hs hl => lv_dconst0 C.1 C.2.1 hd (k p e s m args below meth c H locs la C hr hs hl)
theorem r_dconst1 (hd : decode (mC M) pc = .ok (.dconst 1, 1)) (k : PW l G M R Fi N (pc + 1) ls (.double FP.dconst1 :: st) cs h) : PW l G M R Fi N pc ls ( st) cs h :=
  fun p e s m args below meth c H locs la C hr hs hl => lv_dconst1 C.1 C.2.1 hd (k p e s m args below meth c H locs la C hr hs hl)
theorem r_fconst0 (hd : decode (mC M) pc = .ok (.fconst 0, 1)) (k : PW l G M R Fi N (pc + 1) ls (.float FP.fconst0 :: st) cs h) : PW l G M R Fi N pc ls ( st) cs h :=
  fun p e s m args below meth c H locs la C hr hs hl => lv_fconst0 C.1 C.2.1 hd (k p e s m args below meth c H locs la C hr hs hl)
theorem r_iconst {n : Int} (v : Int32) (hd : decode (mC M) pc = .ok (.iconst n, 1)) (hv : Int32.ofInt n = v) (k : PW l G M R Fi N (pc + 1) ls (.int v :: st) cs h) : PW l G M R Fi N pc ls ( st) cs h :=
  fun p e s m args below meth c H locs la C hr hs hl => lv_iconst C.1 C.2.1 hd hv (k p e s m args below meth c H locs la C hr hs hl)
theorem r_bipush {n : Int} (v : Int32) (hd : decode (mC M) pc = .ok (.bipush n, 2)) (hv : (Int8.ofInt n).toInt32 = v) (k : PW l G M R Fi N (pc + 2) ls (.int v :: st) cs h) : PW l G M R Fi N pc ls ( st) cs h :=
  fun p e s m args below meth c H locs la C hr hs hl => lv_bipush C.1 C.2.1 hd hv (k p e s m args below meth c H locs la C hr hs hl)
theorem r_sipush {n : Int} (v : Int32) (hd : decode (mC M) pc = .ok (.sipush n, 3)) (hv : (Int16.ofInt n).toInt32 = v) (k : PW l G M R Fi N (pc + 3) ls (.int v :: st) cs h) : PW l G M R Fi N pc ls ( st) cs h :=
  fun p e s m args below meth c H locs la C hr hs hl => lv_sipush C.1 C.2.1 hd hv (k p e s m args below meth c H locs la C hr hs hl)
theorem r_lconst {n : Fin 2} (v : Int64) (hd : decode (mC M) pc = .ok (.lconst n, 1)) (hv : Int64.ofNat (n : Nat) = v) (k : PW l G M R Fi N (pc + 1) ls (.long v :: st) cs h) : PW l G M R Fi N pc ls ( st) cs h :=
  fun p e s m args below meth c H locs la C hr hs hl => lv_lconst C.1 C.2.1 hd hv (k p e s m args below meth c H locs la C hr hs hl)
theorem r_dup {a : Value} (hd : decode (mC M) pc = .ok (.dup, 1)) (ha : a.category = 1) (k : PW l G M R Fi N (pc + 1) ls (a :: a :: st) cs h) : PW l G M R Fi N pc ls (a :: st) cs h :=
  fun p e s m args below meth c H locs la C hr hs hl => lv_dup C.1 C.2.1 hd ((gv_cat G a).trans ha) (k p e s m args below meth c H locs la C hr hs hl)
theorem r_pop {a : Value} (hd : decode (mC M) pc = .ok (.pop, 1)) (ha : a.category = 1) (k : PW l G M R Fi N (pc + 1) ls ( st) cs h) : PW l G M R Fi N pc ls (a :: st) cs h :=
  fun p e s m args below meth c H locs la C hr hs hl => lv_pop C.1 C.2.1 hd ((gv_cat G a).trans ha) (k p e s m args below meth c H locs la C hr hs hl)
theorem r_dup2 {a b : Value} (hd : decode (mC M) pc = .ok (.dup2, 1)) (ha : a.category = 1) (hb : b.category = 1) (k : PW l G M R Fi N (pc + 1) ls (a :: b :: a :: b :: st) cs h) : PW l G M R Fi N pc ls (a :: b :: st) cs h :=
  fun p e s m args below meth c H locs la C hr hs hl => lv_dup2_11 C.1 C.2.1 hd ((gv_cat G a).trans ha) ((gv_cat G b).trans hb) (k p e s m args below meth c H locs la C hr hs hl)
theorem r_dup2_2 {a : Value} (hd : decode (mC M) pc = .ok (.dup2, 1)) (ha : a.category = 2) (k : PW l G M R Fi N (pc + 1) ls (a :: a :: st) cs h) : PW l G M R Fi N pc ls (a :: st) cs h :=
  fun p e s m args below meth c H locs la C hr hs hl => lv_dup2_2 C.1 C.2.1 hd ((gv_cat G a).trans ha) (k p e s m args below meth c H locs la C hr hs hl)
theorem r_dup_x1 {a b : Value} (hd : decode (mC M) pc = .ok (.dup_x1, 1)) (ha : a.category = 1) (hb : b.category = 1) (k : PW l G M R Fi N (pc + 1) ls (a :: b :: a :: st) cs h) : PW l G M R Fi N pc ls (a :: b :: st) cs h :=
  fun p e s m args below meth c H locs la C hr hs hl => lv_dup_x1 C.1 C.2.1 hd ((gv_cat G a).trans ha) ((gv_cat G b).trans hb) (k p e s m args below meth c H locs la C hr hs hl)
theorem r_if_eq {x : Int32} {off : Int} (tgt : Nat) (hd : decode (mC M) pc = .ok (.ifCond .eq off, 3)) (ht : (pc : Int) + off = (tgt : Int)) (kt : x = 0 → PW l G M R Fi N tgt ls st cs h) (kf : ¬ x = 0 → PW l G M R Fi N (pc + 3) ls st cs h) : PW l G M R Fi N pc ls (.int x :: st) cs h :=
  fun p e s m args below meth c H locs la C hr hs hl => lv_if_eq C.1 C.2.1 hd ht (fun q => kt q p e s m args below meth c H locs la C hr hs hl) (fun q => kf q p e s m args below meth c H locs la C hr hs hl)
theorem r_if_ne {x : Int32} {off : Int} (tgt : Nat) (hd : decode (mC M) pc = .ok (.ifCond .ne off, 3)) (ht : (pc : Int) + off = (tgt : Int)) (kt : ¬ x = 0 → PW l G M R Fi N tgt ls st cs h) (kf : x = 0 → PW l G M R Fi N (pc + 3) ls st cs h) : PW l G M R Fi N pc ls (.int x :: st) cs h :=
  fun p e s m args below meth c H locs la C hr hs hl => lv_if_ne C.1 C.2.1 hd ht (fun q => kt q p e s m args below meth c H locs la C hr hs hl) (fun q => kf q p e s m args below meth c H locs la C hr hs hl)
theorem r_if_lt {x : Int32} {off : Int} (tgt : Nat) (hd : decode (mC M) pc = .ok (.ifCond .lt off, 3)) (ht : (pc : Int) + off = (tgt : Int)) (kt : x < 0 → PW l G M R Fi N tgt ls st cs h) (kf : ¬ x < 0 → PW l G M R Fi N (pc + 3) ls st cs h) : PW l G M R Fi N pc ls (.int x :: st) cs h :=
  fun p e s m args below meth c H locs la C hr hs hl => lv_if_lt C.1 C.2.1 hd ht (fun q => kt q p e s m args below meth c H locs la C hr hs hl) (fun q => kf q p e s m args below meth c H locs la C hr hs hl)
theorem r_if_ge {x : Int32} {off : Int} (tgt : Nat) (hd : decode (mC M) pc = .ok (.ifCond .ge off, 3)) (ht : (pc : Int) + off = (tgt : Int)) (kt : 0 ≤ x → PW l G M R Fi N tgt ls st cs h) (kf : ¬ 0 ≤ x → PW l G M R Fi N (pc + 3) ls st cs h) : PW l G M R Fi N pc ls (.int x :: st) cs h :=
  fun p e s m args below meth c H locs la C hr hs hl => lv_if_ge C.1 C.2.1 hd ht (fun q => kt q p e s m args below meth c H locs la C hr hs hl) (fun q => kf q p e s m args below meth c H locs la C hr hs hl)
theorem r_if_gt {x : Int32} {off : Int} (tgt : Nat) (hd : decode (mC M) pc = .ok (.ifCond .gt off, 3)) (ht : (pc : Int) + off = (tgt : Int)) (kt : 0 < x → PW l G M R Fi N tgt ls st cs h) (kf : ¬ 0 < x → PW l G M R Fi N (pc + 3) ls st cs h) : PW l G M R Fi N pc ls (.int x :: st) cs h :=
  fun p e s m args below meth c H locs la C hr hs hl => lv_if_gt C.1 C.2.1 hd ht (fun q => kt q p e s m args below meth c H locs la C hr hs hl) (fun q => kf q p e s m args below meth c H locs la C hr hs hl)
theorem r_if_le {x : Int32} {off : Int} (tgt : Nat) (hd : decode (mC M) pc = .ok (.ifCond .le off, 3)) (ht : (pc : Int) + off = (tgt : Int)) (kt : x ≤ 0 → PW l G M R Fi N tgt ls st cs h) (kf : ¬ x ≤ 0 → PW l G M R Fi N (pc + 3) ls st cs h) : PW l G M R Fi N pc ls (.int x :: st) cs h :=
  fun p e s m args below meth c H locs la C hr hs hl => lv_if_le C.1 C.2.1 hd ht (fun q => kt q p e s m args below meth c H locs la C hr hs hl) (fun q => kf q p e s m args below meth c H locs la C hr hs hl)
theorem r_icmp_eq {x y : Int32} {off : Int} (tgt : Nat) (hd : decode (mC M) pc = .ok (.if_icmp .eq off, 3)) (ht : (pc : Int) + off = (tgt : Int)) (kt : x = y → PW l G M R Fi N tgt ls st cs h) (kf : ¬ x = y → PW l G M R Fi N (pc + 3) ls st cs h) : PW l G M R Fi N pc ls (.int y :: .int x :: st) cs h :=
  fun p e s m args below meth c H locs la C hr hs hl => lv_icmp_eq C.1 C.2.1 hd ht (fun q => kt q p e s m args below meth c H locs la C hr hs hl) (fun q => kf q p e s m args below meth c H locs la C hr hs hl)
theorem r_icmp_ne {x y : Int32} {off : Int} (tgt : Nat) (hd : decode (mC M) pc = .ok (.if_icmp .ne off, 3)) (ht : (pc : Int) + off = (tgt : Int)) (kt : ¬ x = y → PW l G M R Fi N tgt ls st cs h) (kf : x = y → PW l G M R Fi N (pc + 3) ls st cs h) : PW l G M R Fi N pc ls (.int y :: .int x :: st) cs h :=
  fun p e s m args below meth c H locs la C hr hs hl => lv_icmp_ne C.1 C.2.1 hd ht (fun q => kt q p e s m args below meth c H locs la C hr hs hl) (fun q => kf q p e s m args below meth c H locs la C hr hs hl)
theorem r_icmp_lt {x y : Int32} {off : Int} (tgt : Nat) (hd : decode (mC M) pc = .ok (.if_icmp .lt off, 3)) (ht : (pc : Int) + off = (tgt : Int)) (kt : x < y → PW l G M R Fi N tgt ls st cs h) (kf : ¬ x < y → PW l G M R Fi N (pc + 3) ls st cs h) : PW l G M R Fi N pc ls (.int y :: .int x :: st) cs h :=
  fun p e s m args below meth c H locs la C hr hs hl => lv_icmp_lt C.1 C.2.1 hd ht (fun q => kt q p e s m args below meth c H locs la C hr hs hl) (fun q => kf q p e s m args below meth c H locs la C hr hs hl)
theorem r_icmp_ge {x y : Int32} {off : Int} (tgt : Nat) (hd : decode (mC M) pc = .ok (.if_icmp .ge off, 3)) (ht : (pc : Int) + off = (tgt : Int)) (kt : y ≤ x → PW l G M R Fi N tgt ls st cs h) (kf : ¬ y ≤ x → PW l G M R Fi N (pc + 3) ls st cs h) : PW l G M R Fi N pc ls (.int y :: .int x :: st) cs h :=
  fun p e s m args below meth c H locs la C hr hs hl => lv_icmp_ge C.1 C.2.1 hd ht (fun q => kt q p e s m args below meth c H locs la C hr hs hl) (fun q => kf q p e s m args below meth c H locs la C hr hs hl)
theorem r_icmp_gt {x y : Int32} {off : Int} (tgt : Nat) (hd : decode (mC M) pc = .ok (.if_icmp .gt off, 3)) (ht : (pc : Int) + off = (tgt : Int)) (kt : y < x → PW l G M R Fi N tgt ls st cs h) (kf : ¬ y < x → PW l G M R Fi N (pc + 3) ls st cs h) : PW l G M R Fi N pc ls (.int y :: .int x :: st) cs h :=
  fun p e s m args below meth c H locs la C hr hs hl => lv_icmp_gt C.1 C.2.1 hd ht (fun q => kt q p e s m args below meth c H locs la C hr hs hl) (fun q => kf q p e s m args below meth c H locs la C hr hs hl)
theorem r_icmp_le {x y : Int32} {off : Int} (tgt : Nat) (hd : decode (mC M) pc = .ok (.if_icmp .le off, 3)) (ht : (pc : Int) + off = (tgt : Int)) (kt : x ≤ y → PW l G M R Fi N tgt ls st cs h) (kf : ¬ x ≤ y → PW l G M R Fi N (pc + 3) ls st cs h) : PW l G M R Fi N pc ls (.int y :: .int x :: st) cs h :=
  fun p e s m args below meth c H locs la C hr hs hl => lv_icmp_le C.1 C.2.1 hd ht (fun q => kt q p e s m args below meth c H locs la C hr hs hl) (fun q => kf q p e s m args below meth c H locs la C hr hs hl)
theorem r_goto {off : Int} (tgt : Nat) (hd : decode (mC M) pc = .ok (.goto off, 3)) (ht : (pc : Int) + off = (tgt : Int)) (k : PW l G M R Fi N tgt ls st cs h) : PW l G M R Fi N pc ls st cs h :=
  fun p e s m args below meth c H locs la C hr hs hl => lv_goto C.1 C.2.1 hd ht (k p e s m args below meth c H locs la C hr hs hl)
theorem r_tabIn {dflt lo hi : Int} {offs : Array Int} {len : Nat} {x : Int32} {off : Int} (tgt : Nat) (hd : decode (mC M) pc = .ok (.tableswitch dflt lo hi offs, len)) (h1 : ¬ x.toInt < lo) (h2 : ¬ hi < x.toInt) (ho : offs[(x.toInt - lo).toNat]? = some off) (ht : (pc : Int) + off = (tgt : Int)) (k : PW l G M R Fi N tgt ls st cs h) : PW l G M R Fi N pc ls (.int x :: st) cs h :=
  fun p e s m args below meth c H locs la C hr hs hl => lv_tableIn C.1 C.2.1 hd h1 h2 ho ht (k p e s m args below meth c H locs la C hr hs hl)
theorem r_tabOut {dflt lo hi : Int} {offs : Array Int} {len : Nat} {x : Int32} (tgt : Nat) (hd : decode (mC M) pc = .ok (.tableswitch dflt lo hi offs, len)) (h1 : x.toInt < lo ∨ hi < x.toInt) (ht : (pc : Int) + dflt = (tgt : Int)) (k : PW l G M R Fi N tgt ls st cs h) : PW l G M R Fi N pc ls (.int x :: st) cs h :=
  fun p e s m args below meth c H locs la C hr hs hl => lv_tableOut C.1 C.2.1 hd h1 ht (k p e s m args below meth c H locs la C hr hs hl)
theorem r_lookup {dflt : Int} {ps : Array (Int × Int)} {len : Nat} {x : Int32} {off : Int} (tgt : Nat) (hd : decode (mC M) pc = .ok (.lookupswitch dflt ps, len)) (hp : (ps.toList.zip (ps.toList.drop 1)).all (fun (a, next) => a.1 < next.1) = true) (ho : Op.lookupswitch.offset ps.toList dflt x.toInt = off) (ht : (pc : Int) + off = (tgt : Int)) (k : PW l G M R Fi N tgt ls st cs h) : PW l G M R Fi N pc ls (.int x :: st) cs h :=
  fun p e s m args below meth c H locs la C hr hs hl => lv_lookup C.1 C.2.1 hd hp ho ht (k p e s m args below meth c H locs la C hr hs hl)
theorem r_iload_n {k : Fin 4} {x : Int32} (hd : decode (mC M) pc = .ok (.iload_n k, 1)) (hv : ls[(k : Nat)]? = some (some (.int x))) (kk : PW l G M R Fi N (pc + 1) ls (.int x :: st) cs h) : PW l G M R Fi N pc ls st cs h :=
  fun p e s m args below meth c H locs la C hr hs hl => lv_iload_n C.1 C.2.1 hd rfl (asc_at hl hv) (kk p e s m args below meth c H locs la C hr hs hl)
theorem r_iload {i : Nat} {x : Int32} (hd : decode (mC M) pc = .ok (.iload i, 2)) (hv : ls[i]? = some (some (.int x))) (kk : PW l G M R Fi N (pc + 2) ls (.int x :: st) cs h) : PW l G M R Fi N pc ls st cs h :=
  fun p e s m args below meth c H locs la C hr hs hl => lv_iload C.1 C.2.1 hd (asc_at hl hv) (kk p e s m args below meth c H locs la C hr hs hl)
theorem r_istore_n {k : Fin 4} {x : Int32} {ls2 : List (Option Value)} (hd : decode (mC M) pc = .ok (.istore_n k, 1)) (hn : (k : Nat) < mL M) (hs2 : st1 ls k (.int x) = ls2) (kk : PW l G M R Fi N (pc + 1) ls2 st cs h) : PW l G M R Fi N pc ls (.int x :: st) cs h := by
  subst hs2
  exact fun p e s m args below meth c H locs la C hr hs hl => lv_istore_n C.1 C.2.1 hd rfl hl hn rfl (fun la2 hl2 => kk p e s m args below meth c H locs la2 C hr hs (lh_1 rfl rfl rfl hl2))
theorem r_istore {i : Nat} {x : Int32} {ls2 : List (Option Value)} (hd : decode (mC M) pc = .ok (.istore i, 2)) (hn : i < mL M) (hs2 : st1 ls i (.int x) = ls2) (kk : PW l G M R Fi N (pc + 2) ls2 st cs h) : PW l G M R Fi N pc ls (.int x :: st) cs h := by
  subst hs2
  exact fun p e s m args below meth c H locs la C hr hs hl => lv_istore C.1 C.2.1 hd hl hn rfl (fun la2 hl2 => kk p e s m args below meth c H locs la2 C hr hs (lh_1 rfl rfl rfl hl2))
theorem r_lload_n {k : Fin 4} {x : Int64} (hd : decode (mC M) pc = .ok (.lload_n k, 1)) (hv : ls[(k : Nat)]? = some (some (.long x))) (kk : PW l G M R Fi N (pc + 1) ls (.long x :: st) cs h) : PW l G M R Fi N pc ls st cs h :=
  fun p e s m args below meth c H locs la C hr hs hl => lv_lload_n C.1 C.2.1 hd rfl (asc_at hl hv) (kk p e s m args below meth c H locs la C hr hs hl)
theorem r_lload {i : Nat} {x : Int64} (hd : decode (mC M) pc = .ok (.lload i, 2)) (hv : ls[i]? = some (some (.long x))) (kk : PW l G M R Fi N (pc + 2) ls (.long x :: st) cs h) : PW l G M R Fi N pc ls st cs h :=
  fun p e s m args below meth c H locs la C hr hs hl => lv_lload C.1 C.2.1 hd (asc_at hl hv) (kk p e s m args below meth c H locs la C hr hs hl)
theorem r_lstore_n {k : Fin 4} {x : Int64} {ls2 : List (Option Value)} (hd : decode (mC M) pc = .ok (.lstore_n k, 1)) (hn : (k : Nat) + 1 < mL M) (hs2 : st2 ls k (.long x) = ls2) (kk : PW l G M R Fi N (pc + 1) ls2 st cs h) : PW l G M R Fi N pc ls (.long x :: st) cs h := by
  subst hs2
  exact fun p e s m args below meth c H locs la C hr hs hl => lv_lstore_n C.1 C.2.1 hd rfl hl hn rfl (fun la2 hl2 => kk p e s m args below meth c H locs la2 C hr hs (lh_2 rfl rfl hl2))
theorem r_lstore {i : Nat} {x : Int64} {ls2 : List (Option Value)} (hd : decode (mC M) pc = .ok (.lstore i, 2)) (hn : i + 1 < mL M) (hs2 : st2 ls i (.long x) = ls2) (kk : PW l G M R Fi N (pc + 2) ls2 st cs h) : PW l G M R Fi N pc ls (.long x :: st) cs h := by
  subst hs2
  exact fun p e s m args below meth c H locs la C hr hs hl => lv_lstore C.1 C.2.1 hd hl hn rfl (fun la2 hl2 => kk p e s m args below meth c H locs la2 C hr hs (lh_2 rfl rfl hl2))
theorem r_dload_n {k : Fin 4} {x : UInt64} (hd : decode (mC M) pc = .ok (.dload_n k, 1)) (hv : ls[(k : Nat)]? = some (some (.double x))) (kk : PW l G M R Fi N (pc + 1) ls (.double x :: st) cs h) : PW l G M R Fi N pc ls st cs h :=
  fun p e s m args below meth c H locs la C hr hs hl => lv_dload_n C.1 C.2.1 hd rfl (asc_at hl hv) (kk p e s m args below meth c H locs la C hr hs hl)
theorem r_dload {i : Nat} {x : UInt64} (hd : decode (mC M) pc = .ok (.dload i, 2)) (hv : ls[i]? = some (some (.double x))) (kk : PW l G M R Fi N (pc + 2) ls (.double x :: st) cs h) : PW l G M R Fi N pc ls st cs h :=
  fun p e s m args below meth c H locs la C hr hs hl => lv_dload C.1 C.2.1 hd (asc_at hl hv) (kk p e s m args below meth c H locs la C hr hs hl)
theorem r_dstore_n {k : Fin 4} {x : UInt64} {ls2 : List (Option Value)} (hd : decode (mC M) pc = .ok (.dstore_n k, 1)) (hn : (k : Nat) + 1 < mL M) (hs2 : st2 ls k (.double x) = ls2) (kk : PW l G M R Fi N (pc + 1) ls2 st cs h) : PW l G M R Fi N pc ls (.double x :: st) cs h := by
  subst hs2
  exact fun p e s m args below meth c H locs la C hr hs hl => lv_dstore_n C.1 C.2.1 hd rfl hl hn rfl (fun la2 hl2 => kk p e s m args below meth c H locs la2 C hr hs (lh_2 rfl rfl hl2))
theorem r_dstore {i : Nat} {x : UInt64} {ls2 : List (Option Value)} (hd : decode (mC M) pc = .ok (.dstore i, 2)) (hn : i + 1 < mL M) (hs2 : st2 ls i (.double x) = ls2) (kk : PW l G M R Fi N (pc + 2) ls2 st cs h) : PW l G M R Fi N pc ls (.double x :: st) cs h := by
  subst hs2
  exact fun p e s m args below meth c H locs la C hr hs hl => lv_dstore C.1 C.2.1 hd hl hn rfl (fun la2 hl2 => kk p e s m args below meth c H locs la2 C hr hs (lh_2 rfl rfl hl2))
theorem r_fload_n {k : Fin 4} {x : UInt32} (hd : decode (mC M) pc = .ok (.fload_n k, 1)) (hv : ls[(k : Nat)]? = some (some (.float x))) (kk : PW l G M R Fi N (pc + 1) ls (.float x :: st) cs h) : PW l G M R Fi N pc ls st cs h :=
  fun p e s m args below meth c H locs la C hr hs hl => lv_fload_n C.1 C.2.1 hd rfl (asc_at hl hv) (kk p e s m args below meth c H locs la C hr hs hl)
theorem r_fload {i : Nat} {x : UInt32} (hd : decode (mC M) pc = .ok (.fload i, 2)) (hv : ls[i]? = some (some (.float x))) (kk : PW l G M R Fi N (pc + 2) ls (.float x :: st) cs h) : PW l G M R Fi N pc ls st cs h :=
  fun p e s m args below meth c H locs la C hr hs hl => lv_fload C.1 C.2.1 hd (asc_at hl hv) (kk p e s m args below meth c H locs la C hr hs hl)
theorem r_fstore_n {k : Fin 4} {x : UInt32} {ls2 : List (Option Value)} (hd : decode (mC M) pc = .ok (.fstore_n k, 1)) (hn : (k : Nat) < mL M) (hs2 : st1 ls k (.float x) = ls2) (kk : PW l G M R Fi N (pc + 1) ls2 st cs h) : PW l G M R Fi N pc ls (.float x :: st) cs h := by
  subst hs2
  exact fun p e s m args below meth c H locs la C hr hs hl => lv_fstore_n C.1 C.2.1 hd rfl hl hn rfl (fun la2 hl2 => kk p e s m args below meth c H locs la2 C hr hs (lh_1 rfl rfl rfl hl2))
theorem r_fstore {i : Nat} {x : UInt32} {ls2 : List (Option Value)} (hd : decode (mC M) pc = .ok (.fstore i, 2)) (hn : i < mL M) (hs2 : st1 ls i (.float x) = ls2) (kk : PW l G M R Fi N (pc + 2) ls2 st cs h) : PW l G M R Fi N pc ls (.float x :: st) cs h := by
  subst hs2
  exact fun p e s m args below meth c H locs la C hr hs hl => lv_fstore C.1 C.2.1 hd hl hn rfl (fun la2 hl2 => kk p e s m args below meth c H locs la2 C hr hs (lh_1 rfl rfl rfl hl2))
theorem r_aload_n {k : Fin 4} {x : Nat} (hd : decode (mC M) pc = .ok (.aload_n k, 1)) (hv : ls[(k : Nat)]? = some (some (.ref x))) (kk : PW l G M R Fi N (pc + 1) ls (.ref x :: st) cs h) : PW l G M R Fi N pc ls st cs h :=
  fun p e s m args below meth c H locs la C hr hs hl => lv_aload_n C.1 C.2.1 hd rfl (asc_at hl hv) (kk p e s m args below meth c H locs la C hr hs hl)
theorem r_aload {i : Nat} {x : Nat} (hd : decode (mC M) pc = .ok (.aload i, 2)) (hv : ls[i]? = some (some (.ref x))) (kk : PW l G M R Fi N (pc + 2) ls (.ref x :: st) cs h) : PW l G M R Fi N pc ls st cs h :=
  fun p e s m args below meth c H locs la C hr hs hl => lv_aload C.1 C.2.1 hd (asc_at hl hv) (kk p e s m args below meth c H locs la C hr hs hl)
theorem r_astore_n {k : Fin 4} {x : Nat} {ls2 : List (Option Value)} (hd : decode (mC M) pc = .ok (.astore_n k, 1)) (hn : (k : Nat) < mL M) (hs2 : st1 ls k (.ref x) = ls2) (kk : PW l G M R Fi N (pc + 1) ls2 st cs h) : PW l G M R Fi N pc ls (.ref x :: st) cs h := by
  subst hs2
  exact fun p e s m args below meth c H locs la C hr hs hl => lv_astore_n C.1 C.2.1 hd rfl hl hn rfl (fun la2 hl2 => kk p e s m args below meth c H locs la2 C hr hs (lh_1 rfl rfl rfl hl2))
theorem r_astore {i : Nat} {x : Nat} {ls2 : List (Option Value)} (hd : decode (mC M) pc = .ok (.astore i, 2)) (hn : i < mL M) (hs2 : st1 ls i (.ref x) = ls2) (kk : PW l G M R Fi N (pc + 2) ls2 st cs h) : PW l G M R Fi N pc ls (.ref x :: st) cs h := by
  subst hs2
  exact fun p e s m args below meth c H locs la C hr hs hl => lv_astore C.1 C.2.1 hd hl hn rfl (fun la2 hl2 => kk p e s m args below meth c H locs la2 C hr hs (lh_1 rfl rfl rfl hl2))
theorem r_iinc {i : Nat} {n : Int} {x : Int32} {ls2 : List (Option Value)} (v : Int32) (hn9 : Int32.ofInt n = v) (hd : decode (mC M) pc = .ok (.iinc i n, 3)) (hv : ls[i]? = some (some (.int x))) (hn : i < mL M) (hs2 : st1 ls i (.int (x + v)) = ls2) (kk : PW l G M R Fi N (pc + 3) ls2 st cs h) : PW l G M R Fi N pc ls st cs h := by
  subst hs2; subst hn9
  intro p e s m args below meth c H locs la C hr hs hl
  obtain ⟨k, hk⟩ := List.getElem?_of_mem ((asc_mem G ls 0 (i, gv G (.int x))).mpr ⟨i, .int x, hv, by simp, rfl⟩)
  exact lv_iinc C.1 C.2.1 hd hl hk rfl hn rfl (fun la2 hl2 => kk p e s m args below meth c H locs la2 C hr hs (lh_1 rfl rfl rfl hl2))
end RR
