-- what holds at the law's entry
abbrev sFl : List Cond := flatC (Jvm.Cond.and given_1 narrow_1)
def sOw : List (String × Nat) := [("PoolScaler$SetupReader", 195), ("PoolScaler$SetupReader", 197), ("PoolScaler$SetupReader", 199), ("PoolScaler$SetupReader", 201), ("PoolScaler$SetupReader", 202), ("PoolScaler$SetupReader", 203), ("PoolScaler$SetupReader", 204), ("PoolScaler$SetupReader", 205), ("PoolScaler$SetupReader", 206), ("PoolScaler$SetupReader", 208), ("PoolScaler$SetupReader", 210), ("PoolScaler$SetupReader", 212), ("PoolScaler$SetupReader", 142), ("PoolScaler$SetupReader", 151), ("PoolScaler$SetupReader", 153), ("PoolScaler$SetupReader", 158), ("PoolScaler$SetupReader", 163), ("PoolScaler$SetupReader", 165), ("PoolScaler", 107), ("PoolScaler", 387), ("PoolScaler", 390), ("PoolScaler", 161), ("PoolScaler", 183), ("PoolScaler", 191), ("PoolScaler", 265), ("PoolScaler", 305), ("PoolScaler", 318), ("PoolScaler", 324), ("PoolScaler", 326), ("PoolScaler", 383)]
def sTm (i : Nat) : Term := Term.string (sOw.getD i ("", 0)).1 (sOw.getD i ("", 0)).2
def sB : List Nat := [93, 101, 109, 117, 127, 135, 145, 153, 163, 171, 179, 187, 198, 207, 216, 226, 236, 246, 254, 272, 288, 304, 322, 339, 357, 374, 399, 423, 453, 481]
def strT2 : List (String × Nat × String × Nat) := strTab.drop 30
def sE : List Nat := [510, 519, 528, 539, 548, 559, 568, 579, 589, 599, 610, 619, 630, 641, 650, 659, 668, 680]
set_option maxRecDepth 100000 in
theorem s_ex : ∀ i, i < 30 → sFl[sB.getD i 0]? = some (Cond.exactly (sTm i) "java/lang/String") := by decide +kernel
set_option maxRecDepth 100000 in
theorem s_co : ∀ i, i < 30 → sFl[sB.getD i 0 + 1]? = some (Cond.eq (.field (sTm i) "java/lang/String" "coder" "B") (.int 0)) := by decide +kernel
set_option maxRecDepth 100000 in
theorem s_ar : ∀ i, i < 30 → sFl[sB.getD i 0 + 2]? = some (Cond.arrayOf (.field (sTm i) "java/lang/String" "value" "[B") .byte) := by decide +kernel
set_option maxRecDepth 100000 in
theorem s_le : ∀ i, i < 30 → sFl[sB.getD i 0 + 3]? = some (Cond.eq (.length (.field (sTm i) "java/lang/String" "value" "[B")) (.int (Int32.ofNat (strLen.getD i 0)))) := by decide +kernel
set_option maxRecDepth 100000 in
theorem s_el : ∀ i, i < 30 → ∀ j, j < strLen.getD i 0 → sFl[sB.getD i 0 + 4 + j]? = some (Cond.eq (.elem (.field (sTm i) "java/lang/String" "value" "[B") (.int (Int32.ofNat j))) (.int ((strByt.getD i []).getD j 0))) := by decide +kernel
theorem s_ln : ∀ i, i < 30 → strLen.getD i 0 < 2 ^ 31 := by decide +kernel
theorem s_inj : ∀ i, i < 30 → ∀ j, j < 30 → strLen.getD i 0 = strLen.getD j 0 → (∀ k, k < strLen.getD i 0 → (strByt.getD i []).getD k 0 = (strByt.getD j []).getD k 0) → i = j := by decide +kernel
theorem s_of {s : State} {args : Array Value} (h : (Jvm.Cond.and given_1 narrow_1).before args s = true) {i : Nat} {w : Cond} (hi : sFl[i]? = some w) : w.before args s = true := flat_of_before _ h _ (List.mem_of_getElem? hi)

theorem va_OF_fun {o n d : String} {v w : Value} {a : Nat} {A : Nat → Prop} {U : State} {H : Heap} (h1 : va_OF o n d v a A U H) (h2 : va_OF o n d w a A U H) : v = w := by
  obtain ⟨cf, k, fi, f, cell, e1, e2, e3, e4, e5, e6⟩ := h1
  obtain ⟨cf', k', fi', f', cell', g1, g2, g3, g4, g5, g6⟩ := h2
  rw [e1] at g1
  injection g1 with g1
  injection g1 with x1 x2
  injection x2 with x2 x3
  injection x3 with x3 x4
  subst x4
  rw [e3] at g3
  injection g3 with g3
  subst g3
  rw [e5] at g5
  injection g5
theorem va_T_fun {ty : FieldType} {t N M : Nat} {f g : Nat → Value} {A : Nat → Prop} {U : State} {H : Heap} (hN : N < 2 ^ 31) (hM : M < 2 ^ 31) (h1 : va_T ty t N f A U H) (h2 : va_T ty t M g A U H) : N = M ∧ ∀ k, k < N → f k = g k := by
  obtain ⟨c, e1, e2, e3, e4, e5, e6, e7⟩ := h1
  obtain ⟨c', g1, g2, g3, g4, g5, g6, g7⟩ := h2
  rw [e1] at g1
  injection g1 with g1
  subst g1
  have e : Int32.ofNat N = Int32.ofNat M := e5.symm.trans g5
  have eN : N = M := by
    have q1 : (Int32.ofNat N).toInt = (N : Int) := Int32.toInt_ofNat_of_lt hN
    have q2 : (Int32.ofNat M).toInt = (M : Int) := Int32.toInt_ofNat_of_lt hM
    rw [e] at q1
    omega
  refine ⟨eN, fun k hk => ?_⟩
  have a1 := e6 k hk
  have a2 := g6 k (by omega)
  rw [a1] at a2
  injection a2
/-- the String constants' places -/
theorem s_str {s : State} {args : Array Value} {A : Nat → Prop} (h : (Jvm.Cond.and given_1 narrow_1).before args s = true) (hA : ∀ a : Nat, a < s.heap.size → ¬ A a) : ∃ K V : Nat → Nat, vk_S 30 strLen strByt K V A s s.heap ∧ ∀ i, i < 30 → (sTm i).eval args s none [] s = some (.ref (K i)) := by
  have h0 : ∀ i : Nat, ∃ q : Nat × Nat, i < 30 → (sTm i).eval args s none [] s = some (.ref q.1) ∧ va_O "java/lang/String" q.1 A s s.heap ∧ va_OF "java/lang/String" "coder" "B" (.int 0) q.1 A s s.heap ∧ va_OF "java/lang/String" "value" "[B" (.ref q.2) q.1 A s s.heap ∧ va_T .byte q.2 (strLen.getD i 0) (fun j => .int ((strByt.getD i []).getD j 0)) A s s.heap := by
    intro i
    by_cases hi : i < 30
    · obtain ⟨K, V, hS, hE⟩ := vk_Sof (args := args) (s := s) (N := 1) (tm := fun _ => sTm i) (len := [strLen.getD i 0]) (byt := [strByt.getD i []]) (A := A) (fun j hj => by have z : j = 0 := (by omega); subst z; exact s_ln i hi) (fun _ _ => s_of h (s_ex i hi)) (fun _ _ => s_of h (s_co i hi)) (fun _ _ => s_of h (s_ar i hi)) (fun j hj => by have z : j = 0 := (by omega); subst z; exact s_of h (s_le i hi)) (fun j hj k hk => by have z : j = 0 := (by omega); subst z; exact s_of h (s_el i hi k hk)) (fun a b ha hb hab => absurd (show a = b by omega) hab) hA
      have q := hS.1 0 (by decide)
      exact ⟨(K 0, V 0), fun _ => ⟨hE 0 (by decide), q.1, q.2.1, q.2.2.1, q.2.2.2⟩⟩
    · exact ⟨(0, 0), fun q => absurd q hi⟩
  obtain ⟨ad, had⟩ := Classical.axiomOfChoice h0
  refine ⟨fun i => (ad i).1, fun i => (ad i).2, ⟨fun i hi => (had i hi).2, fun i j hi hj e => ?_⟩, fun i hi => (had i hi).1⟩
  have ai := (had i hi).2
  have aj := (had j hj).2
  have e' : (ad i).1 = (ad j).1 := e
  rw [← e'] at aj
  have ev := va_OF_fun ai.2.2.1 aj.2.2.1
  injection ev with ev
  have ti := ai.2.2.2
  have tj := aj.2.2.2
  rw [← ev] at tj
  obtain ⟨l1, l2⟩ := va_T_fun (s_ln i hi) (s_ln j hj) ti tj
  exact s_inj i hi j hj l1 (fun k hk => by have := l2 k hk; injection this)
theorem b_ar {s : State} {args : Array Value} {ty : FieldType} (hR : ∀ cA, s.vm.findClass ("[" ++ ty.toString) = some cA → va_RA s cA ty) (h : (Cond.arrayClass ty).before args s = true) : ∃ cA : ClassId, ArrOfT s cA ty ∧ va_RA s cA ty := by
  obtain ⟨c, k, comp, h1, h2, h3⟩ := Cond.arrayClass_spec (args := args) (first := s) (o := none) (s := s) (idx := []) h
  exact ⟨c, fun n z => ⟨(fun k h => by cases h), k, h2, comp, h3⟩, hR c h1⟩
theorem b_ao {s : State} {args : Array Value} {C : String} (h : (Cond.arrayOver (.object C)).before args s = true) : ∃ cA : ClassId, ArrOfT s cA (.object C) ∧ va_RA s cA (.object C) := by
  obtain ⟨comp, c, k, h1, h2, h3, h4, h5⟩ := Cond.arrayOver_spec (args := args) (first := s) (o := none) (s := s) (idx := []) h
  exact ⟨c, fun n z => ⟨(fun k h => by cases h), k, h3, comp, h4⟩, k, comp, h3, h4, h1, h5⟩
theorem n_in : ∀ w ∈ nestW, w ∈ lw_tbl ∧ w.onTables = true := fun w hw => of_decide_eq_true (List.all_eq_true.mp (by decide +kernel : nestW.all (fun w => decide (w ∈ lw_tbl ∧ w.onTables = true)) = true) w hw)
theorem c_in : ∀ E ∈ caTab, Cond.castable E E ∈ lw_tbl := fun E hE => of_decide_eq_true (List.all_eq_true.mp (by decide +kernel : caTab.all (fun E => decide (Cond.castable E E ∈ lw_tbl)) = true) E hE)
theorem d_in : ∀ X ∈ deTab, Cond.declares (Bundle.initS X) ∈ lw_tbl := fun E hE => of_decide_eq_true (List.all_eq_true.mp (by decide +kernel : deTab.all (fun E => decide (Cond.declares (Bundle.initS E) ∈ lw_tbl)) = true) E hE)
theorem nc_in : ∀ q ∈ ncTab, Cond.not (.castable q.1 q.2) ∈ sFl := fun E hE => of_decide_eq_true (List.all_eq_true.mp (by decide +kernel : ncTab.all (fun q => decide (Cond.not (.castable q.1 q.2) ∈ sFl)) = true) E hE)
theorem sr_in : ∀ q ∈ strTab, Cond.stringRef q.1 q.2.1 q.2.2.1 ∈ lw_tbl := fun E hE => of_decide_eq_true (List.all_eq_true.mp (by decide +kernel : strTab.all (fun q => decide (Cond.stringRef q.1 q.2.1 q.2.2.1 ∈ lw_tbl)) = true) E hE)
theorem i_in : ∀ c, c < 10 → Cond.instantiable (clR c) (clN c) ∈ lw_tbl := by decide +kernel
theorem ar_in : Cond.arrayClass .byte ∈ lw_tbl ∧ Cond.arrayClass .int ∈ lw_tbl ∧ Cond.arrayClass .long ∈ lw_tbl ∧ Cond.arrayClass .boolean ∈ lw_tbl ∧ Cond.arrayClass .double ∈ lw_tbl ∧ Cond.arrayOver (.object "PoolScaler$Pool") ∈ lw_tbl ∧ Cond.arrayOver (.object "PoolScaler$State") ∈ lw_tbl := by decide +kernel
theorem st_in : (Cond.laysStatic Bundle.tN "UNASSIGNED_STACK" Bundle.steD ∈ lw_tbl ∧ Cond.laysStatic Bundle.tN "SUPPRESSED_SENTINEL" Bundle.listD ∈ lw_tbl ∧ Cond.laysStatic "java/lang/String" "COMPACT_STRINGS" "Z" ∈ lw_tbl ∧ Cond.laysStatic "jdk/internal/util/Preconditions" "SIOOBE_FORMATTER" "Ljava/util/function/BiFunction;" ∈ lw_tbl) ∧ Cond.initialized Bundle.tN ∈ lw_tbl ∧ Cond.initialized "java/lang/String" ∈ lw_tbl ∧ Cond.initialized "jdk/internal/util/Preconditions" ∈ lw_tbl := by decide +kernel
theorem sf_in : Cond.isRef (.static Bundle.tN "UNASSIGNED_STACK" Bundle.steD) ∈ sFl ∧ Cond.isRef (.static Bundle.tN "SUPPRESSED_SENTINEL" Bundle.listD) ∈ sFl ∧ Cond.eq (.static "java/lang/String" "COMPACT_STRINGS" "Z") (.int 1) ∈ sFl ∧ Cond.isRef (.static "jdk/internal/util/Preconditions" "SIOOBE_FORMATTER" "Ljava/util/function/BiFunction;") ∈ sFl := by decide +kernel
theorem s_evE {s : State} {args : Array Value} {t u : Term} {a b : Nat} (h : (Cond.eq t u).before args s = true) (ht : t.eval args s none [] s = some (.ref a)) (hu : u.eval args s none [] s = some (.ref b)) : b = a := by
  have := h
  simp only [Cond.before, Cond.holds, Cond.value, ht, hu] at this
  exact (by simpa using this : a = b).symm
/-- the other String constants lie where their like does -/
theorem s_eq : ∀ q ∈ strT2, ∃ i, i < 679 + 2 ∧ sFl[i]? = some (Cond.eq (sTm q.2.2.2) (Term.string q.1 q.2.1)) ∧ q.2.2.2 < 30 := by
  intro q hq
  have h := of_decide_eq_true (List.all_eq_true.mp (by decide +kernel : (strT2.zip sE).all (fun z => decide (sFl[z.2]? = some (Cond.eq (sTm z.1.2.2.2) (Term.string z.1.1 z.1.2.1)) ∧ z.1.2.2.2 < 30 ∧ z.2 < 681)) = true) (q, sE.getD (strT2.idxOf q) 0) (by
    have : ∀ q ∈ strT2, (q, sE.getD (strT2.idxOf q) 0) ∈ strT2.zip sE := by decide +kernel
    exact this q hq))
  exact ⟨_, h.2.2, h.1, h.2.1⟩
theorem s_st1 : ∀ q ∈ strTab.take 30, q.2.2.2 < 30 ∧ sTm q.2.2.2 = Term.string q.1 q.2.1 := fun q hq => of_decide_eq_true (List.all_eq_true.mp (by decide +kernel : (strTab.take 30).all (fun q => decide (q.2.2.2 < 30 ∧ sTm q.2.2.2 = Term.string q.1 q.2.1)) = true) q hq)
theorem gs_start {s : State} {b L : Nat} {xs : Nat → Int32} (hts : ∀ w ∈ lw_tbl, w.before #[Value.ref b] s = true) (hX : va_X b L xs s s.heap) (hb : b < s.heap.size) (h : (Jvm.Cond.and given_1 narrow_1).before #[Value.ref b] s = true) : ∃ G : GC, GS G s ∧ GOK G ∧ gS G = b ∧ gL G = L ∧ gX G = xs ∧ gB G + 1 = s.heap.size := by
  have hA : ∀ a : Nat, a < s.heap.size → ¬ s.heap.size - 1 < a := fun a ha q => by omega
  obtain ⟨K, V, hS, hE⟩ := s_str (A := fun q => s.heap.size - 1 < q) h hA
  have hcl : ∀ c : Nat, ∃ q : ClassId × (Nat → Nat), c < 10 → u_Kn s (clR c) (clT c) (clN c) q.1 q.2 := by
    intro c
    by_cases hc : c < 10
    · obtain ⟨cC, iS, hk⟩ := u_known (n := clN c) hts (lay_ok c hc) (hts _ (i_in c hc))
      exact ⟨(cC, iS), fun _ => hk⟩
    · exact ⟨(0, fun _ => 0), fun q => absurd q hc⟩
  obtain ⟨D, hD⟩ := Classical.axiomOfChoice hcl
  obtain ⟨m1, m2, m3, m4, m5, m6, m7⟩ := ar_in
  obtain ⟨t0, f0, g0⟩ := b_ar (ty := .byte) (fun cA q => q) (hts _ m1)
  obtain ⟨t1, f1, g1⟩ := b_ar (ty := .int) (fun cA q => q) (hts _ m2)
  obtain ⟨t2, f2, g2⟩ := b_ar (ty := .long) (fun cA q => q) (hts _ m3)
  obtain ⟨t3, f3, g3⟩ := b_ar (ty := .boolean) (fun cA q => q) (hts _ m4)
  obtain ⟨t4, f4, g4⟩ := b_ao (hts _ m6)
  obtain ⟨t5, f5, g5⟩ := b_ao (hts _ m7)
  obtain ⟨t6, f6, g6⟩ := b_ar (ty := .double) (fun cA q => q) (hts _ m5)
  have hfl : ∀ w ∈ sFl, w.before #[Value.ref b] s = true := flat_of_before _ h
  obtain ⟨⟨x1, x2, x3, x4⟩, y1, y2, y3⟩ := st_in
  obtain ⟨z1, z2, z3, z4⟩ := sf_in
  refine ⟨((fun c => (D c).1, fun c => (D c).2), fun t => if t = 10 then t0 else if t = 11 then t1 else if t = 12 then t2 else if t = 13 then t3 else if t = 14 then t4 else if t = 15 then t5 else t6, s.heap.size - 1, b, L, xs, fun i => if i < 5000 then K i else i - 5000, V), ⟨⟨⟨?_, ?_⟩, ?_, ?_, ?_, ?_, ?_, ?_, ?_⟩, ?_, ?_, ?_, ?_, ?_, ?_, ?_, ?_⟩, ?_, rfl, rfl, rfl, ?_⟩
  · intro c q hq
    have hc : c < 10 := (List.getElem?_eq_some_iff.mp hq).1
    rw [cl_at c hc] at hq
    injection hq with hq
    subst hq
    exact hD c hc
  · intro k q hq
    have hk : k < 7 := (List.getElem?_eq_some_iff.mp hq).1
    rcases (show k = 0 ∨ k = 1 ∨ k = 2 ∨ k = 3 ∨ k = 4 ∨ k = 5 ∨ k = 6 by omega) with rfl | rfl | rfl | rfl | rfl | rfl | rfl <;> (injection hq with hq; subst hq)
    · exact ⟨f0, g0⟩
    · exact ⟨f1, g1⟩
    · exact ⟨f2, g2⟩
    · exact ⟨f3, g3⟩
    · exact ⟨f4, g4⟩
    · exact ⟨f5, g5⟩
    · exact ⟨f6, g6⟩
  · exact fun w hw => va_Nw.of (n_in w hw).2 (hts w (n_in w hw).1)
  · exact va_AO.of (hts _ m6)
  · exact va_AO.of (hts _ m7)
  · intro q hq
    have hr := hts _ (sr_in q hq)
    have hkey : q.2.2.2 < 30 ∧ (Term.string q.1 q.2.1).eval #[Value.ref b] s none [] s = some (.ref (K q.2.2.2)) := by
      rw [← List.take_append_drop 30 strTab, List.mem_append] at hq
      rcases hq with hq | hq
      · obtain ⟨a1, a2⟩ := s_st1 q hq
        exact ⟨a1, by rw [← a2]; exact hE _ a1⟩
      · obtain ⟨i, -, a1, a2⟩ := s_eq q hq
        refine ⟨a2, ?_⟩
        have e := s_of h a1
        have e1 := hE _ a2
        cases hv : (Term.string q.1 q.2.1).eval #[Value.ref b] s none [] s with
        | none =>
          exfalso
          simp only [Cond.before, Cond.holds, Cond.value, e1, hv] at e
          exact absurd e (by simp)
        | some z =>
          obtain ⟨a, rfl⟩ := Term.string_eval_ref hv
          rw [s_evE e e1 hv]
    show vk_R q.1 q.2.1 q.2.2.1 (if q.2.2.2 < 5000 then K q.2.2.2 else _) s
    rw [if_pos (by omega)]
    exact vk_R.of hr hkey.2
  · exact fun q hq => va_Nc.of (hfl _ (nc_in q hq))
  · exact fun E hE => va_Nw.of rfl (hts _ (c_in E hE))
  · exact fun X hX => va_Nw.of rfl (hts _ (d_in X hX))
  · exact hX
  · show b ≤ s.heap.size - 1
    omega
  · show s.heap.size - 1 < s.heap.size
    omega
  · exact vx_Zqof (hts _ x1) (hts _ y1) (hfl _ z1) hA
  · exact vx_Zqof (hts _ x2) (hts _ y1) (hfl _ z2) hA
  · have hk : ∀ i, i < 30 → (if i < 5000 then K i else i - 5000) = K i := fun i hi => if_pos (by omega)
    refine ⟨fun i hi => ?_, fun i j hi hj e => hS.2 i j hi hj ?_⟩
    · show va_O _ (if i < 5000 then K i else i - 5000) _ _ _ ∧ va_OF _ _ _ _ (if i < 5000 then K i else i - 5000) _ _ _ ∧ va_OF _ _ _ _ (if i < 5000 then K i else i - 5000) _ _ _ ∧ _
      rw [hk i hi]
      exact hS.1 i hi
    · have e' : (if i < 5000 then K i else i - 5000) = (if j < 5000 then K j else j - 5000) := e
      rw [hk i hi, hk j hj] at e'
      exact e'
  · exact va_Zof (hts _ x3) (hts _ y2) (va_eqt (hfl _ z3)) hA
  · exact va_Zqof (hts _ x4) (hts _ y3) (hfl _ z4) hA
  · intro t
    show (if 5000 + t < 5000 then K (5000 + t) else 5000 + t - 5000) = t
    rw [if_neg (by omega)]
    omega
  · show s.heap.size - 1 + 1 = s.heap.size
    omega
