-- method contracts over the abstract heap, calls, returns
def wM (M : MD) : List Cond := Cond.code (mY M) (mC M) (mL M) (mR M) :: tblG
/-- what the heap is at a method's end -/
def RepE (G : GC) (N : Nat) (h : AH) (H : Heap) : Prop := va_P (gD G) vwCl (wsA G N h) H
def PcM (l : Launch) (G : GC) (N : Nat) (as : List Value) (h : AH) : Array Value → State → Prop := fun v U => v = (as.map (gv G)).toArray ∧ GS G U ∧ RepE G N h U.heap ∧ N ≤ NT ∧ (N < NT → U.heap.size ≤ gB G + 1 + N) ∧ l.stackTraces = false
def QcM (G : GC) (N : Nat) (K : Option Value → AH → Prop) : Array Value → State → Outcome → State → Prop := fun _ st o t => (∃ (v : Option Value) (h' : AH), o = .returned (v.map (gv G)) ∧ K v h' ∧ RepE G N h' t.heap) ∧ va_F (gA G) st t
def XcM (G : GC) (N : Nat) (X : String → AH → Prop) : String → State → State → Prop := fun E st t => (∃ h' : AH, X E h' ∧ RepE G N h' t.heap) ∧ va_F (gA G) st t
/-- what a method's type says of its answer -/
def tyV (ret : Option FieldType) (v : Option Value) : Prop := match ret with
  | some .int => ∃ x, v = some (.int x)
  | some .boolean => ∃ x, v = some (.int x)
  | some .long => ∃ x, v = some (.long x)
  | some .float => ∃ x, v = some (.float x)
  | some .double => ∃ x, v = some (.double x)
  | _ => True
def tyK (M : MD) (K : Option Value → AH → Prop) : Option Value → AH → Prop := fun v h => tyV (mR M) v ∧ K v h
/-- the contract of a method: called on as in h, where N objects are, it answers v and leaves h' with K v h', N' objects then, or throws E and leaves h' with X E h' -/
def PM (l : Launch) (G : GC) (M : MD) (N N' : Nat) (as : List Value) (h : AH) (K : Option Value → AH → Prop) (X : String → AH → Prop) : Prop :=
  vx_Met l (mY M) (wM M) (mO M) (PcM l G N as h) (QcM G N' (tyK M K)) (XcM G N' X) (mO M).cells (mO M).slots (gA G)
def noX : String → AH → Prop := fun _ _ => False
def fiM (G : GC) (M : MD) (N' : Nat) (K : Option Value → AH → Prop) (X : String → AH → Prop) : CX → State → Prop := fun x =>
  vx_MQ x.2.2.2.2.2.1 (QcM G N' (tyK M K)) (XcM G N' X) x.2.2.2.2.1 x.2.2.1 (mO M).cells (mO M).slots (gA G)
def ent0 (n : Nat) (as : List Value) : List (Option Value) := as.map some ++ List.replicate (n - as.length) none
theorem asc_nones (G : GC) : ∀ (k i : Nat), asc G i (List.replicate k none) = []
  | 0, _ => rfl
  | k + 1, i => by rw [List.replicate_succ]; exact asc_nones G k (i + 1)
theorem asc_ent (G : GC) (k : Nat) : ∀ (as : List Value) (i : Nat), (as.all fun v => v.category == 1) = true → asc G i (as.map some ++ List.replicate k none) = lv_args i (as.map (gv G))
  | [], i, _ => asc_nones G k i
  | a :: r, i, h => by
    have h1 : a.category = 1 ∧ (r.all fun v => v.category == 1) = true := by simpa using h
    show (i, gv G a) :: asc G (i + 1) (r.map some ++ List.replicate k none) = (i, gv G a) :: lv_args (if (gv G a).category = 2 then i + 2 else i + 1) (r.map (gv G))
    rw [gv_cat, h1.1, asc_ent G k r (i + 1) h1.2]
    rfl
theorem lg_sl1 (G : GC) : ∀ (as : List Value), (as.all fun v => v.category == 1) = true → (lg_sl (as.map (gv G))).length = as.length
  | [], _ => rfl
  | a :: r, h => by
    have h1 : a.category = 1 ∧ (r.all fun v => v.category == 1) = true := by simpa using h
    have h2 := lg_sl1 G r h1.2
    unfold lg_sl at h2 ⊢
    rw [List.map_cons, List.flatMap_cons, List.length_append, h2, gv_cat, h1.1]
    simp; omega
theorem PM.of {l : Launch} {G : GC} {M : MD} {N N' : Nat} {as : List Value} {h : AH} {K : Option Value → AH → Prop} {X : String → AH → Prop} (hy : plainFor (mY M) = true) (hH : mH M = []) (hca : (as.all fun v => v.category == 1) = true) (hn : as.length ≤ mL M)
    (body : l.stackTraces = false → N ≤ NT → PW l G M (mO M) (fiM G M N' K X) N 0 (ent0 (mL M) as) [] (0, 0) h) : PM l G M N N' as h K X := by
  have his : ∀ (args : Array Value) (s : State) (m : MethodId), (headSpec (wM M) (mO M)).pre.before args s = true → s.methodNamed? (mY M) = some m → ∃ meth c, s.vm.method? m = some meth ∧ meth.code = some c ∧ c.code = mC M ∧ c.maxLocals = mL M ∧ meth.sig.returnType = mR M ∧ meth.locks = false := by
    intro args s m h hn
    obtain ⟨meth, c, h1, h2, h3, h4, h5, h6, -, -⟩ := Cond.code_spec hn (atoms_spec (ws := wM M) h _ List.mem_cons_self)
    exact ⟨meth, c, h1, h2, h3, h4, h5, h6⟩
  refine MetFree.of_bodySF (code := mC M) (maxLocals := mL M) (ret := mR M) hy his ?_
  intro p e s m args below meth c s₁ B hml hv _
  obtain ⟨rfl, hgs, hrep, hNT, hsz, hst⟩ := hv
  have hpre := atoms_spec (ws := wM M) B.pre
  have ht : c.exceptionTable.toList = [] := by
    obtain ⟨meth9, c9, h1, h2, -, -, -, -, h7, -⟩ := Cond.code_spec B.named (hpre _ List.mem_cons_self)
    cases Option.some.inj (h1.symm.trans B.method)
    cases Option.some.inj (h2.symm.trans (Stand.of_body B).code)
    rw [Array.isEmpty_iff.mp h7]
  have hC : Cx l G M p s m (as.map (gv G)).toArray meth c := ⟨B.exec, B.bytes, hml, B.returns, B.notSynchronized, findClass_of_methodNamed B.named, fun w hw => hpre w (List.mem_cons_of_mem _ hw), hgs, by rw [hH, ht]; rfl, (name_of_methodNamed B.named B.method).1, hst⟩
  have hl := lv_entry (as.map (gv G)) (n := mL M) (by rw [lg_sl1 G as hca]; exact hn)
  have hb := body hst hNT p e s m _ below meth c s.heap [] _ hC ⟨hrep, hNT, fun q => hsz q⟩ va_S.rf (by rw [← asc_ent G (mL M - as.length) as 0 hca] at hl; exact hl)
  have hh0 : s₁.heap = s.heap := by rw [B.state]; rfl
  obtain ⟨t, a1, o, b1, b2, b3⟩ := hb s₁ hh0 (Stand.of_body B)
  rw [lg_entry_eq]
  exact ⟨t, o, a1, b1, b2, b3⟩
theorem PM.mono {l : Launch} {G : GC} {M : MD} {N N' : Nat} {as : List Value} {h : AH} {K K' : Option Value → AH → Prop} {X X' : String → AH → Prop} (hM : PM l G M N N' as h K X) (hk : ∀ v h', K v h' → K' v h') (hx : ∀ E h', X E h' → X' E h') : PM l G M N N' as h K' X' := by
  intro p e a1 a2 a3 s m args below b1 b2 b3 b4
  obtain ⟨n, o, c1, c2, c3, c4⟩ := hM p e a1 a2 a3 s m args below b1 b2 b3 b4
  refine ⟨n, o, c1, c2, c3, ?_⟩
  rcases c4 with ⟨⟨⟨v, h', q1, q2, q3⟩, q4⟩, q5⟩ | ⟨q, q1, E, ce, L, ⟨⟨h', q2, q3⟩, q4⟩, q5⟩
  · exact Or.inl ⟨⟨⟨v, h', q1, ⟨q2.1, hk v h' q2.2⟩, q3⟩, q4⟩, q5⟩
  · exact Or.inr ⟨q, q1, E, ce, L, ⟨⟨h', hx E h' q2, q3⟩, q4⟩, q5⟩
/-- a method that throws nothing -/
theorem PM.met {l : Launch} {G : GC} {M : MD} {N N' : Nat} {as : List Value} {h : AH} {K : Option Value → AH → Prop} (hM : PM l G M N N' as h K noX) : Met l (mY M) (wM M) (mO M) (PcM l G N as h) (QcM G N' (tyK M K)) (mO M).cells (mO M).slots (gA G) := by
  intro p e a1 a2 a3 s m args below b1 b2 b3 b4
  obtain ⟨n, o, c1, c2, c3, c4⟩ := hM p e a1 a2 a3 s m args below b1 b2 b3 b4
  refine ⟨n, o, c1, c2, c3, ?_⟩
  rcases c4 with c4 | ⟨q, q1, E, ce, L, ⟨⟨h', q2, q3⟩, q4⟩, q5⟩
  · exact c4
  · exact absurd q2 (fun q => q)
section CR
variable {l : Launch} {G : GC} {M : MD} {R : Room} {Fi : CX → State → Prop} {N N' pc : Nat} {ls : List (Option Value)} {st : List Value} {cs : Nat × Nat} {h : AH} {K : Option Value → AH → Prop} {X : String → AH → Prop}
-- ends
theorem r_iret {x : Int32} (hd : decode (mC M) pc = .ok (.ireturn, 1)) (ht : mR M = some .int) (hc : cs.1 ≤ (mO M).cells ∧ cs.2 ≤ (mO M).slots) (hq : K (some (.int x)) h) : PW l G M (mO M) (fiM G M N K X) N pc ls [.int x] cs h := by
  intro p e s m args below meth c9 H locs la C hr hs hl
  refine vx_ret (W.widen hc.1 hc.2 (W.iret C.1 C.2.1 (C.2.2.2.1.trans ht) (fun t e9 hW => ⟨⟨some (.int x), h, rfl, ⟨(by unfold tyV; rw [ht]; first | exact ⟨_, rfl⟩ | trivial), hq⟩, ?_⟩, hs.F e9⟩) hs.2.2 hd C.2.2.2.2.1))
  show va_P _ _ _ t.heap
  rw [e9]; exact hr.1
theorem r_zret {x : Int32} (hd : decode (mC M) pc = .ok (.ireturn, 1)) (ht : mR M = some .boolean) (hx : x = 0 ∨ x = 1) (hc : cs.1 ≤ (mO M).cells ∧ cs.2 ≤ (mO M).slots) (hq : K (some (.int x)) h) : PW l G M (mO M) (fiM G M N K X) N pc ls [.int x] cs h := by
  intro p e s m args below meth c9 H locs la C hr hs hl
  refine vx_ret (W.widen hc.1 hc.2 (W.zret C.1 C.2.1 (C.2.2.2.1.trans ht) (by rcases hx with rfl | rfl <;> rfl) (fun t e9 hW => ⟨⟨some (.int x), h, rfl, ⟨(by unfold tyV; rw [ht]; first | exact ⟨_, rfl⟩ | trivial), hq⟩, ?_⟩, hs.F e9⟩) hs.2.2 hd C.2.2.2.2.1))
  show va_P _ _ _ t.heap
  rw [e9]; exact hr.1
theorem r_lret {x : Int64} (hd : decode (mC M) pc = .ok (.lreturn, 1)) (ht : mR M = some .long) (hc : cs.1 ≤ (mO M).cells ∧ cs.2 ≤ (mO M).slots) (hq : K (some (.long x)) h) : PW l G M (mO M) (fiM G M N K X) N pc ls [.long x] cs h := by
  intro p e s m args below meth c9 H locs la C hr hs hl
  refine vx_ret (W.widen hc.1 hc.2 (W.lret C.1 C.2.1 (C.2.2.2.1.trans ht) (fun t e9 hW => ⟨⟨some (.long x), h, rfl, ⟨(by unfold tyV; rw [ht]; first | exact ⟨_, rfl⟩ | trivial), hq⟩, ?_⟩, hs.F e9⟩) hs.2.2 hd C.2.2.2.2.1))
  show va_P _ _ _ t.heap
  rw [e9]; exact hr.1
theorem r_dret {x : UInt64} (hd : decode (mC M) pc = .ok (.dreturn, 1)) (ht : mR M = some .double) (hc : cs.1 ≤ (mO M).cells ∧ cs.2 ≤ (mO M).slots) (hq : K (some (.double x)) h) : PW l G M (mO M) (fiM G M N K X) N pc ls [.double x] cs h := by
  intro p e s m args below meth c9 H locs la C hr hs hl
  refine vx_ret (W.widen hc.1 hc.2 (W.dret C.1 C.2.1 (C.2.2.2.1.trans ht) (fun t e9 hW => ⟨⟨some (.double x), h, rfl, ⟨(by unfold tyV; rw [ht]; first | exact ⟨_, rfl⟩ | trivial), hq⟩, ?_⟩, hs.F e9⟩) hs.2.2 hd C.2.2.2.2.1))
  show va_P _ _ _ t.heap
  rw [e9]; exact hr.1
theorem r_fret {x : UInt32} (hd : decode (mC M) pc = .ok (.freturn, 1)) (ht : mR M = some .float) (hc : cs.1 ≤ (mO M).cells ∧ cs.2 ≤ (mO M).slots) (hq : K (some (.float x)) h) : PW l G M (mO M) (fiM G M N K X) N pc ls [.float x] cs h := by
  intro p e s m args below meth c9 H locs la C hr hs hl
  refine vx_ret (W.widen hc.1 hc.2 (W.fret C.1 C.2.1 (C.2.2.2.1.trans ht) (fun t e9 hW => ⟨⟨some (.float x), h, rfl, ⟨(by unfold tyV; rw [ht]; first | exact ⟨_, rfl⟩ | trivial), hq⟩, ?_⟩, hs.F e9⟩) hs.2.2 hd C.2.2.2.2.1))
  show va_P _ _ _ t.heap
  rw [e9]; exact hr.1
theorem r_vret (hd : decode (mC M) pc = .ok (.return_, 1)) (ht : mR M = none) (hc : cs.1 ≤ (mO M).cells ∧ cs.2 ≤ (mO M).slots) (hq : K none h) : PW l G M (mO M) (fiM G M N K X) N pc ls [] cs h := by
  intro p e s m args below meth c9 H locs la C hr hs hl
  refine vx_ret (W.widen hc.1 hc.2 (W.vret C.1 C.2.1 (C.2.2.2.1.trans ht) (fun t e9 hW => ⟨⟨none, h, rfl, ⟨(by unfold tyV; rw [ht]; first | exact ⟨_, rfl⟩ | trivial), hq⟩, ?_⟩, hs.F e9⟩) hs.2.2 hd C.2.2.2.2.1))
  show va_P _ _ _ t.heap
  rw [e9]; exact hr.1
theorem r_aret {x : Nat} {n : String} (hd : decode (mC M) pc = .ok (.areturn, 1)) (ht : mR M = some (.object n)) (hc : cs.1 ≤ (mO M).cells ∧ cs.2 ≤ (mO M).slots) (hq : K (some (.ref x)) h) : PW l G M (mO M) (fiM G M N K X) N pc ls [.ref x] cs h := by
  intro p e s m args below meth c9 H locs la C hr hs hl
  refine vx_ret (W.widen hc.1 hc.2 (W.aret C.1 C.2.1 (C.2.2.2.1.trans ht) (Or.inl ⟨n, rfl⟩) (Or.inr ⟨_, rfl⟩) (fun t e9 hW => ⟨⟨some (.ref x), h, rfl, ⟨(by unfold tyV; rw [ht]; first | exact ⟨_, rfl⟩ | trivial), hq⟩, ?_⟩, hs.F e9⟩) hs.2.2 hd C.2.2.2.2.1))
  show va_P _ _ _ t.heap
  rw [e9]; exact hr.1
/-- what is thrown over the frame -/
def PX (l : Launch) (G : GC) (M : MD) (R : Room) (Fi : CX → State → Prop) (N : Nat) (pc : Nat) (ls : List (Option Value)) (st : List Value) (cs : Nat × Nat) (E : String) (h : AH) : Prop :=
  ∀ (p : Program) (e : Env) (s : State) (m : MethodId) (args : Array Value) (below : List Frame) (meth : Method) (c : Code) (H : Heap) (locs : List Loc) (la : Array Slot) (ce : Cell) (q : Addr),
    Cx l G M p s m args meth c → Rep G N cs.1 h s H → va_S (gA G) s.heap H locs → lv_has la (mL M) (asc G 0 ls) → H[q]? = some ce → ce.vm = .none → s.vm.findClass E = some ce.cls →
    vx_W p l e R s m args below meth c H locs cs.1 cs.2 (Fi (p, e, s, m, args, below, meth, c)) (F0 m pc la (st.map (gv G))) q
theorem PX.out {E : String} (hH : mH M = []) (hc : cs.1 ≤ (mO M).cells ∧ cs.2 ≤ (mO M).slots) (hq : X E h) : PX l G M (mO M) (fiM G M N K X) N pc ls st cs E h := by
  intro p e s m args below meth c9 H locs la ce q C hr hs hl hcq hv hcl
  refine vx_out ?_ C.2.2.2.2.1 hcq hv hcl (fun t e9 hW => ⟨⟨h, hq, ?_⟩, hs.F e9⟩) hs.2.2 hc.1 hc.2
  · intro x hx
    have h2 := C.2.2.2.2.2.2.2.2.1
    rw [hH] at h2
    rw [h2] at hx
    exact absurd hx (by simp [tableOf])
  · show va_P _ _ _ t.heap
    rw [e9]; exact hr.1
-- calls
def rmOK (R : Room) (cs : Nat × Nat) (M2 : MD) : Bool := Nat.ble ((mO M2).frames + 1) R.frames && Nat.ble (8 + (mL M2 + 11) + (mO M2).locals) R.locals && Nat.ble (cs.1 + (mO M2).cells) R.cells && Nat.ble (cs.2 + (mO M2).slots) R.slots
theorem rmOK_spec {M2 : MD} (h : rmOK R cs M2 = true) : ((mO M2).frames + 1 ≤ R.frames ∧ 8 + (mL M2 + 11) + (mO M2).locals ≤ R.locals) ∧ (cs.1 + (mO M2).cells ≤ R.cells ∧ cs.2 + (mO M2).slots ≤ R.slots) := by
  simp only [rmOK, Bool.and_eq_true] at h
  exact ⟨⟨Nat.le_of_ble_eq_true h.1.1.1, Nat.le_of_ble_eq_true h.1.1.2⟩, Nat.le_of_ble_eq_true h.1.2, Nat.le_of_ble_eq_true h.2⟩
def okN (y : MethodName) (n : Nat) : Prop := y.cls ≠ "java/lang/invoke/MethodHandle" ∧ y.cls ≠ "java/lang/invoke/VarHandle" ∧ (parseMethodDescriptor y.desc).map (fun d => d.parameters.length) = some n
def CV (own : String) (ix : Nat) (M2 : MD) (n : Nat) : Prop := Cond.methodLink own ix (mY M2) ∈ tblG ∧ Cond.instanceMethod (mY M2) ∈ tblG ∧ Cond.selects (mY M2).cls (mY M2) (mY M2) ∈ tblG ∧ Cond.initialized (mY M2).cls ∈ tblG ∧ Cond.code (mY M2) (mC M2) (mL M2) (mR M2) ∈ tblG ∧ okN (mY M2) n
def CSt (own : String) (ix : Nat) (M2 : MD) (n : Nat) : Prop := Cond.methodLink own ix (mY M2) ∈ tblG ∧ Cond.static (mY M2) ∈ tblG ∧ Cond.initialized (mY M2).cls ∈ tblG ∧ Cond.code (mY M2) (mC M2) (mL M2) (mR M2) ∈ tblG ∧ okN (mY M2) n
theorem good_wM {M2 : MD} (h : Cond.code (mY M2) (mC M2) (mL M2) (mR M2) ∈ tblG) : GoodIn tblG (wM M2) := by
  intro w hw
  rcases List.mem_cons.mp hw with rfl | hw
  · exact ⟨h, tblG_good h⟩
  · exact ⟨hw, tblG_good hw⟩
/-- behind a call that may throw -/
theorem c_run {p : Program} {e : Env} {s : State} {m : MethodId} {args : Array Value} {below : List Frame} {meth : Method} {c : Code} {H : Heap} {locs : List Loc} {la : Array Slot} {st0 rest : List Value} {a : Array Value} {mc ms : Nat} {Q : State → Prop} {c1 c2 : Nat}
    (hr : vx_Run p l e R s m args below meth c H locs c1 c2 mc ms (F0 m pc la st0) rest (QcM G N' K a) (XcM G N' X) (gA G)) (hS : va_S (gA G) s.heap H locs)
    (kk : ∀ (v : Option Value) (h' : AH) (H1 : Heap) (locs1 : List Loc), K v h' → RepE G N' h' H1 → va_S (gA G) s.heap H1 locs1 → W p l e R s m args below meth c H1 locs1 (c1 + mc) (c2 + ms) Q (F0 m (pc + 3) la ((v.map (gv G)).toList ++ rest)))
    (kx : ∀ (E : String) (h' : AH) (H1 : Heap) (locs1 : List Loc) (ce : Cell) (q : Addr), X E h' → RepE G N' h' H1 → va_S (gA G) s.heap H1 locs1 → H1[q]? = some ce → ce.vm = .none → s.vm.findClass E = some ce.cls → vx_W p l e R s m args below meth c H1 locs1 (c1 + mc) (c2 + ms) Q (F0 m pc la rest) q) :
    W p l e R s m args below meth c H locs c1 c2 Q (F0 m pc la st0) := by
  intro T hT Z
  rcases hr T hT Z with ⟨v, st₀, t, T', L, h0, Z', hL, e1, e2, ⟨⟨v', h', hv, hK, hP⟩, hF⟩, hst⟩ | ⟨q, st₀, t, T', L, E, ce, h0, Z', hL, e1, e2, ⟨⟨h', hK, hP⟩, hF⟩, hce, hcv, hcl, hst⟩
  · cases hv
    obtain ⟨-, -, hS1⟩ := vx_keep h0 e1 hS (fun _ _ q => q) (fun _ q => q) hL hF
    obtain ⟨t2, a1, b1⟩ := kk v' h' T'.heap (locs ++ L) hK (by rw [e1]; exact hP) hS1 T' rfl Z'
    exact ⟨t2, hst t2 a1, b1⟩
  · obtain ⟨-, -, hS1⟩ := vx_keep h0 e1 hS (fun _ _ q => q) (fun _ q => q) hL hF
    obtain ⟨t2, a1, b1⟩ := kx E h' T'.heap (locs ++ L) ce q hK (by rw [e1]; exact hP) hS1 (by rw [e1]; exact hce) hcv hcl T' rfl Z'
    exact ⟨t2, hst.trans a1, b1⟩
/-- behind a call that throws nothing -/
theorem c_runM {p : Program} {e : Env} {s : State} {m : MethodId} {args : Array Value} {below : List Frame} {meth : Method} {c : Code} {H : Heap} {locs : List Loc} {la : Array Slot} {st0 rest : List Value} {a : Array Value} {mc ms : Nat} {Q : State → Prop} {c1 c2 : Nat}
    (hr : va_Run p l e R s m args below meth c H locs c1 c2 mc ms (F0 m pc la st0) rest (QcM G N' K a) (gA G)) (hS : va_S (gA G) s.heap H locs)
    (kk : ∀ (v : Option Value) (h' : AH) (H1 : Heap) (locs1 : List Loc), K v h' → RepE G N' h' H1 → va_S (gA G) s.heap H1 locs1 → W p l e R s m args below meth c H1 locs1 (c1 + mc) (c2 + ms) Q (F0 m (pc + 3) la ((v.map (gv G)).toList ++ rest))) :
    W p l e R s m args below meth c H locs c1 c2 Q (F0 m pc la st0) := by
  intro T hT Z
  obtain ⟨v, st₀, t, T', L, h0, Z', hL, e1, e2, ⟨⟨v', h', hv, hK, hP⟩, hF⟩, hst⟩ := hr T hT Z
  cases hv
  obtain ⟨-, -, hS1⟩ := vx_keep h0 e1 hS (fun _ _ q => q) (fun _ q => q) hL hF
  obtain ⟨t2, a1, b1⟩ := kk v' h' T'.heap (locs ++ L) hK (by rw [e1]; exact hP) hS1 T' rfl Z'
  exact ⟨t2, hst t2 a1, b1⟩
theorem blindM (as : List Value) : FrameBlind (PcM l G N as h) := fun a U g mk q => by
  obtain ⟨q1, q2, q3, q4, q5, q6⟩ := q
  exact ⟨q1, q2.same rfl rfl, q3, q4, q5, q6⟩
theorem pcM_at {s U : State} {H : Heap} {locs : List Loc} {c1 : Nat} (as : List Value) (hg : GS G s) (hs : va_S (gA G) s.heap H locs) (hr : Rep G N c1 h s H) (hsz : H.size ≤ s.heap.size + c1) (hst : l.stackTraces = false) (hU : U.heap = H) (hW : s.WarmedH U.vm) : PcM l G N as h (as.map (gv G)).toArray U :=
  ⟨rfl, hg.to hs hU hW, by show va_P _ _ _ U.heap; rw [hU]; exact hr.1, hr.2.1, fun q => by rw [hU]; exact Nat.le_trans hsz (hr.2.2 q), hst⟩
theorem map_tl (v : Option Value) (st : List Value) : (v.map (gv G)).toList ++ st.map (gv G) = (v.toList ++ st).map (gv G) := by cases v <;> rfl
theorem rep_call {s : State} {H1 : Heap} {c1 mc : Nat} {H : Heap} {h' : AH} (hr : Rep G N c1 h s H) (hN : N' = N + mc ∧ N' ≤ NT ∨ N = NT ∧ N' = NT) (hP : RepE G N' h' H1) : Rep G N' (c1 + mc) h' s H1 := by
  refine ⟨hP, by rcases hN with q | q <;> omega, fun q => ?_⟩
  rcases hN with ⟨q1, q2⟩ | ⟨q1, q2⟩
  · have := hr.2.2 (by omega); omega
  · omega
/-- invokevirtual -/
theorem r_callV {c i ix : Nat} {M2 : MD} (as : List Value) (hlk : CV (mY M).cls ix M2 as.length) (hk : isK N h i c) (hc : c < 10) (hcy : clR c = (mY M2).cls) (hrm : rmOK R cs M2 = true) (hst : (st.map fun v => v.category).sum ≤ 8) (hN : N' = N + (mO M2).cells ∧ N' ≤ NT ∨ N = NT ∧ N' = NT)
    (hd : decode (mC M) pc = .ok (.invokevirtual ix, 3)) (hM : PM l G M2 N N' (.ref i :: as) h K X)
    (kk : ∀ (v : Option Value) (h' : AH), K v h' → PW l G M R Fi N' (pc + 3) ls (v.toList ++ st) (cs.1 + (mO M2).cells, cs.2 + (mO M2).slots) h')
    (kx : ∀ (E : String) (h' : AH), X E h' → PX l G M R Fi N' pc ls st (cs.1 + (mO M2).cells, cs.2 + (mO M2).slots) E h') :
    PW l G M R Fi N pc ls (as.reverse ++ .ref i :: st) cs h := by
  intro p e s m args below meth c9 H locs la C hr hs hl
  obtain ⟨w1, w2, w3, w4, w5, w6⟩ := hlk
  obtain ⟨hR, hf⟩ := rmOK_spec hrm
  intro T hT Z
  have hsz : H.size ≤ s.heap.size + cs.1 := by rw [← hT]; exact Z.heapSize
  have hga : ga G i = gB G + i := hk.at hr.2.1
  have hrec := va_recv C.2.2.2.2.2.2.2.1.1.1 hr.1 (cl_at c hc) (q0 := i - 1) (a := ga G i) (fs := fvs G h i c) (by rw [wsA_at G h hk.2.1 hk.2.2, ent_o G hk hc, hga])
  have hG : GoodIn tblG (wsV (mY M).cls ix (mY M2).cls (mY M2) (wM M2)) := by
    intro w hw
    simp only [wsV, List.mem_append, List.mem_cons, List.not_mem_nil, or_false] at hw
    rcases hw with (rfl | rfl | rfl | rfl) | hw
    · exact ⟨w1, tblG_good w1⟩
    · exact ⟨w2, tblG_good w2⟩
    · exact ⟨w3, tblG_good w3⟩
    · exact ⟨w4, tblG_good w4⟩
    · exact good_wM w5 w hw
  have hrun := vx_runV (As := as.map (gv G)) (rest := st.map (gv G)) (b := ga G i) (C := (mY M2).cls) (nL := mL M) (g := F0 m pc la ((as.reverse ++ .ref i :: st).map (gv G))) (H := H) (locs := locs) (cells := cs.1) (slots := cs.2) ⟨C.1, C.2.1, C.2.2.1, C.2.2.2.2.2.1, C.2.2.2.2.2.2.1⟩ hM (cwV as.length C.2.2.2.2.2.2.1 hG rfl rfl rfl ⟨rfl, w6⟩ hR) ⟨blindM _, by obtain ⟨cb, q1, q2, q3⟩ := hrec; exact ⟨cb, q1, q2, hcy ▸ q3⟩, fun U hU hW => pcM_at (.ref i :: as) C.2.2.2.2.2.2.2.1 hs hr hsz C.2.2.2.2.2.2.2.2.2.2 hU hW⟩ rfl (by simp) hl.1 (by simp [List.map_append, List.map_reverse, gv]) (lv_room (by rw [gv_cats]; exact hst)) hd hf (below := below) (e := e) (meth := meth)
  refine c_run hrun hs (fun v h' H1 locs1 q1 q2 q3 => ?_) (fun E h' H1 locs1 ce q q1 q2 q3 q4 q5 q6 => ?_) T hT Z
  · rw [map_tl]
    exact kk v h' q1.2 p e s m args below meth c9 H1 locs1 la C (rep_call hr hN q2) q3 hl
  · exact kx E h' q1 p e s m args below meth c9 H1 locs1 la ce q C (rep_call hr hN q2) q3 hl q4 q5 q6
/-- .. with the answer's type -/
theorem r_callVT {c i ix : Nat} {M2 : MD} (as : List Value) (hlk : CV (mY M).cls ix M2 as.length) (hk : isK N h i c) (hc : c < 10) (hcy : clR c = (mY M2).cls) (hrm : rmOK R cs M2 = true) (hst : (st.map fun v => v.category).sum ≤ 8) (hN : N' = N + (mO M2).cells ∧ N' ≤ NT ∨ N = NT ∧ N' = NT)
    (hd : decode (mC M) pc = .ok (.invokevirtual ix, 3)) (hM : PM l G M2 N N' (.ref i :: as) h K X)
    (kk : ∀ (v : Option Value) (h' : AH), tyV (mR M2) v → K v h' → PW l G M R Fi N' (pc + 3) ls (v.toList ++ st) (cs.1 + (mO M2).cells, cs.2 + (mO M2).slots) h')
    (kx : ∀ (E : String) (h' : AH), X E h' → PX l G M R Fi N' pc ls st (cs.1 + (mO M2).cells, cs.2 + (mO M2).slots) E h') :
    PW l G M R Fi N pc ls (as.reverse ++ .ref i :: st) cs h := by
  intro p e s m args below meth c9 H locs la C hr hs hl
  obtain ⟨w1, w2, w3, w4, w5, w6⟩ := hlk
  obtain ⟨hR, hf⟩ := rmOK_spec hrm
  intro T hT Z
  have hsz : H.size ≤ s.heap.size + cs.1 := by rw [← hT]; exact Z.heapSize
  have hga : ga G i = gB G + i := hk.at hr.2.1
  have hrec := va_recv C.2.2.2.2.2.2.2.1.1.1 hr.1 (cl_at c hc) (q0 := i - 1) (a := ga G i) (fs := fvs G h i c) (by rw [wsA_at G h hk.2.1 hk.2.2, ent_o G hk hc, hga])
  have hG : GoodIn tblG (wsV (mY M).cls ix (mY M2).cls (mY M2) (wM M2)) := by
    intro w hw
    simp only [wsV, List.mem_append, List.mem_cons, List.not_mem_nil, or_false] at hw
    rcases hw with (rfl | rfl | rfl | rfl) | hw
    · exact ⟨w1, tblG_good w1⟩
    · exact ⟨w2, tblG_good w2⟩
    · exact ⟨w3, tblG_good w3⟩
    · exact ⟨w4, tblG_good w4⟩
    · exact good_wM w5 w hw
  have hrun := vx_runV (As := as.map (gv G)) (rest := st.map (gv G)) (b := ga G i) (C := (mY M2).cls) (nL := mL M) (g := F0 m pc la ((as.reverse ++ .ref i :: st).map (gv G))) (H := H) (locs := locs) (cells := cs.1) (slots := cs.2) ⟨C.1, C.2.1, C.2.2.1, C.2.2.2.2.2.1, C.2.2.2.2.2.2.1⟩ hM (cwV as.length C.2.2.2.2.2.2.1 hG rfl rfl rfl ⟨rfl, w6⟩ hR) ⟨blindM _, by obtain ⟨cb, q1, q2, q3⟩ := hrec; exact ⟨cb, q1, q2, hcy ▸ q3⟩, fun U hU hW => pcM_at (.ref i :: as) C.2.2.2.2.2.2.2.1 hs hr hsz C.2.2.2.2.2.2.2.2.2.2 hU hW⟩ rfl (by simp) hl.1 (by simp [List.map_append, List.map_reverse, gv]) (lv_room (by rw [gv_cats]; exact hst)) hd hf (below := below) (e := e) (meth := meth)
  refine c_run hrun hs (fun v h' H1 locs1 q1 q2 q3 => ?_) (fun E h' H1 locs1 ce q q1 q2 q3 q4 q5 q6 => ?_) T hT Z
  · rw [map_tl]
    exact kk v h' q1.1 q1.2 p e s m args below meth c9 H1 locs1 la C (rep_call hr hN q2) q3 hl
  · exact kx E h' q1 p e s m args below meth c9 H1 locs1 la ce q C (rep_call hr hN q2) q3 hl q4 q5 q6
/-- invokestatic -/
theorem r_callS {ix : Nat} {M2 : MD} (as : List Value) (hlk : CSt (mY M).cls ix M2 as.length) (hrm : rmOK R cs M2 = true) (hst : (st.map fun v => v.category).sum ≤ 8) (hN : N' = N + (mO M2).cells ∧ N' ≤ NT ∨ N = NT ∧ N' = NT)
    (hd : decode (mC M) pc = .ok (.invokestatic ix, 3)) (hM : PM l G M2 N N' as h K X)
    (kk : ∀ (v : Option Value) (h' : AH), K v h' → PW l G M R Fi N' (pc + 3) ls (v.toList ++ st) (cs.1 + (mO M2).cells, cs.2 + (mO M2).slots) h')
    (kx : ∀ (E : String) (h' : AH), X E h' → PX l G M R Fi N' pc ls st (cs.1 + (mO M2).cells, cs.2 + (mO M2).slots) E h') :
    PW l G M R Fi N pc ls (as.reverse ++ st) cs h := by
  intro p e s m args below meth c9 H locs la C hr hs hl
  obtain ⟨w1, w2, w4, w5, w6⟩ := hlk
  obtain ⟨hR, hf⟩ := rmOK_spec hrm
  have hts := C.2.2.2.2.2.2.1
  intro T hT Z
  have hsz : H.size ≤ s.heap.size + cs.1 := by rw [← hT]; exact Z.heapSize
  have hrun := vx_runS (As := as.map (gv G)) (rest := st.map (gv G)) (nL := mL M) (g := F0 m pc la ((as.reverse ++ st).map (gv G))) (H := H) (locs := locs) (cells := cs.1) (slots := cs.2) ⟨C.1, C.2.1, C.2.2.1, C.2.2.2.2.2.1, hts⟩ hM ⟨callB_of as.length hts (good_wM w5) rfl rfl rfl (hts _ w4) (hts _ w1) w6 hR, hts _ w2⟩ ⟨blindM _, fun U hU hW => pcM_at as C.2.2.2.2.2.2.2.1 hs hr hsz C.2.2.2.2.2.2.2.2.2.2 hU hW⟩ rfl (by simp) hl.1 (by simp [List.map_append, List.map_reverse]) (lv_room (by rw [gv_cats]; exact hst)) hd hf (below := below) (e := e) (meth := meth)
  refine c_run hrun hs (fun v h' H1 locs1 q1 q2 q3 => ?_) (fun E h' H1 locs1 ce q q1 q2 q3 q4 q5 q6 => ?_) T hT Z
  · rw [map_tl]
    exact kk v h' q1.2 p e s m args below meth c9 H1 locs1 la C (rep_call hr hN q2) q3 hl
  · exact kx E h' q1 p e s m args below meth c9 H1 locs1 la ce q C (rep_call hr hN q2) q3 hl q4 q5 q6
end CR
