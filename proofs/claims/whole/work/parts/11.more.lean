-- Math, arraycopy, calls of private members of nest mates
section MO
variable {l : Launch} {G : GC} {M : MD} {R : Room} {Fi : CX → State → Prop} {N N' pc : Nat} {ls : List (Option Value)} {st : List Value} {cs : Nat × Nat} {h : AH} {K : Option Value → AH → Prop} {X : String → AH → Prop}
def MM (own : String) (ix : Nat) (y : MethodName) (code : ByteArray) (n : Nat) : Prop := Cond.methodLink own ix y ∈ tblG ∧ Cond.static y ∈ tblG ∧ Cond.initialized "java/lang/Math" ∈ tblG ∧ Cond.code y code n (some .int) ∈ tblG
def mmOK (R : Room) (cs : Nat × Nat) : Bool := Nat.ble 1 R.frames && Nat.ble 21 R.locals && Nat.ble cs.1 R.cells && Nat.ble cs.2 R.slots
theorem mmOK_spec (h : mmOK R cs = true) : 1 ≤ R.frames ∧ 21 ≤ R.locals ∧ cs.1 ≤ R.cells ∧ cs.2 ≤ R.slots := by
  simp only [mmOK, Bool.and_eq_true] at h
  exact ⟨Nat.le_of_ble_eq_true h.1.1.1, Nat.le_of_ble_eq_true h.1.1.2, Nat.le_of_ble_eq_true h.1.2, Nat.le_of_ble_eq_true h.2⟩
theorem r_max {ix : Nat} {x y : Int32} (hlk : MM (mY M).cls ix Lib.Math.max.name Lib.Math.max.code 2) (hrm : mmOK R cs = true) (hst : (st.map fun v => v.category).sum ≤ 8) (hd : decode (mC M) pc = .ok (.invokestatic ix, 3)) (kk : PW l G M R Fi N (pc + 3) ls (.int (if x < y then y else x) :: st) cs h) : PW l G M R Fi N pc ls (.int y :: .int x :: st) cs h := by
  intro p e s m args below meth c9 H locs la C hr hs hl
  obtain ⟨q1, q2, q3, q4⟩ := mmOK_spec hrm
  have hts := C.2.2.2.2.2.2.1
  exact va_mmax C.1 C.2.1 (C.2.2.1.trans hl.1.symm) C.2.2.2.2.2.1 (hts _ hlk.1) (hts _ hlk.2.1) (hts _ hlk.2.2.1) (hts _ hlk.2.2.2) q1 (by rw [gv_cats]; omega) q3 q4 hd (kk p e s m args below meth c9 H locs la C hr hs hl)
theorem r_min {ix : Nat} {x y : Int32} (hlk : MM (mY M).cls ix Lib.Math.min.name Lib.Math.min.code 2) (hrm : mmOK R cs = true) (hst : (st.map fun v => v.category).sum ≤ 8) (hd : decode (mC M) pc = .ok (.invokestatic ix, 3)) (kk : PW l G M R Fi N (pc + 3) ls (.int (if y < x then y else x) :: st) cs h) : PW l G M R Fi N pc ls (.int y :: .int x :: st) cs h := by
  intro p e s m args below meth c9 H locs la C hr hs hl
  obtain ⟨q1, q2, q3, q4⟩ := mmOK_spec hrm
  have hts := C.2.2.2.2.2.2.1
  exact va_mmin C.1 C.2.1 (C.2.2.1.trans hl.1.symm) C.2.2.2.2.2.1 (hts _ hlk.1) (hts _ hlk.2.1) (hts _ hlk.2.2.1) (hts _ hlk.2.2.2) q1 (by rw [gv_cats]; omega) q3 q4 hd (kk p e s m args below meth c9 H locs la C hr hs hl)
theorem r_abs {ix : Nat} {x : Int32} (hlk : MM (mY M).cls ix Lib.Math.abs.name Lib.Math.abs.code 1) (hrm : mmOK R cs = true) (hst : (st.map fun v => v.category).sum ≤ 8) (hd : decode (mC M) pc = .ok (.invokestatic ix, 3)) (kk : PW l G M R Fi N (pc + 3) ls (.int (if 0 ≤ x then x else 0 - x) :: st) cs h) : PW l G M R Fi N pc ls (.int x :: st) cs h := by
  intro p e s m args below meth c9 H locs la C hr hs hl
  obtain ⟨q1, q2, q3, q4⟩ := mmOK_spec hrm
  have hts := C.2.2.2.2.2.2.1
  exact va_mabs C.1 C.2.1 (C.2.2.1.trans hl.1.symm) C.2.2.2.2.2.1 (hts _ hlk.1) (hts _ hlk.2.1) (hts _ hlk.2.2.1) (hts _ hlk.2.2.2) q1 (by rw [gv_cats]; omega) q3 q4 hd (kk p e s m args below meth c9 H locs la C hr hs hl)
/-- System.arraycopy over int[] -/
def ACl (own : String) (ix : Nat) : Prop := Cond.methodLink own ix arraycopyName ∈ tblG ∧ Cond.native arraycopyName ∈ tblG ∧ Cond.static arraycopyName ∈ tblG ∧ Cond.initialized "java/lang/System" ∈ tblG
theorem r_copyi {ix i j n0 n1 : Nat} {sp dp n : Int32} (hlk : ACl (mY M).cls ix) (ha0 : isA N h i 11 n0) (ha1 : isA N h j 11 n1) (h1 : ¬ sp < 0) (h2 : ¬ dp < 0) (h3 : ¬ n < 0) (h4 : sp.toNatClampNeg + n.toNatClampNeg ≤ n0) (h5 : dp.toNatClampNeg + n.toNatClampNeg ≤ n1) (hrm : Nat.ble 1 R.frames = true) (hrl : Nat.ble (8 + (nativeFrameWords "java/lang/System" "arraycopy" 5 + 11)) R.locals = true) (hst : (st.map fun v => v.category).sum ≤ 8)
    (hd : decode (mC M) pc = .ok (.invokestatic ix, 3)) (kk : PW l G M R Fi N (pc + 3) ls st cs (cI h j (va_cpy (aI h i) (aI h j) sp.toNatClampNeg dp.toNatClampNeg n.toNatClampNeg))) : PW l G M R Fi N pc ls (.int n :: .int dp :: .ref j :: .int sp :: .ref i :: st) cs h := by
  intro p e s m args below meth c9 H locs la C hr hs hl
  have hts := C.2.2.2.2.2.2.1
  have hgi : ga G i = gB G + i := ha0.1.at hr.2.1
  have hgj : ga G j = gB G + j := ha1.1.at hr.2.1
  show W p l e R s m args below meth c9 H locs cs.1 cs.2 _ (F0 m pc la (.int n :: .int dp :: .ref (ga G j) :: .int sp :: .ref (ga G i) :: st.map (gv G)))
  rw [hgi, hgj]
  refine va_copyi C.1 C.2.1 (C.2.2.1.trans hl.1.symm) C.2.2.2.2.2.1 (hts _ hlk.1) (hts _ hlk.2.1) (hts _ hlk.2.2.1) (hts _ hlk.2.2.2) C.2.2.2.2.2.2.2.1.1.1 hr.1 (wsA_D G N h) hs (i - 1) (j - 1) 1 1 (c0 := gY G 11) (c1 := gY G 11) (n0 := n0) (n1 := n1) (ty := .int) (by rw [wsA_at G h ha0.1.2.1 ha0.1.2.2, ent_a G ha0.1 (by decide), ← ha0.2]; rfl) (by rw [wsA_at G h ha1.1.2.1 ha1.1.2.2, ent_a G ha1.1 (by decide), ← ha1.2]; rfl) rfl rfl rfl h1 h2 h3 h4 h5 (fun _ _ => rfl) (Nat.le_of_ble_eq_true hrm) (by rw [gv_cats]; have := Nat.le_of_ble_eq_true hrl; omega) hd (fun H1 locs1 hP _ hS => ?_)
  rw [wsA_set G (h' := cI h j (va_cpy (aI h i) (aI h j) sp.toNatClampNeg dp.toNatClampNeg n.toNatClampNeg)) ha1.1.2.1 ?_ (fun j' hj => ent_cI G hj)] at hP
  · exact kk p e s m args below meth c9 H1 locs1 la C ⟨hP, hr.2⟩ hS hl
  · rw [ent_a G (N := N) (c := 11) (h := cI h j (va_cpy (aI h i) (aI h j) sp.toNatClampNeg dp.toNatClampNeg n.toNatClampNeg)) ha1.1 (by decide), ← ha1.2]
    show Sum.inl (gY G 11, aL h j, Sum.inl (aI (cI h j _) j)) = _
    rw [cI_eq]
/-- a static method of a nest mate's own -/
def CNS (own : String) (ix : Nat) (M2 : MD) (host : String) (n : Nat) : Prop := Cond.methodLinkNest own ix (mY M2) host ∈ nestW ∧ Cond.static (mY M2) ∈ tblG ∧ Cond.initialized (mY M2).cls ∈ tblG ∧ Cond.code (mY M2) (mC M2) (mL M2) (mR M2) ∈ tblG ∧ okN (mY M2) n
theorem r_callSN {ix : Nat} {M2 : MD} {host : String} (as : List Value) (hlk : CNS (mY M).cls ix M2 host as.length) (hrm : rmOK R cs M2 = true) (hst : (st.map fun v => v.category).sum ≤ 8) (hN : N' = N + (mO M2).cells ∧ N' ≤ NT ∨ N = NT ∧ N' = NT)
    (hd : decode (mC M) pc = .ok (.invokestatic ix, 3)) (hM : PM l G M2 N N' as h K noX)
    (kk : ∀ (v : Option Value) (h' : AH), K v h' → PW l G M R Fi N' (pc + 3) ls (v.toList ++ st) (cs.1 + (mO M2).cells, cs.2 + (mO M2).slots) h') :
    PW l G M R Fi N pc ls (as.reverse ++ st) cs h := by
  intro p e s m args below meth c9 H locs la C hr hs hl
  obtain ⟨w1, w2, w4, w5, w6⟩ := hlk
  obtain ⟨hR, hf⟩ := rmOK_spec hrm
  have hts := C.2.2.2.2.2.2.1
  intro T hT Z
  have hsz : H.size ≤ s.heap.size + cs.1 := by rw [← hT]; exact Z.heapSize
  have hrun := va_runSN (As := as.map (gv G)) (rest := st.map (gv G)) (nL := mL M) (g := F0 m pc la ((as.reverse ++ st).map (gv G))) (H := H) (locs := locs) (cells := cs.1) (slots := cs.2) ⟨C.1, C.2.1, C.2.2.1, C.2.2.2.2.2.1, hts⟩ hM.met ⟨va_cnB as.length hts (good_wM w5) rfl rfl rfl (C.2.2.2.2.2.2.2.1.1.2.1 _ w1) (hts _ w4) w6 hR, hts _ w2, trivial⟩ ⟨blindM _, fun U hU hW => pcM_at as C.2.2.2.2.2.2.2.1 hs hr hsz C.2.2.2.2.2.2.2.2.2.2 hU hW⟩ rfl (by simp) hl.1 (by simp [List.map_append, List.map_reverse]) (lv_room (by rw [gv_cats]; exact hst)) hd hf (below := below) (e := e) (meth := meth)
  refine c_runM hrun hs (fun v h' H1 locs1 q1 q2 q3 => ?_) T hT Z
  rw [map_tl]
  exact kk v h' q1.2 p e s m args below meth c9 H1 locs1 la C (rep_call hr hN q2) q3 hl
/-- a constructor of a nest mate's own -/
def CNI (own : String) (ix : Nat) (M2 : MD) (host : String) (n : Nat) : Prop := Cond.methodLinkNest own ix (mY M2) host ∈ nestW ∧ Cond.instanceMethod (mY M2) ∈ tblG ∧ Cond.initialized (mY M2).cls ∈ tblG ∧ Cond.code (mY M2) (mC M2) (mL M2) none ∈ tblG ∧ okN (mY M2) n ∧ (mY M2).name = "<init>" ∧ mR M2 = none
theorem r_callIN {i ix : Nat} {M2 : MD} {host : String} (as : List Value) (hlk : CNI (mY M).cls ix M2 host as.length) (hrm : rmOK R cs M2 = true) (hst : (st.map fun v => v.category).sum ≤ 8) (hN : N' = N + (mO M2).cells ∧ N' ≤ NT ∨ N = NT ∧ N' = NT)
    (hd : decode (mC M) pc = .ok (.invokespecial ix, 3)) (hM : PM l G M2 N N' (.ref i :: as) h K noX)
    (kk : ∀ (v : Option Value) (h' : AH), K v h' → PW l G M R Fi N' (pc + 3) ls (v.toList ++ st) (cs.1 + (mO M2).cells, cs.2 + (mO M2).slots) h') :
    PW l G M R Fi N pc ls (as.reverse ++ .ref i :: st) cs h := by
  intro p e s m args below meth c9 H locs la C hr hs hl
  obtain ⟨w1, w2, w4, w5, w6, w7, w8⟩ := hlk
  obtain ⟨hR, hf⟩ := rmOK_spec hrm
  have hts := C.2.2.2.2.2.2.1
  intro T hT Z
  have hsz : H.size ≤ s.heap.size + cs.1 := by rw [← hT]; exact Z.heapSize
  have hw : wM M2 = Cond.code (mY M2) (mC M2) (mL M2) none :: tblG := by unfold wM; rw [w8]
  have hrun := va_runIN (As := as.map (gv G)) (rest := st.map (gv G)) (b := ga G i) (nL := mL M) (g := F0 m pc la ((as.reverse ++ .ref i :: st).map (gv G))) (H := H) (locs := locs) (cells := cs.1) (slots := cs.2) ⟨C.1, C.2.1, C.2.2.1, C.2.2.2.2.2.1, hts⟩ hM.met ⟨va_cnB as.length hts (good_wM (by rw [w8]; exact w5)) hw rfl rfl (C.2.2.2.2.2.2.2.1.1.2.1 _ w1) (hts _ w4) w6 hR, w7, hts _ w2⟩ ⟨blindM _, fun U hU hW => pcM_at (.ref i :: as) C.2.2.2.2.2.2.2.1 hs hr hsz C.2.2.2.2.2.2.2.2.2.2 hU hW⟩ rfl (by simp) hl.1 (by simp [List.map_append, List.map_reverse, gv]) (lv_room (by rw [gv_cats]; exact hst)) hd hf (below := below) (e := e) (meth := meth)
  refine c_runM hrun hs (fun v h' H1 locs1 q1 q2 q3 => ?_) T hT Z
  rw [map_tl]
  exact kk v h' q1.2 p e s m args below meth c9 H1 locs1 la C (rep_call hr hN q2) q3 hl
/-- a constructor -/
def CI (own : String) (ix : Nat) (M2 : MD) (n : Nat) : Prop := Cond.methodLink own ix (mY M2) ∈ tblG ∧ Cond.instanceMethod (mY M2) ∈ tblG ∧ Cond.initialized (mY M2).cls ∈ tblG ∧ Cond.code (mY M2) (mC M2) (mL M2) none ∈ tblG ∧ okN (mY M2) n ∧ (mY M2).name = "<init>" ∧ mR M2 = none
theorem r_callI {i ix : Nat} {M2 : MD} (as : List Value) (hlk : CI (mY M).cls ix M2 as.length) (hrm : rmOK R cs M2 = true) (hst : (st.map fun v => v.category).sum ≤ 8) (hN : N' = N + (mO M2).cells ∧ N' ≤ NT ∨ N = NT ∧ N' = NT)
    (hd : decode (mC M) pc = .ok (.invokespecial ix, 3)) (hM : PM l G M2 N N' (.ref i :: as) h K noX)
    (kk : ∀ (v : Option Value) (h' : AH), K v h' → PW l G M R Fi N' (pc + 3) ls (v.toList ++ st) (cs.1 + (mO M2).cells, cs.2 + (mO M2).slots) h') :
    PW l G M R Fi N pc ls (as.reverse ++ .ref i :: st) cs h := by
  intro p e s m args below meth c9 H locs la C hr hs hl
  obtain ⟨w1, w2, w4, w5, w6, w7, w8⟩ := hlk
  obtain ⟨hR, hf⟩ := rmOK_spec hrm
  have hts := C.2.2.2.2.2.2.1
  intro T hT Z
  have hsz : H.size ≤ s.heap.size + cs.1 := by rw [← hT]; exact Z.heapSize
  have hw : wM M2 = Cond.code (mY M2) (mC M2) (mL M2) none :: tblG := by unfold wM; rw [w8]
  have hrun := va_runI (As := as.map (gv G)) (rest := st.map (gv G)) (b := ga G i) (nL := mL M) (g := F0 m pc la ((as.reverse ++ .ref i :: st).map (gv G))) (H := H) (locs := locs) (cells := cs.1) (slots := cs.2) ⟨C.1, C.2.1, C.2.2.1, C.2.2.2.2.2.1, hts⟩ hM.met (cwI as.length hts (good_wM (by rw [w8]; exact w5)) hw rfl rfl (hts _ w4) (hts _ w1) (hts _ w2) w7 w6 hR) ⟨blindM _, fun U hU hW => pcM_at (.ref i :: as) C.2.2.2.2.2.2.2.1 hs hr hsz C.2.2.2.2.2.2.2.2.2.2 hU hW⟩ rfl (by simp) hl.1 (by simp [List.map_append, List.map_reverse, gv]) (lv_room (by rw [gv_cats]; exact hst)) hd hf (below := below) (e := e) (meth := meth)
  refine c_runM hrun hs (fun v h' H1 locs1 q1 q2 q3 => ?_) T hT Z
  rw [map_tl]
  exact kk v h' q1.2 p e s m args below meth c9 H1 locs1 la C (rep_call hr hN q2) q3 hl
end MO
