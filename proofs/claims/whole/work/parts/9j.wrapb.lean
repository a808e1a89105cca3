-- methods with handlers
def wMh (M : MD) : List Cond := Cond.codeWith (mY M) (mC M) (mL M) (mR M) (mH M) :: tblG
def PMh (l : Launch) (G : GC) (M : MD) (N N' : Nat) (as : List Value) (h : AH) (K : Option Value → AH → Prop) : Prop :=
  vx_Met l (mY M) (wMh M) (mO M) (PcM l G N as h) (QcM G N' (tyK M K)) (XcM G N' noX) (mO M).cells (mO M).slots (gA G)
theorem PMh.of {l : Launch} {G : GC} {M : MD} {N N' : Nat} {as : List Value} {h : AH} {K : Option Value → AH → Prop} (hy : plainName (mY M).cls = true) (hca : (as.all fun v => v.category == 1) = true) (hn : as.length ≤ mL M)
    (body : l.stackTraces = false → N ≤ NT → PW l G M (mO M) (fiM G M N' K noX) N 0 (ent0 (mL M) as) [] (0, 0) h) : PMh l G M N N' as h K := by
  refine vx_ofWH (cc := mC M) (maxL := mL M) (ret := mR M) (hh := mH M) (ws' := tblG) hy rfl ?_
  intro p e s m args below meth c s₁ B hml hv
  obtain ⟨rfl, hgs, hrep, hNT, hsz, hst⟩ := hv
  have hpre := atoms_spec (ws := wMh M) B.pre
  have ht : c.exceptionTable.toList = tableOf (mH M) := vx_table (x := mY M) B (hpre _ List.mem_cons_self)
  have hC : Cx l G M p s m (as.map (gv G)).toArray meth c := ⟨B.exec, B.bytes, hml, B.returns, B.notSynchronized, findClass_of_methodNamed B.named, fun w hw => hpre w (List.mem_cons_of_mem _ hw), hgs, ht, (name_of_methodNamed B.named B.method).1, hst⟩
  have hl := lv_entry (as.map (gv G)) (n := mL M) (by rw [lg_sl1 G as hca]; exact hn)
  have hb := body hst hNT p e s m _ below meth c s.heap [] _ hC ⟨hrep, hNT, fun q => hsz q⟩ va_S.rf (by rw [← asc_ent G (mL M - as.length) as 0 hca] at hl; exact hl)
  rw [lg_entry_eq]
  exact hb
def CStH (own : String) (ix : Nat) (M2 : MD) (n : Nat) : Prop := Cond.methodLink own ix (mY M2) ∈ tblG ∧ Cond.static (mY M2) ∈ tblG ∧ Cond.initialized (mY M2).cls ∈ tblG ∧ Cond.codeWith (mY M2) (mC M2) (mL M2) (mR M2) (mH M2) ∈ tblG ∧ okN (mY M2) n
theorem good_wMh {M2 : MD} (h : Cond.codeWith (mY M2) (mC M2) (mL M2) (mR M2) (mH M2) ∈ tblG) : GoodIn tblG (wMh M2) := by
  intro w hw
  rcases List.mem_cons.mp hw with rfl | hw
  · exact ⟨h, tblG_good h⟩
  · exact ⟨hw, tblG_good hw⟩
section CRH
variable {l : Launch} {G : GC} {M : MD} {R : Room} {Fi : CX → State → Prop} {N pc : Nat} {ls : List (Option Value)} {st : List Value} {cs : Nat × Nat} {h : AH} {K : Option Value → AH → Prop}
theorem r_callSH {ix : Nat} {M2 : MD} (as : List Value) (hlk : CStH (mY M).cls ix M2 as.length) (hrm : rmOK R cs M2 = true) (hst : (st.map fun v => v.category).sum ≤ 8)
    (hd : decode (mC M) pc = .ok (.invokestatic ix, 3)) (hM : PMh l G M2 NT NT as h K)
    (kk : ∀ (v : Option Value) (h' : AH), K v h' → PW l G M R Fi NT (pc + 3) ls (v.toList ++ st) (cs.1 + (mO M2).cells, cs.2 + (mO M2).slots) h') :
    PW l G M R Fi NT pc ls (as.reverse ++ st) cs h := by
  intro p e s m args below meth c9 H locs la C hr hs hl
  obtain ⟨w1, w2, w4, w5, w6⟩ := hlk
  obtain ⟨hR, hf⟩ := rmOK_spec hrm
  have hts := C.2.2.2.2.2.2.1
  have hG : GoodIn tblG (va_wsS (mY M).cls ix (mY M2) (wMh M2)) := by
    intro w hw
    simp only [va_wsS, List.mem_append, List.mem_cons, List.not_mem_nil, or_false] at hw
    rcases hw with (rfl | rfl | rfl) | hw
    all_goals first | exact ⟨w1, tblG_good w1⟩ | exact ⟨w2, tblG_good w2⟩ | exact ⟨w4, tblG_good w4⟩ | exact good_wMh w5 w hw
  intro T hT Z
  have hsz : H.size ≤ s.heap.size + cs.1 := by rw [← hT]; exact Z.heapSize
  have hrun := vx_runSX (hh := mH M2) (As := as.map (gv G)) (rest := st.map (gv G)) (nL := mL M) (g := F0 m pc la ((as.reverse ++ st).map (gv G))) (H := H) (locs := locs) (cells := cs.1) (slots := cs.2) ⟨C.1, C.2.1, C.2.2.1, C.2.2.2.2.2.1, hts⟩ hM (vx_cwSW as.length hts hG rfl rfl rfl w6 hR) ⟨blindM _, fun U hU hW => pcM_at as C.2.2.2.2.2.2.2.1 hs hr hsz C.2.2.2.2.2.2.2.2.2.2 hU hW⟩ rfl (by simp) hl.1 (by simp [List.map_append, List.map_reverse]) (lv_room (by rw [gv_cats]; exact hst)) hd hf (below := below) (e := e) (meth := meth)
  refine c_run hrun hs (fun v h' H1 locs1 q1 q2 q3 => ?_) (fun E h' H1 locs1 ce q q1 q2 q3 q4 q5 q6 => q1.elim) T hT Z
  rw [map_tl]
  exact kk v h' q1.2 p e s m args below meth c9 H1 locs1 la C (rep_call hr (Or.inr ⟨rfl, rfl⟩) q2) q3 hl
end CRH
