-- rows of fields
/-- a field's link in the pool of a class: entry ix is field k of class c -/
def FL (own : String) (ix c k : Nat) : Prop := c < 10 ∧ k < clN c ∧ Cond.fieldLink own ix (clT c k).1 (clT c k).2.1 (clT c k).2.2.1 ∈ tblG
theorem isK.at {G : GC} {N : Nat} {h : AH} {i c : Nat} (hk : isK N h i c) (hN : N ≤ NT) : ga G i = gB G + i := ga_o G hk.2.1 (by have := hk.2.2; have : NT = 738 := rfl; omega)
theorem if_ne {α : Type} {a b : Nat} (h : ¬ a = b) (x y : α) : (if a = b then x else y) = y := if_neg h
theorem entA_congr (G : GC) {h h' : AH} {i t : Nat} (hI : aI h' i = aI h i) (hJ : aJ h' i = aJ h i) (hD : aD h' i = aD h i) (hR : aR h' i = aR h i) (hL : aL h' i = aL h i) : entA G h' i t = entA G h i t := by
  unfold entA; rw [hI, hJ, hD, hR, hL]
theorem ent_congr (G : GC) {h h' : AH} {i : Nat} (hI : aI h' i = aI h i) (hJ : aJ h' i = aJ h i) (hD : aD h' i = aD h i) (hR : aR h' i = aR h i) (hK : aK h' i = aK h i) (hL : aL h' i = aL h i) : ent G h' i = ent G h i := by
  unfold ent; rw [hK, entA_congr G hI hJ hD hR hL]
  unfold fvs fv; rw [hI, hJ, hR]
theorem cI_ne {h : AH} {i j : Nat} {f : Nat → Int32} (e : j ≠ i) : aI (cI h i f) j = aI h j := if_neg e
theorem cI_eq {h : AH} {i : Nat} {f : Nat → Int32} : aI (cI h i f) i = f := if_pos rfl
theorem cJ_ne {h : AH} {i j : Nat} {f : Nat → Int64} (e : j ≠ i) : aJ (cJ h i f) j = aJ h j := if_neg e
theorem cJ_eq {h : AH} {i : Nat} {f : Nat → Int64} : aJ (cJ h i f) i = f := if_pos rfl
theorem cD_ne {h : AH} {i j : Nat} {f : Nat → UInt64} (e : j ≠ i) : aD (cD h i f) j = aD h j := if_neg e
theorem cD_eq {h : AH} {i : Nat} {f : Nat → UInt64} : aD (cD h i f) i = f := if_pos rfl
theorem cR_ne {h : AH} {i j : Nat} {f : Nat → Nat} (e : j ≠ i) : aR (cR h i f) j = aR h j := if_neg e
theorem cR_eq {h : AH} {i : Nat} {f : Nat → Nat} : aR (cR h i f) i = f := if_pos rfl
theorem ent_cI (G : GC) {h : AH} {i j : Nat} {f : Nat → Int32} (e : j ≠ i) : ent G (cI h i f) j = ent G h j := ent_congr G (cI_ne e) rfl rfl rfl rfl rfl
theorem ent_cJ (G : GC) {h : AH} {i j : Nat} {f : Nat → Int64} (e : j ≠ i) : ent G (cJ h i f) j = ent G h j := ent_congr G rfl (cJ_ne e) rfl rfl rfl rfl
theorem ent_cD (G : GC) {h : AH} {i j : Nat} {f : Nat → UInt64} (e : j ≠ i) : ent G (cD h i f) j = ent G h j := ent_congr G rfl rfl (cD_ne e) rfl rfl rfl
theorem ent_cR (G : GC) {h : AH} {i j : Nat} {f : Nat → Nat} (e : j ≠ i) : ent G (cR h i f) j = ent G h j := ent_congr G rfl rfl rfl (cR_ne e) rfl rfl
theorem ro_some (G : GC) {r : Nat} (h : r ≠ 0) : ro G r = some (ga G r) := if_neg h
section RO
variable {l : Launch} {G : GC} {M : MD} {R : Room} {Fi : CX → State → Prop} {N pc : Nat} {ls : List (Option Value)} {st : List Value} {cs : Nat × Nat} {h : AH}

theorem r_getI {i c k ix : Nat} (hf : FL (mY M).cls ix c k) (hk : isK N h i c) (ht : tk (clY c k) = 0) (hd : decode (mC M) pc = .ok (.getfield ix, 3)) (kk : PW l G M R Fi N (pc + 3) ls (.int (aI h i k) :: st) cs h) : PW l G M R Fi N pc ls (.ref i :: st) cs h := by
  intro p e s m args below meth c9 H locs la C hr hs hl
  have hga : ga G i = gB G + i := hk.at hr.2.1
  show W p l e R s m args below meth c9 H locs cs.1 cs.2 _ (F0 m pc la (.ref (ga G i) :: st.map (gv G)))
  rw [hga]
  refine va_get C.1 C.2.1 C.2.2.2.2.2.2.1 (lay_in hf.1) C.2.2.2.2.2.1 C.2.2.2.2.2.2.2.1.1.1 hr.1 (i - 1) (fs := fvs G h i c) (by rw [wsA_at G h hk.2.1 hk.2.2, ent_o G hk hf.1]) (cl_at c hf.1) k hf.2.1 (C.2.2.2.2.2.2.1 _ hf.2.2) (fun _ q => q) (v := gv G (.int (aI h i k))) ?_ hd (kk p e s m args below meth c9 H locs la C hr hs hl)
  rw [fvs_at _ _ _ _ hf.2.1, ht]
  rfl
theorem r_getJ {i c k ix : Nat} (hf : FL (mY M).cls ix c k) (hk : isK N h i c) (ht : tk (clY c k) = 1) (hd : decode (mC M) pc = .ok (.getfield ix, 3)) (kk : PW l G M R Fi N (pc + 3) ls (.long (aJ h i k) :: st) cs h) : PW l G M R Fi N pc ls (.ref i :: st) cs h := by
  intro p e s m args below meth c9 H locs la C hr hs hl
  have hga : ga G i = gB G + i := hk.at hr.2.1
  show W p l e R s m args below meth c9 H locs cs.1 cs.2 _ (F0 m pc la (.ref (ga G i) :: st.map (gv G)))
  rw [hga]
  refine va_get C.1 C.2.1 C.2.2.2.2.2.2.1 (lay_in hf.1) C.2.2.2.2.2.1 C.2.2.2.2.2.2.2.1.1.1 hr.1 (i - 1) (fs := fvs G h i c) (by rw [wsA_at G h hk.2.1 hk.2.2, ent_o G hk hf.1]) (cl_at c hf.1) k hf.2.1 (C.2.2.2.2.2.2.1 _ hf.2.2) (fun _ q => q) (v := gv G (.long (aJ h i k))) ?_ hd (kk p e s m args below meth c9 H locs la C hr hs hl)
  rw [fvs_at _ _ _ _ hf.2.1, ht]
  rfl
theorem r_getR {i c k ix : Nat} {r : Nat} (hf : FL (mY M).cls ix c k) (hk : isK N h i c) (ht : tk (clY c k) = 2) (hr2 : aR h i k = r) (h0 : r ≠ 0) (hd : decode (mC M) pc = .ok (.getfield ix, 3)) (kk : PW l G M R Fi N (pc + 3) ls (.ref r :: st) cs h) : PW l G M R Fi N pc ls (.ref i :: st) cs h := by
  intro p e s m args below meth c9 H locs la C hr hs hl
  have hga : ga G i = gB G + i := hk.at hr.2.1
  show W p l e R s m args below meth c9 H locs cs.1 cs.2 _ (F0 m pc la (.ref (ga G i) :: st.map (gv G)))
  rw [hga]
  refine va_get C.1 C.2.1 C.2.2.2.2.2.2.1 (lay_in hf.1) C.2.2.2.2.2.1 C.2.2.2.2.2.2.2.1.1.1 hr.1 (i - 1) (fs := fvs G h i c) (by rw [wsA_at G h hk.2.1 hk.2.2, ent_o G hk hf.1]) (cl_at c hf.1) k hf.2.1 (C.2.2.2.2.2.2.1 _ hf.2.2) (fun _ q => q) (v := gv G (.ref r)) ?_ hd (kk p e s m args below meth c9 H locs la C hr hs hl)
  rw [fvs_at _ _ _ _ hf.2.1, ht]
  show some (va_rf (ro G (aR h i k))) = _
  rw [hr2, ro_some G h0]
  rfl
theorem r_putI {i c k ix : Nat} {x : Int32} (hf : FL (mY M).cls ix c k) (hk : isK N h i c) (ht : clY c k = .int) (hfi : (clT c k).2.2.2 = false) (hd : decode (mC M) pc = .ok (.putfield ix, 3)) (kk : PW l G M R Fi N (pc + 3) ls st cs (sI h i k x)) : PW l G M R Fi N pc ls (.int x :: .ref i :: st) cs h := by
  intro p e s m args below meth c9 H locs la C hr hs hl
  have hga : ga G i = gB G + i := hk.at hr.2.1
  show W p l e R s m args below meth c9 H locs cs.1 cs.2 _ (F0 m pc la (.int x :: .ref (ga G i) :: st.map (gv G)))
  rw [hga]
  have hws : (wsA G N h).set (i - 1) (gB G + i, .inr (c, (fvs G h i c).set k (.int x))) = wsA G N (sI h i k x) := by
    refine wsA_set G hk.2.1 ?_ (fun j hj => ent_cI G hj)
    rw [ent_o G (i := i) (c := c) (h := sI h i k x) (N := N) hk hf.1, fvs_set G (h' := sI h i k x) hf.2.1 ?_ (fun j hj => ?_)]
    · rw [ht]
      show Value.int (aI (cI h i _) i k) = _
      rw [cI_eq, pk_us]
    · unfold fv
      show (if _ then Value.int (aI (cI h i _) i j) else _) = _
      rw [cI_eq, pk_un hj]; rfl
  refine va_put C.1 C.2.1 C.2.2.2.2.2.2.1 (lay_in hf.1) (clY c) (cl_ty c hf.1) (cl_nm c hf.1) C.2.2.2.2.2.1 C.2.2.2.2.2.2.2.1.1.1 hr.1 (wsA_D G N h) hs (i - 1) (fs := fvs G h i c) (by rw [wsA_at G h hk.2.1 hk.2.2, ent_o G hk hf.1]) (cl_at c hf.1) k hf.2.1 (C.2.2.2.2.2.2.1 _ hf.2.2) (fun _ q => q) hfi (ty := .int) (by rw [cl_ty c hf.1 k hf.2.1, ht]) rfl rfl (by rw [fvs_len]; exact hf.2.1) hd (fun H1 locs1 hP _ hS => ?_)
  rw [hws] at hP
  exact kk p e s m args below meth c9 H1 locs1 la C ⟨hP, hr.2⟩ hS hl
theorem r_putZ {i c k ix : Nat} {x : Int32} (hf : FL (mY M).cls ix c k) (hk : isK N h i c) (ht : clY c k = .boolean) (hx : x = 0 ∨ x = 1) (hfi : (clT c k).2.2.2 = false) (hd : decode (mC M) pc = .ok (.putfield ix, 3)) (kk : PW l G M R Fi N (pc + 3) ls st cs (sI h i k x)) : PW l G M R Fi N pc ls (.int x :: .ref i :: st) cs h := by
  intro p e s m args below meth c9 H locs la C hr hs hl
  have hga : ga G i = gB G + i := hk.at hr.2.1
  show W p l e R s m args below meth c9 H locs cs.1 cs.2 _ (F0 m pc la (.int x :: .ref (ga G i) :: st.map (gv G)))
  rw [hga]
  have hws : (wsA G N h).set (i - 1) (gB G + i, .inr (c, (fvs G h i c).set k (.int x))) = wsA G N (sI h i k x) := by
    refine wsA_set G hk.2.1 ?_ (fun j hj => ent_cI G hj)
    rw [ent_o G (i := i) (c := c) (h := sI h i k x) (N := N) hk hf.1, fvs_set G (h' := sI h i k x) hf.2.1 ?_ (fun j hj => ?_)]
    · rw [ht]
      show Value.int (aI (cI h i _) i k) = _
      rw [cI_eq, pk_us]
    · unfold fv
      show (if _ then Value.int (aI (cI h i _) i j) else _) = _
      rw [cI_eq, pk_un hj]; rfl
  refine va_put C.1 C.2.1 C.2.2.2.2.2.2.1 (lay_in hf.1) (clY c) (cl_ty c hf.1) (cl_nm c hf.1) C.2.2.2.2.2.1 C.2.2.2.2.2.2.2.1.1.1 hr.1 (wsA_D G N h) hs (i - 1) (fs := fvs G h i c) (by rw [wsA_at G h hk.2.1 hk.2.2, ent_o G hk hf.1]) (cl_at c hf.1) k hf.2.1 (C.2.2.2.2.2.2.1 _ hf.2.2) (fun _ q => q) hfi (ty := .boolean) (by rw [cl_ty c hf.1 k hf.2.1, ht]) (by rcases hx with rfl | rfl <;> rfl) (by rcases hx with rfl | rfl <;> rfl) (by rw [fvs_len]; exact hf.2.1) hd (fun H1 locs1 hP _ hS => ?_)
  rw [hws] at hP
  exact kk p e s m args below meth c9 H1 locs1 la C ⟨hP, hr.2⟩ hS hl
theorem r_putJ {i c k ix : Nat} {x : Int64} (hf : FL (mY M).cls ix c k) (hk : isK N h i c) (ht : clY c k = .long) (hfi : (clT c k).2.2.2 = false) (hd : decode (mC M) pc = .ok (.putfield ix, 3)) (kk : PW l G M R Fi N (pc + 3) ls st cs (sJ h i k x)) : PW l G M R Fi N pc ls (.long x :: .ref i :: st) cs h := by
  intro p e s m args below meth c9 H locs la C hr hs hl
  have hga : ga G i = gB G + i := hk.at hr.2.1
  show W p l e R s m args below meth c9 H locs cs.1 cs.2 _ (F0 m pc la (.long x :: .ref (ga G i) :: st.map (gv G)))
  rw [hga]
  have hws : (wsA G N h).set (i - 1) (gB G + i, .inr (c, (fvs G h i c).set k (.long x))) = wsA G N (sJ h i k x) := by
    refine wsA_set G hk.2.1 ?_ (fun j hj => ent_cJ G hj)
    rw [ent_o G (i := i) (c := c) (h := sJ h i k x) (N := N) hk hf.1, fvs_set G (h' := sJ h i k x) hf.2.1 ?_ (fun j hj => ?_)]
    · rw [ht]
      show Value.long (aJ (cJ h i _) i k) = _
      rw [cJ_eq, pk_uLs]
    · unfold fv
      show (if _ then _ else if _ then Value.long (aJ (cJ h i _) i j) else _) = _
      rw [cJ_eq, pk_uLn hj]; rfl
  refine va_put C.1 C.2.1 C.2.2.2.2.2.2.1 (lay_in hf.1) (clY c) (cl_ty c hf.1) (cl_nm c hf.1) C.2.2.2.2.2.1 C.2.2.2.2.2.2.2.1.1.1 hr.1 (wsA_D G N h) hs (i - 1) (fs := fvs G h i c) (by rw [wsA_at G h hk.2.1 hk.2.2, ent_o G hk hf.1]) (cl_at c hf.1) k hf.2.1 (C.2.2.2.2.2.2.1 _ hf.2.2) (fun _ q => q) hfi (ty := .long) (by rw [cl_ty c hf.1 k hf.2.1, ht]) rfl rfl (by rw [fvs_len]; exact hf.2.1) hd (fun H1 locs1 hP _ hS => ?_)
  rw [hws] at hP
  exact kk p e s m args below meth c9 H1 locs1 la C ⟨hP, hr.2⟩ hS hl
theorem ty_ref {ty : FieldType} (h : tk ty = 2) (a : Nat) : narrow ty (.ref a) = .ref a ∧ fits ty (.ref a) = true := by
  cases ty <;> first | exact ⟨rfl, rfl⟩ | (exact absurd h (by decide))
theorem ws_R (G : GC) {N i c k x : Nat} {h : AH} (hc : c < 10) (hkc : k < clN c) (hk : isK N h i c) (ht : tk (clY c k) = 2) (h0 : x ≠ 0) : (wsA G N h).set (i - 1) (gB G + i, .inr (c, (fvs G h i c).set k (.ref (ga G x)))) = wsA G N (sR h i k x) := by
  refine wsA_set G hk.2.1 ?_ (fun j hj => ent_cR G hj)
  rw [ent_o G (i := i) (c := c) (h := sR h i k x) (N := N) hk hc, fvs_set G (h' := sR h i k x) hkc ?_ (fun j hj => ?_)]
  · rw [ht]
    show va_rf (ro G (aR (cR h i _) i k)) = _
    rw [cR_eq]
    show va_rf (ro G (va_up (aR h i) k x k)) = _
    unfold va_up
    rw [if_pos rfl, ro_some G h0]; rfl
  · unfold fv
    show (if _ then _ else if _ then _ else va_rf (ro G (aR (cR h i _) i j))) = _
    rw [cR_eq]
    show (if _ then _ else if _ then _ else va_rf (ro G (va_up (aR h i) k x j))) = _
    unfold va_up
    rw [if_neg hj]; rfl
theorem r_putR {i c k ix x : Nat} (hf : FL (mY M).cls ix c k) (hk : isK N h i c) (ht : tk (clY c k) = 2) (h0 : x ≠ 0) (hfi : (clT c k).2.2.2 = false) (hd : decode (mC M) pc = .ok (.putfield ix, 3)) (kk : PW l G M R Fi N (pc + 3) ls st cs (sR h i k x)) : PW l G M R Fi N pc ls (.ref x :: .ref i :: st) cs h := by
  intro p e s m args below meth c9 H locs la C hr hs hl
  have hga : ga G i = gB G + i := hk.at hr.2.1
  show W p l e R s m args below meth c9 H locs cs.1 cs.2 _ (F0 m pc la (.ref (ga G x) :: .ref (ga G i) :: st.map (gv G)))
  rw [hga]
  refine va_put C.1 C.2.1 C.2.2.2.2.2.2.1 (lay_in hf.1) (clY c) (cl_ty c hf.1) (cl_nm c hf.1) C.2.2.2.2.2.1 C.2.2.2.2.2.2.2.1.1.1 hr.1 (wsA_D G N h) hs (i - 1) (fs := fvs G h i c) (by rw [wsA_at G h hk.2.1 hk.2.2, ent_o G hk hf.1]) (cl_at c hf.1) k hf.2.1 (C.2.2.2.2.2.2.1 _ hf.2.2) (fun _ q => q) hfi (cl_ty c hf.1 k hf.2.1) (ty_ref ht _).1 (ty_ref ht _).2 (by rw [fvs_len]; exact hf.2.1) hd (fun H1 locs1 hP _ hS => ?_)
  rw [ws_R G hf.1 hf.2.1 hk ht h0] at hP
  exact kk p e s m args below meth c9 H1 locs1 la C ⟨hP, hr.2⟩ hS hl
theorem r_putRF {i c k ix x : Nat} (hf : FL (mY M).cls ix c k) (hk : isK N h i c) (ht : tk (clY c k) = 2) (h0 : x ≠ 0) (hfi : (clT c k).2.2.2 = true) (hin : (mY M).name = "<init>") (hde : (clT c k).1 = (mY M).cls) (hd : decode (mC M) pc = .ok (.putfield ix, 3)) (kk : PW l G M R Fi N (pc + 3) ls st cs (sR h i k x)) : PW l G M R Fi N pc ls (.ref x :: .ref i :: st) cs h := by
  intro p e s m args below meth c9 H locs la C hr hs hl
  have hga : ga G i = gB G + i := hk.at hr.2.1
  show W p l e R s m args below meth c9 H locs cs.1 cs.2 _ (F0 m pc la (.ref (ga G x) :: .ref (ga G i) :: st.map (gv G)))
  rw [hga]
  refine va_putF C.1 C.2.1 C.2.2.2.2.2.2.1 (lay_in hf.1) (clY c) (cl_ty c hf.1) (cl_nm c hf.1) C.2.2.2.2.2.1 C.2.2.2.2.2.2.2.1.1.1 hr.1 (wsA_D G N h) hs (i - 1) (fs := fvs G h i c) (by rw [wsA_at G h hk.2.1 hk.2.2, ent_o G hk hf.1]) (cl_at c hf.1) k hf.2.1 (C.2.2.2.2.2.2.1 _ hf.2.2) (fun _ q => q) hfi (C.2.2.2.2.2.2.2.2.2.1.trans hin) hde (cl_ty c hf.1 k hf.2.1) (ty_ref ht _).1 (ty_ref ht _).2 (by rw [fvs_len]; exact hf.2.1) hd (fun H1 locs1 hP _ hS => ?_)
  rw [ws_R G hf.1 hf.2.1 hk ht h0] at hP
  exact kk p e s m args below meth c9 H1 locs1 la C ⟨hP, hr.2⟩ hS hl

theorem r_iald {i n : Nat} {x : Int32} (ha : isA N h i 11 n) (hin : vp_in x n) (hd : decode (mC M) pc = .ok (.iaload, 1)) (kk : PW l G M R Fi N (pc + 1) ls (.int (aI h i x.toNatClampNeg) :: st) cs h) : PW l G M R Fi N pc ls (.int x :: .ref i :: st) cs h := by
  intro p e s m args below meth c9 H locs la C hr hs hl
  have hga : ga G i = gB G + i := ha.1.at hr.2.1
  show W p l e R s m args below meth c9 H locs cs.1 cs.2 _ (F0 m pc la (.int x :: .ref (ga G i) :: st.map (gv G)))
  rw [hga]
  exact va_iald C.1 C.2.1 C.2.2.2.2.2.2.2.1.1.1 hr.1 (i - 1) 1 (cA := gY G 11) (n := n) (by rw [wsA_at G h ha.1.2.1 ha.1.2.2, ent_a G ha.1 (by decide), ← ha.2]; rfl) rfl hin hd (kk p e s m args below meth c9 H locs la C hr hs hl)
theorem r_iast {i n : Nat} {x : Int32} {v : Int32} (ha : isA N h i 11 n) (hin : vp_in x n) (hd : decode (mC M) pc = .ok (.iastore, 1)) (kk : PW l G M R Fi N (pc + 1) ls st cs (sI h i x.toNatClampNeg (v))) : PW l G M R Fi N pc ls (.int v :: .int x :: .ref i :: st) cs h := by
  intro p e s m args below meth c9 H locs la C hr hs hl
  have hga : ga G i = gB G + i := ha.1.at hr.2.1
  show W p l e R s m args below meth c9 H locs cs.1 cs.2 _ (F0 m pc la (.int v :: .int x :: .ref (ga G i) :: st.map (gv G)))
  rw [hga]
  refine va_iast C.1 C.2.1 C.2.2.2.2.2.2.2.1.1.1 hr.1 (wsA_D G N h) hs (i - 1) 1 (cA := gY G 11) (n := n) (by rw [wsA_at G h ha.1.2.1 ha.1.2.2, ent_a G ha.1 (by decide), ← ha.2]; rfl) rfl hin hd (fun H1 locs1 hP _ hS => ?_)
  rw [wsA_set G (h' := sI h i x.toNatClampNeg (v)) ha.1.2.1 ?_ (fun j hj => ent_cI G hj)] at hP
  · exact kk p e s m args below meth c9 H1 locs1 la C ⟨hP, hr.2⟩ hS hl
  · rw [ent_a G (N := N) (c := 11) (h := sI h i x.toNatClampNeg (v)) ha.1 (by decide), ← ha.2]
    show Sum.inl (gY G 11, aL h i, Sum.inl (aI (cI h i _) i)) = _
    rw [cI_eq]
theorem r_bald {i n : Nat} {x : Int32} (ha : isA N h i 10 n) (hin : vp_in x n) (hd : decode (mC M) pc = .ok (.baload, 1)) (kk : PW l G M R Fi N (pc + 1) ls (.int (aI h i x.toNatClampNeg) :: st) cs h) : PW l G M R Fi N pc ls (.int x :: .ref i :: st) cs h := by
  intro p e s m args below meth c9 H locs la C hr hs hl
  have hga : ga G i = gB G + i := ha.1.at hr.2.1
  show W p l e R s m args below meth c9 H locs cs.1 cs.2 _ (F0 m pc la (.int x :: .ref (ga G i) :: st.map (gv G)))
  rw [hga]
  exact va_bald C.1 C.2.1 C.2.2.2.2.2.2.2.1.1.1 hr.1 (i - 1) 0 (cA := gY G 10) (n := n) (by rw [wsA_at G h ha.1.2.1 ha.1.2.2, ent_a G ha.1 (by decide), ← ha.2]; rfl) rfl hin hd (kk p e s m args below meth c9 H locs la C hr hs hl)
theorem r_bast {i n : Nat} {x : Int32} {v : Int32} (ha : isA N h i 10 n) (hin : vp_in x n) (hd : decode (mC M) pc = .ok (.bastore, 1)) (kk : PW l G M R Fi N (pc + 1) ls st cs (sI h i x.toNatClampNeg (vp_nar .byte v))) : PW l G M R Fi N pc ls (.int v :: .int x :: .ref i :: st) cs h := by
  intro p e s m args below meth c9 H locs la C hr hs hl
  have hga : ga G i = gB G + i := ha.1.at hr.2.1
  show W p l e R s m args below meth c9 H locs cs.1 cs.2 _ (F0 m pc la (.int v :: .int x :: .ref (ga G i) :: st.map (gv G)))
  rw [hga]
  refine va_bast C.1 C.2.1 C.2.2.2.2.2.2.2.1.1.1 hr.1 (wsA_D G N h) hs (i - 1) 0 (cA := gY G 10) (n := n) (by rw [wsA_at G h ha.1.2.1 ha.1.2.2, ent_a G ha.1 (by decide), ← ha.2]; rfl) rfl hin hd (fun H1 locs1 hP _ hS => ?_)
  rw [wsA_set G (h' := sI h i x.toNatClampNeg (vp_nar .byte v)) ha.1.2.1 ?_ (fun j hj => ent_cI G hj)] at hP
  · exact kk p e s m args below meth c9 H1 locs1 la C ⟨hP, hr.2⟩ hS hl
  · rw [ent_a G (N := N) (c := 10) (h := sI h i x.toNatClampNeg (vp_nar .byte v)) ha.1 (by decide), ← ha.2]
    show Sum.inl (gY G 10, aL h i, Sum.inl (aI (cI h i _) i)) = _
    rw [cI_eq]
theorem r_zald {i n : Nat} {x : Int32} (ha : isA N h i 13 n) (hin : vp_in x n) (hd : decode (mC M) pc = .ok (.baload, 1)) (kk : PW l G M R Fi N (pc + 1) ls (.int (aI h i x.toNatClampNeg) :: st) cs h) : PW l G M R Fi N pc ls (.int x :: .ref i :: st) cs h := by
  intro p e s m args below meth c9 H locs la C hr hs hl
  have hga : ga G i = gB G + i := ha.1.at hr.2.1
  show W p l e R s m args below meth c9 H locs cs.1 cs.2 _ (F0 m pc la (.int x :: .ref (ga G i) :: st.map (gv G)))
  rw [hga]
  exact va_zald C.1 C.2.1 C.2.2.2.2.2.2.2.1.1.1 hr.1 (i - 1) 3 (cA := gY G 13) (n := n) (by rw [wsA_at G h ha.1.2.1 ha.1.2.2, ent_a G ha.1 (by decide), ← ha.2]; rfl) rfl hin hd (kk p e s m args below meth c9 H locs la C hr hs hl)
theorem r_zast {i n : Nat} {x : Int32} {v : Int32} (ha : isA N h i 13 n) (hin : vp_in x n) (hd : decode (mC M) pc = .ok (.bastore, 1)) (kk : PW l G M R Fi N (pc + 1) ls st cs (sI h i x.toNatClampNeg (vp_nar .boolean v))) : PW l G M R Fi N pc ls (.int v :: .int x :: .ref i :: st) cs h := by
  intro p e s m args below meth c9 H locs la C hr hs hl
  have hga : ga G i = gB G + i := ha.1.at hr.2.1
  show W p l e R s m args below meth c9 H locs cs.1 cs.2 _ (F0 m pc la (.int v :: .int x :: .ref (ga G i) :: st.map (gv G)))
  rw [hga]
  refine va_zast C.1 C.2.1 C.2.2.2.2.2.2.2.1.1.1 hr.1 (wsA_D G N h) hs (i - 1) 3 (cA := gY G 13) (n := n) (by rw [wsA_at G h ha.1.2.1 ha.1.2.2, ent_a G ha.1 (by decide), ← ha.2]; rfl) rfl hin hd (fun H1 locs1 hP _ hS => ?_)
  rw [wsA_set G (h' := sI h i x.toNatClampNeg (vp_nar .boolean v)) ha.1.2.1 ?_ (fun j hj => ent_cI G hj)] at hP
  · exact kk p e s m args below meth c9 H1 locs1 la C ⟨hP, hr.2⟩ hS hl
  · rw [ent_a G (N := N) (c := 13) (h := sI h i x.toNatClampNeg (vp_nar .boolean v)) ha.1 (by decide), ← ha.2]
    show Sum.inl (gY G 13, aL h i, Sum.inl (aI (cI h i _) i)) = _
    rw [cI_eq]
theorem r_lald {i n : Nat} {x : Int32} (ha : isA N h i 12 n) (hin : vp_in x n) (hd : decode (mC M) pc = .ok (.laload, 1)) (kk : PW l G M R Fi N (pc + 1) ls (.long (aJ h i x.toNatClampNeg) :: st) cs h) : PW l G M R Fi N pc ls (.int x :: .ref i :: st) cs h := by
  intro p e s m args below meth c9 H locs la C hr hs hl
  have hga : ga G i = gB G + i := ha.1.at hr.2.1
  show W p l e R s m args below meth c9 H locs cs.1 cs.2 _ (F0 m pc la (.int x :: .ref (ga G i) :: st.map (gv G)))
  rw [hga]
  exact va_lald C.1 C.2.1 C.2.2.2.2.2.2.2.1.1.1 hr.1 (i - 1) 2 (cA := gY G 12) (n := n) (by rw [wsA_at G h ha.1.2.1 ha.1.2.2, ent_a G ha.1 (by decide), ← ha.2]; rfl) rfl hin hd (kk p e s m args below meth c9 H locs la C hr hs hl)
theorem r_last {i n : Nat} {x : Int32} {v : Int64} (ha : isA N h i 12 n) (hin : vp_in x n) (hd : decode (mC M) pc = .ok (.lastore, 1)) (kk : PW l G M R Fi N (pc + 1) ls st cs (sJ h i x.toNatClampNeg (v))) : PW l G M R Fi N pc ls (.long v :: .int x :: .ref i :: st) cs h := by
  intro p e s m args below meth c9 H locs la C hr hs hl
  have hga : ga G i = gB G + i := ha.1.at hr.2.1
  show W p l e R s m args below meth c9 H locs cs.1 cs.2 _ (F0 m pc la (.long v :: .int x :: .ref (ga G i) :: st.map (gv G)))
  rw [hga]
  refine va_last C.1 C.2.1 C.2.2.2.2.2.2.2.1.1.1 hr.1 (wsA_D G N h) hs (i - 1) 2 (cA := gY G 12) (n := n) (by rw [wsA_at G h ha.1.2.1 ha.1.2.2, ent_a G ha.1 (by decide), ← ha.2]; rfl) rfl hin hd (fun H1 locs1 hP _ hS => ?_)
  rw [wsA_set G (h' := sJ h i x.toNatClampNeg (v)) ha.1.2.1 ?_ (fun j hj => ent_cJ G hj)] at hP
  · exact kk p e s m args below meth c9 H1 locs1 la C ⟨hP, hr.2⟩ hS hl
  · rw [ent_a G (N := N) (c := 12) (h := sJ h i x.toNatClampNeg (v)) ha.1 (by decide), ← ha.2]
    show Sum.inl (gY G 12, aL h i, Sum.inr (Sum.inl (aJ (cJ h i _) i))) = _
    rw [cJ_eq]
theorem r_dald {i n : Nat} {x : Int32} (ha : isA N h i 16 n) (hin : vp_in x n) (hd : decode (mC M) pc = .ok (.daload, 1)) (kk : PW l G M R Fi N (pc + 1) ls (.double (aD h i x.toNatClampNeg) :: st) cs h) : PW l G M R Fi N pc ls (.int x :: .ref i :: st) cs h := by
  intro p e s m args below meth c9 H locs la C hr hs hl
  have hga : ga G i = gB G + i := ha.1.at hr.2.1
  show W p l e R s m args below meth c9 H locs cs.1 cs.2 _ (F0 m pc la (.int x :: .ref (ga G i) :: st.map (gv G)))
  rw [hga]
  exact va_dald C.1 C.2.1 C.2.2.2.2.2.2.2.1.1.1 hr.1 (i - 1) 6 (cA := gY G 16) (n := n) (by rw [wsA_at G h ha.1.2.1 ha.1.2.2, ent_a G ha.1 (by decide), ← ha.2]; rfl) rfl hin hd (kk p e s m args below meth c9 H locs la C hr hs hl)
theorem r_dast {i n : Nat} {x : Int32} {v : UInt64} (ha : isA N h i 16 n) (hin : vp_in x n) (hd : decode (mC M) pc = .ok (.dastore, 1)) (kk : PW l G M R Fi N (pc + 1) ls st cs (sD h i x.toNatClampNeg (v))) : PW l G M R Fi N pc ls (.double v :: .int x :: .ref i :: st) cs h := by
  intro p e s m args below meth c9 H locs la C hr hs hl
  have hga : ga G i = gB G + i := ha.1.at hr.2.1
  show W p l e R s m args below meth c9 H locs cs.1 cs.2 _ (F0 m pc la (.double v :: .int x :: .ref (ga G i) :: st.map (gv G)))
  rw [hga]
  refine va_dast C.1 C.2.1 C.2.2.2.2.2.2.2.1.1.1 hr.1 (wsA_D G N h) hs (i - 1) 6 (cA := gY G 16) (n := n) (by rw [wsA_at G h ha.1.2.1 ha.1.2.2, ent_a G ha.1 (by decide), ← ha.2]; rfl) rfl hin hd (fun H1 locs1 hP _ hS => ?_)
  rw [wsA_set G (h' := sD h i x.toNatClampNeg (v)) ha.1.2.1 ?_ (fun j hj => ent_cD G hj)] at hP
  · exact kk p e s m args below meth c9 H1 locs1 la C ⟨hP, hr.2⟩ hS hl
  · rw [ent_a G (N := N) (c := 16) (h := sD h i x.toNatClampNeg (v)) ha.1 (by decide), ← ha.2]
    show Sum.inl (gY G 16, aL h i, Sum.inr (Sum.inr (Sum.inr (Sum.inl (aD (cD h i _) i))))) = _
    rw [cD_eq]
theorem r_alen {i n c t0 : Nat} {ty : FieldType} {cA : ClassId} {x : vp_A} (ha : isA N h i c n) (hc : ¬ c < 10) (he : entA G h i c = .inl (cA, x)) (hx : x.1 = n) (ht : (tysG G)[t0]? = some (cA, ty)) (hd : decode (mC M) pc = .ok (.arraylength, 1)) (kk : PW l G M R Fi N (pc + 1) ls (.int (Int32.ofNat n) :: st) cs h) : PW l G M R Fi N pc ls (.ref i :: st) cs h := by
  intro p e s m args below meth c9 H locs la C hr hs hl
  have hga : ga G i = gB G + i := ha.1.at hr.2.1
  show W p l e R s m args below meth c9 H locs cs.1 cs.2 _ (F0 m pc la (.ref (ga G i) :: st.map (gv G)))
  rw [hga]
  exact va_alen C.1 C.2.1 C.2.2.2.2.2.2.2.1.1.1 hr.1 (i - 1) t0 (by rw [wsA_at G h ha.1.2.1 ha.1.2.2, ent_a G ha.1 hc, he]) ht (by rw [hx]) hd (kk p e s m args below meth c9 H locs la C hr hs hl)

theorem r_pald {i n r : Nat} {x : Int32} (ha : isA N h i 14 n) (hin : vp_in x n) (hr2 : aR h i x.toNatClampNeg = r) (h0 : r ≠ 0) (hd : decode (mC M) pc = .ok (.aaload, 1)) (kk : PW l G M R Fi N (pc + 1) ls (.ref r :: st) cs h) : PW l G M R Fi N pc ls (.int x :: .ref i :: st) cs h := by
  intro p e s m args below meth c9 H locs la C hr hs hl
  have hga : ga G i = gB G + i := ha.1.at hr.2.1
  show W p l e R s m args below meth c9 H locs cs.1 cs.2 _ (F0 m pc la (.int x :: .ref (ga G i) :: st.map (gv G)))
  rw [hga]
  refine va_aldq C.1 C.2.1 C.2.2.2.2.2.2.2.1.1.1 hr.1 (i - 1) 4 (cA := gY G 14) (C := "PoolScaler$Pool") (n := n) (f := fun j => ro G (aR h i j)) (by rw [wsA_at G h ha.1.2.1 ha.1.2.2, ent_a G ha.1 (by decide), ← ha.2]; rfl) rfl hin hd ?_
  rw [hr2, ro_some G h0]
  exact kk p e s m args below meth c9 H locs la C hr hs hl
theorem r_past {i n v : Nat} {x : Int32} (ha : isA N h i 14 n) (hin : vp_in x n) (hv : isK N h v 3) (hd : decode (mC M) pc = .ok (.aastore, 1)) (kk : PW l G M R Fi N (pc + 1) ls st cs (sR h i x.toNatClampNeg v)) : PW l G M R Fi N pc ls (.ref v :: .int x :: .ref i :: st) cs h := by
  intro p e s m args below meth c9 H locs la C hr hs hl
  have hga : ga G i = gB G + i := ha.1.at hr.2.1
  have hgv : ga G v = gB G + v := hv.at hr.2.1
  show W p l e R s m args below meth c9 H locs cs.1 cs.2 _ (F0 m pc la (.ref (ga G v) :: .int x :: .ref (ga G i) :: st.map (gv G)))
  rw [hga, hgv]
  refine va_astq C.1 C.2.1 C.2.2.2.2.2.2.2.1.1.1 hr.1 (wsA_D G N h) hs (i - 1) 4 (v - 1) 3 (r := ("PoolScaler$Pool", clT 3, clN 3)) (cA := gY G 14) (n := n) (f := fun j => ro G (aR h i j)) (vs := fvs G h v 3) (by rw [wsA_at G h ha.1.2.1 ha.1.2.2, ent_a G ha.1 (by decide), ← ha.2]; rfl) rfl (by rw [wsA_at G h hv.2.1 hv.2.2, ent_o G hv (by decide)]) (cl_at 3 (by decide)) hin hd (fun H1 locs1 hP _ hS => ?_)
  rw [wsA_set G (h' := sR h i x.toNatClampNeg v) ha.1.2.1 ?_ (fun j hj => ent_cR G hj)] at hP
  · exact kk p e s m args below meth c9 H1 locs1 la C ⟨hP, hr.2⟩ hS hl
  · rw [ent_a G (N := N) (c := 14) (h := sR h i x.toNatClampNeg v) ha.1 (by decide), ← ha.2]
    show Sum.inl (gY G 14, aL h i, Sum.inr (Sum.inr (Sum.inr (Sum.inr fun j => ro G (aR (cR h i _) i j))))) = _
    rw [cR_eq]
    congr 7
    funext j
    unfold va_up
    by_cases hj : j = x.toNatClampNeg
    · rw [if_pos hj, if_pos hj, ro_some G (by have := hv.2.1; omega), hgv]
    · rw [if_neg hj, if_neg hj]
theorem r_sald {i n r : Nat} {x : Int32} (ha : isA N h i 15 n) (hin : vp_in x n) (hr2 : aR h i x.toNatClampNeg = r) (h0 : r ≠ 0) (hd : decode (mC M) pc = .ok (.aaload, 1)) (kk : PW l G M R Fi N (pc + 1) ls (.ref r :: st) cs h) : PW l G M R Fi N pc ls (.int x :: .ref i :: st) cs h := by
  intro p e s m args below meth c9 H locs la C hr hs hl
  have hga : ga G i = gB G + i := ha.1.at hr.2.1
  show W p l e R s m args below meth c9 H locs cs.1 cs.2 _ (F0 m pc la (.int x :: .ref (ga G i) :: st.map (gv G)))
  rw [hga]
  refine va_aldq C.1 C.2.1 C.2.2.2.2.2.2.2.1.1.1 hr.1 (i - 1) 5 (cA := gY G 15) (C := "PoolScaler$State") (n := n) (f := fun j => ro G (aR h i j)) (by rw [wsA_at G h ha.1.2.1 ha.1.2.2, ent_a G ha.1 (by decide), ← ha.2]; rfl) rfl hin hd ?_
  rw [hr2, ro_some G h0]
  exact kk p e s m args below meth c9 H locs la C hr hs hl
theorem r_sast {i n v : Nat} {x : Int32} (ha : isA N h i 15 n) (hin : vp_in x n) (hv : isK N h v 6) (hd : decode (mC M) pc = .ok (.aastore, 1)) (kk : PW l G M R Fi N (pc + 1) ls st cs (sR h i x.toNatClampNeg v)) : PW l G M R Fi N pc ls (.ref v :: .int x :: .ref i :: st) cs h := by
  intro p e s m args below meth c9 H locs la C hr hs hl
  have hga : ga G i = gB G + i := ha.1.at hr.2.1
  have hgv : ga G v = gB G + v := hv.at hr.2.1
  show W p l e R s m args below meth c9 H locs cs.1 cs.2 _ (F0 m pc la (.ref (ga G v) :: .int x :: .ref (ga G i) :: st.map (gv G)))
  rw [hga, hgv]
  refine va_astq C.1 C.2.1 C.2.2.2.2.2.2.2.1.1.1 hr.1 (wsA_D G N h) hs (i - 1) 5 (v - 1) 6 (r := ("PoolScaler$State", clT 6, clN 6)) (cA := gY G 15) (n := n) (f := fun j => ro G (aR h i j)) (vs := fvs G h v 6) (by rw [wsA_at G h ha.1.2.1 ha.1.2.2, ent_a G ha.1 (by decide), ← ha.2]; rfl) rfl (by rw [wsA_at G h hv.2.1 hv.2.2, ent_o G hv (by decide)]) (cl_at 6 (by decide)) hin hd (fun H1 locs1 hP _ hS => ?_)
  rw [wsA_set G (h' := sR h i x.toNatClampNeg v) ha.1.2.1 ?_ (fun j hj => ent_cR G hj)] at hP
  · exact kk p e s m args below meth c9 H1 locs1 la C ⟨hP, hr.2⟩ hS hl
  · rw [ent_a G (N := N) (c := 15) (h := sR h i x.toNatClampNeg v) ha.1 (by decide), ← ha.2]
    show Sum.inl (gY G 15, aL h i, Sum.inr (Sum.inr (Sum.inr (Sum.inr fun j => ro G (aR (cR h i _) i j))))) = _
    rw [cR_eq]
    congr 7
    funext j
    unfold va_up
    by_cases hj : j = x.toNatClampNeg
    · rw [if_pos hj, if_pos hj, ro_some G (by have := hv.2.1; omega), hgv]
    · rw [if_neg hj, if_neg hj]
end RO
