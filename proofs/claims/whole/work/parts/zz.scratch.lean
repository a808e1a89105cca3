-- rows that make objects
theorem nW_I {h : AH} {N c n j : Nat} (hj : j ≠ N) : aI (nW h N c n) j = aI h j := if_neg hj
theorem nW_J {h : AH} {N c n j : Nat} (hj : j ≠ N) : aJ (nW h N c n) j = aJ h j := if_neg hj
theorem nW_D {h : AH} {N c n j : Nat} (hj : j ≠ N) : aD (nW h N c n) j = aD h j := if_neg hj
theorem nW_R {h : AH} {N c n j : Nat} (hj : j ≠ N) : aR (nW h N c n) j = aR h j := if_neg hj
theorem nW_K {h : AH} {N c n j : Nat} (hj : j ≠ N) : aK (nW h N c n) j = aK h j := if_neg hj
theorem nW_L {h : AH} {N c n j : Nat} (hj : j ≠ N) : aL (nW h N c n) j = aL h j := if_neg hj
theorem nW_i {h : AH} {N c n : Nat} : aI (nW h N c n) N = fun _ => 0 := if_pos rfl
theorem nW_j {h : AH} {N c n : Nat} : aJ (nW h N c n) N = fun _ => 0 := if_pos rfl
theorem nW_d {h : AH} {N c n : Nat} : aD (nW h N c n) N = fun _ => 0 := if_pos rfl
theorem nW_r {h : AH} {N c n : Nat} : aR (nW h N c n) N = fun _ => 0 := if_pos rfl
theorem nW_k {h : AH} {N c n : Nat} : aK (nW h N c n) N = c := if_pos rfl
theorem nW_l {h : AH} {N c n : Nat} : aL (nW h N c n) N = n := if_pos rfl
theorem wsA_s {G : GC} {N : Nat} {h h' : AH} (he : ∀ i, 0 < i → i ≤ N → ent G h' i = ent G h i) : wsA G (N + 1) h' = wsA G N h ++ [(gB G + (N + 1), ent G h' (N + 1))] := by
  unfold wsA
  rw [List.range_succ, List.map_append]
  congr 1
  refine List.map_congr_left (fun i hi => ?_)
  have := List.mem_range.mp hi
  rw [he (i + 1) (by omega) (by omega)]
theorem ent_nW {G : GC} {N c n i : Nat} {h : AH} (hi : i ≤ N) : ent G (nW h (N + 1) c n) i = ent G h i := ent_congr G (nW_I (by omega)) (nW_J (by omega)) (nW_D (by omega)) (nW_R (by omega)) (nW_K (by omega)) (nW_L (by omega))
/-- where the next object comes -/
theorem new_at {G : GC} {N k q : Nat} {h : AH} {s : State} {H H1 : Heap} {x : va_E} (hN : N + 1 ≤ NT) (hr : Rep G N k h s H) (hP : va_P (gD G) vwCl (wsA G N h ++ [(q, x)]) H1) (hD : va_D (gA G) (wsA G N h ++ [(q, x)])) (hz : H1.size ≤ s.heap.size + (k + 1)) : q = gB G + (N + 1) := by
  have hl := wsA_len G N h
  have e1 : (wsA G N h ++ [(q, x)])[N]? = some (q, x) := by
    rw [List.getElem?_append_right (by omega), hl, Nat.sub_self]; rfl
  have h1 : gB G < q := hD.2 N _ e1
  have h2 : q < H1.size := (hP N _ e1).lt
  have h3 := hr.2.2 (by have : NT = 738 := rfl; omega)
  refine Classical.byContradiction fun hq => ?_
  have h4 : q ≤ gB G + N := by omega
  obtain ⟨i, hi⟩ : ∃ i, q = gB G + (i + 1) := ⟨q - gB G - 1, by omega⟩
  have e2 : (wsA G N h ++ [(q, x)])[i]? = some (gB G + (i + 1), ent G h (i + 1)) := by
    rw [List.getElem?_append_left (by omega)]
    have z := wsA_at G (N := N) h (i := i + 1) (by omega) (by omega)
    rw [Nat.add_sub_cancel] at z
    exact z
  have := hD.1 N i _ _ e1 e2 hi
  omega
theorem dv_cl : ∀ c, c < 10 → ∀ k, k < clN c → defaultValue (clY c k) = if tk (clY c k) = 0 then .int 0 else if tk (clY c k) = 1 then .long 0 else .null := cl10 (by decide) (by decide) (by decide) (by decide) (by decide) (by decide) (by decide) (by decide) (by decide) (by decide)
section NEW
variable {l : Launch} {G : GC} {M : MD} {R : Room} {Fi : CX → State → Prop} {N pc : Nat} {ls : List (Option Value)} {st : List Value} {cs : Nat × Nat} {h : AH}
theorem rep_new {k c n : Nat} {s : State} {H H1 : Heap} (hN : N + 1 ≤ NT) (hr : Rep G N k h s H) (hP : va_P (gD G) vwCl (wsA G N h ++ [(gB G + (N + 1), ent G (nW h (N + 1) c n) (N + 1))]) H1) : Rep G (N + 1) (k + 1) (nW h (N + 1) c n) s H1 := by
  refine ⟨?_, hN, fun q => ?_⟩
  · rw [wsA_s (h := h) (fun i _ hi => ent_nW hi)]; exact hP
  · have := hr.2.2 (by omega); omega
theorem r_new {ix c : Nat} (hc : c < 10) (hlink : Cond.classLink (mY M).cls ix (clR c) ∈ tblG) (hinst : Cond.instantiable (clR c) (clN c) ∈ tblG) (hini : Cond.initialized (clR c) ∈ tblG) (hN : N + 1 ≤ NT) (hcells : cs.1 + 1 ≤ R.cells) (hslots : cs.2 + clN c ≤ R.slots) (hd : decode (mC M) pc = .ok (.new ix, 3))
    (kk : PW l G M R Fi (N + 1) (pc + 3) ls (.ref (N + 1) :: st) (cs.1 + 1, cs.2 + clN c) (nW h (N + 1) c 0)) : PW l G M R Fi N pc ls st cs h := by
  intro p e s m args below meth c9 H locs la C hr hs hl
  have hts := C.2.2.2.2.2.2.1
  have hgs := C.2.2.2.2.2.2.2.1
  refine va_new C.1 C.2.1 (T := clT c) (N := clN c) (ci := c) hts (lay_in hc) (clY c) (cl_ty c hc) C.2.2.2.2.2.1 (hts _ hlink) (hts _ hinst) (hts _ hini) hgs.1.1 hr.1 (wsA_D G N h) hs (fun q hq => Nat.lt_of_lt_of_le hgs.2.2.2.1 hq) (cl_at c hc) (fs := fvs G (nW h (N + 1) c 0) (N + 1) c) (fun j hj => ?_) hcells hslots hd (fun q H1 hP hD hS => ?_)
  · rw [dv_cl c hc j hj]
    unfold vp_V fvs
    rw [List.getD_eq_getElem?_getD, List.getElem?_map, List.getElem?_range hj]
    show _ = fv G (nW h (N + 1) c 0) (N + 1) j (tk (clY c j))
    unfold fv
    rw [nW_i, nW_j, nW_r]
    rfl
  · intro T hT Z
    have hz : H1.size ≤ s.heap.size + (cs.1 + 1) := by rw [← hT]; exact Z.heapSize
    have hq := new_at hN hr hP hD hz
    subst hq
    have e1 : ent G (nW h (N + 1) c 0) (N + 1) = .inr (c, fvs G (nW h (N + 1) c 0) (N + 1) c) := by
      unfold ent
      rw [nW_k, if_pos hc]
    rw [← e1] at hP
    have h9 := kk p e s m args below meth c9 H1 locs la C (rep_new hN hr hP) hS hl
    have e2 : (Value.ref (N + 1) :: st).map (gv G) = .ref (gB G + (N + 1)) :: st.map (gv G) := by
      show Value.ref (ga G (N + 1)) :: _ = _
      rw [ga_o G (by omega) (by have : NT = 738 := rfl; omega)]
    rw [e2] at h9
    exact h9 T hT Z
theorem r_newa {atype : ArrayType} {ty : FieldType} {t n : Nat} {x : Int32} {a0 : vp_A} (hty : newarray.typeOf atype = ty) (ht10 : 10 ≤ t) (ht : (gY G t, ty) ∈ tysG G) (harr : Cond.arrayClass ty ∈ tblG) (hRA : ∀ (U : State) (cA : ClassId), va_RA U cA ty → U.vm.findClass ("[" ++ ty.toString) = some cA) (hx : x = nI n) (hn : n < 100000) (hN : N + 1 ≤ NT) (hcells : cs.1 + 1 ≤ R.cells) (hslots : cs.2 + n ≤ R.slots) (hd : decode (mC M) pc = .ok (.newarray atype, 2))
    (ha : ∀ cA : ClassId, vp_cell cA a0 = arrV cA n (fun _ => defaultValue ty)) (he : entA G (nW h (N + 1) t n) (N + 1) t = .inl (gY G t, a0)) (hb9 : componentBytes ty ≤ 8)
    (kk : PW l G M R Fi (N + 1) (pc + 2) ls (.ref (N + 1) :: st) (cs.1 + 1, cs.2 + n) (nW h (N + 1) t n)) : PW l G M R Fi N pc ls (.int x :: st) cs h := by
  intro p e s m args below meth c9 H locs la C hr hs hl
  have hts := C.2.2.2.2.2.2.1
  have hgs := C.2.2.2.2.2.2.2.1
  subst hx
  have hbt : n * componentBytes ty ≤ n * 8 := Nat.mul_le_mul_left n hb9
  refine va_newa C.1 C.2.1 (atype := atype) (by rw [hty]; exact hts _ harr) hty hgs.1.1 hr.1 (wsA_D G N h) hs (fun q hq => Nat.lt_of_lt_of_le hgs.2.2.2.1 hq) ha (nI_pos (by omega)) (nI_clamp (by omega)) (by omega) hcells hslots hd (fun q cA H1 hK hP hD hS => ?_)
  intro T hT Z
  have hz : H1.size ≤ s.heap.size + (cs.1 + 1) := by rw [← hT]; exact Z.heapSize
  have hq := new_at hN hr hP hD hz
  subst hq
  have hc1 := hRA s cA (hK.2 (tysG G).length (cA, ty) (by rw [List.getElem?_append_right (Nat.le_refl _), Nat.sub_self]; rfl)).2
  obtain ⟨k, hk⟩ := List.mem_iff_getElem?.mp ht
  have hc2 := hRA s (gY G t) (hgs.1.1.2 k _ hk).2
  have hcA : cA = gY G t := Option.some.inj (hc1.symm.trans hc2)
  subst hcA
  have e1 : ent G (nW h (N + 1) t n) (N + 1) = .inl (gY G t, a0) := by
    unfold ent
    rw [nW_k, if_neg (by omega)]
    exact he
  rw [← e1] at hP
  have h9 := kk p e s m args below meth c9 H1 locs la C (rep_new hN hr hP) hS hl
  have e2 : (Value.ref (N + 1) :: st).map (gv G) = .ref (gB G + (N + 1)) :: st.map (gv G) := by
    show Value.ref (ga G (N + 1)) :: _ = _
    rw [ga_o G (by omega) (by have : NT = 738 := rfl; omega)]
  rw [e2] at h9
  exact h9 T hT Z
theorem r_newq {C0 : String} {t n ix : Nat} {x : Int32} (ht10 : t = 14 ∨ t = 15) (ht : (gY G t, FieldType.object C0) ∈ tysG G) (hlink : Cond.classLink (mY M).cls ix C0 ∈ tblG) (hAO : ∀ U : State, GT G U → va_AO C0 U) (hx : x = nI n) (hn : n < 100000) (hN : N + 1 ≤ NT) (hcells : cs.1 + 1 ≤ R.cells) (hslots : cs.2 + n ≤ R.slots) (hd : decode (mC M) pc = .ok (.anewarray ix, 3))
    (kk : PW l G M R Fi (N + 1) (pc + 3) ls (.ref (N + 1) :: st) (cs.1 + 1, cs.2 + n) (nW h (N + 1) t n)) : PW l G M R Fi N pc ls (.int x :: st) cs h := by
  intro p e s m args below meth c9 H locs la C hr hs hl
  have hts := C.2.2.2.2.2.2.1
  have hgs := C.2.2.2.2.2.2.2.1
  subst hx
  refine va_newq C.1 C.2.1 C.2.2.2.2.2.1 (hts _ hlink) (hAO s hgs.1) hgs.1.1 hr.1 (wsA_D G N h) hs (fun q hq => Nat.lt_of_lt_of_le hgs.2.2.2.1 hq) (nI_pos (by omega)) (nI_clamp (by omega)) (by omega) hcells hslots hd (fun q cA H1 hK hP hD hS => ?_)
  intro T hT Z
  have hz : H1.size ≤ s.heap.size + (cs.1 + 1) := by rw [← hT]; exact Z.heapSize
  have hq := new_at hN hr hP hD hz
  subst hq
  obtain ⟨-, -, -, -, -, hc1⟩ := (hK.2 (tysG G).length (cA, .object C0) (by rw [List.getElem?_append_right (Nat.le_refl _), Nat.sub_self]; rfl)).2
  obtain ⟨k, hk⟩ := List.mem_iff_getElem?.mp ht
  obtain ⟨-, -, -, -, -, hc2⟩ := (hgs.1.1.2 k _ hk).2
  have hcA : cA = gY G t := Option.some.inj (hc1.symm.trans hc2)
  subst hcA
  have e1 : ent G (nW h (N + 1) t n) (N + 1) = .inl (gY G t, n, .inr (.inr (.inr (.inr (fun _ => none))))) := by
    unfold ent
    rw [nW_k, if_neg (by omega)]
    unfold entA
    rw [if_neg (by omega), if_neg (by omega), if_neg (by omega), nW_l, nW_r]
    rfl
  rw [← e1] at hP
  have h9 := kk p e s m args below meth c9 H1 locs la C (rep_new hN hr hP) hS hl
  have e2 : (Value.ref (N + 1) :: st).map (gv G) = .ref (gB G + (N + 1)) :: st.map (gv G) := by
    show Value.ref (ga G (N + 1)) :: _ = _
    rw [ga_o G (by omega) (by have : NT = 738 := rfl; omega)]
  rw [e2] at h9
  exact h9 T hT Z
/-- Object's constructor -/
theorem r_obj {ix i : Nat} (hlink : Cond.methodLink (mY M).cls ix Lib.objectInit ∈ tblG) (hinst : Cond.instanceMethod Lib.objectInit ∈ tblG) (hcode : Cond.code Lib.objectInit ⟨#[0xb1]⟩ 1 none ∈ tblG) (hf : 1 ≤ R.frames) (hlo : (st.map fun v => v.category).sum + 14 ≤ R.locals) (hd : decode (mC M) pc = .ok (.invokespecial ix, 3))
    (kk : PW l G M R Fi N (pc + 3) ls st cs h) : PW l G M R Fi N pc ls (.ref i :: st) cs h := by
  intro p e s m args below meth c9 H locs la C hr hs hl
  have hts := C.2.2.2.2.2.2.1
  refine W.objInit C.1 C.2.1 C.2.2.2.2.2.1 (hts _ hlink) (hts _ hinst) (hts _ hcode) rfl (hl.1.trans C.2.2.1.symm) rfl hd hf ?_ (kk p e s m args below meth c9 H locs la C hr hs hl)
  rw [gv_cats]
  show 2 * 0 + _ + 12 ≤ _
  omega
end NEW
