-- throws, what is caught, String constants
def thN : List String := ["java/lang/RuntimeException", "java/lang/Exception"]
def TH (own : String) (ik is ic j : Nat) (E text : String) : Prop := Bundle.fit E = true ∧ Cond.classLink own ik E ∈ tblG ∧ Cond.initialized E ∈ tblG ∧ (∀ w ∈ vx_atS own ic E thN, w ∈ tblG ∨ w = .castable E E ∨ ∃ X ∈ deTab, w = .declares (Bundle.initS X)) ∧ (own, is, text, j) ∈ strTab ∧ E ∈ caTab
theorem tg_good {w : Cond} (h : w ∈ tblG) : vx_ot w = true := by
  unfold vx_ot
  rw [(List.mem_filter.mp h).2, Bool.or_true]
def thOK (M : MD) (cs : Nat × Nat) : Bool := Nat.ble 6 (mO M).frames && Nat.ble 90 (mO M).locals && Nat.ble (cs.1 + 1) (mO M).cells && Nat.ble (cs.2 + 6) (mO M).slots
theorem thOK_spec {M : MD} {cs : Nat × Nat} (h : thOK M cs = true) : 6 ≤ (mO M).frames ∧ 90 ≤ (mO M).locals ∧ cs.1 + 1 ≤ (mO M).cells ∧ cs.2 + 6 ≤ (mO M).slots := by
  simp only [thOK, Bool.and_eq_true] at h
  exact ⟨Nat.le_of_ble_eq_true h.1.1.1, Nat.le_of_ble_eq_true h.1.1.2, Nat.le_of_ble_eq_true h.1.2, Nat.le_of_ble_eq_true h.2⟩
theorem th_rep {G : GC} {N : Nat} {h : AH} {H H1 : Heap} (hr : va_P (gD G) vwCl (wsA G N h) H) (hq : ∀ q : Nat, q < H.size → H1[q]? = H[q]?) : va_P (gD G) vwCl (wsA G N h) H1 :=
  hr.kept (fun k q hk => hq _ (vx_lt hr hk))
section THR
variable {l : Launch} {G : GC} {M : MD} {R : Room} {Fi : CX → State → Prop} {N N' pc : Nat} {ls : List (Option Value)} {st : List Value} {cs : Nat × Nat} {h : AH} {K : Option Value → AH → Prop} {X : String → AH → Prop}

theorem r_throw {ik is ic j : Nat} {E text : String} (hw : TH (mY M).cls ik is ic j E text) (hH : mH M = []) (hrm : thOK M cs = true) (hst : (st.map fun v => v.category).sum ≤ 8)
    (d0 : decode (mC M) pc = .ok (.new ik, 3)) (d3 : decode (mC M) (pc + 3) = .ok (.dup, 1)) (d4 : decode (mC M) (pc + 4) = .ok (.ldc is, 2)) (d6 : decode (mC M) (pc + 6) = .ok (.invokespecial ic, 3)) (d9 : decode (mC M) (pc + 9) = .ok (.athrow, 1))
    (hq : X E h) : PW l G M (mO M) (fiM G M N K X) N pc ls st cs h := by
  intro p e s m args below meth c9 H locs la C hr hs hl
  obtain ⟨w1, w2, w3, w4, w5, w6⟩ := hw
  obtain ⟨m1, m2, m3, m4⟩ := thOK_spec hrm
  have hts := C.2.2.2.2.2.2.1
  have hgs := C.2.2.2.2.2.2.2.1
  have ht := C.2.2.2.2.2.2.2.2.1
  rw [hH] at ht
  refine vx_throwS (names := thN) (A := gA G) (own := (mY M).cls) (cls := E) (text := text) (sa := gKs G j) C.1 C.2.1 C.2.2.2.2.2.2.2.2.2.2 C.2.2.2.2.2.1 w1 (by decide +kernel) (hts _ w2) (hts _ w3) (hgs.1.2.2.2.2.1 _ w5) (fun w hw => ?_) (fun w hw => ?_) hgs.2.2.2.2.1 hgs.2.2.2.2.2.1 hs (hl.1.trans C.2.2.1.symm) d0 d3 d4 d6 d9 (fun x hx => ?_) (by show 2 + 3 < _; omega) ?_ m3 m4 C.2.2.2.2.1 (fun t h1 h2 h3 => ⟨⟨h, hq, th_rep hr.1 h3⟩, ?_⟩) hs.2.2 m3 m4
  · rcases w4 w hw with q | rfl | ⟨X9, hX9, rfl⟩
    · exact hts w q
    · exact va_Nw.use rfl (hgs.1.2.2.2.2.2.2.1 E w6)
    · exact va_Nw.use rfl (hgs.1.2.2.2.2.2.2.2 X9 hX9)
  · rcases List.mem_cons.mp hw with rfl | hw
    · exact tg_good w2
    · rcases List.mem_cons.mp hw with rfl | hw
      · exact tg_good w3
      · rcases w4 w hw with q | rfl | ⟨X9, hX9, rfl⟩
        · exact tg_good q
        · rfl
        · rfl
  · rw [ht] at hx
    exact absurd hx (by simp [tableOf])
  · show (((st.map (gv G)).map fun v => v.category).sum + (13 * (2 + 1) + 43)) ≤ _
    rw [gv_cats]; omega
  · exact ⟨Nat.le_trans hs.1 h2, fun q q1 q2 => (h3 q (Nat.lt_of_lt_of_le q1 hs.1)).trans (hs.2.1 q q1 q2)⟩

theorem r_throwW {ik is ic j : Nat} {E text : String} (hw : TH (mY M).cls ik is ic j E text) (hH : mH M = []) (hrm : thOK M cs = true) (hst : (st.map fun v => v.category).sum ≤ 8)
    (d0 : decode (mC M) pc = .ok (.new ik, 3)) (d3 : decode (mC M) (pc + 3) = .ok (.dup, 1)) (d4 : decode (mC M) (pc + 4) = .ok (.ldc_w is, 3)) (d6 : decode (mC M) (pc + 7) = .ok (.invokespecial ic, 3)) (d9 : decode (mC M) (pc + 10) = .ok (.athrow, 1))
    (hq : X E h) : PW l G M (mO M) (fiM G M N K X) N pc ls st cs h := by
  intro p e s m args below meth c9 H locs la C hr hs hl
  obtain ⟨w1, w2, w3, w4, w5, w6⟩ := hw
  obtain ⟨m1, m2, m3, m4⟩ := thOK_spec hrm
  have hts := C.2.2.2.2.2.2.1
  have hgs := C.2.2.2.2.2.2.2.1
  have ht := C.2.2.2.2.2.2.2.2.1
  rw [hH] at ht
  refine vx_throwSW (names := thN) (A := gA G) (own := (mY M).cls) (cls := E) (text := text) (sa := gKs G j) C.1 C.2.1 C.2.2.2.2.2.2.2.2.2.2 C.2.2.2.2.2.1 w1 (by decide +kernel) (hts _ w2) (hts _ w3) (hgs.1.2.2.2.2.1 _ w5) (fun w hw => ?_) (fun w hw => ?_) hgs.2.2.2.2.1 hgs.2.2.2.2.2.1 hs (hl.1.trans C.2.2.1.symm) d0 d3 d4 d6 d9 (fun x hx => ?_) (by show 2 + 3 < _; omega) ?_ m3 m4 C.2.2.2.2.1 (fun t h1 h2 h3 => ⟨⟨h, hq, th_rep hr.1 h3⟩, ?_⟩) hs.2.2 m3 m4
  · rcases w4 w hw with q | rfl | ⟨X9, hX9, rfl⟩
    · exact hts w q
    · exact va_Nw.use rfl (hgs.1.2.2.2.2.2.2.1 E w6)
    · exact va_Nw.use rfl (hgs.1.2.2.2.2.2.2.2 X9 hX9)
  · rcases List.mem_cons.mp hw with rfl | hw
    · exact tg_good w2
    · rcases List.mem_cons.mp hw with rfl | hw
      · exact tg_good w3
      · rcases w4 w hw with q | rfl | ⟨X9, hX9, rfl⟩
        · exact tg_good q
        · rfl
        · rfl
  · rw [ht] at hx
    exact absurd hx (by simp [tableOf])
  · show (((st.map (gv G)).map fun v => v.category).sum + (13 * (2 + 1) + 43)) ≤ _
    rw [gv_cats]; omega
  · exact ⟨Nat.le_trans hs.1 h2, fun q q1 q2 => (h3 q (Nat.lt_of_lt_of_le q1 hs.1)).trans (hs.2.1 q q1 q2)⟩

def THN (own : String) (ik is ic j : Nat) (text : String) : Prop := Cond.classLink own ik nsE ∈ tblG ∧ Cond.initialized nsE ∈ tblG ∧ (∀ w ∈ vy_at own ic, w ∈ tblG ∨ w = .castable nsE nsE ∨ ∃ X ∈ deTab, w = .declares (Bundle.initS X)) ∧ (own, is, text, j) ∈ strTab
theorem r_throwN {ik is ic j ln : Nat} {text : String} (hw : THN (mY M).cls ik is ic j text) (hH : mH M = []) (hrm : thOK M cs = true) (hst : (st.map fun v => v.category).sum ≤ 8)
    (d0 : decode (mC M) pc = .ok (.new ik, 3)) (d3 : decode (mC M) (pc + 3) = .ok (.dup, 1)) (d4 : (ln = 2 ∧ decode (mC M) (pc + 4) = .ok (.ldc is, 2)) ∨ (ln = 3 ∧ decode (mC M) (pc + 4) = .ok (.ldc_w is, 3))) (d6 : decode (mC M) (pc + 4 + ln) = .ok (.invokespecial ic, 3)) (d9 : decode (mC M) (pc + 4 + ln + 3) = .ok (.athrow, 1))
    (hq : X nsE h) : PW l G M (mO M) (fiM G M N K X) N pc ls st cs h := by
  intro p e s m args below meth c9 H locs la C hr hs hl
  obtain ⟨w2, w3, w4, w5⟩ := hw
  obtain ⟨m1, m2, m3, m4⟩ := thOK_spec hrm
  have hts := C.2.2.2.2.2.2.1
  have hgs := C.2.2.2.2.2.2.2.1
  have ht := C.2.2.2.2.2.2.2.2.1
  rw [hH] at ht
  refine vy_throwN (A := gA G) (own := (mY M).cls) (text := text) (sa := gKs G j) C.1 C.2.1 C.2.2.2.2.2.2.2.2.2.2 C.2.2.2.2.2.1 (hts _ w2) (hts _ w3) (hgs.1.2.2.2.2.1 _ w5) (fun w hw => ?_) (fun w hw => ?_) hgs.2.2.2.2.1 hgs.2.2.2.2.2.1 hs (hl.1.trans C.2.2.1.symm) d0 d3 d4 d6 d9 (fun x hx => ?_) (by omega) ?_ m3 m4 C.2.2.2.2.1 (fun t h1 h2 h3 => ⟨⟨h, hq, th_rep hr.1 h3⟩, ?_⟩) hs.2.2 m3 m4
  · rcases w4 w hw with q | rfl | ⟨X9, hX9, rfl⟩
    · exact hts w q
    · exact va_Nw.use rfl (hgs.1.2.2.2.2.2.2.1 nsE (by decide))
    · exact va_Nw.use rfl (hgs.1.2.2.2.2.2.2.2 X9 hX9)
  · rcases List.mem_cons.mp hw with rfl | hw
    · exact tg_good w2
    · rcases List.mem_cons.mp hw with rfl | hw
      · exact tg_good w3
      · rcases w4 w hw with q | rfl | ⟨X9, hX9, rfl⟩
        · exact tg_good q
        · rfl
        · rfl
  · rw [ht] at hx
    exact absurd hx (by simp [tableOf])
  · show (((st.map (gv G)).map fun v => v.category).sum + (13 * (2 + 1) + 43)) ≤ _
    rw [gv_cats]; omega
  · exact ⟨Nat.le_trans hs.1 h2, fun q q1 q2 => (h3 q (Nat.lt_of_lt_of_le q1 hs.1)).trans (hs.2.1 q q1 q2)⟩

/-- all addresses have a number -/
def GOK (G : GC) : Prop := ∀ t : Nat, gKs G (5000 + t) = t
theorem ga_any {G : GC} (hG : GOK G) (t : Nat) : ga G (1005000 + t) = t := by
  unfold ga
  rw [if_neg (by omega), if_neg (by omega), show 1005000 + t - 1000000 = 5000 + t from by omega]
  exact hG t
theorem ga_str {G : GC} {j : Nat} : ga G (1000000 + j) = gKs G j := by
  unfold ga
  rw [if_neg (by omega), if_neg (by omega), show 1000000 + j - 1000000 = j from by omega]
theorem PX.catch {E nm : String} {n0 : Nat} (hG : GOK G) (x : Nat × Nat × Nat × Nat) (hn : (mH M)[n0]? = some x) (hcov : x.1 ≤ pc ∧ pc < x.2.1) (h0 : x.2.2.2 ≠ 0) (hlink : Cond.classLink (mY M).cls x.2.2.2 nm ∈ tblG) (hcast : E = nm ∧ E ∈ caTab)
    (hpass : ∀ z ∈ (mH M).take n0, z.2.2.2 ≠ 0 ∧ ∃ nm2 : String, Cond.classLink (mY M).cls z.2.2.2 nm2 ∈ tblG ∧ (E, nm2) ∈ ncTab)
    (kk : ∀ a : Nat, PW l G M R Fi N x.2.2.1 ls [.ref a] cs h) : PX l G M R Fi N pc ls st cs E h := by
  intro p e s m args below meth c9 H locs la ce q C hr hs hl hcq hv hcl
  have hts := C.2.2.2.2.2.2.1
  have hgs := C.2.2.2.2.2.2.2.1
  have ht := C.2.2.2.2.2.2.2.2.1
  have hsp : mH M = (mH M).take n0 ++ x :: (mH M).drop (n0 + 1) := by
    obtain ⟨hlt, hx⟩ := List.getElem?_eq_some_iff.mp hn
    rw [← hx, ← List.drop_eq_getElem_cons hlt, List.take_append_drop]
  refine vx_catch (own := (mY M).cls) (name := nm) C.2.2.2.2.2.1 (tableOf ((mH M).take n0)) ⟨x.1, x.2.1, x.2.2.1, x.2.2.2⟩ (tableOf ((mH M).drop (n0 + 1))) ?_ ?_ ?_ h0 (hts _ hlink) (by rw [← hcast.1]; exact va_Nw.use rfl (hgs.1.2.2.2.2.2.2.1 E hcast.2)) hcq hv hcl ?_
  · rw [ht]
    conv => lhs; rw [hsp]
    simp [tableOf]
  · intro z hz
    obtain ⟨y, hy, rfl⟩ := List.mem_map.mp hz
    obtain ⟨p1, nm2, p2, p3⟩ := hpass y hy
    exact Or.inr ⟨p1, nm2, hts _ p2, hgs.1.2.2.2.2.2.1 _ p3⟩
  · simp [covers, hcov.1, hcov.2]
  · have := kk (1005000 + q) p e s m args below meth c9 H locs la C hr hs hl
    have e1 : [Value.ref (1005000 + q)].map (gv G) = [.ref q] := by
      show [Value.ref (ga G (1005000 + q))] = _
      rw [ga_any hG]
    rw [e1] at this
    exact this
theorem PX.through {E : String} (hH : mH M = []) (hc : cs.1 ≤ (mO M).cells ∧ cs.2 ≤ (mO M).slots) (hq : X E h) : PX l G M (mO M) (fiM G M N K X) N pc ls st cs E h := PX.out hH hc hq
-- Strings
theorem r_ldcS {ix j : Nat} {text : String} (hw : ((mY M).cls, ix, text, j) ∈ strTab) (hd : decode (mC M) pc = .ok (.ldc ix, 2)) (kk : PW l G M R Fi N (pc + 2) ls (.ref (1000000 + j) :: st) cs h) : PW l G M R Fi N pc ls st cs h := by
  intro p e s m args below meth c9 H locs la C hr hs hl
  have := kk p e s m args below meth c9 H locs la C hr hs hl
  refine va_ldcS C.1 C.2.1 C.2.2.2.2.2.1 (C.2.2.2.2.2.2.2.1.1.2.2.2.2.1 _ hw) hd ?_
  have e1 : (Value.ref (1000000 + j) :: st).map (gv G) = .ref (gKs G j) :: st.map (gv G) := by
    show Value.ref (ga G (1000000 + j)) :: _ = _
    rw [ga_str]
  rw [e1] at this
  exact this
theorem r_strval {ix j : Nat} {ref : String} (hG : GOK G) (hj : j < 30) (hlink : Cond.fieldLink (mY M).cls ix "java/lang/String" "value" "[B" ∈ tblG) (hd : decode (mC M) pc = .ok (.getfield ix, 3)) (kk : PW l G M R Fi N (pc + 3) ls (.ref (1005000 + gVs G j) :: st) cs h) : PW l G M R Fi N pc ls (.ref (1000000 + j) :: st) cs h := by
  intro p e s m args below meth c9 H locs la C hr hs hl
  have := kk p e s m args below meth c9 H locs la C hr hs hl
  have e1 : (Value.ref (1005000 + gVs G j) :: st).map (gv G) = .ref (gVs G j) :: st.map (gv G) := by
    show Value.ref (ga G (1005000 + gVs G j)) :: _ = _
    rw [ga_any hG]
  rw [e1] at this
  show W p l e R s m args below meth c9 H locs cs.1 cs.2 _ (F0 m pc la (.ref (ga G (1000000 + j)) :: st.map (gv G)))
  rw [ga_str]
  exact vk_getf C.1 C.2.1 (C.2.2.2.2.2.2.2.1.2.2.2.2.2.2.1.1 j hj).2.2.1 hs C.2.2.2.2.2.1 (C.2.2.2.2.2.2.1 _ hlink) (fun _ q => q) hd this
theorem r_strcod {ix j : Nat} (hj : j < 30) (hlink : Cond.fieldLink (mY M).cls ix "java/lang/String" "coder" "B" ∈ tblG) (hd : decode (mC M) pc = .ok (.getfield ix, 3)) (kk : PW l G M R Fi N (pc + 3) ls (.int 0 :: st) cs h) : PW l G M R Fi N pc ls (.ref (1000000 + j) :: st) cs h := by
  intro p e s m args below meth c9 H locs la C hr hs hl
  show W p l e R s m args below meth c9 H locs cs.1 cs.2 _ (F0 m pc la (.ref (ga G (1000000 + j)) :: st.map (gv G)))
  rw [ga_str]
  exact vk_getf C.1 C.2.1 (C.2.2.2.2.2.2.2.1.2.2.2.2.2.2.1.1 j hj).2.1 hs C.2.2.2.2.2.1 (C.2.2.2.2.2.2.1 _ hlink) (fun _ q => q) hd (kk p e s m args below meth c9 H locs la C hr hs hl)
theorem r_gets1 {ix : Nat} (hlink : Cond.fieldLink (mY M).cls ix "java/lang/String" "COMPACT_STRINGS" "Z" ∈ tblG) (hd : decode (mC M) pc = .ok (.getstatic ix, 3)) (kk : PW l G M R Fi N (pc + 3) ls (.int 1 :: st) cs h) : PW l G M R Fi N pc ls st cs h := by
  intro p e s m args below meth c9 H locs la C hr hs hl
  exact va_gets C.1 C.2.1 C.2.2.2.2.2.2.2.1.2.2.2.2.2.2.2.1 hs C.2.2.2.2.2.1 (C.2.2.2.2.2.2.1 _ hlink) (fun _ q => q) hd (kk p e s m args below meth c9 H locs la C hr hs hl)
theorem r_getsF {ix : Nat} (hG : GOK G) (hlink : Cond.fieldLink (mY M).cls ix "jdk/internal/util/Preconditions" "SIOOBE_FORMATTER" "Ljava/util/function/BiFunction;" ∈ tblG) (hd : decode (mC M) pc = .ok (.getstatic ix, 3)) (kk : ∀ v : Value, v.category = 1 → PW l G M R Fi N (pc + 3) ls (v :: st) cs h) : PW l G M R Fi N pc ls st cs h := by
  intro p e s m args below meth c9 H locs la C hr hs hl
  rcases C.2.2.2.2.2.2.2.1.2.2.2.2.2.2.2.2 with hZ | ⟨t, hZ⟩
  · exact va_gets C.1 C.2.1 hZ hs C.2.2.2.2.2.1 (C.2.2.2.2.2.2.1 _ hlink) (fun _ q => q) hd (kk .null rfl p e s m args below meth c9 H locs la C hr hs hl)
  · have := kk (.ref (1005000 + t)) rfl p e s m args below meth c9 H locs la C hr hs hl
    have e1 : (Value.ref (1005000 + t) :: st).map (gv G) = .ref t :: st.map (gv G) := by
      show Value.ref (ga G (1005000 + t)) :: _ = _
      rw [ga_any hG]
    rw [e1] at this
    exact va_gets C.1 C.2.1 hZ hs C.2.2.2.2.2.1 (C.2.2.2.2.2.2.1 _ hlink) (fun _ q => q) hd this
theorem r_strlen {j : Nat} (hG : GOK G) (hj : j < 30) (hd : decode (mC M) pc = .ok (.arraylength, 1)) (kk : PW l G M R Fi N (pc + 1) ls (.int (nI (strLen.getD j 0)) :: st) cs h) : PW l G M R Fi N pc ls (.ref (1005000 + gVs G j) :: st) cs h := by
  intro p e s m args below meth c9 H locs la C hr hs hl
  show W p l e R s m args below meth c9 H locs cs.1 cs.2 _ (F0 m pc la (.ref (ga G (1005000 + gVs G j)) :: st.map (gv G)))
  rw [ga_any hG]
  exact va_tlen C.1 C.2.1 (C.2.2.2.2.2.2.2.1.2.2.2.2.2.2.1.1 j hj).2.2.2 hs rfl hd (kk p e s m args below meth c9 H locs la C hr hs hl)
theorem r_strbal {j k : Nat} (hG : GOK G) (hj : j < 30) (hk : k < strLen.getD j 0) (hk2 : strLen.getD j 0 < 2 ^ 31) (hd : decode (mC M) pc = .ok (.baload, 1)) (kk : PW l G M R Fi N (pc + 1) ls (.int ((strByt.getD j []).getD k 0) :: st) cs h) : PW l G M R Fi N pc ls (.int (nI k) :: .ref (1005000 + gVs G j) :: st) cs h := by
  intro p e s m args below meth c9 H locs la C hr hs hl
  show W p l e R s m args below meth c9 H locs cs.1 cs.2 _ (F0 m pc la (.int (nI k) :: .ref (ga G (1005000 + gVs G j)) :: st.map (gv G)))
  rw [ga_any hG]
  exact va_tb C.1 C.2.1 (C.2.2.2.2.2.2.2.1.2.2.2.2.2.2.1.1 j hj).2.2.2 hs (vp_in_nI hk hk2) (by rw [nI_clamp (by omega)]; rfl) hd (kk p e s m args below meth c9 H locs la C hr hs hl)
/-- invokevirtual on a String constant -/
theorem r_callStr {j ix : Nat} {M2 : MD} (as : List Value) (hj : j < 30) (hlk : CV (mY M).cls ix M2 as.length) (hcy : (mY M2).cls = "java/lang/String") (hrm : rmOK R cs M2 = true) (hst : (st.map fun v => v.category).sum ≤ 8) (hN : N' = N + (mO M2).cells ∧ N' ≤ NT ∨ N = NT ∧ N' = NT)
    (hd : decode (mC M) pc = .ok (.invokevirtual ix, 3)) (hM : PM l G M2 N N' (.ref (1000000 + j) :: as) h K noX)
    (kk : ∀ (v : Option Value) (h' : AH), K v h' → PW l G M R Fi N' (pc + 3) ls (v.toList ++ st) (cs.1 + (mO M2).cells, cs.2 + (mO M2).slots) h') :
    PW l G M R Fi N pc ls (as.reverse ++ .ref (1000000 + j) :: st) cs h := by
  intro p e s m args below meth c9 H locs la C hr hs hl
  obtain ⟨w1, w2, w3, w4, w5, w6⟩ := hlk
  obtain ⟨hR, hf⟩ := rmOK_spec hrm
  intro T hT Z
  have hsz : H.size ≤ s.heap.size + cs.1 := by rw [← hT]; exact Z.heapSize
  have hrec := vk_recv C.2.2.2.2.2.2.2.1.2.2.2.2.2.2.1 (i := j) hj hs
  have hG : GoodIn tblG (wsV (mY M).cls ix (mY M2).cls (mY M2) (wM M2)) := by
    intro w hw
    simp only [wsV, List.mem_append, List.mem_cons, List.not_mem_nil, or_false] at hw
    rcases hw with (rfl | rfl | rfl | rfl) | hw
    · exact ⟨w1, tblG_good w1⟩
    · exact ⟨w2, tblG_good w2⟩
    · exact ⟨w3, tblG_good w3⟩
    · exact ⟨w4, tblG_good w4⟩
    · exact good_wM w5 w hw
  have hrun := vx_runV (As := as.map (gv G)) (rest := st.map (gv G)) (b := ga G (1000000 + j)) (C := (mY M2).cls) (nL := mL M) (g := F0 m pc la ((as.reverse ++ .ref (1000000 + j) :: st).map (gv G))) (H := H) (locs := locs) (cells := cs.1) (slots := cs.2) ⟨C.1, C.2.1, C.2.2.1, C.2.2.2.2.2.1, C.2.2.2.2.2.2.1⟩ hM (cwV as.length C.2.2.2.2.2.2.1 hG rfl rfl rfl ⟨rfl, w6⟩ hR) ⟨blindM _, by rw [ga_str, hcy]; exact hrec, fun U hU hW => pcM_at (.ref (1000000 + j) :: as) C.2.2.2.2.2.2.2.1 hs hr hsz C.2.2.2.2.2.2.2.2.2.2 hU hW⟩ rfl (by simp) hl.1 (by simp [List.map_append, List.map_reverse, gv]) (lv_room (by rw [gv_cats]; exact hst)) hd hf (below := below) (e := e) (meth := meth)
  refine c_run hrun hs (fun v h' H1 locs1 q1 q2 q3 => ?_) (fun E h' H1 locs1 ce q q1 q2 q3 q4 q5 q6 => q1.elim) T hT Z
  rw [map_tl]
  exact kk v h' q1.2 p e s m args below meth c9 H1 locs1 la C (rep_call hr hN q2) q3 hl
end THR

theorem thm_163 : ∀ w ∈ (vy_at RX8 163).filter goodWord, w ∈ lw_tbl := fun w hw => of_decide_eq_true (List.all_eq_true.mp (by decide +kernel : ((vy_at RX8 163).filter goodWord).all (fun w => decide (w ∈ lw_tbl)) = true) w hw)
theorem thc_163 : ∀ w ∈ vy_at RX8 163, goodWord w = true ∨ w = .castable nsE nsE ∨ ∃ X ∈ deTab, w = .declares (Bundle.initS X) := by decide +kernel
theorem th_163 : ∀ w ∈ vy_at RX8 163, w ∈ tblG ∨ w = .castable nsE nsE ∨ ∃ X ∈ deTab, w = .declares (Bundle.initS X) := fun w hw => (thc_163 w hw).elim (fun h => Or.inl (tg (thm_163 w (List.mem_filter.mpr ⟨hw, h⟩)) h)) Or.inr
theorem thm_109 : ∀ w ∈ (vx_atS RX8 109 "java/lang/IllegalArgumentException" thN).filter goodWord, w ∈ lw_tbl := fun w hw => of_decide_eq_true (List.all_eq_true.mp (by decide +kernel : ((vx_atS RX8 109 "java/lang/IllegalArgumentException" thN).filter goodWord).all (fun w => decide (w ∈ lw_tbl)) = true) w hw)
theorem thc_109 : ∀ w ∈ vx_atS RX8 109 "java/lang/IllegalArgumentException" thN, goodWord w = true ∨ w = .castable "java/lang/IllegalArgumentException" "java/lang/IllegalArgumentException" ∨ ∃ X ∈ deTab, w = .declares (Bundle.initS X) := by decide +kernel
theorem th_109 : ∀ w ∈ vx_atS RX8 109 "java/lang/IllegalArgumentException" thN, w ∈ tblG ∨ w = .castable "java/lang/IllegalArgumentException" "java/lang/IllegalArgumentException" ∨ ∃ X ∈ deTab, w = .declares (Bundle.initS X) := fun w hw => (thc_109 w hw).elim (fun h => Or.inl (tg (thm_109 w (List.mem_filter.mpr ⟨hw, h⟩)) h)) Or.inr
theorem thm_307 : ∀ w ∈ (vx_atS RX8 307 "java/lang/IllegalStateException" thN).filter goodWord, w ∈ lw_tbl := fun w hw => of_decide_eq_true (List.all_eq_true.mp (by decide +kernel : ((vx_atS RX8 307 "java/lang/IllegalStateException" thN).filter goodWord).all (fun w => decide (w ∈ lw_tbl)) = true) w hw)
theorem thc_307 : ∀ w ∈ vx_atS RX8 307 "java/lang/IllegalStateException" thN, goodWord w = true ∨ w = .castable "java/lang/IllegalStateException" "java/lang/IllegalStateException" ∨ ∃ X ∈ deTab, w = .declares (Bundle.initS X) := by decide +kernel
theorem th_307 : ∀ w ∈ vx_atS RX8 307 "java/lang/IllegalStateException" thN, w ∈ tblG ∨ w = .castable "java/lang/IllegalStateException" "java/lang/IllegalStateException" ∨ ∃ X ∈ deTab, w = .declares (Bundle.initS X) := fun w hw => (thc_307 w hw).elim (fun h => Or.inl (tg (thm_307 w (List.mem_filter.mpr ⟨hw, h⟩)) h)) Or.inr
theorem thm_389 : ∀ w ∈ (vx_atS RX8 389 "java/lang/IndexOutOfBoundsException" thN).filter goodWord, w ∈ lw_tbl := fun w hw => of_decide_eq_true (List.all_eq_true.mp (by decide +kernel : ((vx_atS RX8 389 "java/lang/IndexOutOfBoundsException" thN).filter goodWord).all (fun w => decide (w ∈ lw_tbl)) = true) w hw)
theorem thc_389 : ∀ w ∈ vx_atS RX8 389 "java/lang/IndexOutOfBoundsException" thN, goodWord w = true ∨ w = .castable "java/lang/IndexOutOfBoundsException" "java/lang/IndexOutOfBoundsException" ∨ ∃ X ∈ deTab, w = .declares (Bundle.initS X) := by decide +kernel
theorem th_389 : ∀ w ∈ vx_atS RX8 389 "java/lang/IndexOutOfBoundsException" thN, w ∈ tblG ∨ w = .castable "java/lang/IndexOutOfBoundsException" "java/lang/IndexOutOfBoundsException" ∨ ∃ X ∈ deTab, w = .declares (Bundle.initS X) := fun w hw => (thc_389 w hw).elim (fun h => Or.inl (tg (thm_389 w (List.mem_filter.mpr ⟨hw, h⟩)) h)) Or.inr
theorem ths_105_107 : TH RX8 105 107 109 18 "java/lang/IllegalArgumentException" "no such number" := ⟨by decide +kernel, tgI 807 (by decide +kernel) rfl, tgI 119 (by decide +kernel) rfl, th_109, List.mem_of_getElem? (i := 18) rfl, by decide⟩
theorem ths_159_161 : THN RX8 159 161 163 21 "no such member" := ⟨tgI 936 (by decide +kernel) rfl, tgI 121 (by decide +kernel) rfl, th_163, List.mem_of_getElem? (i := 21) rfl⟩
theorem ths_159_183 : THN RX8 159 183 163 22 "no such index" := ⟨tgI 936 (by decide +kernel) rfl, tgI 121 (by decide +kernel) rfl, th_163, List.mem_of_getElem? (i := 22) rfl⟩
theorem ths_159_191 : THN RX8 159 191 163 23 "no such demand" := ⟨tgI 936 (by decide +kernel) rfl, tgI 121 (by decide +kernel) rfl, th_163, List.mem_of_getElem? (i := 23) rfl⟩
theorem ths_159_265 : THN RX8 159 265 163 24 "no such event" := ⟨tgI 936 (by decide +kernel) rfl, tgI 121 (by decide +kernel) rfl, th_163, List.mem_of_getElem? (i := 24) rfl⟩
theorem ths_303_305 : TH RX8 303 305 307 25 "java/lang/IllegalStateException" "more than MAX members" := ⟨by decide +kernel, tgI 1237 (by decide +kernel) rfl, tgI 122 (by decide +kernel) rfl, th_307, List.mem_of_getElem? (i := 25) rfl, by decide⟩
theorem ths_303_318 : TH RX8 303 318 307 26 "java/lang/IllegalStateException" "the member must stay" := ⟨by decide +kernel, tgI 1237 (by decide +kernel) rfl, tgI 122 (by decide +kernel) rfl, th_307, List.mem_of_getElem? (i := 26) rfl, by decide⟩
theorem ths_105_324 : TH RX8 105 324 109 27 "java/lang/IllegalArgumentException" "the member is in this pool" := ⟨by decide +kernel, tgI 807 (by decide +kernel) rfl, tgI 119 (by decide +kernel) rfl, th_109, List.mem_of_getElem? (i := 27) rfl, by decide⟩
theorem ths_303_326 : TH RX8 303 326 307 28 "java/lang/IllegalStateException" "the pool has MAX members" := ⟨by decide +kernel, tgI 1237 (by decide +kernel) rfl, tgI 122 (by decide +kernel) rfl, th_307, List.mem_of_getElem? (i := 28) rfl, by decide⟩
theorem ths_303_383 : TH RX8 303 383 307 29 "java/lang/IllegalStateException" "no state is saved" := ⟨by decide +kernel, tgI 1237 (by decide +kernel) rfl, tgI 122 (by decide +kernel) rfl, th_307, List.mem_of_getElem? (i := 29) rfl, by decide⟩
theorem ths_385_387 : TH RX8 385 387 389 19 "java/lang/IndexOutOfBoundsException" "no such pool" := ⟨by decide +kernel, tgI 887 (by decide +kernel) rfl, tgI 120 (by decide +kernel) rfl, th_389, List.mem_of_getElem? (i := 19) rfl, by decide⟩
theorem ths_105_390 : TH RX8 105 390 109 20 "java/lang/IllegalArgumentException" "out of range" := ⟨by decide +kernel, tgI 807 (by decide +kernel) rfl, tgI 119 (by decide +kernel) rfl, th_109, List.mem_of_getElem? (i := 20) rfl, by decide⟩