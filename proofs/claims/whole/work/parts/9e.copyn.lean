-- for the first 722 objects: copied by wip/gen/copyn.py
def NTAh : Nat := 722
def kdAh (i c : Nat) : Prop := wK i = c ∧ 0 < i ∧ i ≤ NTAh
def kaAh (i c n : Nat) : Prop := kdAh i c ∧ wL i = n
def wRAh (h : (Nat → Nat → Nat) × (Nat → Nat) × (Nat → Nat)) : Prop :=
  (∀ i, kdAh i 0 → h.1 i 0 = i + 1 ∧ h.1 i 1 = i + 2 ∧ h.1 i 2 = i + 3 ∧ h.1 i 3 = i + 4) ∧
  (∀ i, kdAh i 1 → h.1 i 0 = i + 1 ∧ h.1 i 1 = i + 2 ∧ h.1 i 2 = i + 3 ∧ h.1 i 3 = i + 4) ∧
  (∀ i, kdAh i 3 → h.1 i 0 = i + 1 ∧ h.1 i 1 = i + 3 ∧ h.1 i 2 = i + 8 ∧ h.1 i 3 = i + 10 ∧ h.1 i 5 = i + 11) ∧
  (∀ i, kdAh i 4 → h.1 i 16 = i + 1) ∧
  (∀ i, kdAh i 6 → h.1 i 0 = i + 1 ∧ h.1 i 4 = i + 2) ∧
  (∀ i, kdAh i 7 → h.1 i 9 = i + 1) ∧
  (∀ i, kdAh i 14 → ∀ p, p < 4 → h.1 i p = i + 6 + 12 * p) ∧
  (h.1 1 0 = 2 ∧ h.1 1 4 = 3 ∧ h.1 1 5 = 5 ∧ h.1 1 6 = 7 ∧ h.1 1 7 = 62 ∧ h.1 1 8 = 117 ∧ h.1 1 10 = 172) ∧ (h.1 5 0 = 6) ∧
  True
def WdAh (h : (Nat → Nat → Nat) × (Nat → Nat) × (Nat → Nat)) : Prop := (∀ i, 0 < i → i ≤ NTAh → h.2.1 i = wK i) ∧ (∀ i, 0 < i → i ≤ NTAh → h.2.2 i = wL i) ∧ wRAh h
def WorldAh (h : AH) : Prop := WdAh h.2.2.2
theorem WorldAh.isK {h : AH} (hW : WorldAh h) {i c : Nat} (hk : kdAh i c) : isK NTAh h i c := ⟨(hW.1 i hk.2.1 hk.2.2).trans hk.1, hk.2⟩
theorem WorldAh.isA {h : AH} (hW : WorldAh h) {i c n : Nat} (hk : kaAh i c n) : isA NTAh h i c n := ⟨hW.isK hk.1, (hW.2.1 i hk.1.2.1 hk.1.2.2).trans hk.2⟩
def kqAh (a d b n : Nat) : Bool := (List.range 723).all fun i => !(wK i == a && Nat.blt 0 i) || (wK (i + d) == b && wL (i + d) == n && Nat.ble (i + d) 722)
theorem kq_specAh {a d b n : Nat} (h : kqAh a d b n = true) {i : Nat} (hk : kdAh i a) : kaAh (i + d) b n := by
  have h1 := List.all_eq_true.mp h i (List.mem_range.mpr (by have := hk.2.2; have : NTAh = 722 := rfl; omega))
  rw [hk.1] at h1
  have h2 : Nat.blt 0 i = true := Nat.ble_eq_true_of_le hk.2.1
  simp only [h2, beq_self_eq_true, Bool.and_self, Bool.not_true, Bool.false_or, Bool.and_eq_true, beq_iff_eq] at h1
  exact ⟨⟨h1.1.1, by have := hk.2.1; omega, Nat.le_of_ble_eq_true h1.2⟩, h1.1.2⟩
theorem kk_1_0Ah {i : Nat} (hk : kdAh i 1) : kaAh (i + 1) 11 20 := kq_specAh (a := 1) (d := 1) (b := 11) (n := 20) (by decide +kernel) hk
theorem kl_1_0Ah {h : AH} (hW : WorldAh h) {i : Nat} (hk : kdAh i 1) : aR h i 0 = i + 1 := ((hW.2.2.2.1 i hk).1)
theorem kk_1_1Ah {i : Nat} (hk : kdAh i 1) : kaAh (i + 2) 11 20 := kq_specAh (a := 1) (d := 2) (b := 11) (n := 20) (by decide +kernel) hk
theorem kl_1_1Ah {h : AH} (hW : WorldAh h) {i : Nat} (hk : kdAh i 1) : aR h i 1 = i + 2 := ((hW.2.2.2.1 i hk).2.1)
theorem kk_1_2Ah {i : Nat} (hk : kdAh i 1) : kaAh (i + 3) 11 20 := kq_specAh (a := 1) (d := 3) (b := 11) (n := 20) (by decide +kernel) hk
theorem kl_1_2Ah {h : AH} (hW : WorldAh h) {i : Nat} (hk : kdAh i 1) : aR h i 2 = i + 3 := ((hW.2.2.2.1 i hk).2.2.1)
theorem kk_1_3Ah {i : Nat} (hk : kdAh i 1) : kaAh (i + 4) 13 20 := kq_specAh (a := 1) (d := 4) (b := 13) (n := 20) (by decide +kernel) hk
theorem kl_1_3Ah {h : AH} (hW : WorldAh h) {i : Nat} (hk : kdAh i 1) : aR h i 3 = i + 4 := ((hW.2.2.2.1 i hk).2.2.2)
theorem kk_3_0Ah {i : Nat} (hk : kdAh i 3) : kdAh (i + 1) 4 := kq_specAh (a := 3) (d := 1) (b := 4) (n := 0) (by decide +kernel) hk |>.1
theorem kl_3_0Ah {h : AH} (hW : WorldAh h) {i : Nat} (hk : kdAh i 3) : aR h i 0 = i + 1 := ((hW.2.2.2.2.1 i hk).1)
theorem kk_3_1Ah {i : Nat} (hk : kdAh i 3) : kdAh (i + 3) 1 := kq_specAh (a := 3) (d := 3) (b := 1) (n := 0) (by decide +kernel) hk |>.1
theorem kl_3_1Ah {h : AH} (hW : WorldAh h) {i : Nat} (hk : kdAh i 3) : aR h i 1 = i + 3 := ((hW.2.2.2.2.1 i hk).2.1)
theorem kk_3_2Ah {i : Nat} (hk : kdAh i 3) : kdAh (i + 8) 7 := kq_specAh (a := 3) (d := 8) (b := 7) (n := 0) (by decide +kernel) hk |>.1
theorem kl_3_2Ah {h : AH} (hW : WorldAh h) {i : Nat} (hk : kdAh i 3) : aR h i 2 = i + 8 := ((hW.2.2.2.2.1 i hk).2.2.1)
theorem kk_3_5Ah {i : Nat} (hk : kdAh i 3) : kaAh (i + 11) 11 8 := kq_specAh (a := 3) (d := 11) (b := 11) (n := 8) (by decide +kernel) hk
theorem kl_3_5Ah {h : AH} (hW : WorldAh h) {i : Nat} (hk : kdAh i 3) : aR h i 5 = i + 11 := ((hW.2.2.2.2.1 i hk).2.2.2.2)
theorem kk_6_0Ah {i : Nat} (hk : kdAh i 6) : kaAh (i + 1) 14 4 := kq_specAh (a := 6) (d := 1) (b := 14) (n := 4) (by decide +kernel) hk
theorem kl_6_0Ah {h : AH} (hW : WorldAh h) {i : Nat} (hk : kdAh i 6) : aR h i 0 = i + 1 := ((hW.2.2.2.2.2.2.1 i hk).1)
theorem kk_7_9Ah {i : Nat} (hk : kdAh i 7) : kaAh (i + 1) 11 6 := kq_specAh (a := 7) (d := 1) (b := 11) (n := 6) (by decide +kernel) hk
theorem kl_7_9Ah {h : AH} (hW : WorldAh h) {i : Nat} (hk : kdAh i 7) : aR h i 9 = i + 1 := (hW.2.2.2.2.2.2.2.1 i hk)
theorem kk_14Ah {i p : Nat} (hk : kdAh i 14) (hp : p < 4) : kdAh (i + 6 + 12 * p) 3 := by
  have h4 : ∀ q, q < 4 → kqAh 14 (6 + 12 * q) 3 0 = true := by decide +kernel
  have := (kq_specAh (h4 p hp) hk).1
  rwa [← Nat.add_assoc] at this
theorem kl_14Ah {h : AH} (hW : WorldAh h) {i p : Nat} (hk : kdAh i 14) (hp : p < 4) : aR h i p = i + 6 + 12 * p := hW.2.2.2.2.2.2.2.2.1 i hk p hp
section QR
variable {l : Launch} {G : GC} {M : MD} {R : Room} {Fi : CX → State → Prop} {pc : Nat} {ls : List (Option Value)} {st : List Value} {cs : Nat × Nat} {h : AH} {K : Option Value → AH → Prop} {X : String → AH → Prop}
theorem q_getIAh {i c k ix : Nat} (hf : FL (mY M).cls ix c k) (hW : WorldAh h) (hk : kdAh i c) (ht : tk (clY c k) = 0) (hd : decode (mC M) pc = .ok (.getfield ix, 3)) (kk : PW l G M R Fi NTAh (pc + 3) ls (.int (aI h i k) :: st) cs h) : PW l G M R Fi NTAh pc ls (.ref i :: st) cs h := r_getI hf (hW.isK hk) ht hd kk
theorem q_getRAh {i c k ix r : Nat} (hf : FL (mY M).cls ix c k) (hW : WorldAh h) (hk : kdAh i c) (ht : tk (clY c k) = 2) (hr : aR h i k = r) (h0 : r ≠ 0) (hd : decode (mC M) pc = .ok (.getfield ix, 3)) (kk : PW l G M R Fi NTAh (pc + 3) ls (.ref r :: st) cs h) : PW l G M R Fi NTAh pc ls (.ref i :: st) cs h := r_getR hf (hW.isK hk) ht hr h0 hd kk
theorem q_putIAh {i c k ix : Nat} {x : Int32} (hf : FL (mY M).cls ix c k) (hW : WorldAh h) (hk : kdAh i c) (ht : clY c k = .int) (hfi : (clT c k).2.2.2 = false) (hd : decode (mC M) pc = .ok (.putfield ix, 3)) (kk : PW l G M R Fi NTAh (pc + 3) ls st cs (sI h i k x)) : PW l G M R Fi NTAh pc ls (.int x :: .ref i :: st) cs h := r_putI hf (hW.isK hk) ht hfi hd kk
theorem q_putZAh {i c k ix : Nat} {x : Int32} (hf : FL (mY M).cls ix c k) (hW : WorldAh h) (hk : kdAh i c) (ht : clY c k = .boolean) (hx : x = 0 ∨ x = 1) (hfi : (clT c k).2.2.2 = false) (hd : decode (mC M) pc = .ok (.putfield ix, 3)) (kk : PW l G M R Fi NTAh (pc + 3) ls st cs (sI h i k x)) : PW l G M R Fi NTAh pc ls (.int x :: .ref i :: st) cs h := r_putZ hf (hW.isK hk) ht hx hfi hd kk
theorem q_putJAh {i c k ix : Nat} {x : Int64} (hf : FL (mY M).cls ix c k) (hW : WorldAh h) (hk : kdAh i c) (ht : clY c k = .long) (hfi : (clT c k).2.2.2 = false) (hd : decode (mC M) pc = .ok (.putfield ix, 3)) (kk : PW l G M R Fi NTAh (pc + 3) ls st cs (sJ h i k x)) : PW l G M R Fi NTAh pc ls (.long x :: .ref i :: st) cs h := r_putJ hf (hW.isK hk) ht hfi hd kk
theorem q_iastAh {i n k : Nat} {x v : Int32} (hW : WorldAh h) (ha : kaAh i 11 n) (hx : x = nI k) (hkn : k < n) (hn : n < 2 ^ 31) (hd : decode (mC M) pc = .ok (.iastore, 1)) (kk : PW l G M R Fi NTAh (pc + 1) ls st cs (sI h i k v)) : PW l G M R Fi NTAh pc ls (.int v :: .int x :: .ref i :: st) cs h := r_iast (hW.isA ha) (by rw [hx]; exact vp_in_nI hkn hn) hd (by rw [hx, nI_clamp (by omega)]; exact kk)
theorem q_zastAh {i n k : Nat} {x v : Int32} (hW : WorldAh h) (ha : kaAh i 13 n) (hx : x = nI k) (hkn : k < n) (hn : n < 2 ^ 31) (hd : decode (mC M) pc = .ok (.bastore, 1)) (kk : PW l G M R Fi NTAh (pc + 1) ls st cs (sI h i k (vp_nar .boolean v))) : PW l G M R Fi NTAh pc ls (.int v :: .int x :: .ref i :: st) cs h := r_zast (hW.isA ha) (by rw [hx]; exact vp_in_nI hkn hn) hd (by rw [hx, nI_clamp (by omega)]; exact kk)
theorem q_paldAh {i p : Nat} {x : Int32} (hW : WorldAh h) (ha : kaAh i 14 4) (hx : x = nI p) (hp : p < 4) (hd : decode (mC M) pc = .ok (.aaload, 1)) (kk : PW l G M R Fi NTAh (pc + 1) ls (.ref (i + 6 + 12 * p) :: st) cs h) : PW l G M R Fi NTAh pc ls (.int x :: .ref i :: st) cs h :=
  r_pald (hW.isA ha) (by rw [hx]; exact vp_in_nI hp (by decide)) (by rw [hx, nI_clamp (by omega)]; exact kl_14Ah hW ha.1 hp) (by omega) hd kk
theorem q_callVAh {c i ix : Nat} {M2 : MD} (as : List Value) (hlk : CV (mY M).cls ix M2 as.length) (hW : WorldAh h) (hk : kdAh i c) (hc : c < 10) (hcy : clR c = (mY M2).cls) (hz : (mO M2).cells = 0 ∧ (mO M2).slots = 0) (hrm : rmOK R cs M2 = true) (hst : (st.map fun v => v.category).sum ≤ 8)
    (hd : decode (mC M) pc = .ok (.invokevirtual ix, 3)) (hM : PM l G M2 NTAh NTAh (.ref i :: as) h K noX) (kk : ∀ (v : Option Value) (h' : AH), K v h' → PW l G M R Fi NTAh (pc + 3) ls (v.toList ++ st) cs h') : PW l G M R Fi NTAh pc ls (as.reverse ++ .ref i :: st) cs h :=
  r_callV as hlk (hW.isK hk) hc hcy hrm hst (Or.inl ⟨by rw [hz.1]; rfl, by decide⟩) hd hM (fun v h' q => by rw [hz.1, hz.2]; exact kk v h' q) (fun _ _ q => q.elim)
theorem q_callSAh {ix : Nat} {M2 : MD} (as : List Value) (hlk : CSt (mY M).cls ix M2 as.length) (hz : (mO M2).cells = 0 ∧ (mO M2).slots = 0) (hrm : rmOK R cs M2 = true) (hst : (st.map fun v => v.category).sum ≤ 8)
    (hd : decode (mC M) pc = .ok (.invokestatic ix, 3)) (hM : PM l G M2 NTAh NTAh as h K noX) (kk : ∀ (v : Option Value) (h' : AH), K v h' → PW l G M R Fi NTAh (pc + 3) ls (v.toList ++ st) cs h') : PW l G M R Fi NTAh pc ls (as.reverse ++ st) cs h :=
  r_callS as hlk hrm hst (Or.inl ⟨by rw [hz.1]; rfl, by decide⟩) hd hM (fun v h' q => by rw [hz.1, hz.2]; exact kk v h' q) (fun _ _ q => q.elim)
theorem q_callV0Ah {c i ix : Nat} {M2 : MD} (hlk : CV (mY M).cls ix M2 0) (hW : WorldAh h) (hk : kdAh i c) (hc : c < 10) (hcy : clR c = (mY M2).cls) (hz : (mO M2).cells = 0 ∧ (mO M2).slots = 0) (hrm : rmOK R cs M2 = true) (hst : (st.map fun v => v.category).sum ≤ 8) (hd : decode (mC M) pc = .ok (.invokevirtual ix, 3)) (hM : PM l G M2 NTAh NTAh (.ref i :: []) h K noX) (kk : ∀ (v : Option Value) (h' : AH), K v h' → PW l G M R Fi NTAh (pc + 3) ls (v.toList ++ st) cs h') : PW l G M R Fi NTAh pc ls (.ref i :: st) cs h := q_callVAh [] hlk hW hk hc hcy hz hrm hst hd hM kk
theorem q_callS2Ah {ix : Nat} {a1 a2 : Value} {M2 : MD} (hlk : CSt (mY M).cls ix M2 2) (hz : (mO M2).cells = 0 ∧ (mO M2).slots = 0) (hrm : rmOK R cs M2 = true) (hst : (st.map fun v => v.category).sum ≤ 8) (hd : decode (mC M) pc = .ok (.invokestatic ix, 3)) (hM : PM l G M2 NTAh NTAh [a1, a2] h K noX) (kk : ∀ (v : Option Value) (h' : AH), K v h' → PW l G M R Fi NTAh (pc + 3) ls (v.toList ++ st) cs h') : PW l G M R Fi NTAh pc ls (a2 :: a1 :: st) cs h := q_callSAh [a1, a2] hlk hz hrm hst hd hM kk
theorem q_callV3Ah {c i ix : Nat} {a1 a2 a3 : Value} {M2 : MD} (hlk : CV (mY M).cls ix M2 3) (hW : WorldAh h) (hk : kdAh i c) (hc : c < 10) (hcy : clR c = (mY M2).cls) (hz : (mO M2).cells = 0 ∧ (mO M2).slots = 0) (hrm : rmOK R cs M2 = true) (hst : (st.map fun v => v.category).sum ≤ 8) (hd : decode (mC M) pc = .ok (.invokevirtual ix, 3)) (hM : PM l G M2 NTAh NTAh (.ref i :: [a1, a2, a3]) h K noX) (kk : ∀ (v : Option Value) (h' : AH), K v h' → PW l G M R Fi NTAh (pc + 3) ls (v.toList ++ st) cs h') : PW l G M R Fi NTAh pc ls (a3 :: a2 :: a1 :: .ref i :: st) cs h := q_callVAh [a1, a2, a3] hlk hW hk hc hcy hz hrm hst hd hM kk
end QR
theorem eqx.WAh {h h' : AH} {S : Nat → Prop} (e : eqx h h' S) (hW : WorldAh h) : WorldAh h' := by unfold WorldAh; rw [e.1]; exact hW
section Q2
variable {l : Launch} {G : GC} {M : MD} {R : Room} {Fi : CX → State → Prop} {pc : Nat} {ls : List (Option Value)} {st : List Value} {cs : Nat × Nat} {h : AH}
theorem q_aleniAh {i n : Nat} (hW : WorldAh h) (ha : kaAh i 11 n) (hd : decode (mC M) pc = .ok (.arraylength, 1)) (kk : PW l G M R Fi NTAh (pc + 1) ls (.int (nI n) :: st) cs h) : PW l G M R Fi NTAh pc ls (.ref i :: st) cs h :=
  r_alen (c := 11) (t0 := 1) (cA := gY G 11) (x := (aL h i, .inl (aI h i))) (hW.isA ha) (by decide) rfl (hW.isA ha).2 rfl hd kk
end Q2
set_option maxRecDepth 100000 in
set_option maxHeartbeats 4000000 in
theorem c_X1_addAh {l9 : Launch} {G : GC} {h : AH} {o : Nat} {l : List Mb} {a b c : Int32} (hW : WorldAh h) (hk : kdAh o 1) (hm : MemR h o l) (hn : l.length < 20) : PM l9 G mX1_add NTAh NTAh [.ref o, .int a, .int b, .int c] h (fun v h' => v = none ∧ eqx h h' (btw o (o + 4)) ∧ MemR h' o (l ++ [(a, b, c, false)])) noX := by
  refine PM.of (by decide) rfl rfl (Nat.le_of_ble_eq_true rfl) (fun hst _ => ?_)
  refine r_aload_n dX1_add_0 rfl ?_
  refine q_getIAh fl_X1_25 hW hk rfl dX1_add_1 ?_
  refine r_bipush (20) dX1_add_4 (by decide) ?_
  refine r_icmp_ge 59 dX1_add_6 (by decide) (fun c_6 => ?_) (fun c_6 => ?_)
  · exact absurd c_6 (by rw [hm.1]; exact fun q => absurd ((nI_leI (a := 20) (by omega) (by omega)).mp q) (by omega))
  · refine r_aload_n dX1_add_9 rfl ?_
    refine q_getRAh fl_X1_9 hW hk rfl (kl_1_0Ah hW hk) (Nat.succ_ne_zero _) dX1_add_10 ?_
    refine r_aload_n dX1_add_13 rfl ?_
    refine q_getIAh fl_X1_25 hW hk rfl dX1_add_14 ?_
    refine r_iload_n dX1_add_17 rfl ?_
    refine q_iastAh hW (kk_1_0Ah hk) hm.1 (by omega) (by decide) dX1_add_18 ?_
    refine r_aload_n dX1_add_19 rfl ?_
    refine q_getRAh fl_X1_15 hW hk rfl (kl_1_1Ah hW hk) (Nat.succ_ne_zero _) dX1_add_20 ?_
    refine r_aload_n dX1_add_23 rfl ?_
    refine q_getIAh fl_X1_25 hW hk rfl dX1_add_24 ?_
    refine r_iload_n dX1_add_27 rfl ?_
    refine q_iastAh hW (kk_1_1Ah hk) (k := l.length) (by simp (discharger := omega) only [sI_o, sI_k, hm.1]) (by omega) (by decide) dX1_add_28 ?_
    refine r_aload_n dX1_add_29 rfl ?_
    refine q_getRAh fl_X1_18 hW hk rfl (kl_1_2Ah hW hk) (Nat.succ_ne_zero _) dX1_add_30 ?_
    refine r_aload_n dX1_add_33 rfl ?_
    refine q_getIAh fl_X1_25 hW hk rfl dX1_add_34 ?_
    refine r_iload_n dX1_add_37 rfl ?_
    refine q_iastAh hW (kk_1_2Ah hk) (k := l.length) (by simp (discharger := omega) only [sI_o, sI_k, hm.1]) (by omega) (by decide) dX1_add_38 ?_
    refine r_aload_n dX1_add_39 rfl ?_
    refine q_getRAh fl_X1_21 hW hk rfl (kl_1_3Ah hW hk) (Nat.succ_ne_zero _) dX1_add_40 ?_
    refine r_aload_n dX1_add_43 rfl ?_
    refine q_getIAh fl_X1_25 hW hk rfl dX1_add_44 ?_
    refine r_iconst (0) dX1_add_47 (by decide) ?_
    refine q_zastAh hW (kk_1_3Ah hk) (k := l.length) (by simp (discharger := omega) only [sI_o, sI_k, hm.1]) (by omega) (by decide) dX1_add_48 ?_
    refine r_aload_n dX1_add_49 rfl ?_
    refine r_dup dX1_add_50 rfl ?_
    refine q_getIAh fl_X1_25 hW hk rfl dX1_add_51 ?_
    refine r_iconst (1) dX1_add_54 (by decide) ?_
    refine r_iadd dX1_add_55 ?_
    refine q_putIAh fl_X1_25 hW hk rfl rfl dX1_add_56 ?_
    refine r_vret dX1_add_59 rfl ⟨Nat.zero_le _, Nat.zero_le _⟩ ?_
    refine ⟨rfl, ((((eqx.rf.sI ?_).sI ?_).sI ?_).sI ?_).sI ?_, MemR.app hm hn ?_ ?_ ?_ ?_ ?_⟩
    all_goals first
      | (unfold btw; omega)
      | (simp (discharger := omega) only [sI_o, sI_s, sI_k, hm.1, nI_1]; done)
      | (simp (discharger := omega) only [sI_o, sI_r]; done)
      | (simp (discharger := omega) only [sI_o, sI_r]; rfl)
set_option maxRecDepth 100000 in
set_option maxHeartbeats 4000000 in
theorem c_fillAh {l9 : Launch} {G : GC} {h : AH} {i n : Nat} {x : Int32} (hW : WorldAh h) (hk : kaAh i 11 n) (hn : n < 2 ^ 31) : PM l9 G mJ7_fill_53178 NTAh NTAh [.ref i, .int x] h (fun v h' => v = none ∧ eqx h h' (btw i i) ∧ ∀ j, aI h' i j = if j < n then x else aI h i j) noX := by
  refine PM.of (by decide +kernel) rfl rfl (Nat.le_of_ble_eq_true rfl) (fun hst _ => ?_)
  refine r_iconst (0) dJ7_fill_53178_0 (by decide) ?_
  refine r_istore_n (ls2 := [_, some _, _, _]) dJ7_fill_53178_1 (by decide) rfl ?_
  refine r_aload_n dJ7_fill_53178_2 rfl ?_
  refine q_aleniAh hW hk dJ7_fill_53178_3 ?_
  refine r_istore_n (ls2 := [_, _, some _, _]) dJ7_fill_53178_4 (by decide) rfl ?_
  have key : ∀ (p : Nat) (H : AH), p ≤ n → eqx h H (btw i i) → (∀ j, aI H i j = if j < p then x else aI h i j) → PW l9 G mJ7_fill_53178 (mO mJ7_fill_53178) (fiM G mJ7_fill_53178 NTAh (fun v h' => v = none ∧ eqx h h' (btw i i) ∧ ∀ j, aI h' i j = if j < n then x else aI h i j) noX) NTAh 5 [some (.ref i), some (.int x), some (.int (nI p)), some (.int (nI n))] [] (0, 0) H := by
    intro p
    refine loopN (P := fun p => ∀ (H : AH), p ≤ n → eqx h H (btw i i) → (∀ j, aI H i j = if j < p then x else aI h i j) → PW l9 G mJ7_fill_53178 (mO mJ7_fill_53178) (fiM G mJ7_fill_53178 NTAh (fun v h' => v = none ∧ eqx h h' (btw i i) ∧ ∀ j, aI h' i j = if j < n then x else aI h i j) noX) NTAh 5 [some (.ref i), some (.int x), some (.int (nI p)), some (.int (nI n))] [] (0, 0) H) n (fun p ih H hp he hf => ?_) p
    have hWH := he.WAh hW
    refine r_iload_n dJ7_fill_53178_5 rfl ?_
    refine r_iload_n dJ7_fill_53178_6 rfl ?_
    refine r_icmp_ge 20 dJ7_fill_53178_7 (by decide) (fun c_7 => ?_) (fun c_7 => ?_)
    · have zge : n = p := by have := (nI_leI (by omega) (by omega)).mp c_7; omega
      refine r_vret dJ7_fill_53178_20 rfl ⟨Nat.zero_le _, Nat.zero_le _⟩ ?_
      exact ⟨rfl, he, zge ▸ hf⟩
    · have zlt : p < n := (nI_ltI (by omega) (by omega)).mp (i_lt.mp c_7)
      refine r_aload_n dJ7_fill_53178_10 rfl ?_
      refine r_iload_n dJ7_fill_53178_11 rfl ?_
      refine r_iload_n dJ7_fill_53178_12 rfl ?_
      refine q_iastAh hWH hk (k := p) rfl zlt hn dJ7_fill_53178_13 ?_
      refine r_iinc (1) (by decide) (ls2 := [_, some _, _, _]) dJ7_fill_53178_14 rfl (by decide) rfl ?_
      refine r_goto 5 dJ7_fill_53178_17 (by decide) ?_
      rw [nI_1]
      refine ih zlt _ zlt (he.sI (by unfold btw; omega)) (fun j => ?_)
      by_cases e : j = p
      · subst e; rw [sI_s, if_pos (by omega)]
      · rw [sI_k e, hf j]
        by_cases e2 : j < p
        · rw [if_pos e2, if_pos (by omega)]
        · rw [if_neg e2, if_neg (by omega)]
  exact key 0 h (Nat.zero_le _) eqx.rf (fun j => rfl)
set_option maxRecDepth 100000 in
set_option maxHeartbeats 4000000 in
theorem c_X7_beginAh {l9 : Launch} {G : GC} {h : AH} {o : Nat} (hW : WorldAh h) (hk : kdAh o 7) : PM l9 G mX7_begin NTAh NTAh [.ref o] h (fun v h' => v = none ∧ eqx h h' (btw o (o + 1)) ∧ TalR h' o (fun _ => 0) (fun _ => 0) (fun _ => 0)) noX := by
  refine PM.of (by decide +kernel) rfl rfl (Nat.le_of_ble_eq_true rfl) (fun hst _ => ?_)
  refine r_aload_n dX7_begin_0 rfl ?_
  refine r_lconst (0) dX7_begin_1 (by decide) ?_
  refine q_putJAh fl_X7_15 hW hk rfl rfl dX7_begin_2 ?_
  refine r_aload_n dX7_begin_5 rfl ?_
  refine r_lconst (0) dX7_begin_6 (by decide) ?_
  refine q_putJAh fl_X7_19 hW hk rfl rfl dX7_begin_7 ?_
  refine r_aload_n dX7_begin_10 rfl ?_
  refine r_lconst (0) dX7_begin_11 (by decide) ?_
  refine q_putJAh fl_X7_22 hW hk rfl rfl dX7_begin_12 ?_
  refine r_aload_n dX7_begin_15 rfl ?_
  refine r_lconst (0) dX7_begin_16 (by decide) ?_
  refine q_putJAh fl_X7_25 hW hk rfl rfl dX7_begin_17 ?_
  refine r_aload_n dX7_begin_20 rfl ?_
  refine r_lconst (0) dX7_begin_21 (by decide) ?_
  refine q_putJAh fl_X7_28 hW hk rfl rfl dX7_begin_22 ?_
  refine r_aload_n dX7_begin_25 rfl ?_
  refine r_iconst (0) dX7_begin_26 (by decide) ?_
  refine q_putIAh fl_X7_31 hW hk rfl rfl dX7_begin_27 ?_
  refine r_aload_n dX7_begin_30 rfl ?_
  refine r_iconst (0) dX7_begin_31 (by decide) ?_
  refine q_putIAh fl_X7_35 hW hk rfl rfl dX7_begin_32 ?_
  refine r_aload_n dX7_begin_35 rfl ?_
  refine r_iconst (0) dX7_begin_36 (by decide) ?_
  refine q_putIAh fl_X7_38 hW hk rfl rfl dX7_begin_37 ?_
  refine r_aload_n dX7_begin_40 rfl ?_
  refine r_iconst (0) dX7_begin_41 (by decide) ?_
  refine q_putIAh fl_X7_41 hW hk rfl rfl dX7_begin_42 ?_
  refine r_aload_n dX7_begin_45 rfl ?_
  refine q_getRAh fl_X7_9 hW hk rfl (kl_7_9Ah hW hk) (Nat.succ_ne_zero _) dX7_begin_46 ?_
  refine r_iconst (0) dX7_begin_49 (by decide) ?_
  refine q_callS2Ah (cs_J7_fill_53178 ml_X7_44) ⟨rfl, rfl⟩ rfl (Nat.le_of_ble_eq_true rfl) dX7_begin_50 (c_fillAh hW (kk_7_9Ah hk) (by decide)) (fun v_50 h_50 q_50 => ?_)
  obtain ⟨rfl, he_q_50, hm_q_50⟩ := q_50
  refine r_vret dX7_begin_53 rfl ⟨Nat.zero_le _, Nat.zero_le _⟩ ?_
  refine ⟨rfl, ?_, ?_⟩
  · refine eqx.tr ?_ (he_q_50.wk (fun i zi => by unfold btw at *; omega))
    repeat (first | exact eqx.rf | refine eqx.sI ?_ (by unfold btw; omega) | refine eqx.sJ ?_ (by unfold btw; omega))
  · have z1 : ¬ btw (o + 1) (o + 1) o := by unfold btw; omega
    unfold TalR
    rw [he_q_50.I z1, he_q_50.J z1]
    refine ⟨fun k zk => ?_, fun k zk zk2 => ?_, fun k zk => ?_⟩
    · obtain rfl | rfl | rfl | rfl | rfl : k = 0 ∨ k = 1 ∨ k = 2 ∨ k = 3 ∨ k = 4 := by omega
      all_goals (simp (discharger := omega) only [sI_o, sI_s, sI_k, sJ_o, sJ_s, sJ_k, sIJ, sJI, cI_ne, cI_eq, cIJ])
    · obtain rfl | rfl | rfl | rfl : k = 5 ∨ k = 6 ∨ k = 7 ∨ k = 8 := by omega
      all_goals (simp (discharger := omega) only [sI_o, sI_s, sI_k, sJ_o, sJ_s, sJ_k, sIJ, sJI, cI_ne, cI_eq, cIJ])
    · rw [hm_q_50, if_pos zk]
set_option maxRecDepth 100000 in
set_option maxHeartbeats 4000000 in
theorem c_X4_beginAh {l9 : Launch} {G : GC} {h : AH} {o : Nat} {a b c : Int32} (hW : WorldAh h) (hk : kdAh o 4) : PM l9 G mX4_begin NTAh NTAh [.ref o, .int a, .int b, .int c] h (fun v h' => v = none ∧ eqx h h' (btw o o) ∧ SetR h' o (set0 a b c) []) noX := by
  refine PM.of (by decide +kernel) rfl rfl (Nat.le_of_ble_eq_true rfl) (fun hst _ => ?_)
  refine r_aload_n dX4_begin_0 rfl ?_
  refine r_iload_n dX4_begin_1 rfl ?_
  refine q_putIAh fl_X4_15 hW hk rfl rfl dX4_begin_2 ?_
  refine r_aload_n dX4_begin_5 rfl ?_
  refine r_iload_n dX4_begin_6 rfl ?_
  refine q_putIAh fl_X4_19 hW hk rfl rfl dX4_begin_7 ?_
  refine r_aload_n dX4_begin_10 rfl ?_
  refine r_iload_n dX4_begin_11 rfl ?_
  refine q_putIAh fl_X4_22 hW hk rfl rfl dX4_begin_12 ?_
  refine r_aload_n dX4_begin_15 rfl ?_
  refine r_bipush (70) dX4_begin_16 (by decide) ?_
  refine q_putIAh fl_X4_25 hW hk rfl rfl dX4_begin_18 ?_
  refine r_aload_n dX4_begin_21 rfl ?_
  refine r_iconst (2) dX4_begin_22 (by decide) ?_
  refine q_putIAh fl_X4_28 hW hk rfl rfl dX4_begin_23 ?_
  refine r_aload_n dX4_begin_26 rfl ?_
  refine r_iconst (4) dX4_begin_27 (by decide) ?_
  refine q_putIAh fl_X4_31 hW hk rfl rfl dX4_begin_28 ?_
  refine r_aload_n dX4_begin_31 rfl ?_
  refine r_iconst (2) dX4_begin_32 (by decide) ?_
  refine q_putIAh fl_X4_34 hW hk rfl rfl dX4_begin_33 ?_
  refine r_aload_n dX4_begin_36 rfl ?_
  refine r_iconst (0) dX4_begin_37 (by decide) ?_
  refine q_putIAh fl_X4_37 hW hk rfl rfl dX4_begin_38 ?_
  refine r_aload_n dX4_begin_41 rfl ?_
  refine r_iconst (0) dX4_begin_42 (by decide) ?_
  refine q_putIAh fl_X4_40 hW hk rfl rfl dX4_begin_43 ?_
  refine r_aload_n dX4_begin_46 rfl ?_
  refine r_iconst (0) dX4_begin_47 (by decide) ?_
  refine q_putIAh fl_X4_43 hW hk rfl rfl dX4_begin_48 ?_
  refine r_aload_n dX4_begin_51 rfl ?_
  refine r_iconst (1) dX4_begin_52 (by decide) ?_
  refine q_putIAh fl_X4_46 hW hk rfl rfl dX4_begin_53 ?_
  refine r_aload_n dX4_begin_56 rfl ?_
  refine r_iconst (1) dX4_begin_57 (by decide) ?_
  refine q_putIAh fl_X4_49 hW hk rfl rfl dX4_begin_58 ?_
  refine r_aload_n dX4_begin_61 rfl ?_
  refine r_iconst (3) dX4_begin_62 (by decide) ?_
  refine q_putIAh fl_X4_52 hW hk rfl rfl dX4_begin_63 ?_
  refine r_aload_n dX4_begin_66 rfl ?_
  refine r_iconst (5) dX4_begin_67 (by decide) ?_
  refine q_putIAh fl_X4_55 hW hk rfl rfl dX4_begin_68 ?_
  refine r_aload_n dX4_begin_71 rfl ?_
  refine r_iconst (1) dX4_begin_72 (by decide) ?_
  refine q_putIAh fl_X4_58 hW hk rfl rfl dX4_begin_73 ?_
  refine r_aload_n dX4_begin_76 rfl ?_
  refine r_iconst (1) dX4_begin_77 (by decide) ?_
  refine q_putIAh fl_X4_61 hW hk rfl rfl dX4_begin_78 ?_
  refine r_aload_n dX4_begin_81 rfl ?_
  refine r_iconst (0) dX4_begin_82 (by decide) ?_
  refine q_putIAh fl_X4_64 hW hk rfl rfl dX4_begin_83 ?_
  refine r_vret dX4_begin_86 rfl ⟨Nat.zero_le _, Nat.zero_le _⟩ ?_
  refine ⟨rfl, ?_, fun k zk => ?_, ?_, by decide, fun j hj => absurd hj (Nat.not_lt_zero _)⟩
  · repeat (first | exact eqx.rf | refine eqx.cI ?_ (by unfold btw; omega) | refine eqx.sI ?_ (by unfold btw; omega) | refine eqx.sJ ?_ (by unfold btw; omega))
  · obtain rfl | rfl | rfl | rfl | rfl | rfl | rfl | rfl | rfl | rfl | rfl | rfl | rfl | rfl | rfl | rfl : k = 0 ∨ k = 1 ∨ k = 2 ∨ k = 3 ∨ k = 4 ∨ k = 5 ∨ k = 6 ∨ k = 7 ∨ k = 8 ∨ k = 9 ∨ k = 10 ∨ k = 11 ∨ k = 12 ∨ k = 13 ∨ k = 14 ∨ k = 15 := by omega
    all_goals (simp (discharger := omega) only [sI_o, sI_s, sI_k, sJ_o, sJ_s, sJ_k, sIJ, sJI, cI_ne, cI_eq, cIJ] <;> rfl)
  · simp (discharger := omega) only [sI_o, sI_s, sI_k, sJ_o, sJ_s, sJ_k, sIJ, sJI, cI_ne, cI_eq, cIJ]
    rfl
set_option maxRecDepth 100000 in
set_option maxHeartbeats 4000000 in
theorem c_X3_beginAh {l9 : Launch} {G : GC} {h : AH} {o : Nat} {a b c : Int32} (hW : WorldAh h) (hk : kdAh o 3) : PM l9 G mX3_begin NTAh NTAh [.ref o, .int a, .int b, .int c] h (fun v h' => v = none ∧ eqx h h' (btw o (o + 11)) ∧ PoR h' o 0 0 (begF a b c) (fun _ => 0)) noX := by
  refine PM.of (by decide +kernel) rfl rfl (Nat.le_of_ble_eq_true rfl) (fun hst _ => ?_)
  refine r_aload_n dX3_begin_0 rfl ?_
  refine q_getRAh fl_X3_12 hW hk rfl (kl_3_0Ah hW hk) (Nat.succ_ne_zero _) dX3_begin_1 ?_
  refine r_iload_n dX3_begin_4 rfl ?_
  refine r_iload_n dX3_begin_5 rfl ?_
  refine r_iload_n dX3_begin_6 rfl ?_
  refine q_callV3Ah (cv_X4_begin ml_X3_39) hW (kk_3_0Ah hk) (by decide) rfl ⟨rfl, rfl⟩ rfl (Nat.le_of_ble_eq_true rfl) dX3_begin_7 (c_X4_beginAh hW (kk_3_0Ah hk)) (fun v_7 h_7 q_7 => ?_)
  obtain ⟨rfl, he1, hm1⟩ := q_7
  have hW := he1.WAh hW
  refine r_aload_n dX3_begin_10 rfl ?_
  refine q_getRAh fl_X3_21 hW hk rfl (kl_3_1Ah hW hk) (Nat.succ_ne_zero _) dX3_begin_11 ?_
  refine r_iconst (0) dX3_begin_14 (by decide) ?_
  refine q_putIAh fl_X3_43 hW (kk_3_1Ah hk) rfl rfl dX3_begin_15 ?_
  refine r_aload_n dX3_begin_18 rfl ?_
  refine q_getRAh fl_X3_28 hW hk rfl (kl_3_2Ah hW hk) (Nat.succ_ne_zero _) dX3_begin_19 ?_
  refine q_callV0Ah (cv_X7_begin ml_X3_47) hW (kk_3_2Ah hk) (by decide) rfl ⟨rfl, rfl⟩ rfl (Nat.le_of_ble_eq_true rfl) dX3_begin_22 (c_X7_beginAh hW (kk_3_2Ah hk)) (fun v_22 h_22 q_22 => ?_)
  obtain ⟨rfl, he2, hm2⟩ := q_22
  have hW := he2.WAh hW
  refine r_aload_n dX3_begin_25 rfl ?_
  refine r_iconst (0) dX3_begin_26 (by decide) ?_
  refine q_putIAh fl_X3_49 hW hk rfl rfl dX3_begin_27 ?_
  refine r_aload_n dX3_begin_30 rfl ?_
  refine q_getRAh fl_X3_36 hW hk rfl (kl_3_5Ah hW hk) (Nat.succ_ne_zero _) dX3_begin_31 ?_
  refine r_iconst (-1) dX3_begin_34 (by decide) ?_
  refine q_callS2Ah (cs_J7_fill_53178 ml_X3_52) ⟨rfl, rfl⟩ rfl (Nat.le_of_ble_eq_true rfl) dX3_begin_35 (c_fillAh hW (kk_3_5Ah hk) (by decide)) (fun v_35 h_35 q_35 => ?_)
  obtain ⟨rfl, he3, hm3⟩ := q_35
  have hW := he3.WAh hW
  refine r_aload_n dX3_begin_38 rfl ?_
  refine r_iconst (0) dX3_begin_39 (by decide) ?_
  refine q_putIAh fl_X3_58 hW hk rfl rfl dX3_begin_40 ?_
  refine r_aload_n dX3_begin_43 rfl ?_
  refine r_iconst (-1) dX3_begin_44 (by decide) ?_
  refine q_putIAh fl_X3_61 hW hk rfl rfl dX3_begin_45 ?_
  refine r_aload_n dX3_begin_48 rfl ?_
  refine r_iconst (-1) dX3_begin_49 (by decide) ?_
  refine q_putIAh fl_X3_64 hW hk rfl rfl dX3_begin_50 ?_
  refine r_aload_n dX3_begin_53 rfl ?_
  refine r_iconst (-1) dX3_begin_54 (by decide) ?_
  refine q_putIAh fl_X3_67 hW hk rfl rfl dX3_begin_55 ?_
  refine r_aload_n dX3_begin_58 rfl ?_
  refine r_sipush (-1000) dX3_begin_59 (by decide) ?_
  refine q_putIAh fl_X3_70 hW hk rfl rfl dX3_begin_62 ?_
  refine r_aload_n dX3_begin_65 rfl ?_
  refine r_sipush (-1000) dX3_begin_66 (by decide) ?_
  refine q_putIAh fl_X3_73 hW hk rfl rfl dX3_begin_69 ?_
  refine r_aload_n dX3_begin_72 rfl ?_
  refine r_iconst (0) dX3_begin_73 (by decide) ?_
  refine q_putZAh fl_X3_76 hW hk rfl (by decide) rfl dX3_begin_74 ?_
  refine r_vret dX3_begin_77 rfl ⟨Nat.zero_le _, Nat.zero_le _⟩ ?_
  have e3 : ∀ i, i ≠ o → i ≠ o + 11 → aI h_35 i = aI h_22 i := fun i h1 h2 => by rw [he3.I (by unfold btw; omega), sI_o h1]
  have e2 : ∀ i, i < o + 8 ∨ o + 9 < i → i ≠ o + 3 → aI h_22 i = aI h_7 i := fun i h1 h2 => by rw [he2.I (by unfold btw; omega), sI_o h2]
  have e1 : aI h_22 (o + 3) 4 = 0 := by rw [he2.I (by unfold btw; omega), sI_s]
  have e4 : aI h_35 o = upd (aI h_22 o) 4 0 := by rw [he3.I (by unfold btw; omega), sI_r]
  refine ⟨rfl, ?_, ?_⟩
  · repeat (refine eqx.sI ?_ (by unfold btw; omega))
    refine eqx.tr ?_ (he3.wk (fun i zi => by unfold btw at *; omega))
    refine eqx.sI ?_ (by unfold btw; omega)
    refine eqx.tr ?_ (he2.wk (fun i zi => by unfold btw at *; omega))
    refine eqx.sI ?_ (by unfold btw; omega)
    exact he1.wk (fun i zi => by unfold btw at *; omega)
  · refine ⟨(hm1.sub (fun k hk => (if_pos hk).symm) lds_begF.symm).cg ?_ ?_, ⟨?_, by rw [mbs_begF]; exact Nat.zero_le _, fun k hk => absurd hk (Nat.not_lt_zero _)⟩, hm2.sub ?_ ?_ ?_ (fun k hk => ?_) (fun k h1 h2 => ?_) (fun k hk => ?_), ⟨fun j h1 h2 => absurd h2 (Nat.not_lt_zero _), ?_⟩, fun u h1 h2 => ?_, ?_, ?_, ?_, ?_, ?_, ?_, ?_⟩
    · repeat rw [sI_o (by omega)]
      rw [e3 _ (by omega) (by omega), e2 _ (by omega) (by omega)]
    · repeat rw [sI_o (by omega)]
      rw [e3 _ (by omega) (by omega), e2 _ (by omega) (by omega)]
    · repeat rw [sI_o (by omega)]
      rw [e3 _ (by omega) (by omega), e1]; rfl
    · repeat rw [sI_o (by omega)]
      rw [e3 _ (by omega) (by omega)]
    · exact he3.J (by unfold btw; omega)
    · repeat rw [sI_o (by omega)]
      rw [e3 _ (by omega) (by omega)]
    · obtain rfl | rfl | rfl | rfl | rfl : k = 0 ∨ k = 1 ∨ k = 2 ∨ k = 3 ∨ k = 4 := by omega
      all_goals rfl
    · obtain rfl | rfl | rfl | rfl : k = 5 ∨ k = 6 ∨ k = 7 ∨ k = 8 := by omega
      all_goals rfl
    · obtain rfl | rfl | rfl | rfl | rfl | rfl : k = 0 ∨ k = 1 ∨ k = 2 ∨ k = 3 ∨ k = 4 ∨ k = 5 := by omega
      all_goals rfl
    · repeat rw [sI_k (by decide)]
      rw [e4, pk_us]; rfl
    · have e6 : nn (begF a b c 6) = 2 := rfl
      rw [e6] at h2 ⊢
      repeat rw [sI_o (by omega)]
      rw [hm3, if_pos (Nat.mod_lt _ (by decide)), if_pos (by omega)]
    all_goals
      repeat (first | rw [sI_s] | rw [sI_k (by decide)])
      first
        | rfl
        | (rw [e4, pk_us]; rfl)
set_option maxRecDepth 100000 in
set_option maxHeartbeats 4000000 in
theorem c_X6_addPoolAh {l9 : Launch} {G : GC} {h : AH} {b : Nat} {w : Nat → Int32} {v9 : Nat → Int64} {x y z : Int32} (hW : WorldAh h) (hk : kdAh b 6) (hs : StR h b w v9) (hw0 : rg (w 0) 0 3) (hw1 : w 1 = 0) (hw2 : rg (w 2) 0 100) (hz : getG v9 (nn (w 0)) = fun _ => 0) (ha : rg x 0 20) (hb : rg y 1 20) (hc : rg z 1 100) (hab : nn x ≤ nn y) : PM l9 G mX6_addPool NTAh NTAh [.ref b, .int x, .int y, .int z] h (fun v h' => v = none ∧ eqx h h' (SB b) ∧ StR h' b (apW w x y z) v9) noX := by
  refine PM.of (by decide +kernel) rfl rfl (Nat.le_of_ble_eq_true rfl) (fun hst _ => ?_)
  obtain ⟨n, n1, n2, n3⟩ := hw0.nat
  obtain ⟨a, a1, a2, a3⟩ := ha.nat
  obtain ⟨m, m1, m2, m3⟩ := hw2.nat
  have en : nn (w 0) = n := by rw [n3]; exact nn_I (by omega)
  have ea : nn x = a := by rw [a3]; exact nn_I (by omega)
  have em : nn (w 2) = m := by rw [m3]; exact nn_I (by omega)
  have hn4 : n < 4 := by omega
  refine r_aload_n dX6_addPool_0 rfl ?_
  refine q_getIAh fl_X6_25 hW hk rfl dX6_addPool_1 ?_
  rw [hs.1, n3]
  refine r_iconst (4) dX6_addPool_4 (by decide) ?_
  refine r_icmp_lt 9 dX6_addPool_5 (by decide) (fun c_5 => ?_) (fun c_5 => ?_)
  · refine r_aload_n dX6_addPool_9 rfl ?_
    refine q_getRAh fl_X6_11 hW hk rfl (kl_6_0Ah hW hk) (Nat.succ_ne_zero _) dX6_addPool_10 ?_
    refine r_aload_n dX6_addPool_13 rfl ?_
    refine q_getIAh fl_X6_25 hW hk rfl dX6_addPool_14 ?_
    rw [hs.1, n3]
    refine q_paldAh hW (kk_6_0Ah hk) rfl hn4 dX6_addPool_17 ?_
    refine r_astore (ls2 := [_, _, _, some _, _, _]) dX6_addPool_18 (by decide) rfl ?_
    refine r_aload_n dX6_addPool_20 rfl ?_
    refine r_dup dX6_addPool_21 rfl ?_
    refine q_getIAh fl_X6_25 hW hk rfl dX6_addPool_22 ?_
    rw [hs.1, n3]
    refine r_iconst (1) dX6_addPool_25 (by decide) ?_
    refine r_iadd dX6_addPool_26 ?_
    rw [nI_1]
    refine q_putIAh fl_X6_25 hW hk rfl rfl dX6_addPool_27 ?_
    refine r_aload dX6_addPool_30 rfl ?_
    refine r_iload_n dX6_addPool_32 rfl ?_
    refine r_iload_n dX6_addPool_33 rfl ?_
    refine r_iload_n dX6_addPool_34 rfl ?_
    refine q_callV3Ah (cv_X3_begin ml_X6_45) hW (kk_14Ah (kk_6_0Ah hk).1 hn4) (by decide) rfl ⟨rfl, rfl⟩ rfl (Nat.le_of_ble_eq_true rfl) dX6_addPool_35 (c_X3_beginAh hW (kk_14Ah (kk_6_0Ah hk).1 hn4)) (fun v_35 h_35 q_35 => ?_)
    obtain ⟨rfl, e1, p1⟩ := q_35
    have hW := e1.WAh hW
    refine r_iconst (0) dX6_addPool_38 (by decide) ?_
    refine r_istore (ls2 := [_, _, _, _, some _, _]) dX6_addPool_39 (by decide) rfl ?_
    have e0 : eqx h (sI h b 1 (nI (n + 1))) (SB b) := eqx.rf.sI (by unfold SB; omega)
    have e35 : eqx h h_35 (SB b) := e0.tr (e1.wk (fun i zi => by unfold btw SB at *; omega))
    have hbO := begF_ok ha hb hc hab
    refine loopN (P := fun i => ∀ H : AH, i ≤ a → WorldAh H → eqx h H (SB b) → aI H b = upd (upd (aI h b) 1 (nI (n + 1))) 3 (nI (m + i)) → (∀ j, j < b + 7 + 12 * n ∨ b + 7 + 12 * n + 11 < j → j ≠ b → aI H j = aI h j ∧ aJ H j = aJ h j) → PoR H (b + 7 + 12 * n) 0 0 (jnF i (begF x y z) m) (fun _ => 0) → PW l9 G mX6_addPool _ _ NTAh 41 [some (.ref b), some (.int x), some (.int y), some (.int z), some (.ref (b + 1 + 6 + 12 * n)), some (.int (nI i))] [] (0, 0) H) a (fun i ih H hi hW he hb9 ho hp => ?_) 0 h_35 (Nat.zero_le _) hW e35 ?_ (fun j j1 j2 => ⟨by rw [e1.I (by unfold btw; omega), sI_o j2], by rw [e1.J (by unfold btw; omega)]; rfl⟩) p1
    rotate_left
    · rw [e1.I (by unfold btw; omega), sI_r]
      funext k
      by_cases e : k = 3
      · rw [e, pk_us, pk_un (by decide), hs.2.2.1, m3]; rfl
      · rw [pk_un e]
    obtain ⟨i1, i2, i3⟩ := jnF_ok (x := m) hbO rfl i (by omega)
    have zm := hp.2.1
    have el : (mbs (jnF i (begF x y z) m)).length = i := by rw [mbs_len, i2]; exact nn_I (by omega)
    refine r_iload dX6_addPool_41 rfl ?_
    refine r_iload_n dX6_addPool_43 rfl ?_
    refine r_icmp_ge 77 dX6_addPool_44 (by decide) (fun c_44 => ?_) (fun c_44 => ?_)
    · have hge : a = i := by
        have c9 := c_44
        rw [a3] at c9
        have := (nI_leI (by omega) (by omega)).mp c9
        omega
      subst hge
      refine r_vret dX6_addPool_77 rfl ⟨Nat.zero_le _, Nat.zero_le _⟩ ?_
      have hO9 : PoOK (jnF a (begF x y z) m) (fun _ => 0) 0 0 := i1
      have q0 : nn (apW w x y z 0) = n + 1 := by
        unfold apW
        rw [setP_lo (by decide), pk_un (by decide), pk_us, n3, nI_1]
        exact nn_I (by omega)
      have q1 : apW w x y z 1 = 0 := by
        unfold apW
        rw [setP_lo (by decide), pk_un (by decide), pk_un (by decide)]; exact hw1
      have q3 : apW w x y z 3 = w 3 := by
        unfold apW
        rw [setP_lo (by decide), pk_un (by decide), pk_un (by decide)]
      refine ⟨rfl, he, ?_, ?_, ?_, ?_, fun p hp9 => ?_⟩
      · rw [hb9, pk_un (by decide), pk_us]
        unfold apW
        rw [setP_lo (by decide), pk_un (by decide), pk_us, n3, nI_1]
      · rw [hb9, pk_un (by decide), pk_un (by decide), q1, hs.2.1]; exact hw1
      · rw [hb9, pk_us]
        unfold apW
        rw [setP_lo (by decide), pk_us, em, ea]
      · rw [q3]
        have hev := hs.2.2.2.1
        unfold EvW at hev ⊢
        rw [(ho (b + 2) (by omega) (by omega)).1, (ho (b + 2 + 1) (by omega) (by omega)).1, (ho (b + 2 + 2) (by omega) (by omega)).1, (ho (b + 2 + 3) (by omega) (by omega)).1, (ho (b + 2 + 4) (by omega) (by omega)).1]
        refine ⟨hev.1, fun j j1 j2 => ?_⟩
        have e9 : ∀ k, 4 ≤ k → k < 244 → apW w x y z k = w k := fun k k1 k2 => by
          unfold apW
          rw [setP_lo k2, pk_un (by omega), pk_un (by omega)]
        rw [e9 _ (by omega) (by omega), e9 _ (by omega) (by omega), e9 _ (by omega) (by omega), e9 _ (by omega) (by omega)]
        exact hev.2 j j1 j2
      · rw [q1]
        rw [q0] at hp9
        by_cases e : p = n
        · subst e
          have e1' : getP (apW w x y z) p = trP (jnF a (begF x y z) m) := by
            unfold apW
            rw [en, ea, em, getP_set]
          rw [e1', ← en, hz]
          rw [en]
          exact hp.cgF (hO9.at 23).2.2 (hO9.at 24).2.2 (fun k hk9 => trP_k hk9) (fun k hk9 => rfl)
        · have e1' : getP (apW w x y z) p = getP w p := by
            unfold apW
            rw [en, getP_ne e]
            exact getP_cg (fun k hk9 => by rw [pk_un (by omega), pk_un (by omega)])
          rw [e1']
          have h5 := hs.2.2.2.2 p (by omega)
          rw [hw1] at h5
          exact h5.cg (fun j j1 j2 => (ho j (by omega) (by omega)).1) (ho _ (by omega) (by omega)).2
    · have hlt : i < a := by
        have c9 := c_44
        rw [a3] at c9
        exact (nI_ltI (by omega) (by omega)).mp (i_lt.mp c9)
      refine r_aload dX6_addPool_47 rfl ?_
      refine q_getRAh fl_X6_49 hW (kk_14Ah (kk_6_0Ah hk).1 hn4) rfl (kl_3_1Ah hW (kk_14Ah (kk_6_0Ah hk).1 hn4)) (Nat.succ_ne_zero _) dX6_addPool_49 ?_
      refine r_aload_n dX6_addPool_52 rfl ?_
      refine q_getIAh fl_X6_32 hW hk rfl dX6_addPool_53 ?_
      rw [show aI H b 3 = nI (m + i) from by rw [hb9, pk_us]]
      refine r_iconst (0) dX6_addPool_56 (by decide) ?_
      refine r_iconst (0) dX6_addPool_57 (by decide) ?_
      refine q_callV3Ah (cv_X1_add ml_X6_53) hW (kk_3_1Ah (kk_14Ah (kk_6_0Ah hk).1 hn4)) (by decide) rfl ⟨rfl, rfl⟩ rfl (Nat.le_of_ble_eq_true rfl) dX6_addPool_58 (c_X1_addAh hW (kk_3_1Ah (kk_14Ah (kk_6_0Ah hk).1 hn4)) zm (by omega)) (fun v_58 h_58 q_58 => ?_)
      obtain ⟨rfl, e58, p58⟩ := q_58
      have hW := e58.WAh hW
      refine r_aload_n dX6_addPool_61 rfl ?_
      refine r_dup dX6_addPool_62 rfl ?_
      refine q_getIAh fl_X6_32 hW hk rfl dX6_addPool_63 ?_
      rw [show aI h_58 b 3 = nI (m + i) from by rw [e58.I (by unfold btw; omega), hb9, pk_us]]
      refine r_iconst (1) dX6_addPool_66 (by decide) ?_
      refine r_iadd dX6_addPool_67 ?_
      rw [nI_1]
      refine q_putIAh fl_X6_32 hW hk rfl rfl dX6_addPool_68 ?_
      refine r_iinc (1) (by decide) (ls2 := [_, _, _, _, some _, _]) dX6_addPool_71 rfl (by decide) rfl ?_
      refine r_goto 41 dX6_addPool_74 (by decide) ?_
      rw [nI_1]
      have es : eqx h_58 (sI h_58 b 3 (nI (m + i + 1))) (fun j => j = b) := eqx.rf.sI rfl
      have p2 : PoR h_58 (b + 7 + 12 * n) 0 0 (joF (jnF i (begF x y z) m) (nI (m + i)) 0 0) (fun _ => 0) := po_mem hp (i1.at 24).2.2 (e58.wk (fun j zj => by unfold btw at *; omega)) (by rw [mbs_joF ⟨(i1.at 23).1, Nat.zero_le _, by rw [i2, nn_I (by omega)]; omega⟩]; exact p58) (fun k hk9 => joF_o hk9)
      refine ih hlt _ hlt (es.WAh hW) ((he.tr (e58.wk (fun j zj => by unfold btw SB at *; omega))).tr (es.wk (fun j zj => by unfold SB; omega))) ?_ (fun j j1 j2 => ⟨by rw [sI_o j2, e58.I (by unfold btw; omega)]; exact (ho j j1 j2).1, by rw [sIJ, e58.J (by unfold btw; omega)]; exact (ho j j1 j2).2⟩) (p2.eqx es (fun j j1 j2 => by omega))
      rw [sI_r, e58.I (by unfold btw; omega), hb9]
      funext k
      by_cases e : k = 3
      · rw [e, pk_us, pk_us]; rfl
      · rw [pk_un e, pk_un e, pk_un e]
  · exact absurd ((nI_ltI (b := 4) (by omega) (by omega)).mpr hn4) c_5
-- for the first 736 objects: copied by wip/gen/copyn.py
def NTBh : Nat := 736
def kdBh (i c : Nat) : Prop := wK i = c ∧ 0 < i ∧ i ≤ NTBh
def kaBh (i c n : Nat) : Prop := kdBh i c ∧ wL i = n
def wRBh (h : (Nat → Nat → Nat) × (Nat → Nat) × (Nat → Nat)) : Prop :=
  (∀ i, kdBh i 0 → h.1 i 0 = i + 1 ∧ h.1 i 1 = i + 2 ∧ h.1 i 2 = i + 3 ∧ h.1 i 3 = i + 4) ∧
  (∀ i, kdBh i 1 → h.1 i 0 = i + 1 ∧ h.1 i 1 = i + 2 ∧ h.1 i 2 = i + 3 ∧ h.1 i 3 = i + 4) ∧
  (∀ i, kdBh i 3 → h.1 i 0 = i + 1 ∧ h.1 i 1 = i + 3 ∧ h.1 i 2 = i + 8 ∧ h.1 i 3 = i + 10 ∧ h.1 i 5 = i + 11) ∧
  (∀ i, kdBh i 4 → h.1 i 16 = i + 1) ∧
  (∀ i, kdBh i 6 → h.1 i 0 = i + 1 ∧ h.1 i 4 = i + 2) ∧
  (∀ i, kdBh i 7 → h.1 i 9 = i + 1) ∧
  (∀ i, kdBh i 14 → ∀ p, p < 4 → h.1 i p = i + 6 + 12 * p) ∧
  (h.1 1 0 = 2 ∧ h.1 1 4 = 3 ∧ h.1 1 5 = 5 ∧ h.1 1 6 = 7 ∧ h.1 1 7 = 62 ∧ h.1 1 8 = 117 ∧ h.1 1 10 = 172) ∧ (h.1 5 0 = 6) ∧
  (h.1 723 0 = 724 ∧ h.1 723 1 = 725 ∧ h.1 723 2 = 726 ∧ h.1 723 3 = 727 ∧ h.1 723 4 = 728 ∧ h.1 723 5 = 729 ∧ h.1 723 6 = 730 ∧ h.1 723 7 = 731 ∧ h.1 723 8 = 732 ∧ h.1 723 9 = 733 ∧ h.1 723 13 = 734 ∧ h.1 723 24 = 735 ∧ h.1 723 28 = 736)
def WdBh (h : (Nat → Nat → Nat) × (Nat → Nat) × (Nat → Nat)) : Prop := (∀ i, 0 < i → i ≤ NTBh → h.2.1 i = wK i) ∧ (∀ i, 0 < i → i ≤ NTBh → h.2.2 i = wL i) ∧ wRBh h
def WorldBh (h : AH) : Prop := WdBh h.2.2.2
theorem WorldBh.isK {h : AH} (hW : WorldBh h) {i c : Nat} (hk : kdBh i c) : isK NTBh h i c := ⟨(hW.1 i hk.2.1 hk.2.2).trans hk.1, hk.2⟩
theorem WorldBh.isA {h : AH} (hW : WorldBh h) {i c n : Nat} (hk : kaBh i c n) : isA NTBh h i c n := ⟨hW.isK hk.1, (hW.2.1 i hk.1.2.1 hk.1.2.2).trans hk.2⟩
theorem kl_9_0Bh {h : AH} (hW : WorldBh h) : aR h 723 0 = 724 := (hW.2.2.2.2.2.2.2.2.2.2.2).1
theorem kl_9_5Bh {h : AH} (hW : WorldBh h) : aR h 723 5 = 729 := (hW.2.2.2.2.2.2.2.2.2.2.2).2.2.2.2.2.1
theorem kc_723Bh : kdBh 723 9 := ⟨by decide +kernel, by decide, by decide⟩
theorem kc_724Bh : kaBh 724 11 964 := ⟨⟨by decide +kernel, by decide, by decide⟩, by decide +kernel⟩
theorem kc_729Bh : kaBh 729 12 24 := ⟨⟨by decide +kernel, by decide, by decide⟩, by decide +kernel⟩
section QR
variable {l : Launch} {G : GC} {M : MD} {R : Room} {Fi : CX → State → Prop} {pc : Nat} {ls : List (Option Value)} {st : List Value} {cs : Nat × Nat} {h : AH} {K : Option Value → AH → Prop} {X : String → AH → Prop}
theorem q_getRBh {i c k ix r : Nat} (hf : FL (mY M).cls ix c k) (hW : WorldBh h) (hk : kdBh i c) (ht : tk (clY c k) = 2) (hr : aR h i k = r) (h0 : r ≠ 0) (hd : decode (mC M) pc = .ok (.getfield ix, 3)) (kk : PW l G M R Fi NTBh (pc + 3) ls (.ref r :: st) cs h) : PW l G M R Fi NTBh pc ls (.ref i :: st) cs h := r_getR hf (hW.isK hk) ht hr h0 hd kk
theorem q_ialdBh {i n k : Nat} {x : Int32} (hW : WorldBh h) (ha : kaBh i 11 n) (hx : x = nI k) (hkn : k < n) (hn : n < 2 ^ 31) (hd : decode (mC M) pc = .ok (.iaload, 1)) (kk : PW l G M R Fi NTBh (pc + 1) ls (.int (aI h i k) :: st) cs h) : PW l G M R Fi NTBh pc ls (.int x :: .ref i :: st) cs h := r_iald (hW.isA ha) (by rw [hx]; exact vp_in_nI hkn hn) hd (by rw [hx, nI_clamp (by omega)]; exact kk)
theorem q_iastBh {i n k : Nat} {x v : Int32} (hW : WorldBh h) (ha : kaBh i 11 n) (hx : x = nI k) (hkn : k < n) (hn : n < 2 ^ 31) (hd : decode (mC M) pc = .ok (.iastore, 1)) (kk : PW l G M R Fi NTBh (pc + 1) ls st cs (sI h i k v)) : PW l G M R Fi NTBh pc ls (.int v :: .int x :: .ref i :: st) cs h := r_iast (hW.isA ha) (by rw [hx]; exact vp_in_nI hkn hn) hd (by rw [hx, nI_clamp (by omega)]; exact kk)
theorem q_lastBh {i n k : Nat} {x : Int32} {v : Int64} (hW : WorldBh h) (ha : kaBh i 12 n) (hx : x = nI k) (hkn : k < n) (hn : n < 2 ^ 31) (hd : decode (mC M) pc = .ok (.lastore, 1)) (kk : PW l G M R Fi NTBh (pc + 1) ls st cs (sJ h i k v)) : PW l G M R Fi NTBh pc ls (.long v :: .int x :: .ref i :: st) cs h := r_last (hW.isA ha) (by rw [hx]; exact vp_in_nI hkn hn) hd (by rw [hx, nI_clamp (by omega)]; exact kk)
theorem q_callVBh {c i ix : Nat} {M2 : MD} (as : List Value) (hlk : CV (mY M).cls ix M2 as.length) (hW : WorldBh h) (hk : kdBh i c) (hc : c < 10) (hcy : clR c = (mY M2).cls) (hz : (mO M2).cells = 0 ∧ (mO M2).slots = 0) (hrm : rmOK R cs M2 = true) (hst : (st.map fun v => v.category).sum ≤ 8)
    (hd : decode (mC M) pc = .ok (.invokevirtual ix, 3)) (hM : PM l G M2 NTBh NTBh (.ref i :: as) h K noX) (kk : ∀ (v : Option Value) (h' : AH), K v h' → PW l G M R Fi NTBh (pc + 3) ls (v.toList ++ st) cs h') : PW l G M R Fi NTBh pc ls (as.reverse ++ .ref i :: st) cs h :=
  r_callV as hlk (hW.isK hk) hc hcy hrm hst (Or.inl ⟨by rw [hz.1]; rfl, by decide⟩) hd hM (fun v h' q => by rw [hz.1, hz.2]; exact kk v h' q) (fun _ _ q => q.elim)
theorem q_callV0Bh {c i ix : Nat} {M2 : MD} (hlk : CV (mY M).cls ix M2 0) (hW : WorldBh h) (hk : kdBh i c) (hc : c < 10) (hcy : clR c = (mY M2).cls) (hz : (mO M2).cells = 0 ∧ (mO M2).slots = 0) (hrm : rmOK R cs M2 = true) (hst : (st.map fun v => v.category).sum ≤ 8) (hd : decode (mC M) pc = .ok (.invokevirtual ix, 3)) (hM : PM l G M2 NTBh NTBh (.ref i :: []) h K noX) (kk : ∀ (v : Option Value) (h' : AH), K v h' → PW l G M R Fi NTBh (pc + 3) ls (v.toList ++ st) cs h') : PW l G M R Fi NTBh pc ls (.ref i :: st) cs h := q_callVBh [] hlk hW hk hc hcy hz hrm hst hd hM kk
theorem q_callV2Bh {c i ix : Nat} {a1 a2 : Value} {M2 : MD} (hlk : CV (mY M).cls ix M2 2) (hW : WorldBh h) (hk : kdBh i c) (hc : c < 10) (hcy : clR c = (mY M2).cls) (hz : (mO M2).cells = 0 ∧ (mO M2).slots = 0) (hrm : rmOK R cs M2 = true) (hst : (st.map fun v => v.category).sum ≤ 8) (hd : decode (mC M) pc = .ok (.invokevirtual ix, 3)) (hM : PM l G M2 NTBh NTBh (.ref i :: [a1, a2]) h K noX) (kk : ∀ (v : Option Value) (h' : AH), K v h' → PW l G M R Fi NTBh (pc + 3) ls (v.toList ++ st) cs h') : PW l G M R Fi NTBh pc ls (a2 :: a1 :: .ref i :: st) cs h := q_callVBh [a1, a2] hlk hW hk hc hcy hz hrm hst hd hM kk
theorem q_callV3Bh {c i ix : Nat} {a1 a2 a3 : Value} {M2 : MD} (hlk : CV (mY M).cls ix M2 3) (hW : WorldBh h) (hk : kdBh i c) (hc : c < 10) (hcy : clR c = (mY M2).cls) (hz : (mO M2).cells = 0 ∧ (mO M2).slots = 0) (hrm : rmOK R cs M2 = true) (hst : (st.map fun v => v.category).sum ≤ 8) (hd : decode (mC M) pc = .ok (.invokevirtual ix, 3)) (hM : PM l G M2 NTBh NTBh (.ref i :: [a1, a2, a3]) h K noX) (kk : ∀ (v : Option Value) (h' : AH), K v h' → PW l G M R Fi NTBh (pc + 3) ls (v.toList ++ st) cs h') : PW l G M R Fi NTBh pc ls (a3 :: a2 :: a1 :: .ref i :: st) cs h := q_callVBh [a1, a2, a3] hlk hW hk hc hcy hz hrm hst hd hM kk
end QR
theorem wsIBh {h : AH} {i k : Nat} {v : Int32} (hW : WorldBh h) : WorldBh (sI h i k v) := hW
theorem eqx.WBh {h h' : AH} {S : Nat → Prop} (e : eqx h h' S) (hW : WorldBh h) : WorldBh h' := by unfold WorldBh; rw [e.1]; exact hW
section WR
variable {l : Launch} {G : GC} {M : MD} {R : Room} {Fi : CX → State → Prop} {pc : Nat} {ls : List (Option Value)} {st : List Value} {cs : Nat × Nat} {h : AH} {r : Row} {w : Nat → Int32} {v : Nat → Int64} {p : Nat} {f : Nat → Int32} {g : Nat → Int64}
theorem q_wldMWBh {k : Nat} {x : Int32} (hW : WorldBh h) (hm : MW h r) (hx : x = nI k) (hk : k < 964) (hd : decode (mC M) pc = .ok (.iaload, 1)) (kk : PW l G M R Fi NTBh (pc + 1) ls (.int (r.1 k) :: st) cs h) : PW l G M R Fi NTBh pc ls (.int x :: .ref 724 :: st) cs h :=
  q_ialdBh hW kc_724Bh hx hk (by decide) hd (by rw [hm.1 k hk]; exact kk)
theorem q_wldPVBh {k : Nat} {x : Int32} (hW : WorldBh h) (hm : PV h w v p f g) (hx : x = nI k) (hk : k < 244) (hd : decode (mC M) pc = .ok (.iaload, 1)) (kk : PW l G M R Fi NTBh (pc + 1) ls (.int (w k) :: st) cs h) : PW l G M R Fi NTBh pc ls (.int x :: .ref 724 :: st) cs h :=
  q_ialdBh hW kc_724Bh hx (by omega) (by decide) hd (by rw [hm.1 k (by omega)]; show PW _ _ _ _ _ _ _ _ (.int (setP w p f k) :: st) _ _; rw [setP_lo hk]; exact kk)
theorem q_wstMWBh {k : Nat} {x y : Int32} (hW : WorldBh h) (hm : MW h r) (hx : x = nI k) (hk : k < 964) (hd : decode (mC M) pc = .ok (.iastore, 1)) (kk : ∀ h' : AH, WorldBh h' → MW h' (upd r.1 k y, r.2) → eqx h h' SM → PW l G M R Fi NTBh (pc + 1) ls st cs h') : PW l G M R Fi NTBh pc ls (.int y :: .int x :: .ref 724 :: st) cs h :=
  q_iastBh hW kc_724Bh hx hk (by decide) hd (kk _ (wsIBh hW) hm.stI (eqx.rf.sI (Or.inl rfl)))
theorem q_wstPVBh {k : Nat} {x y : Int32} (hW : WorldBh h) (hm : PV h w v p f g) (hx : x = nI k) (hk : k < 244) (hd : decode (mC M) pc = .ok (.iastore, 1)) (kk : ∀ h' : AH, WorldBh h' → PV h' (upd w k y) v p f g → eqx h h' SM → PW l G M R Fi NTBh (pc + 1) ls st cs h') : PW l G M R Fi NTBh pc ls (.int y :: .int x :: .ref 724 :: st) cs h :=
  q_wstMWBh hW hm hx (by omega) hd (fun h' a b c => kk h' a (by unfold PV; rw [← upd_setPl hk]; exact b) c)
end WR
set_option maxRecDepth 100000 in
set_option maxHeartbeats 4000000 in
theorem c_X9_ofMBh {l9 : Launch} {G : GC} {h : AH} {r : Row} {p k : Nat} {x y : Int32} (hW : WorldBh h) (hm : MW h r) (hp : p < 4) (hx : x = nI p) (hy : y = nI k) (hk : k < 180) : PM l9 G mX9_of NTBh NTBh [.ref 723, .int x, .int y] h (fun v h' => v = some (.int (getP r.1 p k)) ∧ h' = h) noX := by
  refine PM.of (by decide +kernel) rfl rfl (Nat.le_of_ble_eq_true rfl) (fun hst _ => ?_)
  refine r_aload_n dX9_of_0 rfl ?_
  refine q_getRBh fl_X9_7 hW kc_723Bh rfl (kl_9_0Bh hW) (by decide) dX9_of_1 ?_
  refine r_sipush (244) dX9_of_4 (by decide) ?_
  refine r_sipush (180) dX9_of_7 (by decide) ?_
  refine r_iload_n dX9_of_10 rfl ?_
  refine r_imul dX9_of_11 ?_
  refine r_iadd dX9_of_12 ?_
  refine r_iload_n dX9_of_13 rfl ?_
  refine r_iadd dX9_of_14 ?_
  refine q_ialdBh hW kc_724Bh (ix_p hx hy) (by omega) (by decide) dX9_of_15 ?_
  rw [hm.1 _ (by omega)]
  refine r_iret dX9_of_16 rfl ⟨Nat.zero_le _, Nat.zero_le _⟩ ?_
  rw [getP_k hk]; exact ⟨rfl, rfl⟩
set_option maxRecDepth 100000 in
set_option maxHeartbeats 4000000 in
theorem c_X9_ofBh {l9 : Launch} {G : GC} {h : AH} {w : Nat → Int32} {v9 : Nat → Int64} {p : Nat} {f : Nat → Int32} {g : Nat → Int64} {k : Nat} {x y : Int32} (hW : WorldBh h) (hm : PV h w v9 p f g) (hp : p < 4) (hx : x = nI p) (hy : y = nI k) (hk : k < 180) : PM l9 G mX9_of NTBh NTBh [.ref 723, .int x, .int y] h (fun v h' => v = some (.int (f k)) ∧ h' = h) noX := by
  refine (c_X9_ofMBh hW hm hp hx hy hk).mono (fun v h' q => ?_) (fun _ _ q => q)
  rw [q.1, q.2]
  exact ⟨some_int (by show getP (setP w p f) p k = f k; rw [getP_set, trP_k hk]), rfl⟩
set_option maxRecDepth 100000 in
set_option maxHeartbeats 4000000 in
theorem c_X9_putMBh {l9 : Launch} {G : GC} {h : AH} {r : Row} {p k : Nat} {x y : Int32} {z : Int32} (hW : WorldBh h) (hm : MW h r) (hp : p < 4) (hx : x = nI p) (hy : y = nI k) (hk : k < 180) : PM l9 G mX9_put NTBh NTBh [.ref 723, .int x, .int y, .int z] h (fun v h' => v = none ∧ eqx h h' SM ∧ MW h' (upd r.1 (244 + 180 * p + k) z, r.2)) noX := by
  refine PM.of (by decide +kernel) rfl rfl (Nat.le_of_ble_eq_true rfl) (fun hst _ => ?_)
  refine r_aload_n dX9_put_0 rfl ?_
  refine q_getRBh fl_X9_7 hW kc_723Bh rfl (kl_9_0Bh hW) (by decide) dX9_put_1 ?_
  refine r_sipush (244) dX9_put_4 (by decide) ?_
  refine r_sipush (180) dX9_put_7 (by decide) ?_
  refine r_iload_n dX9_put_10 rfl ?_
  refine r_imul dX9_put_11 ?_
  refine r_iadd dX9_put_12 ?_
  refine r_iload_n dX9_put_13 rfl ?_
  refine r_iadd dX9_put_14 ?_
  refine r_iload_n dX9_put_15 rfl ?_
  refine q_iastBh hW kc_724Bh (ix_p hx hy) (by omega) (by decide) dX9_put_16 ?_
  refine r_vret dX9_put_17 rfl ⟨Nat.zero_le _, Nat.zero_le _⟩ ?_
  exact ⟨rfl, eqx.rf.sI (Or.inl rfl), hm.stI⟩
set_option maxRecDepth 100000 in
set_option maxHeartbeats 4000000 in
theorem c_X9_putBh {l9 : Launch} {G : GC} {h : AH} {w : Nat → Int32} {v9 : Nat → Int64} {p : Nat} {f : Nat → Int32} {g : Nat → Int64} {k : Nat} {x y z : Int32} (hW : WorldBh h) (hm : PV h w v9 p f g) (hp : p < 4) (hx : x = nI p) (hy : y = nI k) (hk : k < 180) : PM l9 G mX9_put NTBh NTBh [.ref 723, .int x, .int y, .int z] h (fun v h' => v = none ∧ eqx h h' SM ∧ PV h' w v9 p (upd f k z) g) noX := by
  refine (c_X9_putMBh hW hm hp hx hy hk).mono (fun v h' q => ⟨q.1, q.2.1, ?_⟩) (fun _ _ q => q)
  unfold PV
  rw [← upd_setP hk]; exact q.2.2
set_option maxRecDepth 100000 in
set_option maxHeartbeats 4000000 in
theorem c_X9_addsMBh {l9 : Launch} {G : GC} {h : AH} {r : Row} {p k : Nat} {x y : Int32} {z : Int32} (hW : WorldBh h) (hm : MW h r) (hp : p < 4) (hx : x = nI p) (hy : y = nI k) (hk : k < 180) : PM l9 G mX9_adds NTBh NTBh [.ref 723, .int x, .int y, .int z] h (fun v h' => v = none ∧ eqx h h' SM ∧ MW h' (upd r.1 (244 + 180 * p + k) (r.1 (244 + 180 * p + k) + z), r.2)) noX := by
  refine PM.of (by decide +kernel) rfl rfl (Nat.le_of_ble_eq_true rfl) (fun hst _ => ?_)
  refine r_aload_n dX9_adds_0 rfl ?_
  refine q_getRBh fl_X9_7 hW kc_723Bh rfl (kl_9_0Bh hW) (by decide) dX9_adds_1 ?_
  refine r_sipush (244) dX9_adds_4 (by decide) ?_
  refine r_sipush (180) dX9_adds_7 (by decide) ?_
  refine r_iload_n dX9_adds_10 rfl ?_
  refine r_imul dX9_adds_11 ?_
  refine r_iadd dX9_adds_12 ?_
  refine r_iload_n dX9_adds_13 rfl ?_
  refine r_iadd dX9_adds_14 ?_
  refine r_dup2 dX9_adds_15 rfl rfl ?_
  refine q_ialdBh hW kc_724Bh (ix_p hx hy) (by omega) (by decide) dX9_adds_16 ?_
  rw [hm.1 _ (by omega)]
  refine r_iload_n dX9_adds_17 rfl ?_
  refine r_iadd dX9_adds_18 ?_
  refine q_iastBh hW kc_724Bh (ix_p hx hy) (by omega) (by decide) dX9_adds_19 ?_
  refine r_vret dX9_adds_20 rfl ⟨Nat.zero_le _, Nat.zero_le _⟩ ?_
  exact ⟨rfl, eqx.rf.sI (Or.inl rfl), hm.stI⟩
set_option maxRecDepth 100000 in
set_option maxHeartbeats 4000000 in
theorem c_X9_addsBh {l9 : Launch} {G : GC} {h : AH} {w : Nat → Int32} {v9 : Nat → Int64} {p : Nat} {f : Nat → Int32} {g : Nat → Int64} {k : Nat} {x y z : Int32} (hW : WorldBh h) (hm : PV h w v9 p f g) (hp : p < 4) (hx : x = nI p) (hy : y = nI k) (hk : k < 180) : PM l9 G mX9_adds NTBh NTBh [.ref 723, .int x, .int y, .int z] h (fun v h' => v = none ∧ eqx h h' SM ∧ PV h' w v9 p (upd f k (f k + z)) g) noX := by
  refine (c_X9_addsMBh hW hm hp hx hy hk).mono (fun v h' q => ⟨q.1, q.2.1, ?_⟩) (fun _ _ q => q)
  have h3 := q.2.2
  have e : (setP w p f, setG v9 p g).1 (244 + 180 * p + k) = f k := setP_at hk
  rw [e] at h3
  unfold PV
  rw [← upd_setP hk]; exact h3
set_option maxRecDepth 100000 in
set_option maxHeartbeats 4000000 in
theorem c_X9_joinsBh {l9 : Launch} {G : GC} {h : AH} {w : Nat → Int32} {v9 : Nat → Int64} {p : Nat} {f : Nat → Int32} {g : Nat → Int64} {n : Nat} {x y z : Int32} (hW : WorldBh h) (hm : PV h w v9 p f g) (hp : p < 4) (hx : x = nI p) (h23 : f 23 = nI n) (hn : n < 20) : PM l9 G mX9_joins NTBh NTBh [.ref 723, .int x, .int y, .int z] h (fun v h' => v = some (.int (w 2)) ∧ eqx h h' SM ∧ PV h' (upd w 2 (w 2 + 1)) v9 p (joF f (w 2) y z) g) noX := by
  refine PM.of (by decide +kernel) rfl rfl (Nat.le_of_ble_eq_true rfl) (fun hst _ => ?_)
  have he : eqx h h SM := eqx.rf
  have en : nn (f 23) = n := by rw [h23]; exact nn_I (by omega)
  refine r_bipush (100) dX9_joins_0 (by decide) ?_
  refine r_iconst (4) dX9_joins_2 (by decide) ?_
  refine r_aload_n dX9_joins_3 rfl ?_
  refine r_iload_n dX9_joins_4 rfl ?_
  refine r_bipush (23) dX9_joins_5 (by decide) ?_
  refine q_callV2Bh (cv_X9_of ml_X9_81) hW kc_723Bh (by decide) rfl ⟨rfl, rfl⟩ rfl (Nat.le_of_ble_eq_true rfl) dX9_joins_7 (c_X9_ofBh hW hm hp hx kn_23 (by omega)) (fun v_7 h_7 q_7 => ?_)
  obtain ⟨rfl, z9⟩ := q_7
  replace z9 := z9.symm
  subst z9
  refine r_imul dX9_joins_10 ?_
  refine r_iadd dX9_joins_11 ?_
  refine r_istore (ls2 := [_, _, _, some _, _, _]) dX9_joins_12 (by decide) rfl ?_
  refine r_aload_n dX9_joins_14 rfl ?_
  refine q_getRBh fl_X9_7 hW kc_723Bh rfl (kl_9_0Bh hW) (by decide) dX9_joins_15 ?_
  refine r_iconst (2) dX9_joins_18 (by decide) ?_
  refine q_wldPVBh hW hm kn_2 (by omega) dX9_joins_19 ?_
  refine r_istore (ls2 := [_, _, _, _, some _, _]) dX9_joins_20 (by decide) rfl ?_
  refine r_aload_n dX9_joins_22 rfl ?_
  refine r_iload_n dX9_joins_23 rfl ?_
  refine r_iload dX9_joins_24 rfl ?_
  refine r_iconst (0) dX9_joins_26 (by decide) ?_
  refine r_iadd dX9_joins_27 ?_
  refine r_iload dX9_joins_28 rfl ?_
  refine q_callV3Bh (cv_X9_put ml_X9_64) hW kc_723Bh (by decide) rfl ⟨rfl, rfl⟩ rfl (Nat.le_of_ble_eq_true rfl) dX9_joins_30 (c_X9_putBh hW hm hp hx (nadd (nadd kn_100 (nmul kn_4 h23)) kn_0) (by omega)) (fun v_30 h_30 q_30 => ?_)
  obtain ⟨rfl, e_30, hm⟩ := q_30
  have hW := e_30.WBh hW
  have he := he.tr e_30
  refine r_aload_n dX9_joins_33 rfl ?_
  refine r_iload_n dX9_joins_34 rfl ?_
  refine r_iload dX9_joins_35 rfl ?_
  refine r_iconst (1) dX9_joins_37 (by decide) ?_
  refine r_iadd dX9_joins_38 ?_
  refine r_iload_n dX9_joins_39 rfl ?_
  refine q_callV3Bh (cv_X9_put ml_X9_64) hW kc_723Bh (by decide) rfl ⟨rfl, rfl⟩ rfl (Nat.le_of_ble_eq_true rfl) dX9_joins_40 (c_X9_putBh hW hm hp hx (nadd (nadd kn_100 (nmul kn_4 h23)) kn_1) (by omega)) (fun v_40 h_40 q_40 => ?_)
  obtain ⟨rfl, e_40, hm⟩ := q_40
  have hW := e_40.WBh hW
  have he := he.tr e_40
  refine r_aload_n dX9_joins_43 rfl ?_
  refine r_iload_n dX9_joins_44 rfl ?_
  refine r_iload dX9_joins_45 rfl ?_
  refine r_iconst (2) dX9_joins_47 (by decide) ?_
  refine r_iadd dX9_joins_48 ?_
  refine r_iload_n dX9_joins_49 rfl ?_
  refine q_callV3Bh (cv_X9_put ml_X9_64) hW kc_723Bh (by decide) rfl ⟨rfl, rfl⟩ rfl (Nat.le_of_ble_eq_true rfl) dX9_joins_50 (c_X9_putBh hW hm hp hx (nadd (nadd kn_100 (nmul kn_4 h23)) kn_2) (by omega)) (fun v_50 h_50 q_50 => ?_)
  obtain ⟨rfl, e_50, hm⟩ := q_50
  have hW := e_50.WBh hW
  have he := he.tr e_50
  refine r_aload_n dX9_joins_53 rfl ?_
  refine r_iload_n dX9_joins_54 rfl ?_
  refine r_iload dX9_joins_55 rfl ?_
  refine r_iconst (3) dX9_joins_57 (by decide) ?_
  refine r_iadd dX9_joins_58 ?_
  refine r_iconst (0) dX9_joins_59 (by decide) ?_
  refine q_callV3Bh (cv_X9_put ml_X9_64) hW kc_723Bh (by decide) rfl ⟨rfl, rfl⟩ rfl (Nat.le_of_ble_eq_true rfl) dX9_joins_60 (c_X9_putBh hW hm hp hx (nadd (nadd kn_100 (nmul kn_4 h23)) kn_3) (by omega)) (fun v_60 h_60 q_60 => ?_)
  obtain ⟨rfl, e_60, hm⟩ := q_60
  have hW := e_60.WBh hW
  have he := he.tr e_60
  refine r_aload_n dX9_joins_63 rfl ?_
  refine r_iload_n dX9_joins_64 rfl ?_
  refine r_bipush (23) dX9_joins_65 (by decide) ?_
  refine r_iconst (1) dX9_joins_67 (by decide) ?_
  refine q_callV3Bh (cv_X9_adds ml_X9_85) hW kc_723Bh (by decide) rfl ⟨rfl, rfl⟩ rfl (Nat.le_of_ble_eq_true rfl) dX9_joins_68 (c_X9_addsBh hW hm hp hx kn_23 (by omega)) (fun v_68 h_68 q_68 => ?_)
  obtain ⟨rfl, e_68, hm⟩ := q_68
  have hW := e_68.WBh hW
  have he := he.tr e_68
  refine r_aload_n dX9_joins_71 rfl ?_
  refine q_getRBh fl_X9_7 hW kc_723Bh rfl (kl_9_0Bh hW) (by decide) dX9_joins_72 ?_
  refine r_iconst (2) dX9_joins_75 (by decide) ?_
  refine r_dup2 dX9_joins_76 rfl rfl ?_
  refine q_wldPVBh hW hm kn_2 (by omega) dX9_joins_77 ?_
  refine r_iconst (1) dX9_joins_78 (by decide) ?_
  refine r_iadd dX9_joins_79 ?_
  refine q_wstPVBh hW hm kn_2 (by omega) dX9_joins_80 (fun h_80 hW hm e_80 => ?_)
  have he := he.tr e_80
  refine r_iload dX9_joins_81 rfl ?_
  refine r_iret dX9_joins_83 rfl ⟨Nat.zero_le _, Nat.zero_le _⟩ ?_
  refine ⟨rfl, he, hm.eF ?_ rfl⟩
  unfold joF
  rw [en, show 101 + 4 * n = 100 + 4 * (n) + 1 from by omega, show 102 + 4 * n = 100 + 4 * (n) + 2 from by omega, show 103 + 4 * n = 100 + 4 * (n) + 3 from by omega]
  congr 1
  rw [pk_un (by omega), pk_un (by omega), pk_un (by omega), pk_un (by omega)]
set_option maxRecDepth 100000 in
set_option maxHeartbeats 1600000 in
theorem c_X9_clearBh {l9 : Launch} {G : GC} {h : AH} (hW : WorldBh h) : PM l9 G mX9_clear NTBh NTBh [.ref 723] h (fun v h' => v = none ∧ eqx h h' SM ∧ MW h' (noW, ZG)) noX := by
  refine PM.of (by decide +kernel) rfl rfl (Nat.le_of_ble_eq_true rfl) (fun hst _ => ?_)
  refine r_iconst (0) dX9_clear_0 (by decide) ?_
  refine r_istore_n (ls2 := [some _, _]) dX9_clear_1 (by decide) rfl ?_
  refine loopN (P := fun i => ∀ H : AH, i ≤ 964 → WorldBh H → eqx h H SM → (∀ k, k < i → aI H 724 k = 0) → PW l9 G mX9_clear _ _ NTBh 2 [some (.ref 723), some (.int (nI i))] [] (0, 0) H) 964 (fun i ih H hi hW he hz => ?_) 0 h (Nat.zero_le _) hW eqx.rf (fun k hk => absurd hk (Nat.not_lt_zero _))
  refine r_iload_n dX9_clear_2 rfl ?_
  refine r_sipush (964) dX9_clear_3 (by decide) ?_
  refine r_icmp_ge 22 dX9_clear_6 (by decide) (fun c_6 => ?_) (fun c_6 => ?_)
  · refine r_iconst (0) dX9_clear_22 (by decide) ?_
    refine r_istore_n (ls2 := [some _, _]) dX9_clear_23 (by decide) rfl ?_
    have hge : i = 964 := by
      have := (nI_leI (a := 964) (by decide) (by omega)).mp c_6
      omega
    subst hge
    refine loopN (P := fun i => ∀ H : AH, i ≤ 24 → WorldBh H → eqx h H SM → (∀ k, k < 964 → aI H 724 k = 0) → (∀ k, k < i → aJ H 729 k = 0) → PW l9 G mX9_clear _ _ NTBh 24 [some (.ref 723), some (.int (nI i))] [] (0, 0) H) 24 (fun i ih2 H hi hW he hz hz2 => ?_) 0 H (Nat.zero_le _) hW he hz (fun k hk => absurd hk (Nat.not_lt_zero _))
    refine r_iload_n dX9_clear_24 rfl ?_
    refine r_bipush (24) dX9_clear_25 (by decide) ?_
    refine r_icmp_ge 43 dX9_clear_27 (by decide) (fun c_27 => ?_) (fun c_27 => ?_)
    · refine r_vret dX9_clear_43 rfl ⟨Nat.zero_le _, Nat.zero_le _⟩ ?_
      have hge : i = 24 := by
        have := (nI_leI (a := 24) (by decide) (by omega)).mp c_27
        omega
      subst hge
      exact ⟨rfl, he, fun k hk => hz k hk, fun k hk => hz2 k hk⟩
    · have hlt : i < 24 := (nI_ltI (b := 24) (by omega) (by decide)).mp (i_lt.mp c_27)
      refine r_aload_n dX9_clear_30 rfl ?_
      refine q_getRBh fl_X9_25 hW kc_723Bh rfl (kl_9_5Bh hW) (by decide) dX9_clear_31 ?_
      refine r_iload_n dX9_clear_34 rfl ?_
      refine r_lconst (0) dX9_clear_35 (by decide) ?_
      refine q_lastBh hW kc_729Bh rfl (by omega) (by decide) dX9_clear_36 ?_
      refine r_iinc (1) (by decide) (ls2 := [some _, _]) dX9_clear_37 rfl (by decide) rfl ?_
      refine r_goto 24 dX9_clear_40 (by decide) ?_
      rw [nI_1]
      have e9 : eqx H (sJ H 729 i 0) SM := (eqx.rf (S := SM)).sJ (Or.inr rfl)
      refine ih2 hlt _ hlt (e9.WBh hW) (he.tr e9) (fun k hk => by rw [sJI]; exact hz k hk) (fun k hk => ?_)
      by_cases q : k = i
      · rw [q, sJ_s]
      · rw [sJ_k q]; exact hz2 k (by omega)
  · have hlt : i < 964 := (nI_ltI (b := 964) (by omega) (by decide)).mp (i_lt.mp c_6)
    refine r_aload_n dX9_clear_9 rfl ?_
    refine q_getRBh fl_X9_7 hW kc_723Bh rfl (kl_9_0Bh hW) (by decide) dX9_clear_10 ?_
    refine r_iload_n dX9_clear_13 rfl ?_
    refine r_iconst (0) dX9_clear_14 (by decide) ?_
    refine q_iastBh hW kc_724Bh rfl (by omega) (by decide) dX9_clear_15 ?_
    refine r_iinc (1) (by decide) (ls2 := [some _, _]) dX9_clear_16 rfl (by decide) rfl ?_
    refine r_goto 2 dX9_clear_19 (by decide) ?_
    rw [nI_1]
    have e9 : eqx H (sI H 724 i 0) SM := (eqx.rf (S := SM)).sI (Or.inl rfl)
    refine ih hlt _ hlt (e9.WBh hW) (he.tr e9) (fun k hk => ?_)
    by_cases q : k = i
    · rw [q, sI_s]
    · rw [sI_k q]; exact hz k (by omega)
set_option maxRecDepth 100000 in
set_option maxHeartbeats 1600000 in
theorem c_X9_comesPoolBh {l9 : Launch} {G : GC} {h : AH} {w : Nat → Int32} {A B C : Int32} {m a x2 : Nat} (hW : WorldBh h) (hm : MW h (w, ZG)) (h0 : w 0 = nI m) (hm4 : m < 4) (h2 : w 2 = nI x2) (hx2 : x2 ≤ 100) (hz : getP w m = fun _ => 0) (ha : A = nI a) (ha2 : a ≤ 20) (hB : rg B 1 20) (hC : rg C 1 100) (hab : nn A ≤ nn B) : PM l9 G mX9_comesPool NTBh NTBh [.ref 723, .int A, .int B, .int C] h (fun v h' => v = none ∧ eqx h h' SM ∧ MW h' (apW w A B C, ZG)) noX := by
  refine PM.of (by decide +kernel) rfl rfl (Nat.le_of_ble_eq_true rfl) (fun hst _ => ?_)
  have he : eqx h h SM := eqx.rf
  have em : nn (w 0) = m := by rw [h0]; exact nn_I (by omega)
  have ea : nn A = a := by rw [ha]; exact nn_I (by omega)
  have ex2 : nn (w 2) = x2 := by rw [h2]; exact nn_I (by omega)
  have hbO := begF_ok (a := A) (b := B) (c := C) (by rw [ha]; exact rg_I (Nat.zero_le _) ha2 (by decide)) hB hC hab
  have hx4 := h0
  refine r_aload_n dX9_comesPool_0 rfl ?_
  refine q_getRBh fl_X9_7 hW kc_723Bh rfl (kl_9_0Bh hW) (by decide) dX9_comesPool_1 ?_
  refine r_iconst (0) dX9_comesPool_4 (by decide) ?_
  refine q_wldMWBh hW hm kn_0 (by omega) dX9_comesPool_5 ?_
  refine r_istore (ls2 := [_, _, _, some _, _, _]) dX9_comesPool_6 (by decide) rfl ?_
  refine r_aload_n dX9_comesPool_8 rfl ?_
  refine q_getRBh fl_X9_7 hW kc_723Bh rfl (kl_9_0Bh hW) (by decide) dX9_comesPool_9 ?_
  refine r_iconst (0) dX9_comesPool_12 (by decide) ?_
  refine r_dup2 dX9_comesPool_13 rfl rfl ?_
  refine q_wldMWBh hW hm kn_0 (by omega) dX9_comesPool_14 ?_
  refine r_iconst (1) dX9_comesPool_15 (by decide) ?_
  refine r_iadd dX9_comesPool_16 ?_
  refine q_wstMWBh hW hm kn_0 (by omega) dX9_comesPool_17 (fun h_17 hW hm e_17 => ?_)
  have he := he.tr e_17
  have hm : PV h_17 (upd w 0 (w 0 + 1)) ZG m (getP w m) (getG ZG m) := by
    have z := MW.pv hm m
    rw [show getP ((upd w 0 (w 0 + 1), ZG) : Row).1 m = getP w m from getP_u0] at z
    exact z
  rw [hz] at hm
  refine r_aload_n dX9_comesPool_18 rfl ?_
  refine r_iload dX9_comesPool_19 rfl ?_
  refine r_iconst (0) dX9_comesPool_21 (by decide) ?_
  refine r_iload_n dX9_comesPool_22 rfl ?_
  refine q_callV3Bh (cv_X9_put ml_X9_64) hW kc_723Bh (by decide) rfl ⟨rfl, rfl⟩ rfl (Nat.le_of_ble_eq_true rfl) dX9_comesPool_23 (c_X9_putBh hW hm hm4 hx4 kn_0 (by decide)) (fun v_23 h_23 q_23 => ?_)
  obtain ⟨rfl, eP, hm⟩ := q_23
  have hW := eP.WBh hW
  have he := he.tr eP
  refine r_aload_n dX9_comesPool_26 rfl ?_
  refine r_iload dX9_comesPool_27 rfl ?_
  refine r_iconst (1) dX9_comesPool_29 (by decide) ?_
  refine r_iload_n dX9_comesPool_30 rfl ?_
  refine q_callV3Bh (cv_X9_put ml_X9_64) hW kc_723Bh (by decide) rfl ⟨rfl, rfl⟩ rfl (Nat.le_of_ble_eq_true rfl) dX9_comesPool_31 (c_X9_putBh hW hm hm4 hx4 kn_1 (by decide)) (fun v_31 h_31 q_31 => ?_)
  obtain ⟨rfl, eP, hm⟩ := q_31
  have hW := eP.WBh hW
  have he := he.tr eP
  refine r_aload_n dX9_comesPool_34 rfl ?_
  refine r_iload dX9_comesPool_35 rfl ?_
  refine r_iconst (2) dX9_comesPool_37 (by decide) ?_
  refine r_iload_n dX9_comesPool_38 rfl ?_
  refine q_callV3Bh (cv_X9_put ml_X9_64) hW kc_723Bh (by decide) rfl ⟨rfl, rfl⟩ rfl (Nat.le_of_ble_eq_true rfl) dX9_comesPool_39 (c_X9_putBh hW hm hm4 hx4 kn_2 (by decide)) (fun v_39 h_39 q_39 => ?_)
  obtain ⟨rfl, eP, hm⟩ := q_39
  have hW := eP.WBh hW
  have he := he.tr eP
  refine r_aload_n dX9_comesPool_42 rfl ?_
  refine r_iload dX9_comesPool_43 rfl ?_
  refine r_iconst (3) dX9_comesPool_45 (by decide) ?_
  refine r_bipush (70) dX9_comesPool_46 (by decide) ?_
  refine q_callV3Bh (cv_X9_put ml_X9_64) hW kc_723Bh (by decide) rfl ⟨rfl, rfl⟩ rfl (Nat.le_of_ble_eq_true rfl) dX9_comesPool_48 (c_X9_putBh hW hm hm4 hx4 kn_3 (by decide)) (fun v_48 h_48 q_48 => ?_)
  obtain ⟨rfl, eP, hm⟩ := q_48
  have hW := eP.WBh hW
  have he := he.tr eP
  refine r_aload_n dX9_comesPool_51 rfl ?_
  refine r_iload dX9_comesPool_52 rfl ?_
  refine r_iconst (4) dX9_comesPool_54 (by decide) ?_
  refine r_iconst (2) dX9_comesPool_55 (by decide) ?_
  refine q_callV3Bh (cv_X9_put ml_X9_64) hW kc_723Bh (by decide) rfl ⟨rfl, rfl⟩ rfl (Nat.le_of_ble_eq_true rfl) dX9_comesPool_56 (c_X9_putBh hW hm hm4 hx4 kn_4 (by decide)) (fun v_56 h_56 q_56 => ?_)
  obtain ⟨rfl, eP, hm⟩ := q_56
  have hW := eP.WBh hW
  have he := he.tr eP
  refine r_aload_n dX9_comesPool_59 rfl ?_
  refine r_iload dX9_comesPool_60 rfl ?_
  refine r_iconst (5) dX9_comesPool_62 (by decide) ?_
  refine r_iconst (4) dX9_comesPool_63 (by decide) ?_
  refine q_callV3Bh (cv_X9_put ml_X9_64) hW kc_723Bh (by decide) rfl ⟨rfl, rfl⟩ rfl (Nat.le_of_ble_eq_true rfl) dX9_comesPool_64 (c_X9_putBh hW hm hm4 hx4 kn_5 (by decide)) (fun v_64 h_64 q_64 => ?_)
  obtain ⟨rfl, eP, hm⟩ := q_64
  have hW := eP.WBh hW
  have he := he.tr eP
  refine r_aload_n dX9_comesPool_67 rfl ?_
  refine r_iload dX9_comesPool_68 rfl ?_
  refine r_bipush (6) dX9_comesPool_70 (by decide) ?_
  refine r_iconst (2) dX9_comesPool_72 (by decide) ?_
  refine q_callV3Bh (cv_X9_put ml_X9_64) hW kc_723Bh (by decide) rfl ⟨rfl, rfl⟩ rfl (Nat.le_of_ble_eq_true rfl) dX9_comesPool_73 (c_X9_putBh hW hm hm4 hx4 kn_6 (by decide)) (fun v_73 h_73 q_73 => ?_)
  obtain ⟨rfl, eP, hm⟩ := q_73
  have hW := eP.WBh hW
  have he := he.tr eP
  refine r_aload_n dX9_comesPool_76 rfl ?_
  refine r_iload dX9_comesPool_77 rfl ?_
  refine r_bipush (10) dX9_comesPool_79 (by decide) ?_
  refine r_iconst (1) dX9_comesPool_81 (by decide) ?_
  refine q_callV3Bh (cv_X9_put ml_X9_64) hW kc_723Bh (by decide) rfl ⟨rfl, rfl⟩ rfl (Nat.le_of_ble_eq_true rfl) dX9_comesPool_82 (c_X9_putBh hW hm hm4 hx4 kn_10 (by decide)) (fun v_82 h_82 q_82 => ?_)
  obtain ⟨rfl, eP, hm⟩ := q_82
  have hW := eP.WBh hW
  have he := he.tr eP
  refine r_aload_n dX9_comesPool_85 rfl ?_
  refine r_iload dX9_comesPool_86 rfl ?_
  refine r_bipush (11) dX9_comesPool_88 (by decide) ?_
  refine r_iconst (1) dX9_comesPool_90 (by decide) ?_
  refine q_callV3Bh (cv_X9_put ml_X9_64) hW kc_723Bh (by decide) rfl ⟨rfl, rfl⟩ rfl (Nat.le_of_ble_eq_true rfl) dX9_comesPool_91 (c_X9_putBh hW hm hm4 hx4 kn_11 (by decide)) (fun v_91 h_91 q_91 => ?_)
  obtain ⟨rfl, eP, hm⟩ := q_91
  have hW := eP.WBh hW
  have he := he.tr eP
  refine r_aload_n dX9_comesPool_94 rfl ?_
  refine r_iload dX9_comesPool_95 rfl ?_
  refine r_bipush (12) dX9_comesPool_97 (by decide) ?_
  refine r_iconst (3) dX9_comesPool_99 (by decide) ?_
  refine q_callV3Bh (cv_X9_put ml_X9_64) hW kc_723Bh (by decide) rfl ⟨rfl, rfl⟩ rfl (Nat.le_of_ble_eq_true rfl) dX9_comesPool_100 (c_X9_putBh hW hm hm4 hx4 kn_12 (by decide)) (fun v_100 h_100 q_100 => ?_)
  obtain ⟨rfl, eP, hm⟩ := q_100
  have hW := eP.WBh hW
  have he := he.tr eP
  refine r_aload_n dX9_comesPool_103 rfl ?_
  refine r_iload dX9_comesPool_104 rfl ?_
  refine r_bipush (13) dX9_comesPool_106 (by decide) ?_
  refine r_iconst (5) dX9_comesPool_108 (by decide) ?_
  refine q_callV3Bh (cv_X9_put ml_X9_64) hW kc_723Bh (by decide) rfl ⟨rfl, rfl⟩ rfl (Nat.le_of_ble_eq_true rfl) dX9_comesPool_109 (c_X9_putBh hW hm hm4 hx4 kn_13 (by decide)) (fun v_109 h_109 q_109 => ?_)
  obtain ⟨rfl, eP, hm⟩ := q_109
  have hW := eP.WBh hW
  have he := he.tr eP
  refine r_aload_n dX9_comesPool_112 rfl ?_
  refine r_iload dX9_comesPool_113 rfl ?_
  refine r_bipush (14) dX9_comesPool_115 (by decide) ?_
  refine r_iconst (1) dX9_comesPool_117 (by decide) ?_
  refine q_callV3Bh (cv_X9_put ml_X9_64) hW kc_723Bh (by decide) rfl ⟨rfl, rfl⟩ rfl (Nat.le_of_ble_eq_true rfl) dX9_comesPool_118 (c_X9_putBh hW hm hm4 hx4 kn_14 (by decide)) (fun v_118 h_118 q_118 => ?_)
  obtain ⟨rfl, eP, hm⟩ := q_118
  have hW := eP.WBh hW
  have he := he.tr eP
  refine r_aload_n dX9_comesPool_121 rfl ?_
  refine r_iload dX9_comesPool_122 rfl ?_
  refine r_bipush (15) dX9_comesPool_124 (by decide) ?_
  refine r_iconst (1) dX9_comesPool_126 (by decide) ?_
  refine q_callV3Bh (cv_X9_put ml_X9_64) hW kc_723Bh (by decide) rfl ⟨rfl, rfl⟩ rfl (Nat.le_of_ble_eq_true rfl) dX9_comesPool_127 (c_X9_putBh hW hm hm4 hx4 kn_15 (by decide)) (fun v_127 h_127 q_127 => ?_)
  obtain ⟨rfl, eP, hm⟩ := q_127
  have hW := eP.WBh hW
  have he := he.tr eP
  refine r_aload_n dX9_comesPool_130 rfl ?_
  refine r_iload dX9_comesPool_131 rfl ?_
  refine r_bipush (17) dX9_comesPool_133 (by decide) ?_
  refine r_iconst (-1) dX9_comesPool_135 (by decide) ?_
  refine q_callV3Bh (cv_X9_put ml_X9_64) hW kc_723Bh (by decide) rfl ⟨rfl, rfl⟩ rfl (Nat.le_of_ble_eq_true rfl) dX9_comesPool_136 (c_X9_putBh hW hm hm4 hx4 kn_17 (by decide)) (fun v_136 h_136 q_136 => ?_)
  obtain ⟨rfl, eP, hm⟩ := q_136
  have hW := eP.WBh hW
  have he := he.tr eP
  refine r_aload_n dX9_comesPool_139 rfl ?_
  refine r_iload dX9_comesPool_140 rfl ?_
  refine r_bipush (18) dX9_comesPool_142 (by decide) ?_
  refine r_iconst (-1) dX9_comesPool_144 (by decide) ?_
  refine q_callV3Bh (cv_X9_put ml_X9_64) hW kc_723Bh (by decide) rfl ⟨rfl, rfl⟩ rfl (Nat.le_of_ble_eq_true rfl) dX9_comesPool_145 (c_X9_putBh hW hm hm4 hx4 kn_18 (by decide)) (fun v_145 h_145 q_145 => ?_)
  obtain ⟨rfl, eP, hm⟩ := q_145
  have hW := eP.WBh hW
  have he := he.tr eP
  refine r_aload_n dX9_comesPool_148 rfl ?_
  refine r_iload dX9_comesPool_149 rfl ?_
  refine r_bipush (19) dX9_comesPool_151 (by decide) ?_
  refine r_iconst (-1) dX9_comesPool_153 (by decide) ?_
  refine q_callV3Bh (cv_X9_put ml_X9_64) hW kc_723Bh (by decide) rfl ⟨rfl, rfl⟩ rfl (Nat.le_of_ble_eq_true rfl) dX9_comesPool_154 (c_X9_putBh hW hm hm4 hx4 kn_19 (by decide)) (fun v_154 h_154 q_154 => ?_)
  obtain ⟨rfl, eP, hm⟩ := q_154
  have hW := eP.WBh hW
  have he := he.tr eP
  refine r_aload_n dX9_comesPool_157 rfl ?_
  refine r_iload dX9_comesPool_158 rfl ?_
  refine r_bipush (21) dX9_comesPool_160 (by decide) ?_
  refine r_sipush (-1000) dX9_comesPool_162 (by decide) ?_
  refine q_callV3Bh (cv_X9_put ml_X9_64) hW kc_723Bh (by decide) rfl ⟨rfl, rfl⟩ rfl (Nat.le_of_ble_eq_true rfl) dX9_comesPool_165 (c_X9_putBh hW hm hm4 hx4 kn_21 (by decide)) (fun v_165 h_165 q_165 => ?_)
  obtain ⟨rfl, eP, hm⟩ := q_165
  have hW := eP.WBh hW
  have he := he.tr eP
  refine r_aload_n dX9_comesPool_168 rfl ?_
  refine r_iload dX9_comesPool_169 rfl ?_
  refine r_bipush (22) dX9_comesPool_171 (by decide) ?_
  refine r_sipush (-1000) dX9_comesPool_173 (by decide) ?_
  refine q_callV3Bh (cv_X9_put ml_X9_64) hW kc_723Bh (by decide) rfl ⟨rfl, rfl⟩ rfl (Nat.le_of_ble_eq_true rfl) dX9_comesPool_176 (c_X9_putBh hW hm hm4 hx4 kn_22 (by decide)) (fun v_176 h_176 q_176 => ?_)
  obtain ⟨rfl, eP, hm⟩ := q_176
  have hW := eP.WBh hW
  have he := he.tr eP
  refine r_iconst (0) dX9_comesPool_179 (by decide) ?_
  refine r_istore (ls2 := [_, _, _, _, some _, _]) dX9_comesPool_180 (by decide) rfl ?_
  rw [beg_put] at hm
  have hm0 : PV h_176 (cmW w x2 0) ZG m (jnF 0 (begF A B C) x2) (getG ZG m) := by
    have e : cmW w x2 0 = upd w 0 (w 0 + 1) := by
      unfold cmW
      rw [show nI (x2 + 0) = upd w 0 (w 0 + 1) 2 from by rw [pk_un (by decide), h2]; rfl]
      exact upd_eq
    rw [e]
    exact hm
  refine loopN (P := fun i => ∀ H : AH, i ≤ a → WorldBh H → eqx h H SM → PV H (cmW w x2 i) ZG m (jnF i (begF A B C) x2) (getG ZG m) → PW l9 G mX9_comesPool _ _ NTBh 182 [some (.ref 723), some (.int A), some (.int B), some (.int C), some (.int (w 0)), some (.int (nI i))] [] (0, 0) H) a (fun i ih H hi hW he hm => ?_) 0 _ (Nat.zero_le _) hW he hm0
  refine r_iload dX9_comesPool_182 rfl ?_
  refine r_iload_n dX9_comesPool_184 rfl ?_
  refine r_icmp_ge 203 dX9_comesPool_185 (by decide) (fun c_185 => ?_) (fun c_185 => ?_)
  · refine r_vret dX9_comesPool_203 rfl ⟨Nat.zero_le _, Nat.zero_le _⟩ ?_
    have hge : i = a := by
      have c9 := c_185
      rw [ha] at c9
      have := (nI_leI (by omega) (by omega)).mp c9
      omega
    subst hge
    refine ⟨rfl, he, ?_⟩
    have eA : setP (cmW w x2 i) m (jnF i (begF A B C) x2) = apW w A B C := by
      unfold apW cmW
      rw [em, ea, ex2]
    rw [← eA]
    unfold PV at hm
    rw [setG_get] at hm
    exact hm
  · have hlt : i < a := by
      have c9 := c_185
      rw [ha] at c9
      exact (nI_ltI (by omega) (by omega)).mp (i_lt.mp c9)
    obtain ⟨j1, j2, j3⟩ := jnF_ok (x := x2) hbO rfl i (by omega)
    refine r_aload_n dX9_comesPool_188 rfl ?_
    refine r_iload dX9_comesPool_189 rfl ?_
    refine r_iconst (0) dX9_comesPool_191 (by decide) ?_
    refine r_iconst (0) dX9_comesPool_192 (by decide) ?_
    refine q_callV3Bh (cv_X9_joins ml_X9_67) hW kc_723Bh (by decide) rfl ⟨rfl, rfl⟩ rfl (Nat.le_of_ble_eq_true rfl) dX9_comesPool_193 (c_X9_joinsBh hW hm hm4 hx4 j2 (by omega)) (fun v_193 h_193 q_193 => ?_)
    obtain ⟨rfl, eJ, hm⟩ := q_193
    have hW := eJ.WBh hW
    refine r_pop dX9_comesPool_196 rfl ?_
    refine r_iinc (1) (by decide) (ls2 := [_, _, _, _, some _, _]) dX9_comesPool_197 rfl (by decide) rfl ?_
    refine r_goto 182 dX9_comesPool_200 (by decide) ?_
    rw [nI_1]
    have e2 : cmW w x2 i 2 = nI (x2 + i) := by unfold cmW; exact pk_us
    have eW : upd (cmW w x2 i) 2 (cmW w x2 i 2 + 1) = cmW w x2 (i + 1) := by
      rw [e2, nI_1, Nat.add_assoc]
      unfold cmW
      funext k
      by_cases h : k = 2
      · rw [h, pk_us, pk_us]
      · rw [pk_un h, pk_un h, pk_un h]
    rw [eW, e2] at hm
    exact ih hlt _ hlt hW (he.tr eJ) hm
