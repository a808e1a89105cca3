-- the class itself: calls that may throw, what must hold of arguments, remembering
abbrev eB : String := "java/lang/IndexOutOfBoundsException"
abbrev eA : String := "java/lang/IllegalArgumentException"
abbrev eS : String := "java/lang/IllegalStateException"
abbrev eN : String := "java/util/NoSuchElementException"
section QX
variable {l : Launch} {G : GC} {M : MD} {R : Room} {Fi : CX → State → Prop} {pc : Nat} {ls : List (Option Value)} {st : List Value} {cs : Nat × Nat} {h : AH} {K : Option Value → AH → Prop} {X : String → AH → Prop}

theorem q_callX0 {c i ix : Nat} {M2 : MD} (hlk : CV (mY M).cls ix M2 0) (hW : World h) (hk : kd i c) (hc : c < 10) (hcy : clR c = (mY M2).cls) (hrm : rmOK R cs M2 = true) (hst : (st.map fun v => v.category).sum ≤ 8) (hd : decode (mC M) pc = .ok (.invokevirtual ix, 3)) (hM : PM l G M2 NT NT (.ref i :: []) h K X) (kk : ∀ (v : Option Value) (h' : AH), K v h' → PW l G M R Fi NT (pc + 3) ls (v.toList ++ st) (cs.1 + (mO M2).cells, cs.2 + (mO M2).slots) h') (kx : ∀ (E : String) (h' : AH), X E h' → PX l G M R Fi NT pc ls st (cs.1 + (mO M2).cells, cs.2 + (mO M2).slots) E h') : PW l G M R Fi NT pc ls (.ref i :: st) cs h := r_callV [] hlk (hW.isK hk) hc hcy hrm hst (Or.inr ⟨rfl, rfl⟩) hd hM kk kx
theorem q_callXS0 {ix : Nat} {M2 : MD} (hlk : CSt (mY M).cls ix M2 0) (hrm : rmOK R cs M2 = true) (hst : (st.map fun v => v.category).sum ≤ 8) (hd : decode (mC M) pc = .ok (.invokestatic ix, 3)) (hM : PM l G M2 NT NT [] h K X) (kk : ∀ (v : Option Value) (h' : AH), K v h' → PW l G M R Fi NT (pc + 3) ls (v.toList ++ st) (cs.1 + (mO M2).cells, cs.2 + (mO M2).slots) h') (kx : ∀ (E : String) (h' : AH), X E h' → PX l G M R Fi NT pc ls st (cs.1 + (mO M2).cells, cs.2 + (mO M2).slots) E h') : PW l G M R Fi NT pc ls (st) cs h := r_callS [] hlk hrm hst (Or.inr ⟨rfl, rfl⟩) hd hM kk kx
theorem q_callX1 {c i ix : Nat} {a1 : Value} {M2 : MD} (hlk : CV (mY M).cls ix M2 1) (hW : World h) (hk : kd i c) (hc : c < 10) (hcy : clR c = (mY M2).cls) (hrm : rmOK R cs M2 = true) (hst : (st.map fun v => v.category).sum ≤ 8) (hd : decode (mC M) pc = .ok (.invokevirtual ix, 3)) (hM : PM l G M2 NT NT (.ref i :: [a1]) h K X) (kk : ∀ (v : Option Value) (h' : AH), K v h' → PW l G M R Fi NT (pc + 3) ls (v.toList ++ st) (cs.1 + (mO M2).cells, cs.2 + (mO M2).slots) h') (kx : ∀ (E : String) (h' : AH), X E h' → PX l G M R Fi NT pc ls st (cs.1 + (mO M2).cells, cs.2 + (mO M2).slots) E h') : PW l G M R Fi NT pc ls (a1 :: .ref i :: st) cs h := r_callV [a1] hlk (hW.isK hk) hc hcy hrm hst (Or.inr ⟨rfl, rfl⟩) hd hM kk kx
theorem q_callXS1 {ix : Nat} {a1 : Value} {M2 : MD} (hlk : CSt (mY M).cls ix M2 1) (hrm : rmOK R cs M2 = true) (hst : (st.map fun v => v.category).sum ≤ 8) (hd : decode (mC M) pc = .ok (.invokestatic ix, 3)) (hM : PM l G M2 NT NT [a1] h K X) (kk : ∀ (v : Option Value) (h' : AH), K v h' → PW l G M R Fi NT (pc + 3) ls (v.toList ++ st) (cs.1 + (mO M2).cells, cs.2 + (mO M2).slots) h') (kx : ∀ (E : String) (h' : AH), X E h' → PX l G M R Fi NT pc ls st (cs.1 + (mO M2).cells, cs.2 + (mO M2).slots) E h') : PW l G M R Fi NT pc ls (a1 :: st) cs h := r_callS [a1] hlk hrm hst (Or.inr ⟨rfl, rfl⟩) hd hM kk kx
theorem q_callX2 {c i ix : Nat} {a1 a2 : Value} {M2 : MD} (hlk : CV (mY M).cls ix M2 2) (hW : World h) (hk : kd i c) (hc : c < 10) (hcy : clR c = (mY M2).cls) (hrm : rmOK R cs M2 = true) (hst : (st.map fun v => v.category).sum ≤ 8) (hd : decode (mC M) pc = .ok (.invokevirtual ix, 3)) (hM : PM l G M2 NT NT (.ref i :: [a1, a2]) h K X) (kk : ∀ (v : Option Value) (h' : AH), K v h' → PW l G M R Fi NT (pc + 3) ls (v.toList ++ st) (cs.1 + (mO M2).cells, cs.2 + (mO M2).slots) h') (kx : ∀ (E : String) (h' : AH), X E h' → PX l G M R Fi NT pc ls st (cs.1 + (mO M2).cells, cs.2 + (mO M2).slots) E h') : PW l G M R Fi NT pc ls (a2 :: a1 :: .ref i :: st) cs h := r_callV [a1, a2] hlk (hW.isK hk) hc hcy hrm hst (Or.inr ⟨rfl, rfl⟩) hd hM kk kx
theorem q_callXS2 {ix : Nat} {a1 a2 : Value} {M2 : MD} (hlk : CSt (mY M).cls ix M2 2) (hrm : rmOK R cs M2 = true) (hst : (st.map fun v => v.category).sum ≤ 8) (hd : decode (mC M) pc = .ok (.invokestatic ix, 3)) (hM : PM l G M2 NT NT [a1, a2] h K X) (kk : ∀ (v : Option Value) (h' : AH), K v h' → PW l G M R Fi NT (pc + 3) ls (v.toList ++ st) (cs.1 + (mO M2).cells, cs.2 + (mO M2).slots) h') (kx : ∀ (E : String) (h' : AH), X E h' → PX l G M R Fi NT pc ls st (cs.1 + (mO M2).cells, cs.2 + (mO M2).slots) E h') : PW l G M R Fi NT pc ls (a2 :: a1 :: st) cs h := r_callS [a1, a2] hlk hrm hst (Or.inr ⟨rfl, rfl⟩) hd hM kk kx
theorem q_callX3 {c i ix : Nat} {a1 a2 a3 : Value} {M2 : MD} (hlk : CV (mY M).cls ix M2 3) (hW : World h) (hk : kd i c) (hc : c < 10) (hcy : clR c = (mY M2).cls) (hrm : rmOK R cs M2 = true) (hst : (st.map fun v => v.category).sum ≤ 8) (hd : decode (mC M) pc = .ok (.invokevirtual ix, 3)) (hM : PM l G M2 NT NT (.ref i :: [a1, a2, a3]) h K X) (kk : ∀ (v : Option Value) (h' : AH), K v h' → PW l G M R Fi NT (pc + 3) ls (v.toList ++ st) (cs.1 + (mO M2).cells, cs.2 + (mO M2).slots) h') (kx : ∀ (E : String) (h' : AH), X E h' → PX l G M R Fi NT pc ls st (cs.1 + (mO M2).cells, cs.2 + (mO M2).slots) E h') : PW l G M R Fi NT pc ls (a3 :: a2 :: a1 :: .ref i :: st) cs h := r_callV [a1, a2, a3] hlk (hW.isK hk) hc hcy hrm hst (Or.inr ⟨rfl, rfl⟩) hd hM kk kx
theorem q_callXS3 {ix : Nat} {a1 a2 a3 : Value} {M2 : MD} (hlk : CSt (mY M).cls ix M2 3) (hrm : rmOK R cs M2 = true) (hst : (st.map fun v => v.category).sum ≤ 8) (hd : decode (mC M) pc = .ok (.invokestatic ix, 3)) (hM : PM l G M2 NT NT [a1, a2, a3] h K X) (kk : ∀ (v : Option Value) (h' : AH), K v h' → PW l G M R Fi NT (pc + 3) ls (v.toList ++ st) (cs.1 + (mO M2).cells, cs.2 + (mO M2).slots) h') (kx : ∀ (E : String) (h' : AH), X E h' → PX l G M R Fi NT pc ls st (cs.1 + (mO M2).cells, cs.2 + (mO M2).slots) E h') : PW l G M R Fi NT pc ls (a3 :: a2 :: a1 :: st) cs h := r_callS [a1, a2, a3] hlk hrm hst (Or.inr ⟨rfl, rfl⟩) hd hM kk kx
theorem q_callX4 {c i ix : Nat} {a1 a2 a3 a4 : Value} {M2 : MD} (hlk : CV (mY M).cls ix M2 4) (hW : World h) (hk : kd i c) (hc : c < 10) (hcy : clR c = (mY M2).cls) (hrm : rmOK R cs M2 = true) (hst : (st.map fun v => v.category).sum ≤ 8) (hd : decode (mC M) pc = .ok (.invokevirtual ix, 3)) (hM : PM l G M2 NT NT (.ref i :: [a1, a2, a3, a4]) h K X) (kk : ∀ (v : Option Value) (h' : AH), K v h' → PW l G M R Fi NT (pc + 3) ls (v.toList ++ st) (cs.1 + (mO M2).cells, cs.2 + (mO M2).slots) h') (kx : ∀ (E : String) (h' : AH), X E h' → PX l G M R Fi NT pc ls st (cs.1 + (mO M2).cells, cs.2 + (mO M2).slots) E h') : PW l G M R Fi NT pc ls (a4 :: a3 :: a2 :: a1 :: .ref i :: st) cs h := r_callV [a1, a2, a3, a4] hlk (hW.isK hk) hc hcy hrm hst (Or.inr ⟨rfl, rfl⟩) hd hM kk kx
theorem q_callXS4 {ix : Nat} {a1 a2 a3 a4 : Value} {M2 : MD} (hlk : CSt (mY M).cls ix M2 4) (hrm : rmOK R cs M2 = true) (hst : (st.map fun v => v.category).sum ≤ 8) (hd : decode (mC M) pc = .ok (.invokestatic ix, 3)) (hM : PM l G M2 NT NT [a1, a2, a3, a4] h K X) (kk : ∀ (v : Option Value) (h' : AH), K v h' → PW l G M R Fi NT (pc + 3) ls (v.toList ++ st) (cs.1 + (mO M2).cells, cs.2 + (mO M2).slots) h') (kx : ∀ (E : String) (h' : AH), X E h' → PX l G M R Fi NT pc ls st (cs.1 + (mO M2).cells, cs.2 + (mO M2).slots) E h') : PW l G M R Fi NT pc ls (a4 :: a3 :: a2 :: a1 :: st) cs h := r_callS [a1, a2, a3, a4] hlk hrm hst (Or.inr ⟨rfl, rfl⟩) hd hM kk kx
theorem q_callX5 {c i ix : Nat} {a1 a2 a3 a4 a5 : Value} {M2 : MD} (hlk : CV (mY M).cls ix M2 5) (hW : World h) (hk : kd i c) (hc : c < 10) (hcy : clR c = (mY M2).cls) (hrm : rmOK R cs M2 = true) (hst : (st.map fun v => v.category).sum ≤ 8) (hd : decode (mC M) pc = .ok (.invokevirtual ix, 3)) (hM : PM l G M2 NT NT (.ref i :: [a1, a2, a3, a4, a5]) h K X) (kk : ∀ (v : Option Value) (h' : AH), K v h' → PW l G M R Fi NT (pc + 3) ls (v.toList ++ st) (cs.1 + (mO M2).cells, cs.2 + (mO M2).slots) h') (kx : ∀ (E : String) (h' : AH), X E h' → PX l G M R Fi NT pc ls st (cs.1 + (mO M2).cells, cs.2 + (mO M2).slots) E h') : PW l G M R Fi NT pc ls (a5 :: a4 :: a3 :: a2 :: a1 :: .ref i :: st) cs h := r_callV [a1, a2, a3, a4, a5] hlk (hW.isK hk) hc hcy hrm hst (Or.inr ⟨rfl, rfl⟩) hd hM kk kx
theorem q_callXS5 {ix : Nat} {a1 a2 a3 a4 a5 : Value} {M2 : MD} (hlk : CSt (mY M).cls ix M2 5) (hrm : rmOK R cs M2 = true) (hst : (st.map fun v => v.category).sum ≤ 8) (hd : decode (mC M) pc = .ok (.invokestatic ix, 3)) (hM : PM l G M2 NT NT [a1, a2, a3, a4, a5] h K X) (kk : ∀ (v : Option Value) (h' : AH), K v h' → PW l G M R Fi NT (pc + 3) ls (v.toList ++ st) (cs.1 + (mO M2).cells, cs.2 + (mO M2).slots) h') (kx : ∀ (E : String) (h' : AH), X E h' → PX l G M R Fi NT pc ls st (cs.1 + (mO M2).cells, cs.2 + (mO M2).slots) E h') : PW l G M R Fi NT pc ls (a5 :: a4 :: a3 :: a2 :: a1 :: st) cs h := r_callS [a1, a2, a3, a4, a5] hlk hrm hst (Or.inr ⟨rfl, rfl⟩) hd hM kk kx
end QX
theorem kd_po {p : Nat} (hp : p < 4) : kd (14 + 12 * p) 3 := kk_14 (i := 8) (kk_6_0 (i := 7) kc_7).1 hp
theorem kd_bf {p : Nat} (hp : p < 10) : kd (173 + 55 * p) 6 := by
  have h : ∀ q, q < 10 → wK (173 + 55 * q) = 6 := by decide +kernel
  exact ⟨h p hp, by omega, by have : NT = 738 := rfl; omega⟩
theorem wsR {h : AH} {k v : Nat} (hW : World h) : World (sR h 172 k v) := by
  obtain ⟨a1, a2, b0, b1, b3, b4, b6, b7, b14, p1, p5, m1⟩ := hW
  have key : ∀ i, i ≠ 172 → aR (sR h 172 k v) i = aR h i := fun i hi => if_neg hi
  have nk : ∀ i c, kd i c → c ≠ 15 → i ≠ 172 := fun i c hk hc e => hc (by rw [← hk.1, e]; decide +kernel)
  refine ⟨a1, a2, fun i hk => ?_, fun i hk => ?_, fun i hk => ?_, fun i hk => ?_, fun i hk => ?_, fun i hk => ?_, fun i hk => ?_, ?_, ?_, ?_⟩
  · have e := key i (nk i _ hk (by decide)); have z := b0 i hk
    show aR (sR h 172 k v) i 0 = _ ∧ aR (sR h 172 k v) i 1 = _ ∧ aR (sR h 172 k v) i 2 = _ ∧ aR (sR h 172 k v) i 3 = _
    rw [e]; exact z
  · have e := key i (nk i _ hk (by decide)); have z := b1 i hk
    show aR (sR h 172 k v) i 0 = _ ∧ aR (sR h 172 k v) i 1 = _ ∧ aR (sR h 172 k v) i 2 = _ ∧ aR (sR h 172 k v) i 3 = _
    rw [e]; exact z
  · have e := key i (nk i _ hk (by decide)); have z := b3 i hk
    show aR (sR h 172 k v) i 0 = _ ∧ aR (sR h 172 k v) i 1 = _ ∧ aR (sR h 172 k v) i 2 = _ ∧ aR (sR h 172 k v) i 3 = _ ∧ aR (sR h 172 k v) i 5 = _
    rw [e]; exact z
  · have e := key i (nk i _ hk (by decide)); have z := b4 i hk
    show aR (sR h 172 k v) i 16 = _
    rw [e]; exact z
  · have e := key i (nk i _ hk (by decide)); have z := b6 i hk
    show aR (sR h 172 k v) i 0 = _ ∧ aR (sR h 172 k v) i 4 = _
    rw [e]; exact z
  · have e := key i (nk i _ hk (by decide)); have z := b7 i hk
    show aR (sR h 172 k v) i 9 = _
    rw [e]; exact z
  · intro p hp
    have e := key i (nk i _ hk (by decide)); have z := b14 i hk p hp
    show aR (sR h 172 k v) i p = _
    rw [e]; exact z
  · have e := key 1 (by decide)
    show aR (sR h 172 k v) 1 0 = _ ∧ aR (sR h 172 k v) 1 4 = _ ∧ aR (sR h 172 k v) 1 5 = _ ∧ aR (sR h 172 k v) 1 6 = _ ∧ aR (sR h 172 k v) 1 7 = _ ∧ aR (sR h 172 k v) 1 8 = _ ∧ aR (sR h 172 k v) 1 10 = _
    rw [e]; exact p1
  · have e := key 5 (by decide)
    show aR (sR h 172 k v) 5 0 = _
    rw [e]; exact p5
  · have e := key 723 (by decide)
    show aR (sR h 172 k v) 723 0 = _ ∧ aR (sR h 172 k v) 723 1 = _ ∧ aR (sR h 172 k v) 723 2 = _ ∧ aR (sR h 172 k v) 723 3 = _ ∧ aR (sR h 172 k v) 723 4 = _ ∧ aR (sR h 172 k v) 723 5 = _ ∧ aR (sR h 172 k v) 723 6 = _ ∧ aR (sR h 172 k v) 723 7 = _ ∧ aR (sR h 172 k v) 723 8 = _ ∧ aR (sR h 172 k v) 723 9 = _ ∧ aR (sR h 172 k v) 723 13 = _ ∧ aR (sR h 172 k v) 723 24 = _ ∧ aR (sR h 172 k v) 723 28 = _
    rw [e]; exact m1
section QB
variable {l : Launch} {G : GC} {M : MD} {R : Room} {Fi : CX → State → Prop} {pc : Nat} {ls : List (Option Value)} {st : List Value} {cs : Nat × Nat} {h : AH}
theorem sR_at {i k v j : Nat} : aR (sR h i k v) i j = if j = k then v else aR h i j := by
  unfold sR
  rw [cR_eq]
  rfl
theorem q_sald {k r : Nat} {x : Int32} (hW : World h) (hx : x = nI k) (hk : k < 10) (hr2 : aR h 172 k = r) (h0 : r ≠ 0) (hd : decode (mC M) pc = .ok (.aaload, 1)) (kk : PW l G M R Fi NT (pc + 1) ls (.ref r :: st) cs h) : PW l G M R Fi NT pc ls (.int x :: .ref 172 :: st) cs h :=
  r_sald (hW.isA kc_172) (by rw [hx]; exact vp_in_nI hk (by decide)) (by rw [hx, nI_clamp (by omega)]; exact hr2) h0 hd kk
theorem q_sast {k v : Nat} {x : Int32} (hW : World h) (hx : x = nI k) (hk : k < 10) (hv : kd v 6) (hd : decode (mC M) pc = .ok (.aastore, 1)) (kk : World (sR h 172 k v) → PW l G M R Fi NT (pc + 1) ls st cs (sR h 172 k v)) : PW l G M R Fi NT pc ls (.ref v :: .int x :: .ref 172 :: st) cs h :=
  r_sast (hW.isA kc_172) (by rw [hx]; exact vp_in_nI hk (by decide)) (hW.isK hv) hd (by rw [hx, nI_clamp (by omega)]; exact kk (wsR hW))
end QB
/-- which State each place of 'before' has -/
def BfR (h : AH) (f : Nat → Nat) : Prop := (∀ i, i < 10 → aR h 172 i = 173 + 55 * f i ∧ f i < 10) ∧ ∀ i j, i < 10 → j < 10 → f i = f j → i = j
/-- the changes that can be undone -/
def PsC (h : AH) (L : List Row) : Prop := aI h 1 11 = nI L.length ∧ L.length ≤ 10 ∧ ∃ f, BfR h f ∧ ∀ i, i < L.length → StR h (173 + 55 * f i) (L.getD i r00).1 (L.getD i r00).2
def LsOK (L : List Row) (m : Nat) : Prop := ∀ i, i < L.length → RoOK (L.getD i r00).1 (L.getD i r00).2 m
theorem LsOK.push {L : List Row} {r : Row} {m : Nat} (h : LsOK L m) (hr : RoOK r.1 r.2 m) (hl : L.length ≤ 10) : LsOK (pushL L r) m := fun i hi => by
  have hp := pushL_len (r := r) hl
  rw [pushL_at hl hi]
  by_cases e : i + 1 = (pushL L r).length
  · rw [if_pos e]; exact hr
  · rw [if_neg e]
    by_cases q : L.length = 10
    · rw [if_pos q] at hp ⊢
      exact h (i + 1) (by omega)
    · rw [if_neg q] at hp ⊢
      exact h i (by omega)
/-- only objects of the class have changed -/
def CF (h h' : AH) : Prop := World h' ∧ (∀ i, 722 < i → aI h' i = aI h i ∧ aJ h' i = aJ h i) ∧ aD h' = aD h
theorem CF.rf {h : AH} (hW : World h) : CF h h := ⟨hW, fun _ _ => ⟨rfl, rfl⟩, rfl⟩
theorem CF.tr {h h' h'' : AH} (a : CF h h') (b : CF h' h'') : CF h h'' := ⟨b.1, fun i hi => ⟨(b.2.1 i hi).1.trans (a.2.1 i hi).1, (b.2.1 i hi).2.trans (a.2.1 i hi).2⟩, b.2.2.trans a.2.2⟩
theorem CF.of {h h' : AH} {S : Nat → Prop} (hW : World h) (e : eqx h h' S) (hS : ∀ i, 722 < i → ¬ S i) : CF h h' := ⟨e.W hW, fun i hi => e.2.2 i (hS i hi), e.2.1⟩
theorem StR.cgA {h h' : AH} {b : Nat} {w : Nat → Int32} {v : Nat → Int64} (hs : StR h b w v) (e : ∀ i, b ≤ i → (i ≤ b + 6 ∨ ∃ p, p < nn (w 0) ∧ i ≤ b + 7 + 12 * p + 11) → aI h' i = aI h i ∧ aJ h' i = aJ h i) : StR h' b w v := by
  obtain ⟨s1, s2, s3, s4, s5⟩ := hs
  refine ⟨by rw [(e b (by omega) (Or.inl (by omega))).1]; exact s1, by rw [(e b (by omega) (Or.inl (by omega))).1]; exact s2, by rw [(e b (by omega) (Or.inl (by omega))).1]; exact s3, ?_, fun p hp => (s5 p hp).cg (fun j j1 j2 => (e j (by omega) (Or.inr ⟨p, hp, by omega⟩)).1) (e _ (by omega) (Or.inr ⟨p, hp, by omega⟩)).2⟩
  unfold EvW at s4 ⊢
  rw [(e (b + 2) (by omega) (Or.inl (by omega))).1, (e (b + 2 + 1) (by omega) (Or.inl (by omega))).1, (e (b + 2 + 2) (by omega) (Or.inl (by omega))).1, (e (b + 2 + 3) (by omega) (Or.inl (by omega))).1, (e (b + 2 + 4) (by omega) (Or.inl (by omega))).1]
  exact s4
set_option maxRecDepth 100000 in
set_option maxHeartbeats 4000000 in
theorem c_X8_existingPool {l9 : Launch} {G : GC} {h : AH} {r : Row} {m : Nat} {x : Int32} (hW : World h) (hs : StR h 7 r.1 r.2) (hO : RoOK r.1 r.2 m) : PM l9 G mX8_existingPool NT NT [.ref 1, .int x] h (fun v h' => h' = h ∧ okP r x = true ∧ ∃ p, p < 4 ∧ p < nn (r.1 0) ∧ x = nI p ∧ v = some (.ref (14 + 12 * p))) (fun E h' => h' = h ∧ okP r x = false ∧ E = eB) := by
  refine PM.of (by decide +kernel) rfl rfl (Nat.le_of_ble_eq_true rfl) (fun hst _ => ?_)
  refine r_iload_n dX8_existingPool_0 rfl ?_
  refine r_if_lt 15 dX8_existingPool_1 (by decide) (fun c_1 => ?_) (fun c_1 => ?_)
  · refine r_throwW ths_385_387 rfl rfl (Nat.le_of_ble_eq_true rfl) dX8_existingPool_15 dX8_existingPool_18 dX8_existingPool_19 dX8_existingPool_22 dX8_existingPool_25 ?_
    first
      | exact ⟨rfl, decide_eq_false (fun q => absurd c_1 (Int32.not_lt.mpr q.1)), rfl⟩
      | exact ⟨rfl, decide_eq_false (fun q => c_12 (by rw [hs.1]; exact q.2)), rfl⟩
  · refine r_iload_n dX8_existingPool_4 rfl ?_
    refine r_aload_n dX8_existingPool_5 rfl ?_
    refine q_getR fl_X8_37 hW kc_1 rfl (kl_8_6 hW) (by decide) dX8_existingPool_6 ?_
    refine q_getI fl_X8_83 hW kc_7 rfl dX8_existingPool_9 ?_
    refine r_icmp_lt 26 dX8_existingPool_12 (by decide) (fun c_12 => ?_) (fun c_12 => ?_)
    · rw [hs.1] at c_12
      have hok : okP r x = true := decide_eq_true ⟨Int32.not_lt.mp c_1, c_12⟩
      obtain ⟨p, p1, p2, p3⟩ := okP_t hO hok
      subst p3
      refine r_aload_n dX8_existingPool_26 rfl ?_
      refine q_getR fl_X8_37 hW kc_1 rfl (kl_8_6 hW) (by decide) dX8_existingPool_27 ?_
      refine q_getR fl_X8_164 hW kc_7 rfl (kl_6_0 hW kc_7) (Nat.succ_ne_zero _) dX8_existingPool_30 ?_
      refine r_iload_n dX8_existingPool_33 rfl ?_
      refine q_pald hW (kk_6_0 kc_7) rfl p1 dX8_existingPool_34 ?_
      refine r_aret dX8_existingPool_35 rfl ⟨Nat.zero_le _, Nat.zero_le _⟩ ?_
      exact ⟨rfl, hok, p, p1, p2, rfl, rfl⟩
    · refine r_throwW ths_385_387 rfl rfl (Nat.le_of_ble_eq_true rfl) dX8_existingPool_15 dX8_existingPool_18 dX8_existingPool_19 dX8_existingPool_22 dX8_existingPool_25 ?_
      first
        | exact ⟨rfl, decide_eq_false (fun q => absurd c_1 (Int32.not_lt.mpr q.1)), rfl⟩
        | exact ⟨rfl, decide_eq_false (fun q => c_12 (by rw [hs.1]; exact q.2)), rfl⟩

set_option maxRecDepth 100000 in
set_option maxHeartbeats 4000000 in
theorem c_X8_requireRange {l9 : Launch} {G : GC} {h : AH} {x a b : Int32} : PM l9 G mX8_requireRange NT NT [.int x, .int a, .int b] h (fun v h' => h' = h ∧ (a ≤ x ∧ x ≤ b) ∧ v = none) (fun E h' => h' = h ∧ ¬ (a ≤ x ∧ x ≤ b) ∧ E = eA) := by
  refine PM.of (by decide +kernel) rfl rfl (Nat.le_of_ble_eq_true rfl) (fun hst _ => ?_)
  refine r_iload_n dX8_requireRange_0 rfl ?_
  refine r_iload_n dX8_requireRange_1 rfl ?_
  refine r_icmp_lt 10 dX8_requireRange_2 (by decide) (fun c_2 => ?_) (fun c_2 => ?_)
  · refine r_throwW ths_105_390 rfl rfl (Nat.le_of_ble_eq_true rfl) dX8_requireRange_10 dX8_requireRange_13 dX8_requireRange_14 dX8_requireRange_17 dX8_requireRange_20 ?_
    first
      | exact ⟨rfl, fun q => absurd c_2 (Int32.not_lt.mpr q.1), rfl⟩
      | exact ⟨rfl, fun q => c_7 q.2, rfl⟩
  · refine r_iload_n dX8_requireRange_5 rfl ?_
    refine r_iload_n dX8_requireRange_6 rfl ?_
    refine r_icmp_le 21 dX8_requireRange_7 (by decide) (fun c_7 => ?_) (fun c_7 => ?_)
    · refine r_vret dX8_requireRange_21 rfl ⟨Nat.zero_le _, Nat.zero_le _⟩ ?_
      exact ⟨rfl, ⟨Int32.not_lt.mp c_2, c_7⟩, rfl⟩
    · refine r_throwW ths_105_390 rfl rfl (Nat.le_of_ble_eq_true rfl) dX8_requireRange_10 dX8_requireRange_13 dX8_requireRange_14 dX8_requireRange_17 dX8_requireRange_20 ?_
      first
        | exact ⟨rfl, fun q => absurd c_2 (Int32.not_lt.mpr q.1), rfl⟩
        | exact ⟨rfl, fun q => c_7 q.2, rfl⟩

set_option maxRecDepth 100000 in
set_option maxHeartbeats 4000000 in
theorem c_X8_remember {l9 : Launch} {G : GC} {h : AH} {r : Row} {m : Nat} {L : List Row} (hW : World h) (hs : StR h 7 r.1 r.2) (hO : RoOK r.1 r.2 m) (hL : PsC h L) (hLO : LsOK L m) : PM l9 G mX8_remember NT NT [.ref 1] h (fun v h' => v = none ∧ CF h h' ∧ PsC h' (pushL L r) ∧ (∀ i, i ≠ 1 → i ≤ 172 → aI h' i = aI h i ∧ aJ h' i = aJ h i) ∧ (∀ k, k ≠ 11 → aI h' 1 k = aI h 1 k)) noX := by
  refine PM.of (by decide +kernel) rfl rfl (Nat.le_of_ble_eq_true rfl) (fun hst _ => ?_)
  obtain ⟨l1, l2, f, ⟨f1, f2⟩, l3⟩ := hL
  have hpl := pushL_len (r := r) l2
  have hPO := LsOK.push hLO hO l2
  refine r_aload_n dX8_remember_0 rfl ?_
  refine q_getI fl_X8_76 hW kc_1 rfl dX8_remember_1 ?_
  have key : ∀ (H : AH) (n : Nat) (f' : Nat → Nat) (w w2 : Option Value), CF h H → n = (pushL L r).length - 1 → n < 10 → aI H 1 11 = nI n → (∀ k, k ≠ 11 → aI H 1 k = aI h 1 k) → (∀ i, i ≠ 1 → i ≤ 722 → aI H i = aI h i ∧ aJ H i = aJ h i) → BfR H f' → (∀ i, i < n → StR H (173 + 55 * f' i) ((pushL L r).getD i r00).1 ((pushL L r).getD i r00).2) → PW l9 G mX8_remember (mO mX8_remember) (fiM G mX8_remember NT (fun v h' => v = none ∧ CF h h' ∧ PsC h' (pushL L r) ∧ (∀ i, i ≠ 1 → i ≤ 172 → aI h' i = aI h i ∧ aJ h' i = aJ h i) ∧ (∀ k, k ≠ 11 → aI h' 1 k = aI h 1 k)) noX) NT 58 [some (.ref 1), w, w2] [] (0, 0) H := by
    intro H n f' w w2 hcf hn hn10 h11 hoth hob hbf hP
    have hW := hcf.1
    have hpos : 0 < (pushL L r).length := by rw [hpl]; split <;> omega
    have e0 : ∀ i, 7 ≤ i → i ≤ 61 → aI H i = aI h i ∧ aJ H i = aJ h i := fun i i1 i2 => hob i (by omega) (by omega)
    have hsH : StR H 7 r.1 r.2 := by
      obtain ⟨s1, s2, s3, s4, s5⟩ := hs
      have h04 : nn (r.1 0) ≤ 4 := hO.1.1.2.2
      refine ⟨by rw [(e0 7 (by omega) (by omega)).1]; exact s1, by rw [(e0 7 (by omega) (by omega)).1]; exact s2, by rw [(e0 7 (by omega) (by omega)).1]; exact s3, ?_, fun p hp => (s5 p hp).cg (fun j j1 j2 => (e0 j (by omega) (by omega)).1) (e0 _ (by omega) (by omega)).2⟩
      unfold EvW at s4 ⊢
      rw [(e0 (7 + 2) (by omega) (by omega)).1, (e0 (7 + 2 + 1) (by omega) (by omega)).1, (e0 (7 + 2 + 2) (by omega) (by omega)).1, (e0 (7 + 2 + 3) (by omega) (by omega)).1, (e0 (7 + 2 + 4) (by omega) (by omega)).1]
      exact s4
    refine r_aload_n dX8_remember_58 rfl ?_
    refine q_getR fl_X8_47 hW kc_1 rfl (kl_8_10 hW) (by decide) dX8_remember_59 ?_
    refine r_aload_n dX8_remember_62 rfl ?_
    refine q_getI fl_X8_76 hW kc_1 rfl dX8_remember_63 ?_
    rw [h11]
    refine q_sald hW rfl hn10 (hbf.1 n hn10).1 (by omega) dX8_remember_66 ?_
    refine r_aload_n dX8_remember_67 rfl ?_
    refine q_getR fl_X8_37 hW kc_1 rfl (kl_8_6 hW) (by decide) dX8_remember_68 ?_
    refine q_callV1 (cv_X6_copyFrom ml_X8_72) hW (kd_bf (hbf.1 n hn10).2) (by decide) rfl ⟨rfl, rfl⟩ rfl (Nat.le_of_ble_eq_true rfl) dX8_remember_71 (c_X6_copyFrom hW (kd_bf (hbf.1 n hn10).2) kc_7 (by have := (hbf.1 n hn10).2; omega) hsH hO.1.1 hO.f16) (fun v_71 h_71 q_71 => ?_)
    obtain ⟨rfl, e1, s1⟩ := q_71
    have hW := e1.W hW
    refine r_aload_n dX8_remember_74 rfl ?_
    refine r_dup dX8_remember_75 rfl ?_
    refine q_getI fl_X8_76 hW kc_1 rfl dX8_remember_76 ?_
    rw [show aI h_71 1 11 = nI n from by rw [e1.I (by unfold SB; omega)]; exact h11]
    refine r_iconst (1) dX8_remember_79 (by decide) ?_
    refine r_iadd dX8_remember_80 ?_
    rw [nI_1]
    refine q_putI fl_X8_76 hW kc_1 rfl rfl dX8_remember_81 ?_
    refine r_vret dX8_remember_84 rfl ⟨Nat.zero_le _, Nat.zero_le _⟩ ?_
    have eN : n + 1 = (pushL L r).length := by omega
    have hb9 := (hbf.1 n hn10).2
    have es : eqx h_71 (sI h_71 1 11 (nI (n + 1))) (fun i => i = 1) := eqx.rf.sI rfl
    refine ⟨rfl, hcf.tr ((CF.of hcf.1 e1 (fun i hi => by unfold SB; omega)).tr (CF.of hW es (fun i hi => by omega))), ⟨by rw [sI_s, eN], by rw [← eN]; omega, f', ⟨fun i hi => ?_, hbf.2⟩, fun i hi => ?_⟩, fun i i1 i2 => ?_, fun k hk => ?_⟩
    · have := hbf.1 i hi
      rw [show aR (sI h_71 1 11 (nI (n + 1))) = aR h_71 from rfl, e1.R]; exact this
    · by_cases e : i = n
      · rw [e, pushL_at l2 (by omega), if_pos (by omega)]
        exact s1.eqx es hO.1.1.2.2 (fun j j1 j2 => by omega)
      · have hin : i < n := by omega
        have hd : f' i ≠ f' n := fun q => e (hbf.2 i n (by omega) hn10 q)
        have hi9 := (hbf.1 i (by omega)).2
        have h4i := (hPO i (by omega)).1.1.2.2
        exact ((hP i hin).eqx e1 h4i (fun j j1 j2 => by unfold SB; omega)).eqx es h4i (fun j j1 j2 => by omega)
    · rw [sI_o i1, sIJ, e1.I (by unfold SB; omega), e1.J (by unfold SB; omega)]; exact hob i i1 (by omega)
    · rw [sI_k hk, e1.I (by unfold SB; omega)]; exact hoth k hk
  
  
  rw [l1]
  refine r_bipush (10) dX8_remember_4 (by decide) ?_
  refine r_icmp_lt 58 dX8_remember_6 (by decide) (fun c_6 => ?_) (fun c_6 => ?_)
  · first
      | (have hlt : L.length ≠ 10 := fun q => absurd c_6 (by rw [q]; decide)
         rw [if_neg hlt] at hpl
         refine key h L.length f none none (CF.rf hW) (by omega) (by omega) l1 (fun _ _ => rfl) (fun _ _ _ => ⟨rfl, rfl⟩) ⟨f1, f2⟩ (fun i hi => ?_)
         rw [pushL_at l2 (by omega), if_neg (by omega), if_neg hlt]
         exact l3 i hi)
  · refine r_aload_n dX8_remember_9 rfl ?_
    refine q_getR fl_X8_47 hW kc_1 rfl (kl_8_10 hW) (by decide) dX8_remember_10 ?_
    refine r_iconst (0) dX8_remember_13 (by decide) ?_
    refine q_sald hW kn_0 (by decide) (f1 0 (by decide)).1 (by omega) dX8_remember_14 ?_
    refine r_astore_n (ls2 := [some _, _, _]) dX8_remember_15 (by decide) rfl ?_
    refine r_iconst (1) dX8_remember_16 (by decide) ?_
    refine r_istore_n (ls2 := [_, some _, _]) dX8_remember_17 (by decide) rfl ?_
    have h10 : L.length = 10 := by
      by_cases q : L.length < 10
      · exact absurd ((nI_ltI (b := 10) (by omega) (by omega)).mpr q) c_6
      · omega
    rw [if_pos h10] at hpl
    refine loopN (P := fun i => ∀ H : AH, 1 ≤ i → i ≤ 10 → World H → (∀ j, aI H j = aI h j ∧ aJ H j = aJ h j) → aD H = aD h → (∀ j, j < 10 → aR H 172 j = 173 + 55 * (if j + 1 < i then f (j + 1) else f j)) → PW l9 G mX8_remember _ _ NT 18 [some (.ref 1), some (.ref (173 + 55 * f 0)), some (.int (nI i))] [] (0, 0) H) 10 (fun i ih H hi1 hi hW ho hD hr => ?_) 1 h (by decide) (by decide) hW (fun _ => ⟨rfl, rfl⟩) rfl (fun j hj => by rw [if_neg (by omega)]; exact (f1 j hj).1)
    refine r_iload_n dX8_remember_18 rfl ?_
    refine r_bipush (10) dX8_remember_19 (by decide) ?_
    refine r_icmp_ge 44 dX8_remember_21 (by decide) (fun c_21 => ?_) (fun c_21 => ?_)
    · have hge : 10 = i := by have := (nI_leI (a := 10) (by omega) (by omega)).mp c_21; omega
      subst hge
      refine r_aload_n dX8_remember_44 rfl ?_
      refine q_getR fl_X8_47 hW kc_1 rfl (kl_8_10 hW) (by decide) dX8_remember_45 ?_
      refine r_bipush (9) dX8_remember_48 (by decide) ?_
      refine r_aload_n dX8_remember_50 rfl ?_
      refine q_sast hW kn_9 (by decide) (kd_bf (f1 0 (by decide)).2) dX8_remember_51 (fun hW => ?_)
      refine r_aload_n dX8_remember_52 rfl ?_
      refine r_bipush (9) dX8_remember_53 (by decide) ?_
      refine q_putI fl_X8_76 hW kc_1 rfl rfl dX8_remember_55 ?_
      have hbase : ∀ j, j < 10 → aR (sR H 172 9 (173 + 55 * f 0)) 172 j = 173 + 55 * (if j = 9 then f 0 else f (j + 1)) := fun j hj => by
        rw [sR_at]
        by_cases e : j = 9
        · rw [if_pos e, if_pos e]
        · rw [if_neg e, if_neg e, hr j hj, if_pos (by omega)]
      have es : eqx (sR H 172 9 (173 + 55 * f 0)) (sI (sR H 172 9 (173 + 55 * f 0)) 1 11 9) (fun i => i = 1) := eqx.rf.sI rfl
      refine key _ 9 (fun j => if j = 9 then f 0 else f (j + 1)) _ _ ⟨es.W hW, fun i hi => ⟨by rw [sI_o (by omega)]; exact (ho i).1, (ho i).2⟩, hD⟩ (by omega) (by decide) sI_s (fun k hk => by rw [sI_k hk]; exact congrFun (ho 1).1 k) (fun i i1 i2 => ⟨by rw [sI_o i1]; exact (ho i).1, (ho i).2⟩) ⟨fun i hi => ⟨?_, ?_⟩, fun i j hi hj q => ?_⟩ (fun i hi => ?_)
      · rw [show aR (sI (sR H 172 9 (173 + 55 * f 0)) 1 11 9) = aR (sR H 172 9 (173 + 55 * f 0)) from rfl]; exact hbase i hi
      · show (if i = 9 then f 0 else f (i + 1)) < 10
        split
        · exact (f1 0 (by decide)).2
        · exact (f1 (i + 1) (by omega)).2
      · dsimp only at q
        by_cases e1 : i = 9
        · by_cases e2 : j = 9
          · omega
          · rw [if_pos e1, if_neg e2] at q
            have := f2 _ _ (by decide) (by omega) q
            omega
        · by_cases e2 : j = 9
          · rw [if_neg e1, if_pos e2] at q
            have := f2 _ _ (by omega) (by decide) q
            omega
          · rw [if_neg e1, if_neg e2] at q
            have := f2 _ _ (by omega) (by omega) q
            omega
      · rw [pushL_at l2 (by omega), if_neg (by omega), if_pos h10, if_neg (by omega)]
        refine (l3 (i + 1) (by omega)).cgA (fun j j1 j2 => ⟨?_, (ho j).2⟩)
        rw [sI_o (by omega)]; exact (ho j).1
    · have hlt : i < 10 := (nI_ltI (b := 10) (by omega) (by omega)).mp (i_lt.mp c_21)
      have hri := hr i hlt
      rw [if_neg (by omega)] at hri
      refine r_aload_n dX8_remember_24 rfl ?_
      refine q_getR fl_X8_47 hW kc_1 rfl (kl_8_10 hW) (by decide) dX8_remember_25 ?_
      refine r_iload_n dX8_remember_28 rfl ?_
      refine r_iconst (1) dX8_remember_29 (by decide) ?_
      refine r_isub dX8_remember_30 ?_
      refine r_aload_n dX8_remember_31 rfl ?_
      refine q_getR fl_X8_47 hW kc_1 rfl (kl_8_10 hW) (by decide) dX8_remember_32 ?_
      refine r_iload_n dX8_remember_35 rfl ?_
      refine q_sald hW rfl hlt hri (by omega) dX8_remember_36 ?_
      refine q_sast hW (nsub (b := 1) rfl rfl (by omega)) (by omega) (kd_bf (f1 i hlt).2) dX8_remember_37 (fun hW => ?_)
      refine r_iinc (1) (by decide) (ls2 := [_, some _, _]) dX8_remember_38 rfl (by decide) rfl ?_
      refine r_goto 18 dX8_remember_41 (by decide) ?_
      rw [nI_1]
      refine ih hlt _ (by omega) hlt hW ho hD (fun j hj => ?_)
      rw [sR_at]
      by_cases e : j = i - 1
      · rw [if_pos e, if_pos (by omega), e, show i - 1 + 1 = i from by omega]
      · rw [if_neg e, hr j hj]
        by_cases q : j + 1 < i
        · rw [if_pos q, if_pos (by omega)]
        · rw [if_neg q, if_neg (by omega)]
