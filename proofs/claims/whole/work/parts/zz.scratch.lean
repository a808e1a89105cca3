-- the law: its script, its end
def mL_law : MD := (yL_law, cL_law, 9, (some .boolean), room_1, [])
section LAWR
variable {l : Launch} {G : GC} {M : MD} {R : Room} {Fi : CX → State → Prop} {N pc : Nat} {ls : List (Option Value)} {st : List Value} {cs : Nat × Nat} {h : AH}
theorem r_sld {x : Int32} {k : Nat} (hx : x = nI k) (hk : k < gL G) (hL : gL G ≤ 3072) (hd : decode (mC M) pc = .ok (.iaload, 1)) (kk : PW l G M R Fi N (pc + 1) ls (.int (gX G k) :: st) cs h) : PW l G M R Fi N pc ls (.int x :: .ref 0 :: st) cs h := by
  intro p e s m args below meth c9 H locs la C hr hs hl
  have hgs := (C.2.2.2.2.2.2.2.1).2
  have hk2 := kk p e s m args below meth c9 H locs la C hr hs hl
  refine va_sld C.1 C.2.1 hgs.1 (Nat.lt_of_le_of_lt hgs.2.1 hgs.2.2.1) (Nat.not_lt.mpr hgs.2.1) hs (i := x) (by rw [hx]; exact vp_in_nI hk (by omega)) hd ?_
  rw [hx, nI_clamp (by omega)]
  exact hk2
theorem r_slen (hL : gL G ≤ 3072) (hd : decode (mC M) pc = .ok (.arraylength, 1)) (kk : PW l G M R Fi N (pc + 1) ls (.int (nI (gL G)) :: st) cs h) : PW l G M R Fi N pc ls (.ref 0 :: st) cs h := by
  intro p e s m args below meth c9 H locs la C hr hs hl
  have hgs := (C.2.2.2.2.2.2.2.1).2
  exact va_slen C.1 C.2.1 hgs.1 (Nat.lt_of_le_of_lt hgs.2.1 hgs.2.2.1) (Nat.not_lt.mpr hgs.2.1) hs hd (kk p e s m args below meth c9 H locs la C hr hs hl)
theorem rmL {M2 : MD} (hf : (Nat.ble ((mO M2).frames + 1) room_1.frames && Nat.ble (8 + (mL M2 + 11) + (mO M2).locals) room_1.locals) = true) (hc : cs.1 + (mO M2).cells ≤ 601024) (hs : cs.2 + (mO M2).slots ≤ 7293034) : rmOK room_1 cs M2 = true := by
  unfold rmOK
  rw [hf, Bool.true_and, Bool.and_eq_true]
  exact ⟨Nat.ble_eq_true_of_le hc, Nat.ble_eq_true_of_le hs⟩
end LAWR
/-- what stands between two calls: the row, the changes, what is saved, the input, the output, the last error -/
def LvC (h : AH) (r : Row) (L : List Row) (s : Row) (sv : Bool) (b : Nat → Int32) (n : Nat) (o : Ob) (er eo : Int32) : Prop := StR h 7 r.1 r.2 ∧ PsC h L ∧ (aI h 1 9 = bI sv ∧ (sv = true → StR h 117 s.1 s.2)) ∧ InC h b n ∧ OC h o ∧ aI h 1 2 = er ∧ aI h 1 3 = eo
def LvR (h : AH) (r : Row) (L : List Row) (s : Row) (sv : Bool) (b : Nat → Int32) (n : Nat) (o : Ob) (er eo : Int32) : Prop := MW h r ∧ PsR h L ∧ (aI h 723 11 = bI sv ∧ (sv = true → SW h s)) ∧ InR h b n ∧ OR h o ∧ aI h 723 15 = er ∧ aI h 723 16 = eo
def LvP (r : Row) (L : List Row) (s : Row) (sv : Bool) (b : Nat → Int32) (n : Nat) (m : Nat) : Prop := OK2 r m ∧ (∀ i, i < L.length → OK2 (L.getD i r00) m) ∧ (sv = true → OK2 s m) ∧ ∀ i, i < n → rg (b i) 0 255
section LPS
variable {h h' : AH} {r r' s : Row} {L : List Row} {sv : Bool} {b : Nat → Int32} {n m m' : Nat} {o : Ob} {er eo : Int32}
theorem LvP.wk (h : LvP r L s sv b n m) (hm : m ≤ m') : LvP r L s sv b n m' := ⟨h.1.wk hm, fun i hi => (h.2.1 i hi).wk hm, fun q => (h.2.2.1 q).wk hm, h.2.2.2⟩
theorem LvP.ls (h : LvP r L s sv b n m) : LsOK L m := fun i hi => (h.2.1 i hi).1
/-- one change -/
theorem LvP.push (h : LvP r L s sv b n m) (hl : L.length ≤ 10) (hr : OK2 r' m') (hm : m ≤ m') : LvP r' (pushL L r) s sv b n m' := by
  refine ⟨hr, fun i hi => ?_, fun q => (h.2.2.1 q).wk hm, h.2.2.2⟩
  have hp := pushL_len (r := r) hl
  have hp2 : (L.length = 10 ∧ (pushL L r).length = 10) ∨ (L.length ≠ 10 ∧ (pushL L r).length = L.length + 1) := by
    by_cases q : L.length = 10
    · rw [if_pos q] at hp; exact Or.inl ⟨q, hp⟩
    · rw [if_neg q] at hp; exact Or.inr ⟨q, hp⟩
  clear hp
  rw [pushL_at hl hi]
  split
  · exact h.1.wk hm
  · split
    · exact (h.2.1 _ (by omega)).wk hm
    · exact (h.2.1 _ (by omega)).wk hm
/-- the class's side stays where only the reference and the law's own write -/
theorem LvC.fr {S : Nat → Prop} (hc : LvC h r L s sv b n o er eo) (hp : LvP r L s sv b n m) (e : eqx h h' S) (hS : ∀ i, S i → SB 62 i ∨ 722 < i) : LvC h' r L s sv b n o er eo := by
  obtain ⟨c1, c2, ⟨c3, c4⟩, c5, c6, c7, c8⟩ := hc
  have n1 : ∀ i, i ≤ 722 → ¬ (62 ≤ i ∧ i ≤ 116) → ¬ S i := fun i a a2 q => by have := hS i q; unfold SB at this; omega
  have i1 := e.I (n1 1 (by decide) (by decide))
  refine ⟨c1.eqx e (hp.1.1.1.1.2.2) (fun i _ q => n1 i (by omega) (by omega)), ?_, ⟨by rw [i1]; exact c3, fun q => (c4 q).eqx e ((hp.2.2.1 q).1.1.1.2.2) (fun i _ q => n1 i (by omega) (by omega))⟩, ?_, ?_, by rw [i1]; exact c7, by rw [i1]; exact c8⟩
  · obtain ⟨p1, p2, f, p3, p4⟩ := c2
    refine ⟨by rw [i1]; exact p1, p2, f, ⟨fun i hi => by rw [e.R]; exact p3.1 i hi, p3.2⟩, fun i hi => (p4 i hi).eqx e ((hp.2.1 i hi).1.1.1.2.2) (fun j a q => ?_)⟩
    have := (p3.1 i (by omega)).2
    exact n1 j (by omega) (by omega)
  · unfold InC; rw [i1, e.I (n1 2 (by decide) (by decide))]; exact c5
  · unfold OC OuC; rw [e.I (n1 5 (by decide) (by decide)), e.I (n1 6 (by decide) (by decide))]; exact c6
/-- the reference's side stays where its own things do -/
theorem LvR.fr (hc : LvR h r L s sv b n o er eo) (hI : ∀ i, 722 < i → i < 737 → aI h' i = aI h i) (hJ : ∀ i, 722 < i → i < 737 → aJ h' i = aJ h i) : LvR h' r L s sv b n o er eo := by
  obtain ⟨c1, c2, ⟨c3, c4⟩, c5, c6, c7, c8⟩ := hc
  have i1 := hI 723 (by decide) (by decide)
  refine ⟨?_, ?_, ⟨by rw [i1]; exact c3, fun q => ?_⟩, ?_, ?_, by rw [i1]; exact c7, by rw [i1]; exact c8⟩
  · unfold MW; rw [hI 724 (by decide) (by decide), hJ 729 (by decide) (by decide)]; exact c1
  · unfold PsR PA; rw [i1, hI 728 (by decide) (by decide), hJ 733 (by decide) (by decide)]; exact c2
  · unfold SW AW; rw [hI 727 (by decide) (by decide), hJ 732 (by decide) (by decide)]; exact c4 q
  · unfold InR; rw [i1, hI 734 (by decide) (by decide)]; exact c5
  · unfold OR OuR; rw [i1, hI 736 (by decide) (by decide)]; exact c6
end LPS
-- what the calls leave
def StL (h : AH) (r : Row) (L : List Row) (r2 : Row) (L2 : List Row) (s : Row) (sv : Bool) (b : Nat → Int32) (n : Nat) (o : Ob) (er eo : Int32) : Prop := World h ∧ LvC h r L s sv b n o er eo ∧ LvR h r2 L2 s sv b n o er eo
theorem str_cgh {h h' : AH} {b : Nat} {w : Nat → Int32} {v : Nat → Int64} (hs : StR h b w v) (h4 : nn (w 0) ≤ 4) (hI : ∀ i, b ≤ i → i ≤ b + 54 → aI h' i = aI h i ∧ aJ h' i = aJ h i) : StR h' b w v := by
  have e : eqx h ((aI h', aJ h', h.2.2) : AH) (fun i => ¬ (aI h' i = aI h i ∧ aJ h' i = aJ h i)) := ⟨rfl, rfl, fun i hi => Classical.not_not.mp hi⟩
  have q := StR.eqx hs e h4 (fun i a c => fun k => k (hI i a c))
  exact q
section STL
variable {h h1 : AH} {r r' r2 s : Row} {L L' L2 : List Row} {sv : Bool} {b : Nat → Int32} {n m : Nat} {o : Ob} {er eo : Int32}
theorem st_eqx {S : Nat → Prop} (w : StL h r L r2 L2 s sv b n o er eo) (hp : LvP r L s sv b n m) (e : eqx h h1 S) (hS : ∀ i, S i → SB 62 i ∨ 736 < i) : StL h1 r L r2 L2 s sv b n o er eo := by
  have hn : ∀ i, 722 < i → i < 737 → ¬ S i := fun i a c q => by have := hS i q; unfold SB at this; omega
  exact ⟨e.W w.1, w.2.1.fr hp e (fun i q => (hS i q).imp id (fun q => by omega)), w.2.2.fr (fun i a c => e.I (hn i a c)) (fun i a c => e.J (hn i a c))⟩
theorem st_out {v : Int64} (w : StL h r L r2 L2 s sv b n o er eo) (hp : LvP r L s sv b n m) : StL (sJ h 737 0 v) r L r2 L2 s sv b n o er eo := by
  have e : eqx h (sJ h 737 0 v) (fun i => i = 737) := ⟨rfl, rfl, fun i hi => ⟨rfl, if_neg hi⟩⟩
  exact st_eqx w hp e (fun i q => Or.inr (by omega))
theorem st_outD {v : UInt64} (w : StL h r L r2 L2 s sv b n o er eo) : StL (sD h 738 0 v) r L r2 L2 s sv b n o er eo := w
/-- the reference wrote only its own fields, other than those that stay -/
theorem st_ref {S : Nat → Prop} (w : StL h r L r2 L2 s sv b n o er eo) (hp : LvP r L s sv b n m) (e : eqx h h1 S) (hS : ∀ i, S i → 722 < i ∧ i ≠ 727 ∧ i ≠ 732 ∧ i ≠ 734 ∧ i ≠ 736 ∧ i < 737) (hf : ∀ k, k = 11 ∨ k = 14 ∨ k = 15 ∨ k = 16 ∨ k = 29 → aI h1 723 k = aI h 723 k) (hm : MW h1 r') (hl : PsR h1 L') : StL h1 r L r' L' s sv b n o er eo := by
  refine ⟨e.W w.1, w.2.1.fr hp e (fun i q => Or.inr (hS i q).1), ?_⟩
  obtain ⟨c1, c2, ⟨c3, c4⟩, c5, c6, c7, c8⟩ := w.2.2
  have nn1 : ∀ i, i = 727 ∨ i = 732 ∨ i = 734 ∨ i = 736 → ¬ S i := fun i a q => by have := hS i q; omega
  refine ⟨hm, hl, ⟨by rw [hf 11 (by decide)]; exact c3, fun q => ?_⟩, ?_, ?_, by rw [hf 15 (by decide)]; exact c7, by rw [hf 16 (by decide)]; exact c8⟩
  · unfold SW AW; rw [e.I (nn1 727 (by decide)), e.J (nn1 732 (by decide))]; exact c4 q
  · unfold InR; rw [hf 14 (by decide), e.I (nn1 734 (by decide))]; exact c5
  · unfold OR OuR; rw [hf 29 (by decide), e.I (nn1 736 (by decide))]; exact c6
theorem st_rq {c : Nat} (w : StL h r L r2 L2 s sv b n o er eo) (hp : LvP r L s sv b n m) (q : RQ h h1 c) : StL h1 r L r2 L2 s sv b n o er eo :=
  st_ref w hp q.1 (fun i (z : i = 723) => by omega) (fun k hk => q.2.2 k (by omega) (by omega) (by omega)) (w.2.2.1.rq q) (w.2.2.2.1.rq q)
theorem st_si {c : Nat} (w : StL h r L r2 L2 s sv b n o er eo) (hp : LvP r L s sv b n m) : StL (sI h 723 12 (nI c)) r L r2 L2 s sv b n o er eo := st_rq w hp RQ.of
theorem st_rt (w : StL h r L r2 L2 s sv b n o er eo) (hp : LvP r L s sv b n m) (q : RT h h1) (hm : MW h1 r2) : StL h1 r L r2 L2 s sv b n o er eo := by
  refine st_ref w hp q.1 (fun i z => by unfold RTs at z; omega) (fun k hk => q.2.2 k (by omega) (by omega)) hm ?_
  have l := w.2.2.2.1
  unfold PsR PA at l ⊢
  rw [q.2.2 10 (by decide) (by decide), q.1.I (show ¬ RTs 728 by unfold RTs; omega), q.1.J (show ¬ RTs 733 by unfold RTs; omega)]
  exact l
theorem st_rc (w : StL h r L r2 L2 s sv b n o er eo) (hp : LvP r L s sv b n m) (q : RC h h1) (hm : MW h1 r') (hl : PsR h1 L') : StL h1 r L r' L' s sv b n o er eo :=
  st_ref w hp q.1 (fun i z => by unfold RS at z; omega) (fun k hk => q.2.2 k (by omega) (by omega) (by omega) (by omega) (by omega)) hm hl
/-- a change of the class -/
theorem st_cc (w : StL h r L r2 L2 s sv b n o er eo) (hp : LvP r L s sv b n m) (q : CFr h h1) (hs : StR h1 7 r'.1 r'.2) (hl : PsC h1 L') : StL h1 r' L' r2 L2 s sv b n o er eo := by
  obtain ⟨⟨q1, q2, q3⟩, q4, q5⟩ := q
  obtain ⟨c1, c2, ⟨c3, c4⟩, c5, c6, c7, c8⟩ := w.2.1
  have n7 : ∀ i, i < 7 ∨ 61 < i → ¬ SB 7 i := fun i a => by unfold SB; omega
  refine ⟨q1, ⟨hs, hl, ⟨by rw [q5 9 (by decide)]; exact c3, fun z => str_cgh (c4 z) ((hp.2.2.1 z).1.1.1.2.2) (fun i a c => q4 i (by omega) (by omega) (n7 i (by omega)))⟩, ?_, ?_, by rw [q5 2 (by decide)]; exact c7, by rw [q5 3 (by decide)]; exact c8⟩, w.2.2.fr (fun i a c => (q2 i a).1) (fun i a c => (q2 i a).2)⟩
  · unfold InC; rw [q5 1 (by decide), (q4 2 (by decide) (by decide) (n7 2 (by decide))).1]; exact c5
  · unfold OC OuC; rw [(q4 5 (by decide) (by decide) (n7 5 (by decide))).1, (q4 6 (by decide) (by decide) (n7 6 (by decide))).1]; exact c6
end STL
