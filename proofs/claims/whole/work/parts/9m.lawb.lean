-- the law: its script, its end
def mL_law : MD := (yL_law, cL_law, 9, (some .boolean), room_1, [])
section LAWR
variable {l : Launch} {G : GC} {M : MD} {R : Room} {Fi : CX → State → Prop} {N pc : Nat} {ls : List (Option Value)} {st : List Value} {cs : Nat × Nat} {h : AH}
theorem r_sld {x : Int32} {k : Nat} (hx : x = nI k) (hk : k < gL G) (hL : gL G ≤ 3072) (hd : decode (mC M) pc = .ok (.iaload, 1)) (kk : PW l G M R Fi N (pc + 1) ls (.int (gX G k) :: st) cs h) : PW l G M R Fi N pc ls (.int x :: .ref 0 :: st) cs h := by
  intro p e s m args below meth c9 H locs la C hr hs hl
  have hgs := (C.2.2.2.2.2.2.2.1).2
  have hk2 := kk p e s m args below meth c9 H locs la C hr hs hl
  refine va_sld C.1 C.2.1 hgs.1 (Nat.lt_of_le_of_lt hgs.2.1 hgs.2.2.1) (Nat.not_lt.mpr hgs.2.1) hs (i := x) (by rw [hx]; exact vp_in_nI hk (by omega)) hd ?_
  rw [hx, nI_clamp (by omega)]
  exact hk2
theorem r_slen (hL : gL G ≤ 3072) (hd : decode (mC M) pc = .ok (.arraylength, 1)) (kk : PW l G M R Fi N (pc + 1) ls (.int (nI (gL G)) :: st) cs h) : PW l G M R Fi N pc ls (.ref 0 :: st) cs h := by
  intro p e s m args below meth c9 H locs la C hr hs hl
  have hgs := (C.2.2.2.2.2.2.2.1).2
  exact va_slen C.1 C.2.1 hgs.1 (Nat.lt_of_le_of_lt hgs.2.1 hgs.2.2.1) (Nat.not_lt.mpr hgs.2.1) hs hd (kk p e s m args below meth c9 H locs la C hr hs hl)
theorem rmL {M2 : MD} (hf : (Nat.ble ((mO M2).frames + 1) room_1.frames && Nat.ble (8 + (mL M2 + 11) + (mO M2).locals) room_1.locals) = true) (hc : cs.1 + (mO M2).cells ≤ 601024) (hs : cs.2 + (mO M2).slots ≤ 7293034) : rmOK room_1 cs M2 = true := by
  unfold rmOK
  rw [hf, Bool.true_and, Bool.and_eq_true]
  exact ⟨Nat.ble_eq_true_of_le hc, Nat.ble_eq_true_of_le hs⟩
end LAWR
/-- what stands between two calls: the row, the changes, what is saved, the input, the output, the last error -/
def LvC (h : AH) (r : Row) (L : List Row) (s : Row) (sv : Bool) (b : Nat → Int32) (n : Nat) (o : Ob) (er eo : Int32) : Prop := StR h 7 r.1 r.2 ∧ PsC h L ∧ (aI h 1 9 = bI sv ∧ (sv = true → StR h 117 s.1 s.2)) ∧ InC h b n ∧ OC h o ∧ aI h 1 2 = er ∧ aI h 1 3 = eo
def LvR (h : AH) (r : Row) (L : List Row) (s : Row) (sv : Bool) (b : Nat → Int32) (n : Nat) (o : Ob) (er eo : Int32) : Prop := MW h r ∧ PsR h L ∧ (aI h 723 11 = bI sv ∧ (sv = true → SW h s)) ∧ InR h b n ∧ OR h o ∧ aI h 723 15 = er ∧ aI h 723 16 = eo
def LvP (r : Row) (L : List Row) (s : Row) (sv : Bool) (b : Nat → Int32) (n : Nat) (m : Nat) : Prop := OK2 r m ∧ (∀ i, i < L.length → OK2 (L.getD i r00) m) ∧ (sv = true → OK2 s m) ∧ ∀ i, i < n → rg (b i) 0 255
section LPS
variable {h h' : AH} {r r' s : Row} {L : List Row} {sv : Bool} {b : Nat → Int32} {n m m' : Nat} {o : Ob} {er eo : Int32}
theorem LvP.wk (h : LvP r L s sv b n m) (hm : m ≤ m') : LvP r L s sv b n m' := ⟨h.1.wk hm, fun i hi => (h.2.1 i hi).wk hm, fun q => (h.2.2.1 q).wk hm, h.2.2.2⟩
theorem LvP.ls (h : LvP r L s sv b n m) : LsOK L m := fun i hi => (h.2.1 i hi).1
/-- one change -/
theorem LvP.push (h : LvP r L s sv b n m) (hl : L.length ≤ 10) (hr : OK2 r' m') (hm : m ≤ m') : LvP r' (pushL L r) s sv b n m' := by
  refine ⟨hr, fun i hi => ?_, fun q => (h.2.2.1 q).wk hm, h.2.2.2⟩
  have hp := pushL_len (r := r) hl
  have hp2 : (L.length = 10 ∧ (pushL L r).length = 10) ∨ (L.length ≠ 10 ∧ (pushL L r).length = L.length + 1) := by
    by_cases q : L.length = 10
    · rw [if_pos q] at hp; exact Or.inl ⟨q, hp⟩
    · rw [if_neg q] at hp; exact Or.inr ⟨q, hp⟩
  clear hp
  rw [pushL_at hl hi]
  split
  · exact h.1.wk hm
  · split
    · exact (h.2.1 _ (by omega)).wk hm
    · exact (h.2.1 _ (by omega)).wk hm
/-- the class's side stays where only the reference and the law's own write -/
theorem LvC.fr {S : Nat → Prop} (hc : LvC h r L s sv b n o er eo) (hp : LvP r L s sv b n m) (e : eqx h h' S) (hS : ∀ i, S i → SB 62 i ∨ 722 < i) : LvC h' r L s sv b n o er eo := by
  obtain ⟨c1, c2, ⟨c3, c4⟩, c5, c6, c7, c8⟩ := hc
  have n1 : ∀ i, i ≤ 722 → ¬ (62 ≤ i ∧ i ≤ 116) → ¬ S i := fun i a a2 q => by have := hS i q; unfold SB at this; omega
  have i1 := e.I (n1 1 (by decide) (by decide))
  refine ⟨c1.eqx e (hp.1.1.1.1.2.2) (fun i _ q => n1 i (by omega) (by omega)), ?_, ⟨by rw [i1]; exact c3, fun q => (c4 q).eqx e ((hp.2.2.1 q).1.1.1.2.2) (fun i _ q => n1 i (by omega) (by omega))⟩, ?_, ?_, by rw [i1]; exact c7, by rw [i1]; exact c8⟩
  · obtain ⟨p1, p2, f, p3, p4⟩ := c2
    refine ⟨by rw [i1]; exact p1, p2, f, ⟨fun i hi => by rw [e.R]; exact p3.1 i hi, p3.2⟩, fun i hi => (p4 i hi).eqx e ((hp.2.1 i hi).1.1.1.2.2) (fun j a q => ?_)⟩
    have := (p3.1 i (by omega)).2
    exact n1 j (by omega) (by omega)
  · unfold InC; rw [i1, e.I (n1 2 (by decide) (by decide))]; exact c5
  · unfold OC OuC; rw [e.I (n1 5 (by decide) (by decide)), e.I (n1 6 (by decide) (by decide))]; exact c6
/-- the reference's side stays where its own things do -/
theorem LvR.fr (hc : LvR h r L s sv b n o er eo) (hI : ∀ i, 722 < i → i < 737 → aI h' i = aI h i) (hJ : ∀ i, 722 < i → i < 737 → aJ h' i = aJ h i) : LvR h' r L s sv b n o er eo := by
  obtain ⟨c1, c2, ⟨c3, c4⟩, c5, c6, c7, c8⟩ := hc
  have i1 := hI 723 (by decide) (by decide)
  refine ⟨?_, ?_, ⟨by rw [i1]; exact c3, fun q => ?_⟩, ?_, ?_, by rw [i1]; exact c7, by rw [i1]; exact c8⟩
  · unfold MW; rw [hI 724 (by decide) (by decide), hJ 729 (by decide) (by decide)]; exact c1
  · unfold PsR PA; rw [i1, hI 728 (by decide) (by decide), hJ 733 (by decide) (by decide)]; exact c2
  · unfold SW AW; rw [hI 727 (by decide) (by decide), hJ 732 (by decide) (by decide)]; exact c4 q
  · unfold InR; rw [i1, hI 734 (by decide) (by decide)]; exact c5
  · unfold OR OuR; rw [i1, hI 736 (by decide) (by decide)]; exact c6
end LPS
