-- what the calls leave
def StL (h : AH) (r : Row) (L : List Row) (r2 : Row) (L2 : List Row) (s : Row) (sv : Bool) (b : Nat → Int32) (n : Nat) (o : Ob) (er eo : Int32) : Prop := World h ∧ LvC h r L s sv b n o er eo ∧ LvR h r2 L2 s sv b n o er eo
theorem str_cgh {h h' : AH} {b : Nat} {w : Nat → Int32} {v : Nat → Int64} (hs : StR h b w v) (h4 : nn (w 0) ≤ 4) (hI : ∀ i, b ≤ i → i ≤ b + 54 → aI h' i = aI h i ∧ aJ h' i = aJ h i) : StR h' b w v := by
  have e : eqx h ((aI h', aJ h', h.2.2) : AH) (fun i => ¬ (aI h' i = aI h i ∧ aJ h' i = aJ h i)) := ⟨rfl, rfl, fun i hi => Classical.not_not.mp hi⟩
  have q := StR.eqx hs e h4 (fun i a c => fun k => k (hI i a c))
  exact q
section STL
variable {h h1 : AH} {r r' r2 s : Row} {L L' L2 : List Row} {sv : Bool} {b : Nat → Int32} {n m : Nat} {o : Ob} {er eo : Int32}
theorem st_eqx {S : Nat → Prop} (w : StL h r L r2 L2 s sv b n o er eo) (hp : LvP r L s sv b n m) (e : eqx h h1 S) (hS : ∀ i, S i → SB 62 i ∨ 736 < i) : StL h1 r L r2 L2 s sv b n o er eo := by
  have hn : ∀ i, 722 < i → i < 737 → ¬ S i := fun i a c q => by have := hS i q; unfold SB at this; omega
  exact ⟨e.W w.1, w.2.1.fr hp e (fun i q => (hS i q).imp id (fun q => by omega)), w.2.2.fr (fun i a c => e.I (hn i a c)) (fun i a c => e.J (hn i a c))⟩
theorem st_out {v : Int64} (w : StL h r L r2 L2 s sv b n o er eo) (hp : LvP r L s sv b n m) : StL (sJ h 737 0 v) r L r2 L2 s sv b n o er eo := by
  have e : eqx h (sJ h 737 0 v) (fun i => i = 737) := ⟨rfl, rfl, fun i hi => ⟨rfl, if_neg hi⟩⟩
  exact st_eqx w hp e (fun i q => Or.inr (by omega))
theorem st_outD {v : UInt64} (w : StL h r L r2 L2 s sv b n o er eo) : StL (sD h 738 0 v) r L r2 L2 s sv b n o er eo := w
/-- the reference wrote only its own fields, other than those that stay -/
theorem st_ref {S : Nat → Prop} (w : StL h r L r2 L2 s sv b n o er eo) (hp : LvP r L s sv b n m) (e : eqx h h1 S) (hS : ∀ i, S i → 722 < i ∧ i ≠ 727 ∧ i ≠ 732 ∧ i ≠ 734 ∧ i ≠ 736 ∧ i < 737) (hf : ∀ k, k = 11 ∨ k = 14 ∨ k = 15 ∨ k = 16 ∨ k = 29 → aI h1 723 k = aI h 723 k) (hm : MW h1 r') (hl : PsR h1 L') : StL h1 r L r' L' s sv b n o er eo := by
  refine ⟨e.W w.1, w.2.1.fr hp e (fun i q => Or.inr (hS i q).1), ?_⟩
  obtain ⟨c1, c2, ⟨c3, c4⟩, c5, c6, c7, c8⟩ := w.2.2
  have nn1 : ∀ i, i = 727 ∨ i = 732 ∨ i = 734 ∨ i = 736 → ¬ S i := fun i a q => by have := hS i q; omega
  refine ⟨hm, hl, ⟨by rw [hf 11 (by decide)]; exact c3, fun q => ?_⟩, ?_, ?_, by rw [hf 15 (by decide)]; exact c7, by rw [hf 16 (by decide)]; exact c8⟩
  · unfold SW AW; rw [e.I (nn1 727 (by decide)), e.J (nn1 732 (by decide))]; exact c4 q
  · unfold InR; rw [hf 14 (by decide), e.I (nn1 734 (by decide))]; exact c5
  · unfold OR OuR; rw [hf 29 (by decide), e.I (nn1 736 (by decide))]; exact c6
theorem st_rq {c : Nat} (w : StL h r L r2 L2 s sv b n o er eo) (hp : LvP r L s sv b n m) (q : RQ h h1 c) : StL h1 r L r2 L2 s sv b n o er eo :=
  st_ref w hp q.1 (fun i (z : i = 723) => by omega) (fun k hk => q.2.2 k (by omega) (by omega) (by omega)) (w.2.2.1.rq q) (w.2.2.2.1.rq q)
theorem st_si {c : Nat} (w : StL h r L r2 L2 s sv b n o er eo) (hp : LvP r L s sv b n m) : StL (sI h 723 12 (nI c)) r L r2 L2 s sv b n o er eo := st_rq w hp RQ.of
theorem st_rt (w : StL h r L r2 L2 s sv b n o er eo) (hp : LvP r L s sv b n m) (q : RT h h1) (hm : MW h1 r2) : StL h1 r L r2 L2 s sv b n o er eo := by
  refine st_ref w hp q.1 (fun i z => by unfold RTs at z; omega) (fun k hk => q.2.2 k (by omega) (by omega)) hm ?_
  have l := w.2.2.2.1
  unfold PsR PA at l ⊢
  rw [q.2.2 10 (by decide) (by decide), q.1.I (show ¬ RTs 728 by unfold RTs; omega), q.1.J (show ¬ RTs 733 by unfold RTs; omega)]
  exact l
theorem st_rc (w : StL h r L r2 L2 s sv b n o er eo) (hp : LvP r L s sv b n m) (q : RC h h1) (hm : MW h1 r') (hl : PsR h1 L') : StL h1 r L r' L' s sv b n o er eo :=
  st_ref w hp q.1 (fun i z => by unfold RS at z; omega) (fun k hk => q.2.2 k (by omega) (by omega) (by omega) (by omega) (by omega)) hm hl
/-- a change of the class -/
theorem st_cc (w : StL h r L r2 L2 s sv b n o er eo) (hp : LvP r L s sv b n m) (q : CFr h h1) (hs : StR h1 7 r'.1 r'.2) (hl : PsC h1 L') : StL h1 r' L' r2 L2 s sv b n o er eo := by
  obtain ⟨⟨q1, q2, q3⟩, q4, q5⟩ := q
  obtain ⟨c1, c2, ⟨c3, c4⟩, c5, c6, c7, c8⟩ := w.2.1
  have n7 : ∀ i, i < 7 ∨ 61 < i → ¬ SB 7 i := fun i a => by unfold SB; omega
  refine ⟨q1, ⟨hs, hl, ⟨by rw [q5 9 (by decide)]; exact c3, fun z => str_cgh (c4 z) ((hp.2.2.1 z).1.1.1.2.2) (fun i a c => q4 i (by omega) (by omega) (n7 i (by omega)))⟩, ?_, ?_, by rw [q5 2 (by decide)]; exact c7, by rw [q5 3 (by decide)]; exact c8⟩, w.2.2.fr (fun i a c => (q2 i a).1) (fun i a c => (q2 i a).2)⟩
  · unfold InC; rw [q5 1 (by decide), (q4 2 (by decide) (by decide) (n7 2 (by decide))).1]; exact c5
  · unfold OC OuC; rw [(q4 5 (by decide) (by decide) (n7 5 (by decide))).1, (q4 6 (by decide) (by decide) (n7 6 (by decide))).1]; exact c6
end STL
