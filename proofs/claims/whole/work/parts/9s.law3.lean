-- the law: undo, saveState, truncateInput, appendInput
theorem up9_o {f : Nat → Int32} {k j : Nat} {x : Int32} (h : j ≠ k) : upd f k x j = f j := if_neg h
theorem up9_s {f : Nat → Int32} {k : Nat} {x : Int32} : upd f k x k = x := if_pos rfl
theorem takeR_getD {L : List Row} {k i : Nat} (h : i < k) : (L.take k).getD i r00 = L.getD i r00 := by
  rw [List.getD_eq_getElem?_getD, List.getD_eq_getElem?_getD, List.getElem?_take_of_lt h]
theorem LvP.un {r s : Row} {L : List Row} {sv : Bool} {b : Nat → Int32} {n m : Nat} (h : LvP r L s sv b n m) (hz : ¬ L.length = 0) : LvP (L.getD (L.length - 1) r00) (L.take (L.length - 1)) s sv b n m := by
  refine ⟨h.2.1 _ (by omega), fun i hi => ?_, h.2.2.1, h.2.2.2⟩
  rw [List.length_take] at hi
  rw [takeR_getD (by omega)]
  exact h.2.1 i (by omega)
set_option maxRecDepth 100000 in
set_option maxHeartbeats 4000000 in
theorem law_61 {l9 : Launch} {G : GC} {Fi : CX → State → Prop} {h : AH} {r s : Row} {L : List Row} {sv : Bool} {b : Nat → Int32} {n j : Nat} {o : Ob} {er eo : Int32} {l6 l7 l8 : Option Value} {cs : Nat × Nat} (hG : GOK G) (hj : 6 * j + 6 ≤ gL G) (hL3 : gL G ≤ 3072) (w : StL h r L r L s sv b n o er eo) (hp : LvP r L s sv b n (300 * j)) (hc1 : cs.1 ≤ 800 + 60 * j) (hc2 : cs.2 ≤ 40000 + 400 * j) (kk : LNx l9 G Fi j) : PW l9 G mL_law room_1 Fi NT 4057 [some (.ref 0), some (.ref 1), some (.ref 723), some (.ref 737), some (.ref 738), some (.int (nI (6 * j))), l6, l7, l8] [] cs h := by
  refine r_aload_n dL_law_4057 rfl ?_
  refine q_callT0 (cv_X8_undo ml_L_397) w.1 kc_1 (by decide) rfl (rmL rfl (by show cs.1 + 0 ≤ _; omega) (by show cs.2 + 0 ≤ _; omega)) (Nat.le_of_ble_eq_true rfl) dL_law_4058 (c_X8_undo (hW := w.1) (hs := w.2.1.1) (hO := hp.1.1) (hL := w.2.1.2.1) (hLO := hp.ls)) (fun v0 h0 _ q0 => ?_)
  by_cases hz : L.length = 0
  · skip
    obtain ⟨rfl, rfl⟩ := q0.1 hz
    have w1 := w
    have hp2 := hp.nx
    refine r_aload_n dL_law_4061 rfl ?_
    refine q_callT0 (cv_X9_undo ml_L_400) w1.1 kc_723 (by decide) rfl (rmL rfl (by show cs.1 + 0 + 0 ≤ _; omega) (by show cs.2 + 0 + 0 ≤ _; omega)) (Nat.le_of_ble_eq_true rfl) dL_law_4062 (c_X9_undo (hW := w1.1) (hm := w1.2.2.1) (hO := hp.1.1) (hm28 := (by omega)) (hL := w1.2.2.2.1)) (fun v1 h1 _ q1 => ?_)
    obtain ⟨rfl, a4⟩ := q1.1 hz
    have w2 := st_rq w1 hp a4
    refine r_icmp_eq 4127 dL_law_4065 (by decide) (fun _ => ?_) (fun c9 => absurd rfl c9)
    exact kk _ _ _ _ _ _ _ _ _ _ _ _ _ _ w2 hp2 (by show cs.1 + 0 + 0 ≤ _; omega) (by show cs.2 + 0 + 0 ≤ _; omega)
  · skip
    obtain ⟨rfl, a1, a2, a3⟩ := q0.2 hz
    have hp1 := hp.un hz
    have w1 := st_cc w hp a1 a2 a3
    have hp2 := hp1.nx
    refine r_aload_n dL_law_4061 rfl ?_
    refine q_callT0 (cv_X9_undo ml_L_400) w1.1 kc_723 (by decide) rfl (rmL rfl (by show cs.1 + 0 + 0 ≤ _; omega) (by show cs.2 + 0 + 0 ≤ _; omega)) (Nat.le_of_ble_eq_true rfl) dL_law_4062 (c_X9_undo (hW := w1.1) (hm := w1.2.2.1) (hO := hp.1.1) (hm28 := (by omega)) (hL := w1.2.2.2.1)) (fun v1 h1 _ q1 => ?_)
    obtain ⟨rfl, a4, a5, a6, a7, a8⟩ := q1.2 hz
    have w2 := st_ref w1 hp1 a4 (fun i z => by unfold RS at z; omega) (fun k hk => a6 k (by omega) (by omega)) a7 a8
    refine r_icmp_eq 4127 dL_law_4065 (by decide) (fun _ => ?_) (fun c9 => absurd rfl c9)
    exact kk _ _ _ _ _ _ _ _ _ _ _ _ _ _ w2 hp2 (by show cs.1 + 0 + 0 ≤ _; omega) (by show cs.2 + 0 + 0 ≤ _; omega)
theorem st_sv {h h1 : AH} {r r2 s : Row} {L L2 : List Row} {sv : Bool} {b : Nat → Int32} {n m : Nat} {o : Ob} {er eo : Int32} (w : StL h r L r2 L2 s sv b n o er eo) (hp : LvP r L s sv b n m) (e : eqx h h1 (fun i => i = 1 ∨ SB 117 i)) (e1 : aI h1 1 = upd (aI h 1) 9 1) (hs : StR h1 117 r.1 r.2) : World h1 ∧ LvC h1 r L r true b n o er eo ∧ LvR h1 r2 L2 s sv b n o er eo := by
  obtain ⟨c1, c2, ⟨c3, c4⟩, c5, c6, c7, c8⟩ := w.2.1
  have f : ∀ k, k ≠ 9 → aI h1 1 k = aI h 1 k := fun k hk => by rw [e1]; exact up9_o hk
  have n1 : ∀ i, i ≠ 1 → ¬ (117 ≤ i ∧ i ≤ 171) → ¬ (i = 1 ∨ SB 117 i) := fun i a c q => by unfold SB at q; omega
  refine ⟨e.W w.1, ⟨c1.eqx e hp.1.1.1.1.2.2 (fun i a c => n1 i (by omega) (by omega)), ?_, ⟨by rw [e1]; exact up9_s, fun _ => hs⟩, ?_, ?_, by rw [f 2 (by decide)]; exact c7, by rw [f 3 (by decide)]; exact c8⟩, w.2.2.fr (fun i a c => e.I (n1 i (by omega) (by omega))) (fun i a c => e.J (n1 i (by omega) (by omega)))⟩
  · obtain ⟨p1, p2, g, p3, p4⟩ := c2
    refine ⟨by rw [f 11 (by decide)]; exact p1, p2, g, ⟨fun i hi => by rw [e.R]; exact p3.1 i hi, p3.2⟩, fun i hi => (p4 i hi).eqx e ((hp.2.1 i hi).1.1.1.2.2) (fun q a c => ?_)⟩
    have := (p3.1 i (by omega)).2
    exact n1 q (by omega) (by omega)
  · unfold InC; rw [f 1 (by decide), e.I (n1 2 (by decide) (by decide))]; exact c5
  · unfold OC OuC; rw [e.I (n1 5 (by decide) (by decide)), e.I (n1 6 (by decide) (by decide))]; exact c6
theorem st_sv2 {h h1 : AH} {r r2 s : Row} {L L2 : List Row} {sv : Bool} {b : Nat → Int32} {n m : Nat} {o : Ob} {er eo : Int32} (hW : World h) (wc : LvC h r L r true b n o er eo) (wr : LvR h r L s sv b n o er eo) (hp : LvP r L s sv b n m) (e : eqx h h1 (fun i => i = 723 ∨ i = 727 ∨ i = 732)) (e1 : aI h1 723 = upd (upd (aI h 723) 12 0) 11 1) (hs : SW h1 r) : StL h1 r L r L r true b n o er eo := by
  have hp1 : LvP r L r true b n m := ⟨hp.1, hp.2.1, fun _ => hp.1, hp.2.2.2⟩
  obtain ⟨c1, c2, ⟨c3, c4⟩, c5, c6, c7, c8⟩ := wr
  have f : ∀ k, k ≠ 11 → k ≠ 12 → aI h1 723 k = aI h 723 k := fun k hk h2 => by rw [e1, up9_o hk, up9_o h2]
  refine ⟨e.W hW, wc.fr hp1 e (fun i q => Or.inr (by omega)), ⟨?_, ?_, ⟨by rw [e1]; exact up9_s, fun _ => hs⟩, ?_, ?_, by rw [f 15 (by decide) (by decide)]; exact c7, by rw [f 16 (by decide) (by decide)]; exact c8⟩⟩
  · unfold MW; rw [e.I (by decide), e.J (by decide)]; exact c1
  · unfold PsR PA; rw [f 10 (by decide) (by decide), e.I (by decide), e.J (by decide)]; exact c2
  · unfold InR; rw [f 14 (by decide) (by decide), e.I (by decide)]; exact c5
  · unfold OR OuR; rw [f 29 (by decide) (by decide), e.I (by decide)]; exact c6
set_option maxRecDepth 100000 in
set_option maxHeartbeats 4000000 in
theorem law_62 {l9 : Launch} {G : GC} {Fi : CX → State → Prop} {h : AH} {r s : Row} {L : List Row} {sv : Bool} {b : Nat → Int32} {n j : Nat} {o : Ob} {er eo : Int32} {l6 l7 l8 : Option Value} {cs : Nat × Nat} (hG : GOK G) (hj : 6 * j + 6 ≤ gL G) (hL3 : gL G ≤ 3072) (w : StL h r L r L s sv b n o er eo) (hp : LvP r L s sv b n (300 * j)) (hc1 : cs.1 ≤ 800 + 60 * j) (hc2 : cs.2 ≤ 40000 + 400 * j) (kk : LNx l9 G Fi j) : PW l9 G mL_law room_1 Fi NT 4070 [some (.ref 0), some (.ref 1), some (.ref 723), some (.ref 737), some (.ref 738), some (.int (nI (6 * j))), l6, l7, l8] [] cs h := by
  refine r_aload_n dL_law_4070 rfl ?_
  refine q_callT0 (cv_X8_saveState ml_L_401) w.1 kc_1 (by decide) rfl (rmL rfl (by show cs.1 + 0 ≤ _; omega) (by show cs.2 + 0 ≤ _; omega)) (Nat.le_of_ble_eq_true rfl) dL_law_4071 (c_X8_saveState (hW := w.1) (hs := w.2.1.1) (hO := hp.1.1)) (fun v0 h0 _ q0 => ?_)
  obtain ⟨rfl, a1, a2, a3⟩ := q0
  have w1 := st_sv w hp a1 a2 a3
  have hp2 : LvP r L r true b n (300 * (j + 1)) := ⟨hp.nx.1, hp.nx.2.1, fun _ => hp.nx.1, hp.nx.2.2.2⟩
  refine r_aload_n dL_law_4074 rfl ?_
  refine q_callT0 (cv_X9_saveState ml_L_404) w1.1 kc_723 (by decide) rfl (rmL rfl (by show cs.1 + 0 + 0 ≤ _; omega) (by show cs.2 + 0 + 0 ≤ _; omega)) (Nat.le_of_ble_eq_true rfl) dL_law_4075 (c_X9_saveState (hW := w1.1) (hm := w1.2.2.1) (hO := hp.1.1) (hm28 := (by omega))) (fun v1 h1 _ q1 => ?_)
  obtain ⟨rfl, a4, a5, a6⟩ := q1
  have w2 := st_sv2 (r2 := r) (L2 := L) w1.1 w1.2.1 w1.2.2 hp a4 a5 a6
  refine r_icmp_eq 4127 dL_law_4078 (by decide) (fun _ => ?_) (fun c9 => absurd rfl c9)
  exact kk _ _ _ _ _ _ _ _ _ _ _ _ _ _ w2 hp2 (by show cs.1 + 0 + 0 ≤ _; omega) (by show cs.2 + 0 + 0 ≤ _; omega)
