section V6
variable {l : Launch} {G : GC} {M : MD} {R : Room} {Fi : CX → State → Prop} {pc : Nat} {ls : List (Option Value)} {st : List Value} {cs : Nat × Nat} {h : AH} {K : Option Value → AH → Prop} {X : String → AH → Prop}
theorem q_callV6 {c i ix : Nat} {a1 a2 a3 a4 a5 a6 : Value} {M2 : MD} (hlk : CV (mY M).cls ix M2 6) (hW : World h) (hk : kd i c) (hc : c < 10) (hcy : clR c = (mY M2).cls) (hz : (mO M2).cells = 0 ∧ (mO M2).slots = 0) (hrm : rmOK R cs M2 = true) (hst : (st.map fun v => v.category).sum ≤ 8) (hd : decode (mC M) pc = .ok (.invokevirtual ix, 3)) (hM : PM l G M2 NT NT (.ref i :: [a1, a2, a3, a4, a5, a6]) h K noX) (kk : ∀ (v : Option Value) (h' : AH), K v h' → PW l G M R Fi NT (pc + 3) ls (v.toList ++ st) cs h') : PW l G M R Fi NT pc ls (a6 :: a5 :: a4 :: a3 :: a2 :: a1 :: .ref i :: st) cs h := q_callV [a1, a2, a3, a4, a5, a6] hlk hW hk hc hcy hz hrm hst hd hM kk
end V6

-- the reference: the best of some
def boN (val : Nat → Int32) (cost : Nat → Int64) : Nat → Int32 × Int64
  | 0 => (-1, 0)
  | n + 1 => bsT (boN val cost n) (val n) (cost n)
theorem boN_s {val : Nat → Int32} {cost : Nat → Int64} {n : Nat} : boN val cost (n + 1) = bsT (boN val cost n) (val n) (cost n) := rfl
theorem boPolicy_is {r : Row} {x : Int32} {n : Nat} : boPolicy_3 r x n = boN (fun i => nI i) (fun i => coQ r x (tpS (fP r x) (nI i)) n) 3 := by
  have h0 : boPolicy_0 r x n = boN (fun i => nI i) (fun i => coQ r x (tpS (fP r x) (nI i)) n) 0 := rfl
  have v0 : (nI 0) = (0 : Int32) := by decide
  have h1 : boPolicy_1 r x n = boN (fun i => nI i) (fun i => coQ r x (tpS (fP r x) (nI i)) n) 1 := by
    rw [boPolicy_e1, boN_s, h0]
    show bsT _ (0) (coQ r x (tpS (fP r x) 0) n) = bsT _ (nI 0) (coQ r x (tpS (fP r x) (nI 0)) n)
    rw [v0]
  have v1 : (nI 1) = (1 : Int32) := by decide
  have h2 : boPolicy_2 r x n = boN (fun i => nI i) (fun i => coQ r x (tpS (fP r x) (nI i)) n) 2 := by
    rw [boPolicy_e2, boN_s, h1]
    show bsT _ (1) (coQ r x (tpS (fP r x) 1) n) = bsT _ (nI 1) (coQ r x (tpS (fP r x) (nI 1)) n)
    rw [v1]
  have v2 : (nI 2) = (2 : Int32) := by decide
  have h3 : boPolicy_3 r x n = boN (fun i => nI i) (fun i => coQ r x (tpS (fP r x) (nI i)) n) 3 := by
    rw [boPolicy_e3, boN_s, h2]
    show bsT _ (2) (coQ r x (tpS (fP r x) 2) n) = bsT _ (nI 2) (coQ r x (tpS (fP r x) (nI 2)) n)
    rw [v2]
  exact h3
theorem boTarget_is {r : Row} {x : Int32} {n : Nat} : boTarget_10 r x n = boN (fun i => nI (10 + 10 * i)) (fun i => coQ r x (upd (fP r x) 3 (nI (10 + 10 * i))) n) 10 := by
  have h0 : boTarget_0 r x n = boN (fun i => nI (10 + 10 * i)) (fun i => coQ r x (upd (fP r x) 3 (nI (10 + 10 * i))) n) 0 := rfl
  have v0 : (nI (10 + 10 * 0)) = (10 : Int32) := by decide
  have h1 : boTarget_1 r x n = boN (fun i => nI (10 + 10 * i)) (fun i => coQ r x (upd (fP r x) 3 (nI (10 + 10 * i))) n) 1 := by
    rw [boTarget_e1, boN_s, h0]
    show bsT _ (10) (coQ r x (upd (fP r x) 3 10) n) = bsT _ (nI (10 + 10 * 0)) (coQ r x (upd (fP r x) 3 (nI (10 + 10 * 0))) n)
    rw [v0]
  have v1 : (nI (10 + 10 * 1)) = (20 : Int32) := by decide
  have h2 : boTarget_2 r x n = boN (fun i => nI (10 + 10 * i)) (fun i => coQ r x (upd (fP r x) 3 (nI (10 + 10 * i))) n) 2 := by
    rw [boTarget_e2, boN_s, h1]
    show bsT _ (20) (coQ r x (upd (fP r x) 3 20) n) = bsT _ (nI (10 + 10 * 1)) (coQ r x (upd (fP r x) 3 (nI (10 + 10 * 1))) n)
    rw [v1]
  have v2 : (nI (10 + 10 * 2)) = (30 : Int32) := by decide
  have h3 : boTarget_3 r x n = boN (fun i => nI (10 + 10 * i)) (fun i => coQ r x (upd (fP r x) 3 (nI (10 + 10 * i))) n) 3 := by
    rw [boTarget_e3, boN_s, h2]
    show bsT _ (30) (coQ r x (upd (fP r x) 3 30) n) = bsT _ (nI (10 + 10 * 2)) (coQ r x (upd (fP r x) 3 (nI (10 + 10 * 2))) n)
    rw [v2]
  have v3 : (nI (10 + 10 * 3)) = (40 : Int32) := by decide
  have h4 : boTarget_4 r x n = boN (fun i => nI (10 + 10 * i)) (fun i => coQ r x (upd (fP r x) 3 (nI (10 + 10 * i))) n) 4 := by
    rw [boTarget_e4, boN_s, h3]
    show bsT _ (40) (coQ r x (upd (fP r x) 3 40) n) = bsT _ (nI (10 + 10 * 3)) (coQ r x (upd (fP r x) 3 (nI (10 + 10 * 3))) n)
    rw [v3]
  have v4 : (nI (10 + 10 * 4)) = (50 : Int32) := by decide
  have h5 : boTarget_5 r x n = boN (fun i => nI (10 + 10 * i)) (fun i => coQ r x (upd (fP r x) 3 (nI (10 + 10 * i))) n) 5 := by
    rw [boTarget_e5, boN_s, h4]
    show bsT _ (50) (coQ r x (upd (fP r x) 3 50) n) = bsT _ (nI (10 + 10 * 4)) (coQ r x (upd (fP r x) 3 (nI (10 + 10 * 4))) n)
    rw [v4]
  have v5 : (nI (10 + 10 * 5)) = (60 : Int32) := by decide
  have h6 : boTarget_6 r x n = boN (fun i => nI (10 + 10 * i)) (fun i => coQ r x (upd (fP r x) 3 (nI (10 + 10 * i))) n) 6 := by
    rw [boTarget_e6, boN_s, h5]
    show bsT _ (60) (coQ r x (upd (fP r x) 3 60) n) = bsT _ (nI (10 + 10 * 5)) (coQ r x (upd (fP r x) 3 (nI (10 + 10 * 5))) n)
    rw [v5]
  have v6 : (nI (10 + 10 * 6)) = (70 : Int32) := by decide
  have h7 : boTarget_7 r x n = boN (fun i => nI (10 + 10 * i)) (fun i => coQ r x (upd (fP r x) 3 (nI (10 + 10 * i))) n) 7 := by
    rw [boTarget_e7, boN_s, h6]
    show bsT _ (70) (coQ r x (upd (fP r x) 3 70) n) = bsT _ (nI (10 + 10 * 6)) (coQ r x (upd (fP r x) 3 (nI (10 + 10 * 6))) n)
    rw [v6]
  have v7 : (nI (10 + 10 * 7)) = (80 : Int32) := by decide
  have h8 : boTarget_8 r x n = boN (fun i => nI (10 + 10 * i)) (fun i => coQ r x (upd (fP r x) 3 (nI (10 + 10 * i))) n) 8 := by
    rw [boTarget_e8, boN_s, h7]
    show bsT _ (80) (coQ r x (upd (fP r x) 3 80) n) = bsT _ (nI (10 + 10 * 7)) (coQ r x (upd (fP r x) 3 (nI (10 + 10 * 7))) n)
    rw [v7]
  have v8 : (nI (10 + 10 * 8)) = (90 : Int32) := by decide
  have h9 : boTarget_9 r x n = boN (fun i => nI (10 + 10 * i)) (fun i => coQ r x (upd (fP r x) 3 (nI (10 + 10 * i))) n) 9 := by
    rw [boTarget_e9, boN_s, h8]
    show bsT _ (90) (coQ r x (upd (fP r x) 3 90) n) = bsT _ (nI (10 + 10 * 8)) (coQ r x (upd (fP r x) 3 (nI (10 + 10 * 8))) n)
    rw [v8]
  have v9 : (nI (10 + 10 * 9)) = (100 : Int32) := by decide
  have h10 : boTarget_10 r x n = boN (fun i => nI (10 + 10 * i)) (fun i => coQ r x (upd (fP r x) 3 (nI (10 + 10 * i))) n) 10 := by
    rw [boTarget_e10, boN_s, h9]
    show bsT _ (100) (coQ r x (upd (fP r x) 3 100) n) = bsT _ (nI (10 + 10 * 9)) (coQ r x (upd (fP r x) 3 (nI (10 + 10 * 9))) n)
    rw [v9]
  exact h10
theorem boCool_is {r : Row} {x : Int32} {n : Nat} : boCool_7 r x n = boN (fun i => nI (0 + 5 * i)) (fun i => coQ r x (upd (fP r x) 13 (nI (0 + 5 * i))) n) 7 := by
  have h0 : boCool_0 r x n = boN (fun i => nI (0 + 5 * i)) (fun i => coQ r x (upd (fP r x) 13 (nI (0 + 5 * i))) n) 0 := rfl
  have v0 : (nI (0 + 5 * 0)) = (0 : Int32) := by decide
  have h1 : boCool_1 r x n = boN (fun i => nI (0 + 5 * i)) (fun i => coQ r x (upd (fP r x) 13 (nI (0 + 5 * i))) n) 1 := by
    rw [boCool_e1, boN_s, h0]
    show bsT _ (0) (coQ r x (upd (fP r x) 13 0) n) = bsT _ (nI (0 + 5 * 0)) (coQ r x (upd (fP r x) 13 (nI (0 + 5 * 0))) n)
    rw [v0]
  have v1 : (nI (0 + 5 * 1)) = (5 : Int32) := by decide
  have h2 : boCool_2 r x n = boN (fun i => nI (0 + 5 * i)) (fun i => coQ r x (upd (fP r x) 13 (nI (0 + 5 * i))) n) 2 := by
    rw [boCool_e2, boN_s, h1]
    show bsT _ (5) (coQ r x (upd (fP r x) 13 5) n) = bsT _ (nI (0 + 5 * 1)) (coQ r x (upd (fP r x) 13 (nI (0 + 5 * 1))) n)
    rw [v1]
  have v2 : (nI (0 + 5 * 2)) = (10 : Int32) := by decide
  have h3 : boCool_3 r x n = boN (fun i => nI (0 + 5 * i)) (fun i => coQ r x (upd (fP r x) 13 (nI (0 + 5 * i))) n) 3 := by
    rw [boCool_e3, boN_s, h2]
    show bsT _ (10) (coQ r x (upd (fP r x) 13 10) n) = bsT _ (nI (0 + 5 * 2)) (coQ r x (upd (fP r x) 13 (nI (0 + 5 * 2))) n)
    rw [v2]
  have v3 : (nI (0 + 5 * 3)) = (15 : Int32) := by decide
  have h4 : boCool_4 r x n = boN (fun i => nI (0 + 5 * i)) (fun i => coQ r x (upd (fP r x) 13 (nI (0 + 5 * i))) n) 4 := by
    rw [boCool_e4, boN_s, h3]
    show bsT _ (15) (coQ r x (upd (fP r x) 13 15) n) = bsT _ (nI (0 + 5 * 3)) (coQ r x (upd (fP r x) 13 (nI (0 + 5 * 3))) n)
    rw [v3]
  have v4 : (nI (0 + 5 * 4)) = (20 : Int32) := by decide
  have h5 : boCool_5 r x n = boN (fun i => nI (0 + 5 * i)) (fun i => coQ r x (upd (fP r x) 13 (nI (0 + 5 * i))) n) 5 := by
    rw [boCool_e5, boN_s, h4]
    show bsT _ (20) (coQ r x (upd (fP r x) 13 20) n) = bsT _ (nI (0 + 5 * 4)) (coQ r x (upd (fP r x) 13 (nI (0 + 5 * 4))) n)
    rw [v4]
  have v5 : (nI (0 + 5 * 5)) = (25 : Int32) := by decide
  have h6 : boCool_6 r x n = boN (fun i => nI (0 + 5 * i)) (fun i => coQ r x (upd (fP r x) 13 (nI (0 + 5 * i))) n) 6 := by
    rw [boCool_e6, boN_s, h5]
    show bsT _ (25) (coQ r x (upd (fP r x) 13 25) n) = bsT _ (nI (0 + 5 * 5)) (coQ r x (upd (fP r x) 13 (nI (0 + 5 * 5))) n)
    rw [v5]
  have v6 : (nI (0 + 5 * 6)) = (30 : Int32) := by decide
  have h7 : boCool_7 r x n = boN (fun i => nI (0 + 5 * i)) (fun i => coQ r x (upd (fP r x) 13 (nI (0 + 5 * i))) n) 7 := by
    rw [boCool_e7, boN_s, h6]
    show bsT _ (30) (coQ r x (upd (fP r x) 13 30) n) = bsT _ (nI (0 + 5 * 6)) (coQ r x (upd (fP r x) 13 (nI (0 + 5 * 6))) n)
    rw [v6]
  exact h7
theorem bs_c {s : Int32 × Int64} {v : Int32} {c : Int64} (h : ¬ s.1 = -1) (h2 : ¬ lg_cmp c s.2 < 0) : bsT s v c = s := bsT_f h (fun q => h2 (lg_lt.mpr q))
set_option maxRecDepth 100000 in
set_option maxHeartbeats 800000 in
theorem c_X9_bestOf {l9 : Launch} {G : GC} {h : AH} {r : Row} {m : Nat} {x y1 y2 y3 z w9 : Int32} {p k w_ fr to by_ N : Nat} (hW : World h) (hm : MW h r) (hO : RoOK r.1 r.2 m) (hm28 : m < 2 ^ 28) (hb : m + 300 < 2 ^ 23) (ek : z = nI k) (k1 : 1 ≤ k) (k2 : k ≤ 300) (hx : x = nI p) (pn : p < nn (r.1 0)) (ew : w9 = nI w_) (e1 : y1 = nI fr) (e2 : y2 = nI to) (e3 : y3 = nI by_) (hwl : w_ < 16 ∧ 1 < w_ ∧ w_ ≠ 6 ∧ w_ ≠ 7 ∧ w_ ≠ 8) (hto : to < fr + by_ * N ∧ to ≤ 100 ∧ fr ≤ 100 ∧ 1 ≤ by_ ∧ by_ ≤ 10 ∧ N ≤ 20 ∧ ∀ i, i < N → fr + by_ * i ≤ to) (hwr : ∀ i, i < N → rg (nI (fr + by_ * i)) (bLo w_) (bHi w_)) (hp : p < 4) : PM l9 G mX9_bestOf NT NT [.ref 723, .int x, .int w9, .int y1, .int y2, .int y3, .int z] h (fun v h' => v = some (.int (boN (fun i => nI (fr + by_ * i)) (fun i => coQ r x (upd (fP r x) w_ (nI (fr + by_ * i))) k) N).1) ∧ eqx h h' RTs ∧ (∀ k, k ≠ 27 → aI h' 723 k = aI h 723 k) ∧ MW h' r) noX := by
  refine PM.of (by decide +kernel) rfl rfl (Nat.le_of_ble_eq_true rfl) (fun hst _ => ?_)
  have ex : nn x = p := by rw [hx]; exact nn_I (by omega)
  have hT1 := hO.1.2.1.2.2
  refine r_iconst (-1) dX9_bestOf_0 (by decide) ?_
  refine r_istore (ls2 := [_, _, _, _, _, _, some _, _, _, _, _, _, _]) dX9_bestOf_1 (by decide) rfl ?_
  refine r_lconst (0) dX9_bestOf_3 (by decide) ?_
  refine r_lstore (ls2 := [_, _, _, _, _, _, _, some _, _, none, _, _, _]) dX9_bestOf_4 (by decide) rfl ?_
  refine r_iload_n dX9_bestOf_6 rfl ?_
  refine r_istore (ls2 := [_, _, _, _, _, _, _, _, _, none, _, _, _]) dX9_bestOf_7 (by decide) rfl ?_
  rw [show (y1 : Int32) = nI (fr + by_ * 0) from by rw [e1]; rfl]
  refine loopN (P := fun i => ∀ (H : AH) (z7 z8 : Option Value) (b : Int32) (c : Int64), (boN (fun i => nI (fr + by_ * i)) (fun i => coQ r x (upd (fP r x) w_ (nI (fr + by_ * i))) k) i) = (b, c) → i ≤ N → World H → MW H r → eqx h H RTs → (∀ k, k ≠ 27 → aI H 723 k = aI h 723 k) → PW l9 G mX9_bestOf _ _ NT 9 [some (.ref 723), some (.int x), some (.int w9), some (.int (nI (fr + by_ * 0))), some (.int y2), some (.int y3), some (.int z), some (.int b), some (.long c), none, some (.int (nI (fr + by_ * i))), z7, z8] [] _ H) N (fun i ih H z7 z8 b c hbc hi hW hm he h9 => ?_) 0 _ none none (-1) 0 rfl (Nat.zero_le _) hW hm eqx.rf (fun _ _ => rfl)
  obtain ⟨q1, q2, q3, q4, q5, q6, q7⟩ := hto
  have hi5 : by_ * i ≤ 10 * 20 := Nat.mul_le_mul q5 (by omega)
  refine r_iload dX9_bestOf_9 rfl ?_
  refine r_iload dX9_bestOf_11 rfl ?_
  refine r_icmp_gt 73 dX9_bestOf_13 (by decide) (fun c_13 => ?_) (fun c_13 => ?_)
  · have hge : i = N := by
      refine Classical.byContradiction fun q => ?_
      have c9 := c_13
      rw [e2] at c9
      exact absurd c9 (fun q9 => by
        have := q7 i (by omega)
        have z9 := (nI_ltI (a := to) (b := fr + by_ * i) (by omega) (by omega)).mp q9
        omega)
    subst hge
    refine r_iload dX9_bestOf_73 rfl ?_
    refine r_iret dX9_bestOf_75 rfl ⟨Nat.zero_le _, Nat.zero_le _⟩ ?_
    exact ⟨some_int (by rw [hbc]), he, h9, hm⟩
  · have hlt : i < N := by
      have c9 := c_13
      rw [e2] at c9
      have := (nI_leI (by omega) (by omega)).mp (Int32.not_lt.mp c9)
      refine Classical.byContradiction fun q => ?_
      have := hi
      have e9 : i = N := by omega
      subst e9
      omega
    have hOp := hO.2 p pn
    have hO9 : PoOK (upd (getP r.1 p) w_ (nI (fr + by_ * i))) (getG r.2 p) (nn (r.1 1)) (nn (r.1 1)) := hOp.st (fun j hj => pk_un (by omega)) (pk_un (by omega)) (PoB.upd hOp.1 (fun _ => hwr i hlt)) (by rw [pk_un (by omega), pk_un (by omega)]; exact hOp.2.1.1) (by rw [pk_un (by omega), pk_un (by omega)]; exact hOp.2.1.2)
    have hO1 : RoOK (upP r p (upd (getP r.1 p) w_ (nI (fr + by_ * i)))).1 (upP r p (upd (getP r.1 p) w_ (nI (fr + by_ * i)))).2 m := ro_up hO pn hO9
    have hsim := sim_N hO1 (sim_up (f := upd (getP r.1 p) w_ (nI (fr + by_ * i))) hO pn) k (by omega) (by omega)
    have hCO : getG (tkN k (upP r p (upd (getP r.1 p) w_ (nI (fr + by_ * i))))).2 p 2 - getG (upP r p (upd (getP r.1 p) w_ (nI (fr + by_ * i)))).2 p 2 = coQ r x (upd (fP r x) w_ (nI (fr + by_ * i))) k := by
      unfold coQ TQ gP fP
      rw [ex, ← hsim.2.1 2 (by decide)]
      rfl
    have hbs : boN (fun i => nI (fr + by_ * i)) (fun i => coQ r x (upd (fP r x) w_ (nI (fr + by_ * i))) k) (i + 1) = bsT (b, c) (nI (fr + by_ * i)) (coQ r x (upd (fP r x) w_ (nI (fr + by_ * i))) k) := by rw [boN_s, hbc]
    refine r_aload_n dX9_bestOf_16 rfl ?_
    refine q_callV0 (cv_X9_begins ml_X9_352) hW kc_723 (by decide) rfl ⟨rfl, rfl⟩ rfl (Nat.le_of_ble_eq_true rfl) dX9_bestOf_17 (c_X9_begins hW hm) (fun v_17 h_17 q_17 => ?_)
    obtain ⟨rfl, eB, hB⟩ := q_17
    have hW := eB.W hW
    replace hm := hm.cgH eB (by omega) (by omega)
    replace hm := hm.pv p
    refine r_aload_n dX9_bestOf_20 rfl ?_
    refine r_iload_n dX9_bestOf_21 rfl ?_
    refine r_iload_n dX9_bestOf_22 rfl ?_
    refine r_iload dX9_bestOf_23 rfl ?_
    refine q_callV3 (cv_X9_put ml_X9_64) hW kc_723 (by decide) rfl ⟨rfl, rfl⟩ rfl (Nat.le_of_ble_eq_true rfl) dX9_bestOf_25 (c_X9_put hW hm hp hx ew (by omega)) (fun v_25 h_25 q_25 => ?_)
    obtain ⟨rfl, eT, hm⟩ := q_25
    have hW := eT.W hW
    replace hB := hB.cgH eT (by unfold SM; omega) (by unfold SM; omega)
    replace hm := hm.upP
    refine r_aload_n dX9_bestOf_28 rfl ?_
    refine r_iload_n dX9_bestOf_29 rfl ?_
    refine r_iconst (2) dX9_bestOf_30 (by decide) ?_
    refine r_iload dX9_bestOf_31 rfl ?_
    refine q_callV3 (cv_X9_growsIn ml_X9_361) hW kc_723 (by decide) rfl ⟨rfl, rfl⟩ rfl (Nat.le_of_ble_eq_true rfl) dX9_bestOf_33 (c_X9_growsIn hW hm hO1 hB hp hx kn_2 (by decide) ek (by omega)) (fun v_33 h_33 q_33 => ?_)
    obtain ⟨rfl, eG, fG, hm⟩ := q_33
    have hW := eG.W hW
    rw [hCO]
    refine r_lstore (ls2 := [_, _, _, _, _, _, _, _, _, _, some _, _, none]) dX9_bestOf_36 (by decide) rfl ?_
    refine r_iload dX9_bestOf_38 rfl ?_
    refine r_iconst (-1) dX9_bestOf_40 (by decide) ?_
    refine r_icmp_eq 55 dX9_bestOf_41 (by decide) (fun c_41 => ?_) (fun c_41 => ?_)
    · refine r_iload dX9_bestOf_55 rfl ?_
      refine r_istore (ls2 := [_, _, _, _, _, _, some _, _, _, _, _, _, _]) dX9_bestOf_57 (by decide) rfl ?_
      refine r_lload dX9_bestOf_59 rfl ?_
      refine r_lstore (ls2 := [_, _, _, _, _, _, _, some _, _, none, _, _, _]) dX9_bestOf_61 (by decide) rfl ?_
      refine r_iload dX9_bestOf_63 rfl ?_
      refine r_iload dX9_bestOf_65 rfl ?_
      refine r_iadd dX9_bestOf_67 ?_
      refine r_istore (ls2 := [_, _, _, _, _, _, _, _, _, none, _, _, _]) dX9_bestOf_68 (by decide) rfl ?_
      refine r_goto 9 dX9_bestOf_70 (by decide) ?_
      have e7 := (he.tr (eB.wk (fun i q => by (try unfold RTs); omega))).tr ((eT.wk (fun i q => by unfold SM at q; (try unfold RTs); omega)).tr eG)
      have f7 : ∀ k, k ≠ 27 → aI h_33 723 k = aI h 723 k := fun k hk => by rw [fG k hk, eT.I (by unfold SM; omega), eB.I (by omega), h9 k hk]
      rw [show nI (fr + by_ * i) + y3 = nI (fr + by_ * (i + 1)) from by rw [e3, nI_add, Nat.mul_succ, Nat.add_assoc]]
      first
        | exact ih hlt _ _ _ _ _ (hbs.trans (bsT_t (Or.inl c_41))) hlt hW hm e7 f7
        | exact ih hlt _ _ _ _ _ (hbs.trans (bsT_t (Or.inr (lg_lt.mp c_49)))) hlt hW hm e7 f7
        | exact ih hlt _ _ _ _ _ (hbs.trans (bs_c c_41 c_49)) hlt hW hm e7 f7
    · refine r_lload dX9_bestOf_44 rfl ?_
      refine r_lload dX9_bestOf_46 rfl ?_
      refine r_lcmp dX9_bestOf_48 ?_
      refine r_if_lt 55 dX9_bestOf_49 (by decide) (fun c_49 => ?_) (fun c_49 => ?_)
      · refine r_iload dX9_bestOf_55 rfl ?_
        refine r_istore (ls2 := [_, _, _, _, _, _, some _, _, _, _, _, _, _]) dX9_bestOf_57 (by decide) rfl ?_
        refine r_lload dX9_bestOf_59 rfl ?_
        refine r_lstore (ls2 := [_, _, _, _, _, _, _, some _, _, none, _, _, _]) dX9_bestOf_61 (by decide) rfl ?_
        refine r_iload dX9_bestOf_63 rfl ?_
        refine r_iload dX9_bestOf_65 rfl ?_
        refine r_iadd dX9_bestOf_67 ?_
        refine r_istore (ls2 := [_, _, _, _, _, _, _, _, _, none, _, _, _]) dX9_bestOf_68 (by decide) rfl ?_
        refine r_goto 9 dX9_bestOf_70 (by decide) ?_
        have e7 := (he.tr (eB.wk (fun i q => by (try unfold RTs); omega))).tr ((eT.wk (fun i q => by unfold SM at q; (try unfold RTs); omega)).tr eG)
        have f7 : ∀ k, k ≠ 27 → aI h_33 723 k = aI h 723 k := fun k hk => by rw [fG k hk, eT.I (by unfold SM; omega), eB.I (by omega), h9 k hk]
        rw [show nI (fr + by_ * i) + y3 = nI (fr + by_ * (i + 1)) from by rw [e3, nI_add, Nat.mul_succ, Nat.add_assoc]]
        first
          | exact ih hlt _ _ _ _ _ (hbs.trans (bsT_t (Or.inl c_41))) hlt hW hm e7 f7
          | exact ih hlt _ _ _ _ _ (hbs.trans (bsT_t (Or.inr (lg_lt.mp c_49)))) hlt hW hm e7 f7
          | exact ih hlt _ _ _ _ _ (hbs.trans (bs_c c_41 c_49)) hlt hW hm e7 f7
      · refine r_goto 63 dX9_bestOf_52 (by decide) ?_
        refine r_iload dX9_bestOf_63 rfl ?_
        refine r_iload dX9_bestOf_65 rfl ?_
        refine r_iadd dX9_bestOf_67 ?_
        refine r_istore (ls2 := [_, _, _, _, _, _, _, _, _, none, _, _, _]) dX9_bestOf_68 (by decide) rfl ?_
        refine r_goto 9 dX9_bestOf_70 (by decide) ?_
        have e7 := (he.tr (eB.wk (fun i q => by (try unfold RTs); omega))).tr ((eT.wk (fun i q => by unfold SM at q; (try unfold RTs); omega)).tr eG)
        have f7 : ∀ k, k ≠ 27 → aI h_33 723 k = aI h 723 k := fun k hk => by rw [fG k hk, eT.I (by unfold SM; omega), eB.I (by omega), h9 k hk]
        rw [show nI (fr + by_ * i) + y3 = nI (fr + by_ * (i + 1)) from by rw [e3, nI_add, Nat.mul_succ, Nat.add_assoc]]
        first
          | exact ih hlt _ _ _ _ _ (hbs.trans (bsT_t (Or.inl c_41))) hlt hW hm e7 f7
          | exact ih hlt _ _ _ _ _ (hbs.trans (bsT_t (Or.inr (lg_lt.mp c_49)))) hlt hW hm e7 f7
          | exact ih hlt _ _ _ _ _ (hbs.trans (bs_c c_41 c_49)) hlt hW hm e7 f7

set_option maxRecDepth 100000 in
set_option maxHeartbeats 800000 in
theorem c_X9_bestPolicy {l9 : Launch} {G : GC} {h : AH} {r : Row} {m : Nat} {x y : Int32} (hW : World h) (hm : MW h r) (hO : RoOK r.1 r.2 m) (hm28 : m < 2 ^ 28) (hb : m + 300 < 2 ^ 23) (hI : IvR r m) : PM l9 G mX9_bestPolicy NT NT [.ref 723, .int x, .int y] h (fun v h' => (cd2 (okP r x) (rgB 1 300 y) ≠ 0 → RQ h h' (cd2 (okP r x) (rgB 1 300 y))) ∧ (cd2 (okP r x) (rgB 1 300 y) = 0 → v = some (.int (boPolicy_3 r x (nn y)).1) ∧ RT h h' ∧ MW h' r)) noX := by
  refine PM.of (by decide +kernel) rfl rfl (Nat.le_of_ble_eq_true rfl) (fun hst _ => ?_)
  refine r_aload_n dX9_bestPolicy_0 rfl ?_
  refine r_iload_n dX9_bestPolicy_1 rfl ?_
  refine r_iload_n dX9_bestPolicy_2 rfl ?_
  refine q_callV2 (cv_X9_noSpan ml_X9_349) hW kc_723 (by decide) rfl ⟨rfl, rfl⟩ rfl (Nat.le_of_ble_eq_true rfl) dX9_bestPolicy_3 (c_X9_noSpan hW hm hO hm28) (fun v_3 h_3 q_3 => ?_)
  obtain ⟨rfl, z9⟩ := q_3
  subst z9
  have hW : World (sI h 723 12 (nI (cd2 (okP r x) (rgB 1 300 y)))) := wsI hW
  replace hm := hm.s9 (k := 12) (x := nI (cd2 (okP r x) (rgB 1 300 y)))
  refine r_if_eq 11 dX9_bestPolicy_6 (by decide) (fun c_6 => ?_) (fun c_6 => ?_)
  · have kn : (okP r x && rgB 1 300 y) = true := bn0 c_6
    have kr : rgB 1 300 y = true := (Bool.and_eq_true_iff.mp kn).2
    have ko : okP r x = true := (Bool.and_eq_true_iff.mp kn).1
    have hcd : cd2 (okP r x) (rgB 1 300 y) = 0 := cd2_t ko kr
    obtain ⟨p, hp, pn, hx⟩ := okP_t hO ko
    have ex : nn x = p := by rw [hx]; exact nn_I (by omega)
    have hOp := hO.2 p pn
    have y23 : nn (getP r.1 p 23) ≤ 20 := (hOp.at 23).2.2
    have y24 : nn (getP r.1 p 24) ≤ 24 := (hOp.at 24).2.2
    obtain ⟨k, k1, k2, ek⟩ := rgB_t (a := 1) (b := 300) kr (by decide) (by decide)
    have eyn : nn y = k := by rw [ek]; exact nn_I (by omega)
    have hT1 := hO.1.2.1.2.2
    have hsim := sim_N hO (sim_0 hO pn) k (by omega) (by omega)
    have hTN : TN r x (nn y) = trT p (nn (r.1 1)) k (T0 r p) := by unfold TN; rw [ex, eyn]
    refine r_iconst (-1) dX9_bestPolicy_11 (by decide) ?_
    refine r_istore_n (ls2 := [_, _, some _, _, _, _, _, _, _]) dX9_bestPolicy_12 (by decide) rfl ?_
    refine r_lconst (0) dX9_bestPolicy_13 (by decide) ?_
    refine r_lstore (ls2 := [_, _, _, some _, _, none, _, _, _]) dX9_bestPolicy_14 (by decide) rfl ?_
    refine r_iconst (0) dX9_bestPolicy_16 (by decide) ?_
    refine r_istore (ls2 := [_, _, _, _, _, none, _, _, _]) dX9_bestPolicy_17 (by decide) rfl ?_
    refine loopN (P := fun i => ∀ (H : AH) (z7 : Option Value) (b : Int32) (c : Int64), (boN (fun i => nI i) (fun i => coQ r x (tpS (fP r x) (nI i)) k) i) = (b, c) → i ≤ 3 → World H → MW H r → eqx (sI h 723 12 (nI (cd2 (okP r x) (rgB 1 300 y)))) H RTs → (∀ k, k ≠ 27 → aI H 723 k = aI (sI h 723 12 (nI (cd2 (okP r x) (rgB 1 300 y)))) 723 k) → PW l9 G mX9_bestPolicy _ _ NT 19 [some (.ref 723), some (.int x), some (.int y), some (.int b), some (.long c), none, some (.int (nI i)), z7, none] [] _ H) 3 (fun i ih H z7 b c hbc hi hW hm he h9 => ?_) 0 _ none (-1) 0 rfl (Nat.zero_le _) hW hm eqx.rf (fun _ _ => rfl)
    refine r_iload dX9_bestPolicy_19 rfl ?_
    refine r_iconst (2) dX9_bestPolicy_21 (by decide) ?_
    refine r_icmp_gt 74 dX9_bestPolicy_22 (by decide) (fun c_22 => ?_) (fun c_22 => ?_)
    · have hge : i = 3 := by
        refine Classical.byContradiction fun q => ?_
        exact absurd c_22 (fun q9 => by
          have z9 := (nI_ltI (a := 2) (b := i) (by omega) (by omega)).mp q9
          omega)
      subst hge
      refine r_iload_n dX9_bestPolicy_74 rfl ?_
      refine r_iret dX9_bestPolicy_75 rfl ⟨Nat.zero_le _, Nat.zero_le _⟩ ?_
      have hE := hm
      refine ⟨fun q => absurd hcd q, fun _ => ⟨?_, ⟨?_, ?_, fun k k1 k2 => ?_⟩, hE⟩⟩
      · rw [eyn, boPolicy_is, hbc]
      · exact (eqx.rf.sI (S := RTs) (Or.inl rfl)).tr he
      · rw [h9 12 (by decide), sI_s, hcd]; rfl
      · rw [h9 k k2, sI_k k1]
    · have hlt : i < 3 := by
        have := (nI_leI (a := i) (b := 2) (by omega) (by omega)).mp (Int32.not_lt.mp c_22)
        omega
      have hOp := hO.2 p pn
      have hO9 : PoOK (tpS (getP r.1 p) (nI i)) (getG r.2 p) (nn (r.1 1)) (nn (r.1 1)) := hOp.tp (rg_I (Nat.zero_le _) (by omega) (by decide))
      have hO1 : RoOK (upP r p (tpS (getP r.1 p) (nI i))).1 (upP r p (tpS (getP r.1 p) (nI i))).2 m := ro_up hO pn hO9
      have hsim := sim_N hO1 (sim_up (f := tpS (getP r.1 p) (nI i)) hO pn) k (by omega) (by omega)
      have hCO : getG (tkN k (upP r p (tpS (getP r.1 p) (nI i)))).2 p 2 - getG (upP r p (tpS (getP r.1 p) (nI i))).2 p 2 = coQ r x (tpS (fP r x) (nI i)) k := by
        unfold coQ TQ gP fP
        rw [ex, ← hsim.2.1 2 (by decide)]
        rfl
      have hbs : boN (fun i => nI i) (fun i => coQ r x (tpS (fP r x) (nI i)) k) (i + 1) = bsT (b, c) (nI i) (coQ r x (tpS (fP r x) (nI i)) k) := by rw [boN_s, hbc]
      refine r_aload_n dX9_bestPolicy_25 rfl ?_
      refine q_callV0 (cv_X9_begins ml_X9_352) hW kc_723 (by decide) rfl ⟨rfl, rfl⟩ rfl (Nat.le_of_ble_eq_true rfl) dX9_bestPolicy_26 (c_X9_begins hW hm) (fun v_26 h_26 q_26 => ?_)
      obtain ⟨rfl, eB, hB⟩ := q_26
      have hW := eB.W hW
      replace hm := hm.cgH eB (by omega) (by omega)
      replace hm := hm.pv p
      refine r_aload_n dX9_bestPolicy_29 rfl ?_
      refine r_iload_n dX9_bestPolicy_30 rfl ?_
      refine r_iload dX9_bestPolicy_31 rfl ?_
      refine q_callV2 (cv_X9_tries ml_X9_365) hW kc_723 (by decide) rfl ⟨rfl, rfl⟩ rfl (Nat.le_of_ble_eq_true rfl) dX9_bestPolicy_33 (c_X9_tries hW hm hp hOp hx ((hI p pn).2.1)) (fun v_33 h_33 q_33 => ?_)
      obtain ⟨rfl, eT, hm⟩ := q_33
      have hW := eT.W hW
      replace hB := hB.cgH eT (by unfold SM; omega) (by unfold SM; omega)
      replace hm := hm.upP
      refine r_aload_n dX9_bestPolicy_36 rfl ?_
      refine r_iload_n dX9_bestPolicy_37 rfl ?_
      refine r_iconst (2) dX9_bestPolicy_38 (by decide) ?_
      refine r_iload_n dX9_bestPolicy_39 rfl ?_
      refine q_callV3 (cv_X9_growsIn ml_X9_361) hW kc_723 (by decide) rfl ⟨rfl, rfl⟩ rfl (Nat.le_of_ble_eq_true rfl) dX9_bestPolicy_40 (c_X9_growsIn hW hm hO1 hB hp hx kn_2 (by decide) ek (by omega)) (fun v_40 h_40 q_40 => ?_)
      obtain ⟨rfl, eG, fG, hm⟩ := q_40
      have hW := eG.W hW
      rw [hCO]
      refine r_lstore (ls2 := [_, _, _, _, _, _, some _, _, none]) dX9_bestPolicy_43 (by decide) rfl ?_
      refine r_iload_n dX9_bestPolicy_45 rfl ?_
      refine r_iconst (-1) dX9_bestPolicy_46 (by decide) ?_
      refine r_icmp_eq 61 dX9_bestPolicy_47 (by decide) (fun c_47 => ?_) (fun c_47 => ?_)
      · refine r_iload dX9_bestPolicy_61 rfl ?_
        refine r_istore_n (ls2 := [_, _, some _, _, _, _, _, _, _]) dX9_bestPolicy_63 (by decide) rfl ?_
        refine r_lload dX9_bestPolicy_64 rfl ?_
        refine r_lstore (ls2 := [_, _, _, some _, _, none, _, _, _]) dX9_bestPolicy_66 (by decide) rfl ?_
        refine r_iinc (1) (by decide) (ls2 := [_, _, _, _, _, none, _, _, _]) dX9_bestPolicy_68 rfl (by decide) rfl ?_
        refine r_goto 19 dX9_bestPolicy_71 (by decide) ?_
        have e7 := (he.tr (eB.wk (fun i q => by (try unfold RTs); omega))).tr ((eT.wk (fun i q => by unfold SM at q; (try unfold RTs); omega)).tr eG)
        have f7 : ∀ k, k ≠ 27 → aI h_40 723 k = aI (sI h 723 12 (nI (cd2 (okP r x) (rgB 1 300 y)))) 723 k := fun k hk => by rw [fG k hk, eT.I (by unfold SM; omega), eB.I (by omega), h9 k hk]
        rw [nI_1]
        first
          | exact ih hlt _ _ _ _ (hbs.trans (bsT_t (Or.inl c_47))) hlt hW hm e7 f7
          | exact ih hlt _ _ _ _ (hbs.trans (bsT_t (Or.inr (lg_lt.mp c_55)))) hlt hW hm e7 f7
          | exact ih hlt _ _ _ _ (hbs.trans (bs_c c_47 c_55)) hlt hW hm e7 f7
      · refine r_lload dX9_bestPolicy_50 rfl ?_
        refine r_lload dX9_bestPolicy_52 rfl ?_
        refine r_lcmp dX9_bestPolicy_54 ?_
        refine r_if_lt 61 dX9_bestPolicy_55 (by decide) (fun c_55 => ?_) (fun c_55 => ?_)
        · refine r_iload dX9_bestPolicy_61 rfl ?_
          refine r_istore_n (ls2 := [_, _, some _, _, _, _, _, _, _]) dX9_bestPolicy_63 (by decide) rfl ?_
          refine r_lload dX9_bestPolicy_64 rfl ?_
          refine r_lstore (ls2 := [_, _, _, some _, _, none, _, _, _]) dX9_bestPolicy_66 (by decide) rfl ?_
          refine r_iinc (1) (by decide) (ls2 := [_, _, _, _, _, none, _, _, _]) dX9_bestPolicy_68 rfl (by decide) rfl ?_
          refine r_goto 19 dX9_bestPolicy_71 (by decide) ?_
          have e7 := (he.tr (eB.wk (fun i q => by (try unfold RTs); omega))).tr ((eT.wk (fun i q => by unfold SM at q; (try unfold RTs); omega)).tr eG)
          have f7 : ∀ k, k ≠ 27 → aI h_40 723 k = aI (sI h 723 12 (nI (cd2 (okP r x) (rgB 1 300 y)))) 723 k := fun k hk => by rw [fG k hk, eT.I (by unfold SM; omega), eB.I (by omega), h9 k hk]
          rw [nI_1]
          first
            | exact ih hlt _ _ _ _ (hbs.trans (bsT_t (Or.inl c_47))) hlt hW hm e7 f7
            | exact ih hlt _ _ _ _ (hbs.trans (bsT_t (Or.inr (lg_lt.mp c_55)))) hlt hW hm e7 f7
            | exact ih hlt _ _ _ _ (hbs.trans (bs_c c_47 c_55)) hlt hW hm e7 f7
        · refine r_goto 68 dX9_bestPolicy_58 (by decide) ?_
          refine r_iinc (1) (by decide) (ls2 := [_, _, _, _, _, none, _, _, _]) dX9_bestPolicy_68 rfl (by decide) rfl ?_
          refine r_goto 19 dX9_bestPolicy_71 (by decide) ?_
          have e7 := (he.tr (eB.wk (fun i q => by (try unfold RTs); omega))).tr ((eT.wk (fun i q => by unfold SM at q; (try unfold RTs); omega)).tr eG)
          have f7 : ∀ k, k ≠ 27 → aI h_40 723 k = aI (sI h 723 12 (nI (cd2 (okP r x) (rgB 1 300 y)))) 723 k := fun k hk => by rw [fG k hk, eT.I (by unfold SM; omega), eB.I (by omega), h9 k hk]
          rw [nI_1]
          first
            | exact ih hlt _ _ _ _ (hbs.trans (bsT_t (Or.inl c_47))) hlt hW hm e7 f7
            | exact ih hlt _ _ _ _ (hbs.trans (bsT_t (Or.inr (lg_lt.mp c_55)))) hlt hW hm e7 f7
            | exact ih hlt _ _ _ _ (hbs.trans (bs_c c_47 c_55)) hlt hW hm e7 f7
  · refine r_iconst (0) dX9_bestPolicy_9 (by decide) ?_
    refine r_iret dX9_bestPolicy_10 rfl ⟨Nat.zero_le _, Nat.zero_le _⟩ ?_
    have kn : (okP r x && rgB 1 300 y) = false := bn1 c_6
    refine ⟨fun _ => RQ.of, fun q => absurd q ?_⟩
    unfold cd2
    cases h1 : okP r x
    · exact (by decide : ¬ (1 : Nat) = 0)
    · cases h2 : rgB 1 300 y
      · exact (by decide : ¬ (2 : Nat) = 0)
      · rw [h1, h2] at kn; cases kn

set_option maxRecDepth 100000 in
set_option maxHeartbeats 800000 in
theorem c_X9_bestTarget {l9 : Launch} {G : GC} {h : AH} {r : Row} {m : Nat} {x y : Int32} (hW : World h) (hm : MW h r) (hO : RoOK r.1 r.2 m) (hm28 : m < 2 ^ 28) (hb : m + 300 < 2 ^ 23) : PM l9 G mX9_bestTarget NT NT [.ref 723, .int x, .int y] h (fun v h' => (cd2 (okP r x) (rgB 1 300 y) ≠ 0 → RQ h h' (cd2 (okP r x) (rgB 1 300 y))) ∧ (cd2 (okP r x) (rgB 1 300 y) = 0 → v = some (.int (boTarget_10 r x (nn y)).1) ∧ RT h h' ∧ MW h' r)) noX := by
  refine PM.of (by decide +kernel) rfl rfl (Nat.le_of_ble_eq_true rfl) (fun hst _ => ?_)
  refine r_aload_n dX9_bestTarget_0 rfl ?_
  refine r_iload_n dX9_bestTarget_1 rfl ?_
  refine r_iload_n dX9_bestTarget_2 rfl ?_
  refine q_callV2 (cv_X9_noSpan ml_X9_349) hW kc_723 (by decide) rfl ⟨rfl, rfl⟩ rfl (Nat.le_of_ble_eq_true rfl) dX9_bestTarget_3 (c_X9_noSpan hW hm hO hm28) (fun v_3 h_3 q_3 => ?_)
  obtain ⟨rfl, z9⟩ := q_3
  subst z9
  have hW : World (sI h 723 12 (nI (cd2 (okP r x) (rgB 1 300 y)))) := wsI hW
  replace hm := hm.s9 (k := 12) (x := nI (cd2 (okP r x) (rgB 1 300 y)))
  refine r_if_eq 13 dX9_bestTarget_6 (by decide) (fun c_6 => ?_) (fun c_6 => ?_)
  · have kn : (okP r x && rgB 1 300 y) = true := bn0 c_6
    have kr : rgB 1 300 y = true := (Bool.and_eq_true_iff.mp kn).2
    have ko : okP r x = true := (Bool.and_eq_true_iff.mp kn).1
    have hcd : cd2 (okP r x) (rgB 1 300 y) = 0 := cd2_t ko kr
    obtain ⟨p, hp, pn, hx⟩ := okP_t hO ko
    have ex : nn x = p := by rw [hx]; exact nn_I (by omega)
    have hOp := hO.2 p pn
    have y23 : nn (getP r.1 p 23) ≤ 20 := (hOp.at 23).2.2
    have y24 : nn (getP r.1 p 24) ≤ 24 := (hOp.at 24).2.2
    obtain ⟨k, k1, k2, ek⟩ := rgB_t (a := 1) (b := 300) kr (by decide) (by decide)
    have eyn : nn y = k := by rw [ek]; exact nn_I (by omega)
    have hT1 := hO.1.2.1.2.2
    have hsim := sim_N hO (sim_0 hO pn) k (by omega) (by omega)
    have hTN : TN r x (nn y) = trT p (nn (r.1 1)) k (T0 r p) := by unfold TN; rw [ex, eyn]
    refine r_aload_n dX9_bestTarget_13 rfl ?_
    refine r_iload_n dX9_bestTarget_14 rfl ?_
    refine r_iconst (3) dX9_bestTarget_15 (by decide) ?_
    refine r_bipush (10) dX9_bestTarget_16 (by decide) ?_
    refine r_bipush (100) dX9_bestTarget_18 (by decide) ?_
    refine r_bipush (10) dX9_bestTarget_20 (by decide) ?_
    refine r_iload_n dX9_bestTarget_22 rfl ?_
    refine q_callV6 (cv_X9_bestOf ml_X9_368) hW kc_723 (by decide) rfl ⟨rfl, rfl⟩ rfl (Nat.le_of_ble_eq_true rfl) dX9_bestTarget_23 (c_X9_bestOf (p := p) (k := k) (w_ := 3) (fr := 10) (to := 100) (by_ := 10) (N := 10) hW hm hO hm28 hb ek k1 k2 hx pn kn_3 kn_10 kn_100 kn_10 (by decide) ⟨by decide, by decide, by decide, by decide, by decide, by decide, fun i hi => by omega⟩ (fun i hi => rg_I (show bLo 3 ≤ 10 + 10 * i from by show 10 ≤ _; omega) (show 10 + 10 * i ≤ bHi 3 from by show _ ≤ 100; omega) (by decide)) hp) (fun v_23 h_23 q_23 => ?_)
    obtain ⟨rfl, he, h9, hE⟩ := q_23
    refine r_iret dX9_bestTarget_26 rfl ⟨Nat.zero_le _, Nat.zero_le _⟩ ?_
    first
      | (have kn : (okP r x && rgB 1 300 y) = false := bn1 c_6
         refine ⟨fun _ => RQ.of, fun q => absurd q ?_⟩
         unfold cd2
         cases h1 : okP r x
         · exact (by decide : ¬ (1 : Nat) = 0)
         · cases h2 : rgB 1 300 y
           · exact (by decide : ¬ (2 : Nat) = 0)
           · rw [h1, h2] at kn; cases kn)
      | (refine ⟨fun q => absurd hcd q, fun _ => ⟨?_, ⟨?_, ?_, fun k k1 k2 => ?_⟩, hE⟩⟩
         · rw [eyn, boTarget_is]
         · exact (eqx.rf.sI (S := RTs) (Or.inl rfl)).tr he
         · rw [h9 12 (by decide), sI_s, hcd]; rfl
         · rw [h9 k k2, sI_k k1])
  · refine r_iconst (0) dX9_bestTarget_9 (by decide) ?_
    refine r_goto 26 dX9_bestTarget_10 (by decide) ?_
    refine r_iret dX9_bestTarget_26 rfl ⟨Nat.zero_le _, Nat.zero_le _⟩ ?_
    first
      | (have kn : (okP r x && rgB 1 300 y) = false := bn1 c_6
         refine ⟨fun _ => RQ.of, fun q => absurd q ?_⟩
         unfold cd2
         cases h1 : okP r x
         · exact (by decide : ¬ (1 : Nat) = 0)
         · cases h2 : rgB 1 300 y
           · exact (by decide : ¬ (2 : Nat) = 0)
           · rw [h1, h2] at kn; cases kn)
      | (refine ⟨fun q => absurd hcd q, fun _ => ⟨?_, ⟨?_, ?_, fun k k1 k2 => ?_⟩, hE⟩⟩
         · rw [eyn, boTarget_is]
         · exact (eqx.rf.sI (S := RTs) (Or.inl rfl)).tr he
         · rw [h9 12 (by decide), sI_s, hcd]; rfl
         · rw [h9 k k2, sI_k k1])

set_option maxRecDepth 100000 in
set_option maxHeartbeats 800000 in
theorem c_X9_bestCool {l9 : Launch} {G : GC} {h : AH} {r : Row} {m : Nat} {x y : Int32} (hW : World h) (hm : MW h r) (hO : RoOK r.1 r.2 m) (hm28 : m < 2 ^ 28) (hb : m + 300 < 2 ^ 23) : PM l9 G mX9_bestCool NT NT [.ref 723, .int x, .int y] h (fun v h' => (cd2 (okP r x) (rgB 1 300 y) ≠ 0 → RQ h h' (cd2 (okP r x) (rgB 1 300 y))) ∧ (cd2 (okP r x) (rgB 1 300 y) = 0 → v = some (.int (boCool_7 r x (nn y)).1) ∧ RT h h' ∧ MW h' r)) noX := by
  refine PM.of (by decide +kernel) rfl rfl (Nat.le_of_ble_eq_true rfl) (fun hst _ => ?_)
  refine r_aload_n dX9_bestCool_0 rfl ?_
  refine r_iload_n dX9_bestCool_1 rfl ?_
  refine r_iload_n dX9_bestCool_2 rfl ?_
  refine q_callV2 (cv_X9_noSpan ml_X9_349) hW kc_723 (by decide) rfl ⟨rfl, rfl⟩ rfl (Nat.le_of_ble_eq_true rfl) dX9_bestCool_3 (c_X9_noSpan hW hm hO hm28) (fun v_3 h_3 q_3 => ?_)
  obtain ⟨rfl, z9⟩ := q_3
  subst z9
  have hW : World (sI h 723 12 (nI (cd2 (okP r x) (rgB 1 300 y)))) := wsI hW
  replace hm := hm.s9 (k := 12) (x := nI (cd2 (okP r x) (rgB 1 300 y)))
  refine r_if_eq 13 dX9_bestCool_6 (by decide) (fun c_6 => ?_) (fun c_6 => ?_)
  · have kn : (okP r x && rgB 1 300 y) = true := bn0 c_6
    have kr : rgB 1 300 y = true := (Bool.and_eq_true_iff.mp kn).2
    have ko : okP r x = true := (Bool.and_eq_true_iff.mp kn).1
    have hcd : cd2 (okP r x) (rgB 1 300 y) = 0 := cd2_t ko kr
    obtain ⟨p, hp, pn, hx⟩ := okP_t hO ko
    have ex : nn x = p := by rw [hx]; exact nn_I (by omega)
    have hOp := hO.2 p pn
    have y23 : nn (getP r.1 p 23) ≤ 20 := (hOp.at 23).2.2
    have y24 : nn (getP r.1 p 24) ≤ 24 := (hOp.at 24).2.2
    obtain ⟨k, k1, k2, ek⟩ := rgB_t (a := 1) (b := 300) kr (by decide) (by decide)
    have eyn : nn y = k := by rw [ek]; exact nn_I (by omega)
    have hT1 := hO.1.2.1.2.2
    have hsim := sim_N hO (sim_0 hO pn) k (by omega) (by omega)
    have hTN : TN r x (nn y) = trT p (nn (r.1 1)) k (T0 r p) := by unfold TN; rw [ex, eyn]
    refine r_aload_n dX9_bestCool_13 rfl ?_
    refine r_iload_n dX9_bestCool_14 rfl ?_
    refine r_bipush (13) dX9_bestCool_15 (by decide) ?_
    refine r_iconst (0) dX9_bestCool_17 (by decide) ?_
    refine r_bipush (30) dX9_bestCool_18 (by decide) ?_
    refine r_iconst (5) dX9_bestCool_20 (by decide) ?_
    refine r_iload_n dX9_bestCool_21 rfl ?_
    refine q_callV6 (cv_X9_bestOf ml_X9_368) hW kc_723 (by decide) rfl ⟨rfl, rfl⟩ rfl (Nat.le_of_ble_eq_true rfl) dX9_bestCool_22 (c_X9_bestOf (p := p) (k := k) (w_ := 13) (fr := 0) (to := 30) (by_ := 5) (N := 7) hW hm hO hm28 hb ek k1 k2 hx pn kn_13 kn_0 kn_30 kn_5 (by decide) ⟨by decide, by decide, by decide, by decide, by decide, by decide, fun i hi => by omega⟩ (fun i hi => rg_I (show bLo 13 ≤ 0 + 5 * i from by show 0 ≤ _; omega) (show 0 + 5 * i ≤ bHi 13 from by show _ ≤ 30; omega) (by decide)) hp) (fun v_22 h_22 q_22 => ?_)
    obtain ⟨rfl, he, h9, hE⟩ := q_22
    refine r_iret dX9_bestCool_25 rfl ⟨Nat.zero_le _, Nat.zero_le _⟩ ?_
    first
      | (have kn : (okP r x && rgB 1 300 y) = false := bn1 c_6
         refine ⟨fun _ => RQ.of, fun q => absurd q ?_⟩
         unfold cd2
         cases h1 : okP r x
         · exact (by decide : ¬ (1 : Nat) = 0)
         · cases h2 : rgB 1 300 y
           · exact (by decide : ¬ (2 : Nat) = 0)
           · rw [h1, h2] at kn; cases kn)
      | (refine ⟨fun q => absurd hcd q, fun _ => ⟨?_, ⟨?_, ?_, fun k k1 k2 => ?_⟩, hE⟩⟩
         · rw [eyn, boCool_is]
         · exact (eqx.rf.sI (S := RTs) (Or.inl rfl)).tr he
         · rw [h9 12 (by decide), sI_s, hcd]; rfl
         · rw [h9 k k2, sI_k k1])
  · refine r_iconst (0) dX9_bestCool_9 (by decide) ?_
    refine r_goto 25 dX9_bestCool_10 (by decide) ?_
    refine r_iret dX9_bestCool_25 rfl ⟨Nat.zero_le _, Nat.zero_le _⟩ ?_
    first
      | (have kn : (okP r x && rgB 1 300 y) = false := bn1 c_6
         refine ⟨fun _ => RQ.of, fun q => absurd q ?_⟩
         unfold cd2
         cases h1 : okP r x
         · exact (by decide : ¬ (1 : Nat) = 0)
         · cases h2 : rgB 1 300 y
           · exact (by decide : ¬ (2 : Nat) = 0)
           · rw [h1, h2] at kn; cases kn)
      | (refine ⟨fun q => absurd hcd q, fun _ => ⟨?_, ⟨?_, ?_, fun k k1 k2 => ?_⟩, hE⟩⟩
         · rw [eyn, boCool_is]
         · exact (eqx.rf.sI (S := RTs) (Or.inl rfl)).tr he
         · rw [h9 12 (by decide), sI_s, hcd]; rfl
         · rw [h9 k k2, sI_k k1])
