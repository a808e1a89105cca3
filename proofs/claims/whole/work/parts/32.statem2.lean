/-- the objects of the State at b -/
def SB (b : Nat) : Nat → Prop := fun i => b ≤ i ∧ i ≤ b + 54
theorem SS_SB {b p : Nat} (hp : p < 4) (i : Nat) (h : SS b p i) : SB b i := by unfold SS SB btw at *; omega
theorem StR.eqx {h h' : AH} {b : Nat} {w : Nat → Int32} {v : Nat → Int64} {S : Nat → Prop} (hs : StR h b w v) (e : eqx h h' S) (h4 : nn (w 0) ≤ 4) (hS : ∀ i, b ≤ i → i ≤ b + 54 → ¬ S i) : StR h' b w v := by
  refine ⟨?_, ?_, ?_, hs.2.2.2.1.eqx e (fun i h1 h2 => hS i (by omega) (by omega)), fun p hp => (hs.2.2.2.2 p hp).eqx e (fun i h1 h2 => hS i (by omega) (by omega))⟩
  · rw [e.I (hS b (by omega) (by omega))]; exact hs.1
  · rw [e.I (hS b (by omega) (by omega))]; exact hs.2.1
  · rw [e.I (hS b (by omega) (by omega))]; exact hs.2.2.1
theorem tk_evs {w : Nat → Int32} {q : Q4} {p k : Nat} (hk : k < 240) : putQ p q (4 + k) = qW q (4 + k) := putQ_k (by omega) (by omega) (by omega)
set_option maxRecDepth 100000 in
set_option maxHeartbeats 4000000 in
theorem c_X6_tickAll {l9 : Launch} {G : GC} {h : AH} {b : Nat} {r : Row} {m : Nat} (hW : World h) (hk : kd b 6) (hs : StR h b r.1 r.2) (hO : RoOK r.1 r.2 m) (hm : 100 + 20 * (m + 1) < 2 ^ 28) : PM l9 G mX6_tickAll NT NT [.ref b] h (fun v h' => v = none ∧ eqx h h' (SB b) ∧ StR h' b (tickW r).1 (tickW r).2) noX := by
  refine PM.of (by decide +kernel) rfl rfl (Nat.le_of_ble_eq_true rfl) (fun hst _ => ?_)
  obtain ⟨s1, s2, s3, s4, s5⟩ := hs
  obtain ⟨np, n1, n2, n3⟩ := hO.1.1.nat
  obtain ⟨t, t1, t2, t3⟩ := hO.1.2.1.nat
  have en : nn (r.1 0) = np := by rw [n3]; exact nn_I (by omega)
  have et : nn (r.1 1) = t := by rw [t3]; exact nn_I (by omega)
  have inv := tk_inv hO et en hm
  refine r_iconst (0) dX6_tickAll_0 (by decide) ?_
  refine r_istore_n (ls2 := [some _, _]) dX6_tickAll_1 (by decide) rfl ?_
  refine loopN (P := fun i => ∀ H : AH, i ≤ np → eqx h H (SB b) → (∀ k, k ≠ 3 → aI H b k = aI h b k) → aI H b 3 = (tkS t i r).1 2 → EvW H (b + 2) (tkS t i r).1 (nn ((tkS t i r).1 3)) → (∀ p, p < i → PoR H (b + 7 + 12 * p) (t + 1) (t + 1) (getP (tkS t i r).1 p) (getG (tkS t i r).2 p)) → (∀ p, i ≤ p → p < np → PoR H (b + 7 + 12 * p) t t (getP r.1 p) (getG r.2 p)) → PW l9 G mX6_tickAll _ _ NT 2 [some (.ref b), some (.int (nI i))] [] (0, 0) H) np (fun i ih H hi he hb h3 hE hp1 hp2 => ?_) 0 h (Nat.zero_le _) eqx.rf (fun _ _ => rfl) s3 s4 (fun p hp => absurd hp (Nat.not_lt_zero _)) (fun p _ hp => by have := s5 p (by omega); rwa [et] at this)
  have hWH := he.W hW
  have h1H : aI H b 1 = nI np := ((hb 1 (by decide)).trans s1).trans n3
  have h2H : aI H b 2 = nI t := ((hb 2 (by decide)).trans s2).trans t3
  obtain ⟨i1, i2, i3, i4, i5, i6⟩ := inv i hi
  refine r_iload_n dX6_tickAll_2 rfl ?_
  refine r_aload_n dX6_tickAll_3 rfl ?_
  refine q_getI fl_X6_25 hWH hk rfl dX6_tickAll_4 ?_
  rw [h1H]
  refine r_icmp_ge 21 dX6_tickAll_7 (by decide) (fun c_7 => ?_) (fun c_7 => ?_)
  · have hge : np = i := by have := (nI_leI (by omega) (by omega)).mp c_7; omega
    refine r_aload_n dX6_tickAll_21 rfl ?_
    refine r_dup dX6_tickAll_22 rfl ?_
    refine q_getI fl_X6_29 hWH hk rfl dX6_tickAll_23 ?_
    refine r_iconst (1) dX6_tickAll_26 (by decide) ?_
    refine r_iadd dX6_tickAll_27 ?_
    rw [h2H, nI_1]
    refine q_putI fl_X6_29 hWH hk rfl rfl dX6_tickAll_28 ?_
    refine r_vret dX6_tickAll_31 rfl ⟨Nat.zero_le _, Nat.zero_le _⟩ ?_
    subst hge
    refine ⟨rfl, he.sI (by unfold SB; omega), ?_⟩
    have w1 : (tickW r).1 = upd (tkS t np r).1 1 (nI (t + 1)) := by rw [tickW_1, et, en]
    have w2 : (tickW r).2 = (tkS t np r).2 := by
      show (tkS (nn (r.1 1)) (nn (r.1 0)) r).2 = _
      rw [et, en]
    have eh : eqx H (sI H b 2 (nI (t + 1))) (fun i => i = b) := eqx.rf.sI rfl
    rw [w1, w2]
    refine ⟨?_, ?_, ?_, ?_, fun p hp => ?_⟩
    · rw [sI_k (by decide), pk_un (by decide), i1]; exact h1H.trans n3.symm
    · rw [sI_s, pk_us]
    · rw [sI_k (by decide), pk_un (by decide)]; exact h3
    · rw [pk_un (show 3 ≠ 1 by decide)]
      exact (hE.eqx eh (fun i h1 h2 q => by omega)).cg (fun k hk9 => pk_un (by omega))
    · rw [pk_un (show 0 ≠ 1 by decide), i1, en] at hp
      rw [pk_us, nn_I (by omega), getP_cg (w := (tkS t np r).1) (fun k hk => pk_un (by omega))]
      exact (hp1 p hp).eqx eh (fun i h1 h2 q => by omega)
  · have hlt : i < np := (nI_ltI (by omega) (by omega)).mp (i_lt.mp c_7)
    obtain ⟨x, x1, x2, x3⟩ := i3.nat
    obtain ⟨y, y1, y2, y3⟩ := i4.nat
    have ex : nn ((tkS t i r).1 2) = x := by rw [x3]; exact nn_I (by omega)
    have ey : nn ((tkS t i r).1 3) = y := by rw [y3]; exact nn_I (by omega)
    have hq : SQ H b i t t (rowQ (tkS t i r).1 i) (getG (tkS t i r).2 i) := by
      refine ⟨?_, hE, ?_⟩
      · show _ = nI (nn ((tkS t i r).1 2)); rw [ex, ← x3]; exact h3
      · show PoR _ _ _ _ (getP (tkS t i r).1 i) _
        rw [(i6 i (Nat.le_refl i)).1, (i6 i (Nat.le_refl i)).2]
        exact hp2 i (Nat.le_refl i) hlt
    have hOi : PoOK (qF (rowQ (tkS t i r).1 i)) (getG (tkS t i r).2 i) t t := by
      show PoOK (getP (tkS t i r).1 i) _ _ _
      rw [(i6 i (Nat.le_refl i)).1, (i6 i (Nat.le_refl i)).2]
      have := hO.2 i (by omega)
      rwa [et] at this
    obtain ⟨j1, j2, j3, -⟩ := pas_ok (p := i) hOi (by omega)
    have j2' : qX (pasQ i t (rowQ (tkS t i r).1 i)) ≤ nn ((tkS t i r).1 2) + 5 := j2
    have j3' : qE (pasQ i t (rowQ (tkS t i r).1 i)) ≤ nn ((tkS t i r).1 3) + 5 := j3
    refine r_aload_n dX6_tickAll_10 rfl ?_
    refine r_iload_n dX6_tickAll_11 rfl ?_
    refine q_callV1 (cv_X6_passPhases ml_X6_80) hWH hk (by decide) rfl ⟨rfl, rfl⟩ rfl (Nat.le_of_ble_eq_true rfl) dX6_tickAll_12 (c_X6_passPhases hWH hk (by omega) h2H hq hOi (by omega) (show nn ((tkS t i r).1 3) < 2 ^ 30 by omega)) (fun v_12 h_12 q_12 => ?_)
    obtain ⟨rfl, he1, hb1, hq1⟩ := q_12
    refine r_iinc (1) (by decide) (ls2 := [some _, _]) dX6_tickAll_15 rfl (by decide) rfl ?_
    refine r_goto 2 dX6_tickAll_18 (by decide) ?_
    rw [nI_1]
    have e1 : getP (tkS t (i + 1) r).1 i = trP (qF (pasQ i t (rowQ (tkS t i r).1 i))) := putQ_p
    have e2 : getG (tkS t (i + 1) r).2 i = trG (pasG (getP (tkS t i r).1 i) (getG (tkS t i r).2 i) t) := getG_set
    refine ih hlt _ hlt (he.tr (he1.wk (SS_SB (by omega)))) (fun k hk9 => (hb1 k hk9).trans (hb k hk9)) ?_ ?_ (fun p hp => ?_) (fun p hp hp9 => ?_)
    · exact hq1.1.trans putQ_2.symm
    · have e3 : nn ((tkS t (i + 1) r).1 3) = qE (pasQ i t (rowQ (tkS t i r).1 i)) := by
        show nn (putQ i (pasQ i t (rowQ (tkS t i r).1 i)) 3) = _
        rw [putQ_3]; exact nn_I (by omega)
      rw [e3]
      exact hq1.2.1.cg (fun k hk9 => tk_evs (w := r.1) hk9)
    · by_cases e : p = i
      · rw [e, e1, e2]
        exact hq1.2.2.tr j1
      · have e4 : getP (tkS t (i + 1) r).1 p = getP (tkS t i r).1 p := by
          show getP (putQ i (pasQ i t (rowQ (tkS t i r).1 i))) p = _
          rw [putQ_o e]
          exact getP_cg (fun k hk => pas_W (by omega))
        have e5 : getG (tkS t (i + 1) r).2 p = getG (tkS t i r).2 p := getG_ne e
        rw [e4, e5]
        exact (hp1 p (by omega)).eqx he1 (fun j h1 h2 => by unfold SS btw; omega)
    · exact (hp2 p (by omega) hp9).eqx he1 (fun j h1 h2 => by unfold SS btw; omega)
