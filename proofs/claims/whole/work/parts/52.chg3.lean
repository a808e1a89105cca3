-- the class: grow, drop, transfer, drop cold
theorem sq_row {h : AH} {r : Row} {m p : Nat} (hs : StR h 7 r.1 r.2) (hO : RoOK r.1 r.2 m) (hp : p < nn (r.1 0)) : SQ h 7 p (nn (r.1 1)) (nn (r.1 1)) (rowQ r.1 p) (getG r.2 p) := ⟨hs.2.2.1.trans hO.1.2.2.1.1, hs.2.2.2.1, hs.po hp⟩
theorem putQ_lo {p k : Nat} {q : Q4} {w : Nat → Int32} (hw : ∀ k, k < 4 ∨ 244 ≤ k → qW q k = w k) (hk : k < 2) : putQ p q k = w k := (putQ_k (by omega) (by omega) (by omega)).trans (hw k (by omega))
theorem putQ_op {p j : Nat} {q : Q4} {w : Nat → Int32} (hw : ∀ k, k < 4 ∨ 244 ≤ k → qW q k = w k) (h : j ≠ p) : getP (putQ p q) j = getP w j := by
  rw [putQ_o h]; exact getP_cg (fun k hk => hw _ (by omega))
theorem st_q {h h' : AH} {r : Row} {m p : Nat} {q : Q4} (hs : StR h 7 r.1 r.2) (hO : RoOK r.1 r.2 m) (hp : p < nn (r.1 0)) (e : eqx h h' (SS 7 p)) (e3 : ∀ k, k ≠ 3 → aI h' 7 k = aI h 7 k) (hq : SQ h' 7 p (nn (r.1 1)) (nn (r.1 1)) q (getG r.2 p)) (hw : ∀ k, k < 4 ∨ 244 ≤ k → qW q k = r.1 k) (hE : qE q < 2 ^ 31) (y23 : nn (qF q 23) ≤ 20) (y24 : nn (qF q 24) ≤ 24) : StR h' 7 (putQ p q) r.2 := by
  obtain ⟨s1, s2, s3, s4, s5⟩ := hs
  obtain ⟨q1, q2, q3⟩ := hq
  have h04 : nn (r.1 0) ≤ 4 := hO.1.1.2.2
  unfold StR
  rw [putQ_lo hw (by decide), putQ_lo hw (by decide), putQ_2, putQ_3, nn_I hE]
  refine ⟨(e3 1 (by decide)).trans s1, (e3 2 (by decide)).trans s2, q1, ?_, fun j hj => ?_⟩
  · unfold EvW at q2 ⊢
    refine ⟨q2.1, fun j j1 j2 => ?_⟩
    rw [putQ_k (by omega) (by omega) (by omega), putQ_k (by omega) (by omega) (by omega), putQ_k (by omega) (by omega) (by omega), putQ_k (by omega) (by omega) (by omega)]
    exact q2.2 j j1 j2
  · by_cases e9 : j = p
    · subst e9
      rw [putQ_p]
      exact q3.cgF y23 y24 (fun k hk => trP_k hk) (fun k hk => rfl)
    · rw [putQ_op hw e9]
      exact (s5 j hj).eqx e (fun i h1 h2 => by unfold SS btw; omega)
theorem ro_q {r : Row} {m p : Nat} {q : Q4} (hO : RoOK r.1 r.2 m) (hf : PoOK (qF q) (getG r.2 p) (nn (r.1 1)) (nn (r.1 1))) (hw : ∀ k, k < 4 ∨ 244 ≤ k → qW q k = r.1 k) (hX : qX q ≤ 100 + 20 * (m + 1)) (hE : qE q ≤ 100 + 20 * (m + 1)) (hb : 100 + 20 * (m + 1) < 2 ^ 28) : RoOK (putQ p q) r.2 (m + 1) := by
  unfold RoOK
  rw [putQ_lo hw (by decide), putQ_lo hw (by decide), putQ_2, putQ_3]
  refine ⟨⟨hO.1.1, hO.1.2.1.wk (Nat.le_refl _) (by omega), rg_I (Nat.zero_le _) hX (by omega), rg_I (Nat.zero_le _) hE (by omega)⟩, fun j hj => ?_⟩
  by_cases e9 : j = p
  · subst e9
    rw [putQ_p]
    exact hf.cgF (fun k hk => trP_k hk) (fun k hk => rfl)
  · rw [putQ_op hw e9]; exact hO.2 j hj
theorem go_W {p t k j : Nat} {q : Q4} {w : Nat → Int32} (hw : ∀ k, k < 4 ∨ 244 ≤ k → qW q k = w k) (h : j < 4 ∨ 244 ≤ j) : qW (goQ p t k q) j = w j := (evP_o h).trans (hw j h)
theorem co_W {p t j : Nat} {q : Q4} {rd : Int32} {w : Nat → Int32} (hw : ∀ k, k < 4 ∨ 244 ≤ k → qW q k = w k) (h : j < 4 ∨ 244 ≤ j) : qW (comQ p t rd q) j = w j := (evP_o h).trans (hw j h)
theorem SS_7 {p : Nat} (hp : p < 4) {i : Nat} (h : SS 7 p i) : SB 7 i := SS_SB hp i h
def spB (f : Nat → Int32) (k : Nat) : Bool := decide (nn (f 0) < nn (f 23)) && !decide (f (103 + 4 * k) = 1)
/-- a member goes; members come -/
def goR (r : Row) (p k : Nat) : Row := (putQ p (goQ p (nn (r.1 1)) k (rowQ r.1 p)), r.2)
def grR (r : Row) (p n : Nat) : Row := (putQ p (grS p (nn (r.1 1)) (r.1 1 + getP r.1 p 4) n (rowQ r.1 p)), r.2)
theorem go_23 {r : Row} {m p k : Nat} (hO : RoOK r.1 r.2 m) (hp : p < nn (r.1 0)) (hk : k < nn (getP r.1 p 23)) : getP (goR r p k).1 p 23 = nI (nn (getP r.1 p 23) - 1) := by
  have h := ((hO.2 p hp).at 23).1
  show getP (putQ p _) p 23 = _
  rw [putQ_p, trP_k (by decide)]
  show goF (getP r.1 p) k 23 = _
  unfold goF
  rw [if_pos rfl]
  exact (congrArg (· - 1) h).trans (nI_s1 (by omega))
theorem goR_ok {r : Row} {m p k : Nat} (hO : RoOK r.1 r.2 m) (hp : p < nn (r.1 0)) (hk : k < nn (getP r.1 p 23)) (hb : 100 + 20 * (m + 1) < 2 ^ 28) : RoOK (goR r p k).1 (goR r p k).2 (m + 1) := by
  have h2 := hO.1.2.2.1.2.2
  have h3 := hO.1.2.2.2.2.2
  refine ro_q (r := r) hO ((hO.2 p hp).go hk) (fun j hj => go_W (fun _ _ => rfl) hj) ?_ ?_ hb
  · show nn (r.1 2) ≤ _; omega
  · show nn (r.1 3) + 1 ≤ _; omega
theorem grR_ok {r : Row} {m p n : Nat} (hO : RoOK r.1 r.2 m) (hp : p < nn (r.1 0)) (hn : nn (getP r.1 p 23) + n ≤ 20) (hb : 100 + 20 * (m + 1) < 2 ^ 28) : RoOK (grR r p n).1 (grR r p n).2 (m + 1) ∧ getP (grR r p n).1 p 23 = nI (nn (getP r.1 p 23) + n) := by
  have h2 := hO.1.2.2.1.2.2
  have h3 := hO.1.2.2.2.2.2
  obtain ⟨z1, z2, z3, z4, z5⟩ := zr_ok (p := p) (t := nn (r.1 1)) (n := n) (r := r.1 1 + getP r.1 p 4) (q := rowQ r.1 p) (hO.2 p hp) hn
  have z3' : qX (grS p (nn (r.1 1)) (r.1 1 + getP r.1 p 4) n (rowQ r.1 p)) = nn (r.1 2) + n := z3
  have z4' : qE (grS p (nn (r.1 1)) (r.1 1 + getP r.1 p 4) n (rowQ r.1 p)) = nn (r.1 3) + n := z4
  refine ⟨ro_q (r := r) hO z1 (fun j hj => gr_W hj) (by omega) (by omega) hb, ?_⟩
  show getP (putQ p _) p 23 = _
  rw [putQ_p, trP_k (by decide), (z1.at 23).1, z2]; rfl
def dpC (r : Row) (x : Int32) : Nat := match mbP r x, mbK r x with
  | some p, some k => if spB (getP r.1 p) k then 0 else 1
  | _, _ => 2
def dpR (r : Row) (x : Int32) : Row := match mbP r x, mbK r x with
  | some p, some k => goR r p k
  | _, _ => r
def dpA (r : Row) (x : Int32) : Int32 := match mbP r x with
  | some p => getP (dpR r x).1 p 23
  | none => 0
theorem dpC_n {r : Row} {x : Int32} (h : mbP r x = none) : dpC r x = 2 := by unfold dpC; rw [h]
theorem dpC_s {r : Row} {x : Int32} {p k : Nat} (h1 : mbP r x = some p) (h2 : mbK r x = some k) : dpC r x = if spB (getP r.1 p) k then 0 else 1 := by unfold dpC; rw [h1, h2]
theorem dpR_s {r : Row} {x : Int32} {p k : Nat} (h1 : mbP r x = some p) (h2 : mbK r x = some k) : dpR r x = goR r p k := by unfold dpR; rw [h1, h2]
theorem dpA_s {r : Row} {x : Int32} {p k : Nat} (h1 : mbP r x = some p) (h2 : mbK r x = some k) : dpA r x = getP (goR r p k).1 p 23 := by unfold dpA; rw [h1, dpR_s h1 h2]
theorem mb_none {r : Row} {x : Int32} (h : mbK r x = none) : mbP r x = none := by
  cases hq : mbP r x with
  | none => rfl
  | some p => obtain ⟨_, k, hk, _⟩ := mb_some hq; rw [h] at hk; cases hk
set_option maxRecDepth 100000 in
set_option maxHeartbeats 4000000 in
theorem c_X8_drop {l9 : Launch} {G : GC} {h : AH} {r : Row} {m : Nat} {L : List Row} {x : Int32} (hW : World h) (hs : StR h 7 r.1 r.2) (hO : RoOK r.1 r.2 m) (hL : PsC h L) (hLO : LsOK L m) (hb : m + 300 < 2 ^ 23) : PM l9 G mX8_drop NT NT [.ref 1, .int x] h (fun v h' => dpC r x = 0 ∧ v = some (.int (dpA r x)) ∧ CFr h h' ∧ StR h' 7 (dpR r x).1 (dpR r x).2 ∧ PsC h' (pushL L r)) (fun E h' => thr [eS, eN] (dpC r x) E ∧ h' = h) := by
  refine PM.of (by decide +kernel) rfl rfl (Nat.le_of_ble_eq_true rfl) (fun hst _ => ?_)
  have hk8 := RoOK.k8 (x := x) hs hO
  refine r_aload_n dX8_drop_0 rfl ?_
  refine q_getR fl_X8_37 hW kc_1 rfl (kl_8_6 hW) (by decide) dX8_drop_1 ?_
  refine r_iload_n dX8_drop_4 rfl ?_
  refine q_callV1 (cv_X6_homeOf ml_X8_152) hW kc_7 (by decide) rfl ⟨rfl, rfl⟩ rfl (Nat.le_of_ble_eq_true rfl) dX8_drop_5 (c_X6_homeOf hW kc_7 hs hO) (fun v_5 h_5 q_5 => ?_)
  obtain ⟨rfl, z9⟩ := q_5
  replace z9 := z9.symm
  subst z9
  refine r_istore_n (ls2 := [_, some _, _, _, _]) dX8_drop_8 (by decide) rfl ?_
  refine r_aload_n dX8_drop_9 rfl ?_
  refine q_getR fl_X8_37 hW kc_1 rfl (kl_8_6 hW) (by decide) dX8_drop_10 ?_
  refine r_iload_n dX8_drop_13 rfl ?_
  refine r_iload_n dX8_drop_14 rfl ?_
  refine q_callV2 (cv_X6_placeIn ml_X8_155) hW kc_7 (by decide) rfl ⟨rfl, rfl⟩ rfl (Nat.le_of_ble_eq_true rfl) dX8_drop_15 (c_X6_placeIn hW kc_7 hs hO (fun p hp => (fi_lt hp).1)) (fun v_15 h_15 q_15 => ?_)
  obtain ⟨rfl, z9⟩ := q_15
  replace z9 := z9.symm
  subst z9
  refine r_istore_n (ls2 := [_, _, some _, _, _]) dX8_drop_18 (by decide) rfl ?_
  refine r_iload_n dX8_drop_19 rfl ?_
  change PW _ _ _ _ _ _ _ _ (.int (oI (mbK r x)) :: _) _ _
  refine r_if_ge 33 dX8_drop_20 (by decide) (fun c_20 => ?_) (fun c_20 => ?_)
  · obtain ⟨p, hp9⟩ : ∃ p, mbP r x = some p := by
      cases hq : mbP r x with
      | none => exact absurd (show oI (mbK r x) < 0 from by unfold mbK; rw [hq]; exact (by decide : (-1 : Int32) < 0)) (Int32.not_lt.mpr c_20)
      | some p => exact ⟨p, rfl⟩
    obtain ⟨p2, k, zk, zl⟩ := mb_some hp9
    have zkl := plS_lt zl
    obtain ⟨np, n4, n3, en⟩ := hO.np
    have p1 : p < 4 := by omega
    have hOp := hO.2 p p2
    have hLq := hL.2.1
    have h04 : nn (r.1 0) ≤ 4 := hO.1.1.2.2
    have y23 : nn (getP r.1 p 23) ≤ 20 := (hOp.at 23).2.2
    have y24 : nn (getP r.1 p 24) ≤ 24 := (hOp.at 24).2.2
    have hp8 : hmS r.1 x (nn (r.1 0)) = some p := hp9
    have hk8' : (hmS r.1 x (nn (r.1 0))).bind (plS r.1 x) = some k := zk
    have hpo := hs.po p2
    simp only [hp8, Option.bind_some, zl]
    refine r_aload_n dX8_drop_33 rfl ?_
    refine q_getR fl_X8_37 hW kc_1 rfl (kl_8_6 hW) (by decide) dX8_drop_34 ?_
    refine q_getR fl_X8_164 hW kc_7 rfl (kl_6_0 hW kc_7) (Nat.succ_ne_zero _) dX8_drop_37 ?_
    refine r_iload_n dX8_drop_40 rfl ?_
    refine q_pald hW (kk_6_0 kc_7) rfl p1 dX8_drop_41 ?_
    refine r_astore (ls2 := [_, _, _, some _, _]) dX8_drop_42 (by decide) rfl ?_
    refine r_aload dX8_drop_44 rfl ?_
    refine r_iload_n dX8_drop_46 rfl ?_
    refine q_callV1 (cv_X3_canSpare ml_X8_314) hW (kk_14 (kk_6_0 kc_7).1 p1) (by decide) rfl ⟨rfl, rfl⟩ rfl (Nat.le_of_ble_eq_true rfl) dX8_drop_47 (c_X3_canSpare hW (kk_14 (kk_6_0 kc_7).1 p1) hpo.1 hpo.2.1 (hOp.at 0) (by rw [mbs_len]; exact zkl)) (fun v_47 h_47 q_47 => ?_)
    obtain ⟨rfl, z9⟩ := q_47
    replace z9 := z9.symm
    subst z9
    rw [mbs_len, mbs_prt zkl]
    change PW _ _ _ _ _ _ _ _ (.int (bI (spB (getP r.1 p) k)) :: _) _ _
    refine r_if_ne 64 dX8_drop_50 (by decide) (fun c_50 => ?_) (fun c_50 => ?_)
    · refine r_aload_n dX8_drop_64 rfl ?_
      refine q_callV0 (cv_X8_remember ml_X8_289) hW kc_1 (by decide) rfl ⟨rfl, rfl⟩ rfl (Nat.le_of_ble_eq_true rfl) dX8_drop_65 (c_X8_remember hW hs hO hL hLO) (fun v_65 h_65 q_65 => ?_)
      obtain ⟨z9, hcf, hL2, hrm1, hrm2⟩ := q_65
      subst z9
      have hW := hcf.1
      have hLO2 := LsOK.push hLO hO hLq
      have hsR : StR h_65 7 r.1 r.2 := hs.cgA (fun i i1 i2 => hrm1 i (by omega) (by rcases i2 with i2 | ⟨p9, i2, i3⟩ <;> omega))
      have hpoR : PoR h_65 (14 + 12 * p) (nn (r.1 1)) (nn (r.1 1)) (getP r.1 p) (getG r.2 p) := hsR.po p2
      have hsq := sq_row hsR hO p2
      have h2t : aI h_65 7 2 = nI (nn (r.1 1)) := hsR.2.1.trans hO.1.2.1.1
      have hX9 := hO.1.2.2.1.2.2
      have hE9 := hO.1.2.2.2.2.2
      have hE8 : qE (rowQ r.1 p) < 2 ^ 28 := by show nn (r.1 3) < _; omega
      refine r_aload_n dX8_drop_68 rfl ?_
      refine q_getR fl_X8_37 hW kc_1 rfl (kl_8_6 hW) (by decide) dX8_drop_69 ?_
      refine r_iload_n dX8_drop_72 rfl ?_
      refine r_iload_n dX8_drop_73 rfl ?_
      refine q_callV2 (cv_X6_removeMember ml_X8_320) hW kc_7 (by decide) rfl ⟨rfl, rfl⟩ rfl (Nat.le_of_ble_eq_true rfl) dX8_drop_74 (c_X6_removeMember hW kc_7 p1 h2t hsq hOp zkl (by omega)) (fun v_74 h_74 q_74 => ?_)
      obtain ⟨rfl, e1, e3, q1⟩ := q_74
      have hW := e1.W hW
      refine r_aload dX8_drop_77 rfl ?_
      refine q_getR fl_X8_119 hW (kk_14 (kk_6_0 kc_7).1 p1) rfl (kl_3_1 hW (kk_14 (kk_6_0 kc_7).1 p1)) (Nat.succ_ne_zero _) dX8_drop_79 ?_
      have hOg := hOp.go zkl
      have hsz : aI h_74 (14 + 12 * p + 3) 4 = nI (nn (getP r.1 p 23) - 1) := by
        have z : aI h_74 (14 + 12 * p + 3) 4 = nI (mbs (goF (getP r.1 p) k)).length := q1.2.2.2.1.1
        rw [z, mbs_len, goF_23 (hOp.at 23).1 y23 (by omega)]
      refine q_getI fl_X8_125 hW (kk_3_1 (kk_14 (kk_6_0 kc_7).1 p1)) rfl dX8_drop_82 ?_
      rw [show aI h_74 (7 + 1 + 6 + 12 * p + 3) 4 = getP (goR r p k).1 p 23 from by rw [go_23 hO p2 zkl]; exact hsz]
      refine r_iret dX8_drop_85 rfl ⟨Nat.le_of_ble_eq_true rfl, Nat.le_of_ble_eq_true rfl⟩ ?_
      have ks : spB (getP r.1 p) k = true := bI_1.mp c_50
      have hst' := st_q (r := r) hsR hO p2 e1 (fun k _ => congrFun e3 k) q1 (fun j hj => go_W (fun _ _ => rfl) hj) (by show nn (r.1 3) + 1 < _; omega) (hOg.at 23).2.2 (hOg.at 24).2.2
      refine ⟨by rw [dpC_s hp9 zk, ks]; rfl, by rw [dpA_s hp9 zk], CFr.of hcf hrm1 hrm2 e1 (fun i q => SS_7 p1 q), ?_, hL2.eqx hLO2 e1 (fun i q => SS_7 p1 q)⟩
      rw [dpR_s hp9 zk]
      exact hst'
    · refine r_throwW ths_303_318 rfl rfl (Nat.le_of_ble_eq_true rfl) dX8_drop_53 dX8_drop_56 dX8_drop_57 dX8_drop_60 dX8_drop_63 ?_
      have ks : spB (getP r.1 p) k = false := bI_0.mp (by first | exact c_50 | simpa using c_50)
      exact ⟨⟨by rw [dpC_s hp9 zk, ks]; decide, by rw [dpC_s hp9 zk, ks]; rfl⟩, rfl⟩
  · refine r_throwN (ln := 2) ths_159_161 rfl rfl (Nat.le_of_ble_eq_true rfl) dX8_drop_23 dX8_drop_26 (Or.inl ⟨rfl, dX8_drop_27⟩) dX8_drop_29 dX8_drop_32 ?_
    have kn : mbP r x = none := by
      cases hq : mbP r x with
      | none => rfl
      | some p =>
        obtain ⟨z1, k', z2, z3⟩ := mb_some hq
        rw [z2] at c_20
        exact absurd c_20 (fun z => z (Int32.not_lt.mp (nI_pos (hk8 k' z2))))
    exact ⟨⟨by rw [dpC_n kn]; decide, by rw [dpC_n kn]; rfl⟩, rfl⟩

def gwB (f : Nat → Int32) (y : Int32) : Bool := decide (f 23 + y ≤ f 1)
set_option maxRecDepth 100000 in
set_option maxHeartbeats 4000000 in
theorem c_X8_grow {l9 : Launch} {G : GC} {h : AH} {r : Row} {m : Nat} {L : List Row} {x y : Int32} (hW : World h) (hs : StR h 7 r.1 r.2) (hO : RoOK r.1 r.2 m) (hL : PsC h L) (hLO : LsOK L m) (hb : m + 300 < 2 ^ 23) : PM l9 G mX8_grow NT NT [.ref 1, .int x, .int y] h (fun v h' => cd3 (okP r x) (rgB 1 5 y) (gwB (fP r x) y) = 0 ∧ v = some (.int (getP (grR r (nn x) (nn y)).1 (nn x) 23)) ∧ CFr h h' ∧ StR h' 7 (grR r (nn x) (nn y)).1 (grR r (nn x) (nn y)).2 ∧ PsC h' (pushL L r)) (fun E h' => thr [eB, eA, eS] (cd3 (okP r x) (rgB 1 5 y) (gwB (fP r x) y)) E ∧ h' = h) := by
  refine PM.of (by decide +kernel) rfl rfl (Nat.le_of_ble_eq_true rfl) (fun hst _ => ?_)
  refine r_aload_n dX8_grow_0 rfl ?_
  refine r_iload_n dX8_grow_1 rfl ?_
  refine q_callX1 (cv_X8_existingPool ml_X8_112) hW kc_1 (by decide) rfl rfl (Nat.le_of_ble_eq_true rfl) dX8_grow_2 (c_X8_existingPool hW hs hO) (fun v_2 h_2 q_2 => ?_) (fun E_2 h_2 q_2 => ?_)
  · obtain ⟨z9, ko, p, p1, p2, rfl, rfl⟩ := q_2
    replace z9 := z9.symm
    subst z9
    have ex : nn (nI p) = p := nn_I (by omega)
    have hOp := hO.2 p p2
    have hpo : PoR h (14 + 12 * p) (nn (r.1 1)) (nn (r.1 1)) (getP r.1 p) (getG r.2 p) := hs.po p2
    have hpo9 := hpo
    obtain ⟨zs, zm, zt, ⟨zd, zc⟩, zf, z20, z18, z19, z17, z21, z22, z16⟩ := hpo
    have zd0 : DemR h (14 + 12 * p) (nn (r.1 1)) (getP r.1 p) := ⟨zd, zc⟩
    have yc := hOp.2.2.2.2.1.2.1
    have hLq := hL.2.1
    have h04 : nn (r.1 0) ≤ 4 := hO.1.1.2.2
    have y23 : nn (getP r.1 p 23) ≤ 20 := (hOp.at 23).2.2
    have y24 : nn (getP r.1 p 24) ≤ 24 := (hOp.at 24).2.2
    refine r_astore_n (ls2 := [_, _, some _, _, _]) dX8_grow_5 (by decide) rfl ?_
    refine r_iload_n dX8_grow_6 rfl ?_
    refine r_iconst (1) dX8_grow_7 (by decide) ?_
    refine r_iconst (5) dX8_grow_8 (by decide) ?_
    refine q_callXS3 (cs_X8_requireRange ml_X8_116) rfl (Nat.le_of_ble_eq_true rfl) dX8_grow_9 c_X8_requireRange (fun v_9 h_9 q_9 => ?_) (fun E_9 h_9 q_9 => ?_)
    · obtain ⟨z9, kr, rfl⟩ := q_9
      replace z9 := z9.symm
      subst z9
      have kr9 : rgB 1 5 y = true := decide_eq_true kr
      obtain ⟨n, n1, n2, hy⟩ := rgB_t (a := 1) (b := 5) kr9 (by decide) (by decide)
      have ey : nn y = n := by rw [hy]; exact nn_I (by omega)
      refine r_aload_n dX8_grow_12 rfl ?_
      refine q_getR fl_X8_119 hW (kd_po p1) rfl (kl_3_1 hW (kd_po p1)) (Nat.succ_ne_zero _) dX8_grow_13 ?_
      refine q_getI fl_X8_125 hW (kk_3_1 (kd_po p1)) rfl dX8_grow_16 ?_
      rw [zm.1, mbs_len, ← (hOp.at 23).1]
      refine r_iload_n dX8_grow_19 rfl ?_
      refine r_iadd dX8_grow_20 ?_
      refine r_aload_n dX8_grow_21 rfl ?_
      refine q_getR fl_X8_143 hW (kd_po p1) rfl (kl_3_0 hW (kd_po p1)) (Nat.succ_ne_zero _) dX8_grow_22 ?_
      refine q_getI fl_X8_301 hW (kk_3_0 (kd_po p1)) rfl dX8_grow_25 ?_
      rw [show aI h (14 + 12 * p + 1) 1 = getP r.1 p 1 from zs.1 1 (by decide)]
      refine r_icmp_le 42 dX8_grow_28 (by decide) (fun c_28 => ?_) (fun c_28 => ?_)
      · have kg : gwB (getP r.1 p) y = true := decide_eq_true c_28
        have hmx : nn (getP r.1 p 23) + n ≤ nn (getP r.1 p 1) := by
          have c9 := c_28
          rw [hy, (hOp.at 23).1, nI_add, (hOp.at 1).1] at c9
          have := (hOp.at 1).2.2
          have e20 : bHi 1 = 20 := rfl
          exact (nI_leI (by omega) (by omega)).mp c9
        have hm20 : nn (getP r.1 p 1) ≤ 20 := (hOp.at 1).2.2
        refine r_aload_n dX8_grow_42 rfl ?_
        refine q_callV0 (cv_X8_remember ml_X8_289) hW kc_1 (by decide) rfl ⟨rfl, rfl⟩ rfl (Nat.le_of_ble_eq_true rfl) dX8_grow_43 (c_X8_remember hW hs hO hL hLO) (fun v_43 h_43 q_43 => ?_)
        obtain ⟨z9, hcf, hL2, hrm1, hrm2⟩ := q_43
        subst z9
        have hW := hcf.1
        have hLO2 := LsOK.push hLO hO hLq
        have hsR : StR h_43 7 r.1 r.2 := hs.cgA (fun i i1 i2 => hrm1 i (by omega) (by rcases i2 with i2 | ⟨p9, i2, i3⟩ <;> omega))
        have hpoR : PoR h_43 (14 + 12 * p) (nn (r.1 1)) (nn (r.1 1)) (getP r.1 p) (getG r.2 p) := hsR.po p2
        have hsq := sq_row hsR hO p2
        have h2t : aI h_43 7 2 = nI (nn (r.1 1)) := hsR.2.1.trans hO.1.2.1.1
        have hX9 := hO.1.2.2.1.2.2
        have hE9 := hO.1.2.2.2.2.2
        have hE8 : qE (rowQ r.1 p) < 2 ^ 28 := by show nn (r.1 3) < _; omega
        refine r_iconst (0) dX8_grow_46 (by decide) ?_
        refine r_istore (ls2 := [_, _, _, some _, _]) dX8_grow_47 (by decide) rfl ?_
        have hz := fun i hi => zr_ok (p := p) (t := nn (r.1 1)) (n := i) (r := (r.1 1 + getP r.1 p 4)) (q := rowQ r.1 p) hOp hi
        refine loopN (P := fun i => ∀ H : AH, i ≤ n → World H → eqx h_43 H (SS 7 p) → (∀ k, k ≠ 3 → aI H 7 k = aI h_43 7 k) → SQ H 7 p (nn (r.1 1)) (nn (r.1 1)) (grS p (nn (r.1 1)) (r.1 1 + getP r.1 p 4) i (rowQ r.1 p)) (getG r.2 p) → PW l9 G mX8_grow _ _ NT 49 [some (.ref 1), some (.int (nI p)), some (.int y), some (.ref (14 + 12 * p)), some (.int (nI i))] [] _ H) n (fun i ih H hi hW he h3 hq => ?_) 0 h_43 (Nat.zero_le _) hW eqx.rf (fun _ _ => rfl) hsq
        have hzi := hz i (show nn (getP r.1 p 23) + i ≤ 20 by omega)
        obtain ⟨z1, z2, z3, z4, z5⟩ := hzi
        have z2' : nn (qF (grS p (nn (r.1 1)) (r.1 1 + getP r.1 p 4) i (rowQ r.1 p)) 23) = nn (getP r.1 p 23) + i := z2
        have z4' : qE (grS p (nn (r.1 1)) (r.1 1 + getP r.1 p 4) i (rowQ r.1 p)) = nn (r.1 3) + i := z4
        refine r_iload dX8_grow_49 rfl ?_
        refine r_iload_n dX8_grow_51 rfl ?_
        refine r_icmp_ge 85 dX8_grow_52 (by decide) (fun c_52 => ?_) (fun c_52 => ?_)
        · have hge : n = i := by
            have c9 := c_52
            rw [hy] at c9
            have := (nI_leI (by omega) (by omega)).mp c9
            omega
          subst hge
          obtain ⟨hOr9, h23r⟩ := grR_ok hO p2 (n := n) (by omega) (by omega)
          have hsz : aI H (14 + 12 * p + 3) 4 = nI (nn (getP r.1 p 23) + n) := by
            have z : aI H (14 + 12 * p + 3) 4 = nI (mbs (qF (grS p (nn (r.1 1)) (r.1 1 + getP r.1 p 4) n (rowQ r.1 p)))).length := hq.2.2.2.1.1
            rw [z, mbs_len, z2']
          refine r_aload_n dX8_grow_85 rfl ?_
          refine q_getR fl_X8_119 hW (kd_po p1) rfl (kl_3_1 hW (kd_po p1)) (Nat.succ_ne_zero _) dX8_grow_86 ?_
          refine q_getI fl_X8_125 hW (kk_3_1 (kd_po p1)) rfl dX8_grow_89 ?_
          rw [hsz]
          refine r_iret dX8_grow_92 rfl ⟨Nat.le_of_ble_eq_true rfl, Nat.le_of_ble_eq_true rfl⟩ ?_
          rw [ex, ey]
          unfold fP
          rw [ex]
          refine ⟨cd3_t ko kr9 kg, some_int h23r.symm, CFr.of hcf hrm1 hrm2 he (fun i q => SS_7 p1 q), st_q (r := r) hsR hO p2 he h3 hq (fun j hj => gr_W hj) (by omega) (z1.at 23).2.2 (z1.at 24).2.2, hL2.eqx hLO2 he (fun i q => SS_7 p1 q)⟩
        · have hlt : i < n := by
            have c9 := c_52
            rw [hy] at c9
            exact (nI_ltI (by omega) (by omega)).mp (i_lt.mp c9)
          refine r_aload_n dX8_grow_55 rfl ?_
          refine q_getR fl_X8_37 hW kc_1 rfl (kl_8_6 hW) (by decide) dX8_grow_56 ?_
          refine r_iload_n dX8_grow_59 rfl ?_
          refine r_aload_n dX8_grow_60 rfl ?_
          refine q_getR fl_X8_37 hW kc_1 rfl (kl_8_6 hW) (by decide) dX8_grow_61 ?_
          refine q_getI fl_X8_86 hW kc_7 rfl dX8_grow_64 ?_
          rw [show aI H 7 2 = r.1 1 from (h3 2 (by decide)).trans hsR.2.1]
          refine r_aload_n dX8_grow_67 rfl ?_
          refine q_getR fl_X8_143 hW (kd_po p1) rfl (kl_3_0 hW (kd_po p1)) (Nat.succ_ne_zero _) dX8_grow_68 ?_
          refine q_getI fl_X8_308 hW (kk_3_0 (kd_po p1)) rfl dX8_grow_71 ?_
          rw [show aI H (14 + 12 * p + 1) 4 = getP r.1 p 4 from (hq.2.2.1.1 4 (by decide)).trans (z5 4 (by decide))]
          refine r_iadd dX8_grow_74 ?_
          refine q_callV2 (cv_X6_addMember ml_X8_311) hW kc_7 (by decide) rfl ⟨rfl, rfl⟩ rfl (Nat.le_of_ble_eq_true rfl) dX8_grow_75 (c_X6_addMember hW kc_7 p1 ((h3 2 (by decide)).trans h2t) hq z1 (by omega) (by omega)) (fun v_75 h_75 q_75 => ?_)
          obtain ⟨rfl, e1, e3, q1⟩ := q_75
          have hW := e1.W hW
          refine r_pop dX8_grow_78 rfl ?_
          refine r_iinc (1) (by decide) (ls2 := [_, _, _, some _, _]) dX8_grow_79 rfl (by decide) rfl ?_
          refine r_goto 49 dX8_grow_82 (by decide) ?_
          rw [nI_1]
          exact ih hlt _ hlt hW (he.tr e1) (fun k hk => (e3 k hk).trans (h3 k hk)) q1
      · refine r_throwW ths_303_305 rfl rfl (Nat.le_of_ble_eq_true rfl) dX8_grow_31 dX8_grow_34 dX8_grow_35 dX8_grow_38 dX8_grow_41 ?_
        unfold fP
        rw [ex]
        exact ⟨thr_33 ko kr9 (decide_eq_false c_28), rfl⟩
    · refine PX.out rfl ⟨Nat.le_of_ble_eq_true rfl, Nat.le_of_ble_eq_true rfl⟩ ?_
      obtain ⟨rfl, kx, rfl⟩ := q_9
      exact ⟨thr_32 ko (decide_eq_false kx), rfl⟩
  · refine PX.out rfl ⟨Nat.le_of_ble_eq_true rfl, Nat.le_of_ble_eq_true rfl⟩ ?_
    obtain ⟨rfl, kx, rfl⟩ := q_2
    exact ⟨thr_31 kx, rfl⟩

def fuB (f : Nat → Int32) : Bool := decide (f 23 < f 1)
def tfC (r : Row) (x y : Int32) : Nat := if okP r y then (if mbP r x = some (nn y) then 2 else match mbP r x, mbK r x with
  | some p, some k => if fuB (fP r y) && spB (getP r.1 p) k then 0 else 3
  | _, _ => if fuB (fP r y) then 4 else 3) else 1
def tfR (r : Row) (x y : Int32) : Row := match mbP r x, mbK r x with
  | some p, some k => grR (goR r p k) (nn y) 1
  | _, _ => r
theorem tfR_s {r : Row} {x y : Int32} {p k : Nat} (h1 : mbP r x = some p) (h2 : mbK r x = some k) : tfR r x y = grR (goR r p k) (nn y) 1 := by unfold tfR; rw [h1, h2]
theorem tfC_1 {r : Row} {x y : Int32} (h : okP r y = false) : tfC r x y = 1 := by unfold tfC; rw [h]; rfl
theorem tfC_2 {r : Row} {x y : Int32} (h : okP r y = true) (h2 : mbP r x = some (nn y)) : tfC r x y = 2 := by unfold tfC; rw [if_pos h, if_pos h2]
theorem tfC_s {r : Row} {x y : Int32} {p k : Nat} (h : okP r y = true) (hp : mbP r x = some p) (hk : mbK r x = some k) (hn : ¬ p = nn y) : tfC r x y = if fuB (fP r y) && spB (getP r.1 p) k then 0 else 3 := by
  unfold tfC
  rw [if_pos h, if_neg (by rw [hp]; exact fun q => hn (Option.some.inj q)), hp, hk]
theorem tfC_n {r : Row} {x y : Int32} (h : okP r y = true) (hp : mbP r x = none) : tfC r x y = if fuB (fP r y) then 4 else 3 := by
  unfold tfC
  rw [if_pos h, if_neg (by rw [hp]; exact fun q => by cases q), hp]
theorem tfC_f {r : Row} {x y : Int32} (h : okP r y = true) (hn : ¬ mbP r x = some (nn y)) (hf : fuB (fP r y) = false) : tfC r x y = 3 := by
  cases hq : mbP r x with
  | none => rw [tfC_n h hq, hf]; rfl
  | some p =>
    obtain ⟨_, k, hk, _⟩ := mb_some hq
    rw [tfC_s h hq hk (fun q => hn (by rw [hq, q])), hf]; rfl
theorem goR_p2 {r : Row} {p k j : Nat} (h : j ≠ p) : getP (goR r p k).1 j = getP r.1 j := putQ_op (fun j hj => go_W (fun _ _ => rfl) hj) h
theorem goR_1 {r : Row} {p k : Nat} : (goR r p k).1 1 = r.1 1 := putQ_lo (fun j hj => go_W (fun _ _ => rfl) hj) (by decide)
theorem goR_0 {r : Row} {p k : Nat} : (goR r p k).1 0 = r.1 0 := putQ_lo (fun j hj => go_W (fun _ _ => rfl) hj) (by decide)
theorem goR_2 {r : Row} {p k : Nat} : (goR r p k).1 2 = nI (nn (r.1 2)) := putQ_2
theorem oI_n1 {j : Nat} (h : j < 2 ^ 31) : ¬ nI j = (-1 : Int32) := fun q => absurd (show nI j < 0 by rw [q]; decide) (nI_pos h)
set_option maxRecDepth 100000 in
set_option maxHeartbeats 4000000 in
theorem c_X8_transfer {l9 : Launch} {G : GC} {h : AH} {r : Row} {m : Nat} {L : List Row} {x y : Int32} (hW : World h) (hs : StR h 7 r.1 r.2) (hO : RoOK r.1 r.2 m) (hL : PsC h L) (hLO : LsOK L m) (hb : m + 300 < 2 ^ 23) : PM l9 G mX8_transfer NT NT [.ref 1, .int x, .int y] h (fun v h' => tfC r x y = 0 ∧ v = some (.int (r.1 2)) ∧ CFr h h' ∧ StR h' 7 (tfR r x y).1 (tfR r x y).2 ∧ PsC h' (pushL L r)) (fun E h' => thr [eB, eA, eS, eN] (tfC r x y) E ∧ h' = h) := by
  refine PM.of (by decide +kernel) rfl rfl (Nat.le_of_ble_eq_true rfl) (fun hst _ => ?_)
  have hk8 := RoOK.k8 (x := x) hs hO
  refine r_aload_n dX8_transfer_0 rfl ?_
  refine r_iload_n dX8_transfer_1 rfl ?_
  refine q_callX1 (cv_X8_existingPool ml_X8_112) hW kc_1 (by decide) rfl rfl (Nat.le_of_ble_eq_true rfl) dX8_transfer_2 (c_X8_existingPool hW hs hO) (fun v_2 h_2 q_2 => ?_) (fun E_2 h_2 q_2 => ?_)
  · obtain ⟨z9, ko, j, j1, j2, hy, rfl⟩ := q_2
    replace z9 := z9.symm
    subst z9
    have ey : nn y = j := by rw [hy]; exact nn_I (by omega)
    have hOj := hO.2 j j2
    have hpj : PoR h (14 + 12 * j) (nn (r.1 1)) (nn (r.1 1)) (getP r.1 j) (getG r.2 j) := hs.po j2
    have eFy : fP r y = getP r.1 j := by unfold fP; rw [ey]
    have yj23 : nn (getP r.1 j 23) ≤ 20 := (hOj.at 23).2.2
    refine r_astore_n (ls2 := [_, _, some _, _, _, _]) dX8_transfer_5 (by decide) rfl ?_
    refine r_aload_n dX8_transfer_6 rfl ?_
    refine q_getR fl_X8_37 hW kc_1 rfl (kl_8_6 hW) (by decide) dX8_transfer_7 ?_
    refine r_iload_n dX8_transfer_10 rfl ?_
    refine q_callV1 (cv_X6_homeOf ml_X8_152) hW kc_7 (by decide) rfl ⟨rfl, rfl⟩ rfl (Nat.le_of_ble_eq_true rfl) dX8_transfer_11 (c_X6_homeOf hW kc_7 hs hO) (fun v_11 h_11 q_11 => ?_)
    obtain ⟨rfl, z9⟩ := q_11
    replace z9 := z9.symm
    subst z9
    refine r_istore (ls2 := [_, _, _, some _, _, _]) dX8_transfer_14 (by decide) rfl ?_
    refine r_aload_n dX8_transfer_16 rfl ?_
    refine q_getR fl_X8_37 hW kc_1 rfl (kl_8_6 hW) (by decide) dX8_transfer_17 ?_
    refine r_iload dX8_transfer_20 rfl ?_
    refine r_iload_n dX8_transfer_22 rfl ?_
    refine q_callV2 (cv_X6_placeIn ml_X8_155) hW kc_7 (by decide) rfl ⟨rfl, rfl⟩ rfl (Nat.le_of_ble_eq_true rfl) dX8_transfer_23 (c_X6_placeIn hW kc_7 hs hO (fun p hp => (fi_lt hp).1)) (fun v_23 h_23 q_23 => ?_)
    obtain ⟨rfl, z9⟩ := q_23
    replace z9 := z9.symm
    subst z9
    refine r_istore (ls2 := [_, _, _, _, some _, _]) dX8_transfer_26 (by decide) rfl ?_
    skip
    refine r_iload dX8_transfer_28 rfl ?_
    refine r_iload_n dX8_transfer_30 rfl ?_
    have hkp : oI (mbP r x) = y ↔ mbP r x = some j := by
      rw [hy]
      cases hq : mbP r x with
      | none => exact ⟨fun q => absurd q.symm (oI_n1 (by omega)), fun q => by cases q⟩
      | some p' =>
        have := (mb_some hq).1
        have h04 : nn (r.1 0) ≤ 4 := hO.1.1.2.2
        exact ⟨fun q => by rw [(nI_eq (by omega) (by omega)).mp q], fun q => by cases q; rfl⟩
    change PW _ _ _ _ _ _ _ _ (.int y :: .int (oI (mbP r x)) :: _) _ _
    refine r_icmp_ne 45 dX8_transfer_31 (by decide) (fun c_31 => ?_) (fun c_31 => ?_)
    · have hnj : ¬ mbP r x = some j := fun q => c_31 (hkp.mpr q)
      refine r_aload_n dX8_transfer_45 rfl ?_
      refine q_getR fl_X8_119 hW (kd_po j1) rfl (kl_3_1 hW (kd_po j1)) (Nat.succ_ne_zero _) dX8_transfer_46 ?_
      refine q_getI fl_X8_125 hW (kk_3_1 (kd_po j1)) rfl dX8_transfer_49 ?_
      rw [hpj.2.1.1, mbs_len, ← (hOj.at 23).1]
      refine r_aload_n dX8_transfer_52 rfl ?_
      refine q_getR fl_X8_143 hW (kd_po j1) rfl (kl_3_0 hW (kd_po j1)) (Nat.succ_ne_zero _) dX8_transfer_53 ?_
      refine q_getI fl_X8_301 hW (kk_3_0 (kd_po j1)) rfl dX8_transfer_56 ?_
      rw [show aI h (14 + 12 * j + 1) 1 = getP r.1 j 1 from hpj.1.1 1 (by decide)]
      refine r_icmp_lt 73 dX8_transfer_59 (by decide) (fun c_59 => ?_) (fun c_59 => ?_)
      · refine r_iload dX8_transfer_73 rfl ?_
        change PW _ _ _ _ _ _ _ _ (.int (oI (mbK r x)) :: _) _ _
        refine r_if_ge 88 dX8_transfer_75 (by decide) (fun c_75 => ?_) (fun c_75 => ?_)
        · obtain ⟨p, hp9⟩ : ∃ p, mbP r x = some p := by
            cases hq : mbP r x with
            | none => exact absurd (show oI (mbK r x) < 0 from by unfold mbK; rw [hq]; exact (by decide : (-1 : Int32) < 0)) (Int32.not_lt.mpr c_75)
            | some p => exact ⟨p, rfl⟩
          obtain ⟨p2, k, zk, zl⟩ := mb_some hp9
          have zkl := plS_lt zl
          obtain ⟨np, n4, n3, en⟩ := hO.np
          have p1 : p < 4 := by omega
          have hOp := hO.2 p p2
          have hLq := hL.2.1
          have h04 : nn (r.1 0) ≤ 4 := hO.1.1.2.2
          have y23 : nn (getP r.1 p 23) ≤ 20 := (hOp.at 23).2.2
          have y24 : nn (getP r.1 p 24) ≤ 24 := (hOp.at 24).2.2
          have hp8 : hmS r.1 x (nn (r.1 0)) = some p := hp9
          have hk8' : (hmS r.1 x (nn (r.1 0))).bind (plS r.1 x) = some k := zk
          have hpo := hs.po p2
          have hpj2 : ¬ p = j := fun q => hnj (by rw [hp9, q])
          have kfu : fuB (fP r y) = true := decide_eq_true (by rw [eFy]; exact c_59)
          have hm20 : nn (getP r.1 j 1) ≤ 20 := (hOj.at 1).2.2
          have hfu : nn (getP r.1 j 23) < nn (getP r.1 j 1) := by
            have c9 := c_59
            rw [(hOj.at 23).1, (hOj.at 1).1] at c9
            exact (nI_ltI (by omega) (by omega)).mp c9
          simp only [hp8, Option.bind_some, zl]
          refine r_aload_n dX8_transfer_88 rfl ?_
          refine q_getR fl_X8_37 hW kc_1 rfl (kl_8_6 hW) (by decide) dX8_transfer_89 ?_
          refine q_getR fl_X8_164 hW kc_7 rfl (kl_6_0 hW kc_7) (Nat.succ_ne_zero _) dX8_transfer_92 ?_
          refine r_iload dX8_transfer_95 rfl ?_
          refine q_pald hW (kk_6_0 kc_7) rfl p1 dX8_transfer_97 ?_
          refine r_iload dX8_transfer_98 rfl ?_
          refine q_callV1 (cv_X3_canSpare ml_X8_314) hW (kk_14 (kk_6_0 kc_7).1 p1) (by decide) rfl ⟨rfl, rfl⟩ rfl (Nat.le_of_ble_eq_true rfl) dX8_transfer_100 (c_X3_canSpare hW (kk_14 (kk_6_0 kc_7).1 p1) hpo.1 hpo.2.1 (hOp.at 0) (by rw [mbs_len]; exact zkl)) (fun v_100 h_100 q_100 => ?_)
          obtain ⟨rfl, z9⟩ := q_100
          replace z9 := z9.symm
          subst z9
          rw [mbs_len, mbs_prt zkl]
          change PW _ _ _ _ _ _ _ _ (.int (bI (spB (getP r.1 p) k)) :: _) _ _
          refine r_if_ne 117 dX8_transfer_103 (by decide) (fun c_103 => ?_) (fun c_103 => ?_)
          · refine r_aload_n dX8_transfer_117 rfl ?_
            refine q_callV0 (cv_X8_remember ml_X8_289) hW kc_1 (by decide) rfl ⟨rfl, rfl⟩ rfl (Nat.le_of_ble_eq_true rfl) dX8_transfer_118 (c_X8_remember hW hs hO hL hLO) (fun v_118 h_118 q_118 => ?_)
            obtain ⟨z9, hcf, hL2, hrm1, hrm2⟩ := q_118
            subst z9
            have hW := hcf.1
            have hLO2 := LsOK.push hLO hO hLq
            have hsR : StR h_118 7 r.1 r.2 := hs.cgA (fun i i1 i2 => hrm1 i (by omega) (by rcases i2 with i2 | ⟨p9, i2, i3⟩ <;> omega))
            have hpoR : PoR h_118 (14 + 12 * p) (nn (r.1 1)) (nn (r.1 1)) (getP r.1 p) (getG r.2 p) := hsR.po p2
            have hsq := sq_row hsR hO p2
            have h2t : aI h_118 7 2 = nI (nn (r.1 1)) := hsR.2.1.trans hO.1.2.1.1
            have hX9 := hO.1.2.2.1.2.2
            have hE9 := hO.1.2.2.2.2.2
            have hE8 : qE (rowQ r.1 p) < 2 ^ 28 := by show nn (r.1 3) < _; omega
            refine r_aload_n dX8_transfer_121 rfl ?_
            refine q_getR fl_X8_37 hW kc_1 rfl (kl_8_6 hW) (by decide) dX8_transfer_122 ?_
            refine r_iload dX8_transfer_125 rfl ?_
            refine r_iload dX8_transfer_127 rfl ?_
            refine q_callV2 (cv_X6_removeMember ml_X8_320) hW kc_7 (by decide) rfl ⟨rfl, rfl⟩ rfl (Nat.le_of_ble_eq_true rfl) dX8_transfer_129 (c_X6_removeMember hW kc_7 p1 h2t hsq hOp zkl (by omega)) (fun v_129 h_129 q_129 => ?_)
            obtain ⟨rfl, e1, e3, q1⟩ := q_129
            have hW := e1.W hW
            have hOg := hOp.go zkl
            have hs1 : StR h_129 7 (goR r p k).1 (goR r p k).2 := st_q (r := r) hsR hO p2 e1 (fun k _ => congrFun e3 k) q1 (fun j hj => go_W (fun _ _ => rfl) hj) (by show nn (r.1 3) + 1 < _; omega) (hOg.at 23).2.2 (hOg.at 24).2.2
            have hO1 := goR_ok hO p2 zkl (by omega)
            have j2' : j < nn ((goR r p k).1 0) := by rw [goR_0]; exact j2
            have hsq1 := sq_row hs1 hO1 j2'
            have hOj1 := hO1.2 j j2'
            have hgp : getP (goR r p k).1 j = getP r.1 j := goR_p2 (fun q => hpj2 q.symm)
            have h2t1 : aI h_129 7 2 = nI (nn ((goR r p k).1 1)) := by rw [goR_1]; exact hs1.2.1.trans (goR_1.trans hO.1.2.1.1)
            have hE1 : qE (rowQ (goR r p k).1 j) < 2 ^ 28 := by
              have := hO1.1.2.2.2.2.2
              show nn ((goR r p k).1 3) < _
              omega
            refine r_aload_n dX8_transfer_132 rfl ?_
            refine q_getR fl_X8_37 hW kc_1 rfl (kl_8_6 hW) (by decide) dX8_transfer_133 ?_
            refine r_iload_n dX8_transfer_136 rfl ?_
            refine r_aload_n dX8_transfer_137 rfl ?_
            refine q_getR fl_X8_37 hW kc_1 rfl (kl_8_6 hW) (by decide) dX8_transfer_138 ?_
            refine q_getI fl_X8_86 hW kc_7 rfl dX8_transfer_141 ?_
            rw [show aI h_129 7 2 = (goR r p k).1 1 from hs1.2.1]
            refine r_aload_n dX8_transfer_144 rfl ?_
            refine q_getR fl_X8_143 hW (kd_po j1) rfl (kl_3_0 hW (kd_po j1)) (Nat.succ_ne_zero _) dX8_transfer_145 ?_
            refine q_getI fl_X8_308 hW (kk_3_0 (kd_po j1)) rfl dX8_transfer_148 ?_
            rw [show aI h_129 (14 + 12 * j + 1) 4 = getP (goR r p k).1 j 4 from (hs1.po j2').1.1 4 (by decide)]
            refine r_iadd dX8_transfer_151 ?_
            rw [show Value.int y = Value.int (nI j) from by rw [hy]]
            refine q_callV2 (cv_X6_addMember ml_X8_311) hW kc_7 (by decide) rfl ⟨rfl, rfl⟩ rfl (Nat.le_of_ble_eq_true rfl) dX8_transfer_152 (c_X6_addMember hW kc_7 j1 h2t1 hsq1 hOj1 (show nn (getP (goR r p k).1 j 23) ≤ 19 by rw [hgp]; omega) (by omega)) (fun v_152 h_152 q_152 => ?_)
            obtain ⟨rfl, e5, e7, q5⟩ := q_152
            refine r_iret dX8_transfer_155 rfl ⟨Nat.le_of_ble_eq_true rfl, Nat.le_of_ble_eq_true rfl⟩ ?_
            have ks : spB (getP r.1 p) k = true := bI_1.mp c_103
            have h9 := tfC_s ko hp9 zk (by rw [ey]; exact hpj2)
            rw [kfu, ks] at h9
            have hOc := hOj1.jo (a := nI (nn ((goR r p k).1 2))) (b := nI (nn ((goR r p k).1 1))) (r := (goR r p k).1 1 + getP (goR r p k).1 j 4) (show nn (getP (goR r p k).1 j 23) ≤ 19 by rw [hgp]; omega)
            have e9 : eqx h_118 h_152 (SB 7) := (e1.wk (fun i q => SS_7 p1 q)).tr (e5.wk (fun i q => SS_7 j1 q))
            have hs9 : StR h_152 7 (grR (goR r p k) j 1).1 (grR (goR r p k) j 1).2 := st_q (r := goR r p k) hs1 hO1 j2' e5 e7 q5 (fun j hj => co_W (fun _ _ => rfl) hj) (by show nn ((goR r p k).1 3) + 1 < _; have : nn ((goR r p k).1 3) < 2 ^ 28 := hE1; omega) (hOc.at 23).2.2 (hOc.at 24).2.2
            refine ⟨h9, some_int ?_, CFr.of hcf hrm1 hrm2 e9 (fun i q => q), ?_, hL2.eqx hLO2 e9 (fun i q => q)⟩
            · show nI (nn ((goR r p k).1 2)) = _
              rw [goR_2, nn_I (by omega)]; exact hO.1.2.2.1.1.symm
            · rw [tfR_s hp9 zk, ey]; exact hs9
          · refine r_throwW ths_303_318 rfl rfl (Nat.le_of_ble_eq_true rfl) dX8_transfer_106 dX8_transfer_109 dX8_transfer_110 dX8_transfer_113 dX8_transfer_116 ?_
            have ks : spB (getP r.1 p) k = false := bI_0.mp (by first | exact c_103 | simpa using c_103)
            have h9 := tfC_s ko hp9 zk (by rw [ey]; exact hpj2)
            rw [kfu, ks] at h9
            exact ⟨⟨by rw [h9]; decide, by rw [h9]; rfl⟩, rfl⟩
        · refine r_throwN (ln := 2) ths_159_161 rfl rfl (Nat.le_of_ble_eq_true rfl) dX8_transfer_78 dX8_transfer_81 (Or.inl ⟨rfl, dX8_transfer_82⟩) dX8_transfer_84 dX8_transfer_87 ?_
          have kn : mbP r x = none := by
            cases hq : mbP r x with
            | none => rfl
            | some p =>
              obtain ⟨z1, k', z2, z3⟩ := mb_some hq
              rw [z2] at c_75
              exact absurd c_75 (fun z => z (Int32.not_lt.mp (nI_pos (hk8 k' z2))))
          have kf : fuB (fP r y) = true := decide_eq_true (by rw [eFy]; exact c_59)
          have h9 := tfC_n (x := x) ko kn
          rw [kf] at h9
          exact ⟨⟨by rw [h9]; decide, by rw [h9]; rfl⟩, rfl⟩
      · refine r_throwW ths_303_326 rfl rfl (Nat.le_of_ble_eq_true rfl) dX8_transfer_62 dX8_transfer_65 dX8_transfer_66 dX8_transfer_69 dX8_transfer_72 ?_
        have kf : fuB (fP r y) = false := decide_eq_false (by rw [eFy]; exact c_59)
        have h9 := tfC_f (x := x) ko (by rw [ey]; exact hnj) kf
        exact ⟨⟨by rw [h9]; decide, by rw [h9]; rfl⟩, rfl⟩
    · refine r_throwW ths_105_324 rfl rfl (Nat.le_of_ble_eq_true rfl) dX8_transfer_34 dX8_transfer_37 dX8_transfer_38 dX8_transfer_41 dX8_transfer_44 ?_
      have h9 := hkp.mp (by first | exact c_31 | simpa using c_31)
      rw [← ey] at h9
      exact ⟨⟨by rw [tfC_2 ko h9]; decide, by rw [tfC_2 ko h9]; rfl⟩, rfl⟩
  · refine PX.out rfl ⟨Nat.le_of_ble_eq_true rfl, Nat.le_of_ble_eq_true rfl⟩ ?_
    obtain ⟨rfl, kx, rfl⟩ := q_2
    exact ⟨⟨by rw [tfC_1 kx]; decide, by rw [tfC_1 kx]; rfl⟩, rfl⟩
