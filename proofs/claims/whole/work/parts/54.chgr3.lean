-- the reference: grow, drop, transfer, drop cold
theorem QV.mw {h : AH} {r : Row} {p : Nat} {q : Q4} (hq : QV h r.2 p q (getG r.2 p)) : MW h (putQ p q, r.2) := by
  unfold QV PV at hq
  rw [setG_get] at hq
  exact hq
theorem qv_row {h : AH} {r : Row} {m p : Nat} (hm : MW h r) (hO : RoOK r.1 r.2 m) : QV h r.2 p (rowQ r.1 p) (getG r.2 p) := QV.of (hm.pv p) hO.1.2.2.1.1 hO.1.2.2.2.1
theorem goR_at {r : Row} {p k : Nat} : getP (goR r p k).1 p 23 = goF (getP r.1 p) k 23 := by
  show getP (putQ p (goQ p (nn (r.1 1)) k (rowQ r.1 p))) p 23 = _
  rw [putQ_p, trP_k (by decide)]
  rfl
theorem W2_row {r : Row} {m p : Nat} (hO : RoOK r.1 r.2 m) : W2 (rowQ r.1 p) = r.1 := by
  funext j
  by_cases e3 : j = 3
  · rw [e3, W2_3]; exact hO.1.2.2.2.1.symm
  · by_cases e2 : j = 2
    · rw [e2, W2_2]; exact hO.1.2.2.1.1.symm
    · exact W2_k e2 e3
set_option maxRecDepth 100000 in
set_option maxHeartbeats 4000000 in
theorem c_X9_mustStay {l9 : Launch} {G : GC} {h : AH} {r : Row} {m : Nat} {p k : Nat} (hW : World h) (hm : MW h r) (hO : RoOK r.1 r.2 m) (hm28 : m < 2 ^ 28) (h25 : aI h 723 25 = nI p) (h26 : aI h 723 26 = nI k) (hp : p < 4) (hpn : p < nn (r.1 0)) (hk : k < nn (getP r.1 p 23)) : PM l9 G mX9_mustStay NT NT [.ref 723] h (fun v h' => v = some (.int (bI (!spB (getP r.1 p) k))) ∧ h' = h) noX := by
  refine PM.of (by decide +kernel) rfl rfl (Nat.le_of_ble_eq_true rfl) (fun hst _ => ?_)
  have hOr := hO
  replace hO := hO.2 p hpn
  have y23 : nn (getP r.1 p 23) ≤ 20 := (hO.at 23).2.2
  replace hm := hm.pv p
  obtain ⟨n3, n4, n5, h23⟩ := (hO.at 23).nat
  obtain ⟨m3, m4, m5, h0⟩ := (hO.at 0).nat
  have n5' : n3 ≤ 20 := n5
  have m5' : m3 ≤ 20 := m5
  have e23 : nn (getP r.1 p 23) = n3 := by rw [h23]; exact nn_I (by omega)
  have e0 : nn (getP r.1 p 0) = m3 := by rw [h0]; exact nn_I (by omega)
  refine r_aload_n dX9_mustStay_0 rfl ?_
  refine r_aload_n dX9_mustStay_1 rfl ?_
  refine q_getI fl_X9_315 hW kc_723 rfl dX9_mustStay_2 ?_
  rw [h25]
  refine r_aload_n dX9_mustStay_5 rfl ?_
  refine q_getI fl_X9_318 hW kc_723 rfl dX9_mustStay_6 ?_
  rw [h26]
  refine q_callV2 (cv_X9_isGuarded ml_X9_95) hW kc_723 (by decide) rfl ⟨rfl, rfl⟩ rfl (Nat.le_of_ble_eq_true rfl) dX9_mustStay_9 (c_X9_isGuarded hW hm hp rfl rfl (by omega)) (fun v_9 h_9 q_9 => ?_)
  obtain ⟨rfl, z9⟩ := q_9
  replace z9 := z9.symm
  subst z9
  refine r_if_ne 37 dX9_mustStay_12 (by decide) (fun c_12 => ?_) (fun c_12 => ?_)
  · refine r_iconst (1) dX9_mustStay_37 (by decide) ?_
    refine r_goto 42 dX9_mustStay_38 (by decide) ?_
    refine r_zret dX9_mustStay_42 rfl (by decide) ⟨Nat.zero_le _, Nat.zero_le _⟩ ?_
    refine ⟨some_int ?_, rfl⟩
    unfold spB
    rw [e23, e0]
    first
      | (rw [bI_1.mp c_12]; cases decide (m3 < n3) <;> rfl)
      | (rw [bI_0.mp c_12]
         rw [h23, h0] at c_34
         first
           | (rw [decide_eq_true (show m3 < n3 from (nI_ltI (by omega) (by omega)).mp c_34)]; rfl)
           | (rw [decide_eq_false (fun q => c_34 ((nI_ltI (by omega) (by omega)).mpr q))]; rfl))
  · refine r_aload_n dX9_mustStay_15 rfl ?_
    refine r_aload_n dX9_mustStay_16 rfl ?_
    refine q_getI fl_X9_315 hW kc_723 rfl dX9_mustStay_17 ?_
    rw [h25]
    refine r_bipush (23) dX9_mustStay_20 (by decide) ?_
    refine q_callV2 (cv_X9_of ml_X9_81) hW kc_723 (by decide) rfl ⟨rfl, rfl⟩ rfl (Nat.le_of_ble_eq_true rfl) dX9_mustStay_22 (c_X9_of hW hm hp rfl kn_23 (by omega)) (fun v_22 h_22 q_22 => ?_)
    obtain ⟨rfl, z9⟩ := q_22
    replace z9 := z9.symm
    subst z9
    refine r_aload_n dX9_mustStay_25 rfl ?_
    refine r_aload_n dX9_mustStay_26 rfl ?_
    refine q_getI fl_X9_315 hW kc_723 rfl dX9_mustStay_27 ?_
    rw [h25]
    refine r_iconst (0) dX9_mustStay_30 (by decide) ?_
    refine q_callV2 (cv_X9_of ml_X9_81) hW kc_723 (by decide) rfl ⟨rfl, rfl⟩ rfl (Nat.le_of_ble_eq_true rfl) dX9_mustStay_31 (c_X9_of hW hm hp rfl kn_0 (by omega)) (fun v_31 h_31 q_31 => ?_)
    obtain ⟨rfl, z9⟩ := q_31
    replace z9 := z9.symm
    subst z9
    refine r_icmp_gt 41 dX9_mustStay_34 (by decide) (fun c_34 => ?_) (fun c_34 => ?_)
    · refine r_iconst (0) dX9_mustStay_41 (by decide) ?_
      refine r_zret dX9_mustStay_42 rfl (by decide) ⟨Nat.zero_le _, Nat.zero_le _⟩ ?_
      refine ⟨some_int ?_, rfl⟩
      unfold spB
      rw [e23, e0]
      first
        | (rw [bI_1.mp c_12]; cases decide (m3 < n3) <;> rfl)
        | (rw [bI_0.mp c_12]
           rw [h23, h0] at c_34
           first
             | (rw [decide_eq_true (show m3 < n3 from (nI_ltI (by omega) (by omega)).mp c_34)]; rfl)
             | (rw [decide_eq_false (fun q => c_34 ((nI_ltI (by omega) (by omega)).mpr q))]; rfl))
    · refine r_iconst (1) dX9_mustStay_37 (by decide) ?_
      refine r_goto 42 dX9_mustStay_38 (by decide) ?_
      refine r_zret dX9_mustStay_42 rfl (by decide) ⟨Nat.zero_le _, Nat.zero_le _⟩ ?_
      refine ⟨some_int ?_, rfl⟩
      unfold spB
      rw [e23, e0]
      first
        | (rw [bI_1.mp c_12]; cases decide (m3 < n3) <;> rfl)
        | (rw [bI_0.mp c_12]
           rw [h23, h0] at c_34
           first
             | (rw [decide_eq_true (show m3 < n3 from (nI_ltI (by omega) (by omega)).mp c_34)]; rfl)
             | (rw [decide_eq_false (fun q => c_34 ((nI_ltI (by omega) (by omega)).mpr q))]; rfl))

set_option maxRecDepth 100000 in
set_option maxHeartbeats 4000000 in
theorem c_X9_failsB {l9 : Launch} {G : GC} {h : AH} {b : Bool} {x : Int32} (hW : World h) : PM l9 G mX9_fails NT NT [.ref 723, .int (bI b), .int x] h (fun v h' => v = some (.int (bI b)) ∧ h' = if b = true then sI h 723 12 x else h) noX := c_X9_fails hW
set_option maxRecDepth 100000 in
set_option maxHeartbeats 4000000 in
theorem c_X9_drop {l9 : Launch} {G : GC} {h : AH} {r : Row} {m : Nat} {L : List Row} {x : Int32} (hW : World h) (hm : MW h r) (hO : RoOK r.1 r.2 m) (hm28 : m < 2 ^ 28) (hL : PsR h L) (hb : m + 300 < 2 ^ 23) : PM l9 G mX9_drop NT NT [.ref 723, .int x] h (fun v h' => (dpC r x ≠ 0 → RQ h h' (dpC r x)) ∧ (dpC r x = 0 → v = some (.int (dpA r x)) ∧ RC h h' ∧ MW h' (dpR r x) ∧ PsR h' (pushL L r))) noX := by
  refine PM.of (by decide +kernel) rfl rfl (Nat.le_of_ble_eq_true rfl) (fun hst _ => ?_)
  refine r_aload_n dX9_drop_0 rfl ?_
  refine r_iconst (0) dX9_drop_1 (by decide) ?_
  refine q_putM fl_X9_61 hW hm rfl rfl dX9_drop_2 (fun hm => ?_)
  refine r_aload_n dX9_drop_5 rfl ?_
  refine r_aload_n dX9_drop_6 rfl ?_
  refine r_iload_n dX9_drop_7 rfl ?_
  refine q_callV1 (cv_X9_finds ml_X9_321) hW kc_723 (by decide) rfl ⟨rfl, rfl⟩ rfl (Nat.le_of_ble_eq_true rfl) dX9_drop_8 (c_X9_finds hW hm hO hm28) (fun v_8 h_8 q_8 => ?_)
  obtain ⟨rfl, z9⟩ := q_8
  replace z9 := z9.symm
  subst z9
  replace hm := hm.fdH (r := r) (x := x)
  replace hW : World (fdH (sI h 723 12 0) r x) := World.fdH (wsI hW)
  refine r_if_ne 18 dX9_drop_11 (by decide) (fun c_11 => ?_) (fun c_11 => ?_)
  · refine r_iconst (0) dX9_drop_18 (by decide) ?_
    refine r_iconst (2) dX9_drop_19 (by decide) ?_
    refine q_callV2 (cv_X9_fails ml_X9_302) hW kc_723 (by decide) rfl ⟨rfl, rfl⟩ rfl (Nat.le_of_ble_eq_true rfl) dX9_drop_20 (c_X9_fails0 hW) (fun v_20 h_20 q_20 => ?_)
    obtain ⟨rfl, z9⟩ := q_20
    replace z9 := z9.symm
    subst z9
    refine r_if_ne 38 dX9_drop_23 (by decide) (fun c_23 => ?_) (fun c_23 => ?_)
    · first | exact absurd c_23 (by decide) | exact absurd (by decide) c_23
    · have kf : (mbP r x).isSome = true := bI_1.mp c_11
      obtain ⟨p, hp9⟩ : ∃ p, mbP r x = some p := by
        cases hq : mbP r x with
        | none => rw [hq] at kf; cases kf
        | some p => exact ⟨p, rfl⟩
      obtain ⟨zp, k, zk, zl⟩ := mb_some hp9
      have zkl := plS_lt zl
      obtain ⟨np, n4, n3, en⟩ := hO.np
      have hp : p < 4 := by omega
      have hOp := hO.2 p zp
      have y23 : nn (getP r.1 p 23) ≤ 20 := (hOp.at 23).2.2
      rw [fdH_s hp9 zk] at hW hm ⊢
      have ei : aI (sI (sI (sI h 723 12 0) 723 25 (nI p)) 723 26 (nI k)) 723 25 = nI p := by rw [sI_k (by decide), sI_s]
      have ek9 : aI (sI (sI (sI h 723 12 0) 723 25 (nI p)) 723 26 (nI k)) 723 26 = nI k := sI_s
      refine r_aload_n dX9_drop_26 rfl ?_
      refine r_aload_n dX9_drop_27 rfl ?_
      refine q_callV0 (cv_X9_mustStay ml_X9_343) hW kc_723 (by decide) rfl ⟨rfl, rfl⟩ rfl (Nat.le_of_ble_eq_true rfl) dX9_drop_28 (c_X9_mustStay hW hm hO hm28 ei ek9 hp zp zkl) (fun v_28 h_28 q_28 => ?_)
      obtain ⟨rfl, z9⟩ := q_28
      replace z9 := z9.symm
      subst z9
      refine r_iconst (1) dX9_drop_31 (by decide) ?_
      refine q_callV2 (cv_X9_fails ml_X9_302) hW kc_723 (by decide) rfl ⟨rfl, rfl⟩ rfl (Nat.le_of_ble_eq_true rfl) dX9_drop_32 (c_X9_failsB (b := !spB (getP r.1 p) k) hW) (fun v_32 h_32 q_32 => ?_)
      obtain ⟨rfl, z9⟩ := q_32
      replace z9 := z9.symm
      subst z9
      refine r_if_eq 40 dX9_drop_35 (by decide) (fun c_35 => ?_) (fun c_35 => ?_)
      · have ks : spB (getP r.1 p) k = true := bn0 c_35
        rw [ks]
        rw [if_neg (by decide)]
        have hq0 := RQ.f2 (h := h) (a := nI p) (b := nI k)
        replace hL := hL.rq hq0
        refine r_aload_n dX9_drop_40 rfl ?_
        refine q_callV0 (cv_X9_remembers ml_X9_337) hW kc_723 (by decide) rfl ⟨rfl, rfl⟩ rfl (Nat.le_of_ble_eq_true rfl) dX9_drop_41 (c_X9_remembers hW hm hL) (fun v_41 h_41 q_41 => ?_)
        obtain ⟨rfl, eR, eN, hL2⟩ := q_41
        have hW := eR.W hW
        replace hm := hm.cgH eR (by unfold RM; omega) (by unfold RM; omega)
        have he : eqx h_41 h_41 SM := eqx.rf
        have hqv := qv_row (p := p) hm hO
        have ei : aI h_41 723 25 = nI p := by rw [eN, pk_un (by decide), sI_k (by decide), sI_s]
        have ek9 : aI h_41 723 26 = nI k := by rw [eN, pk_un (by decide), sI_s]
        have h1t : qW (rowQ r.1 p) 1 = nI (nn (r.1 1)) := hO.1.2.1.1
        have hE9 := hO.1.2.2.2.2.2
        have hE8 : qE (rowQ r.1 p) < 2 ^ 28 := by show nn (r.1 3) < _; omega
        refine r_aload_n dX9_drop_44 rfl ?_
        refine r_aload_n dX9_drop_45 rfl ?_
        refine q_getI fl_X9_315 hW kc_723 rfl dX9_drop_46 ?_
        rw [ei]
        refine r_aload_n dX9_drop_49 rfl ?_
        refine q_getI fl_X9_318 hW kc_723 rfl dX9_drop_50 ?_
        rw [ek9]
        refine q_callV2 (cv_X9_goes ml_X9_144) hW kc_723 (by decide) rfl ⟨rfl, rfl⟩ rfl (Nat.le_of_ble_eq_true rfl) dX9_drop_53 (c_X9_goes hW hqv hp h1t rfl rfl (hOp.at 23) zkl (by omega)) (fun v_53 h_53 q_53 => ?_)
        obtain ⟨rfl, eG, hqg⟩ := q_53
        have hW := eG.W hW
        have he := he.tr eG
        have hmg : PV h_53 (W2 (goQ p (nn (r.1 1)) k (rowQ r.1 p))) r.2 p (goF (getP r.1 p) k) (getG r.2 p) := hqg
        refine r_aload_n dX9_drop_56 rfl ?_
        refine r_aload_n dX9_drop_57 rfl ?_
        refine q_getI fl_X9_315 hW kc_723 rfl dX9_drop_58 ?_
        rw [show aI h_53 723 25 = nI p from by rw [eG.I (by unfold SM; omega)]; exact ei]
        refine r_bipush (23) dX9_drop_61 (by decide) ?_
        refine q_callV2 (cv_X9_of ml_X9_81) hW kc_723 (by decide) rfl ⟨rfl, rfl⟩ rfl (Nat.le_of_ble_eq_true rfl) dX9_drop_63 (c_X9_of hW hmg hp rfl kn_23 (by omega)) (fun v_63 h_63 q_63 => ?_)
        obtain ⟨rfl, z9⟩ := q_63
        replace z9 := z9.symm
        subst z9
        refine r_iret dX9_drop_66 rfl ⟨Nat.zero_le _, Nat.zero_le _⟩ ?_
        rw [dpC_s hp9 zk, ks]
        refine ⟨fun q => absurd rfl q, fun _ => ⟨?_, rc_close hq0 eR eN he, ?_, hL2.sm he⟩⟩
        · rw [dpA_s hp9 zk, goR_at]
        · rw [dpR_s hp9 zk]; exact hqg.mw
      · refine r_iconst (0) dX9_drop_38 (by decide) ?_
        refine r_iret dX9_drop_39 rfl ⟨Nat.zero_le _, Nat.zero_le _⟩ ?_
        first
          | (have kf : (mbP r x).isSome = false := bI_0.mp c_11
             have kn : mbP r x = none := by cases hq : mbP r x with | none => rfl | some p => rw [hq] at kf; cases kf
             rw [dpC_n kn]
             exact ⟨fun _ => by rw [fdH_n kn, sI_2]; exact RQ.of (c := 2), fun q => absurd q (by decide)⟩)
          | (have ks : spB (getP r.1 p) k = false := bn1 c_35
             rw [dpC_s hp9 zk, ks]
             refine ⟨fun _ => ?_, fun q => absurd q (by decide)⟩
             rw [if_pos (by decide)]
             exact ⟨(((eqx.rf.sI (S := fun i => i = 723) rfl).sI rfl).sI rfl).sI rfl, sI_s, fun k k1 k2 k3 => by rw [sI_k k1, sI_k k3, sI_k k2, sI_k k1]⟩)
  · refine r_iconst (1) dX9_drop_14 (by decide) ?_
    refine r_goto 19 dX9_drop_15 (by decide) ?_
    refine r_iconst (2) dX9_drop_19 (by decide) ?_
    refine q_callV2 (cv_X9_fails ml_X9_302) hW kc_723 (by decide) rfl ⟨rfl, rfl⟩ rfl (Nat.le_of_ble_eq_true rfl) dX9_drop_20 (c_X9_fails1 hW) (fun v_20 h_20 q_20 => ?_)
    obtain ⟨rfl, z9⟩ := q_20
    replace z9 := z9.symm
    subst z9
    replace hm := hm.s9 (k := 12) (x := 2)
    refine r_if_ne 38 dX9_drop_23 (by decide) (fun c_23 => ?_) (fun c_23 => ?_)
    · refine r_iconst (0) dX9_drop_38 (by decide) ?_
      refine r_iret dX9_drop_39 rfl ⟨Nat.zero_le _, Nat.zero_le _⟩ ?_
      first
        | (have kf : (mbP r x).isSome = false := bI_0.mp c_11
           have kn : mbP r x = none := by cases hq : mbP r x with | none => rfl | some p => rw [hq] at kf; cases kf
           rw [dpC_n kn]
           exact ⟨fun _ => by rw [fdH_n kn, sI_2]; exact RQ.of (c := 2), fun q => absurd q (by decide)⟩)
        | (have ks : spB (getP r.1 p) k = false := bn1 c_35
           rw [dpC_s hp9 zk, ks]
           refine ⟨fun _ => ?_, fun q => absurd q (by decide)⟩
           rw [if_pos (by decide)]
           exact ⟨(((eqx.rf.sI (S := fun i => i = 723) rfl).sI rfl).sI rfl).sI rfl, sI_s, fun k k1 k2 k3 => by rw [sI_k k1, sI_k k3, sI_k k2, sI_k k1]⟩)
    · first | exact absurd c_23 (by decide) | exact absurd (by decide) c_23

set_option maxRecDepth 100000 in
set_option maxHeartbeats 4000000 in
theorem c_X9_grow {l9 : Launch} {G : GC} {h : AH} {r : Row} {m : Nat} {L : List Row} {x y : Int32} (hW : World h) (hm : MW h r) (hO : RoOK r.1 r.2 m) (hm28 : m < 2 ^ 28) (hL : PsR h L) (hb : m + 300 < 2 ^ 23) : PM l9 G mX9_grow NT NT [.ref 723, .int x, .int y] h (fun v h' => (cd3 (okP r x) (rgB 1 5 y) (gwB (fP r x) y) ≠ 0 → RQ h h' (cd3 (okP r x) (rgB 1 5 y) (gwB (fP r x) y))) ∧ (cd3 (okP r x) (rgB 1 5 y) (gwB (fP r x) y) = 0 → v = some (.int (getP (grR r (nn x) (nn y)).1 (nn x) 23)) ∧ RC h h' ∧ MW h' (grR r (nn x) (nn y)) ∧ PsR h' (pushL L r))) noX := by
  refine PM.of (by decide +kernel) rfl rfl (Nat.le_of_ble_eq_true rfl) (fun hst _ => ?_)
  refine r_aload_n dX9_grow_0 rfl ?_
  refine r_iload_n dX9_grow_1 rfl ?_
  refine q_callV1 (cv_X9_noPool ml_X9_309) hW kc_723 (by decide) rfl ⟨rfl, rfl⟩ rfl (Nat.le_of_ble_eq_true rfl) dX9_grow_2 (c_X9_noPool hW hm hO) (fun v_2 h_2 q_2 => ?_)
  obtain ⟨rfl, z9⟩ := q_2
  subst z9
  have hW : World (sI h 723 12 (nI (cd1 (okP r x)))) := wsI hW
  replace hm := hm.s9 (k := 12) (x := nI (cd1 (okP r x)))
  refine r_if_ne 61 dX9_grow_5 (by decide) (fun c_5 => ?_) (fun c_5 => ?_)
  · refine r_iconst (0) dX9_grow_61 (by decide) ?_
    refine r_iret dX9_grow_62 rfl ⟨Nat.zero_le _, Nat.zero_le _⟩ ?_
    first
      | (have ko : okP r x = false := bn1 c_5
         exact ⟨fun _ => by rw [ko]; exact RQ.of, fun q => absurd q (cd3_n1 ko)⟩)
      | (have kr9 : rgB 1 5 y = false := bI_0.mp c_15
         exact ⟨fun _ => by rw [sI_2, ko, kr9]; exact RQ.of (c := 2), fun q => absurd q (cd3_n2 ko kr9)⟩)
      | (have kb9 : gwB (fP r x) y = false := by
           unfold fP
           rw [ex]
           exact decide_eq_false c_46
         exact ⟨fun _ => by rw [sI_2, ko, kr9, kb9]; exact RQ.of (c := 3), fun q => absurd q (cd3_n3 ko kr9 kb9)⟩)
      | (refine ⟨fun q => absurd (cd3_t ko kr9 (by unfold fP; rw [ex]; exact kg)) q, fun _ => ⟨?_, rc_close hq0 eR eN he, ?_, hL2.sm he⟩⟩
         · rw [ex, ey]
           exact some_int ((trP_k (by decide)).symm.trans (congrFun putQ_p.symm 23))
         · rw [ex, ey]; exact hq.mw)
  · have ko : okP r x = true := bn0 c_5
    refine r_aload_n dX9_grow_8 rfl ?_
    refine r_iload_n dX9_grow_9 rfl ?_
    refine r_iconst (1) dX9_grow_10 (by decide) ?_
    refine r_iconst (5) dX9_grow_11 (by decide) ?_
    refine q_callS3 (cs_X9_inRange ml_X9_167) ⟨rfl, rfl⟩ rfl (Nat.le_of_ble_eq_true rfl) dX9_grow_12 c_X9_inRange (fun v_12 h_12 q_12 => ?_)
    obtain ⟨rfl, z9⟩ := q_12
    replace z9 := z9.symm
    subst z9
    refine r_if_ne 22 dX9_grow_15 (by decide) (fun c_15 => ?_) (fun c_15 => ?_)
    · refine r_iconst (0) dX9_grow_22 (by decide) ?_
      refine r_iconst (2) dX9_grow_23 (by decide) ?_
      refine q_callV2 (cv_X9_fails ml_X9_302) hW kc_723 (by decide) rfl ⟨rfl, rfl⟩ rfl (Nat.le_of_ble_eq_true rfl) dX9_grow_24 (c_X9_fails0 hW) (fun v_24 h_24 q_24 => ?_)
      obtain ⟨rfl, z9⟩ := q_24
      replace z9 := z9.symm
      subst z9
      refine r_if_ne 61 dX9_grow_27 (by decide) (fun c_27 => ?_) (fun c_27 => ?_)
      · first | exact absurd c_27 (by decide) | exact absurd (by decide) c_27
      · have kr9 : rgB 1 5 y = true := bI_1.mp c_15
        obtain ⟨p, hp, pn, hx⟩ := okP_t hO ko
        have ex : nn x = p := by rw [hx]; exact nn_I (by omega)
        have hOp := hO.2 p pn
        have y23 : nn (getP r.1 p 23) ≤ 20 := (hOp.at 23).2.2
        have y24 : nn (getP r.1 p 24) ≤ 24 := (hOp.at 24).2.2
        refine r_aload_n dX9_grow_30 rfl ?_
        refine r_aload_n dX9_grow_31 rfl ?_
        refine r_iload_n dX9_grow_32 rfl ?_
        refine r_bipush (23) dX9_grow_33 (by decide) ?_
        refine q_callV2 (cv_X9_of ml_X9_81) hW kc_723 (by decide) rfl ⟨rfl, rfl⟩ rfl (Nat.le_of_ble_eq_true rfl) dX9_grow_35 (c_X9_ofM hW hm hp hx kn_23 (by omega)) (fun v_35 h_35 q_35 => ?_)
        obtain ⟨rfl, z9⟩ := q_35
        replace z9 := z9.symm
        subst z9
        refine r_iload_n dX9_grow_38 rfl ?_
        refine r_iadd dX9_grow_39 ?_
        refine r_aload_n dX9_grow_40 rfl ?_
        refine r_iload_n dX9_grow_41 rfl ?_
        refine r_iconst (1) dX9_grow_42 (by decide) ?_
        refine q_callV2 (cv_X9_of ml_X9_81) hW kc_723 (by decide) rfl ⟨rfl, rfl⟩ rfl (Nat.le_of_ble_eq_true rfl) dX9_grow_43 (c_X9_ofM hW hm hp hx kn_1 (by omega)) (fun v_43 h_43 q_43 => ?_)
        obtain ⟨rfl, z9⟩ := q_43
        replace z9 := z9.symm
        subst z9
        refine r_icmp_le 53 dX9_grow_46 (by decide) (fun c_46 => ?_) (fun c_46 => ?_)
        · refine r_iconst (0) dX9_grow_53 (by decide) ?_
          refine r_iconst (3) dX9_grow_54 (by decide) ?_
          refine q_callV2 (cv_X9_fails ml_X9_302) hW kc_723 (by decide) rfl ⟨rfl, rfl⟩ rfl (Nat.le_of_ble_eq_true rfl) dX9_grow_55 (c_X9_fails0 hW) (fun v_55 h_55 q_55 => ?_)
          obtain ⟨rfl, z9⟩ := q_55
          replace z9 := z9.symm
          subst z9
          refine r_if_eq 63 dX9_grow_58 (by decide) (fun c_58 => ?_) (fun c_58 => ?_)
          · have kg : gwB (getP r.1 p) y = true := decide_eq_true c_46
            obtain ⟨n, n1, n2, ek⟩ := rgB_t (a := 1) (b := 5) kr9 (by decide) (by decide)
            have ey : nn y = n := by rw [ek]; exact nn_I (by omega)
            have hmx : nn (getP r.1 p 23) + n ≤ nn (getP r.1 p 1) := by
              have c9 := c_46
              rw [ek, (hOp.at 23).1, nI_add, (hOp.at 1).1] at c9
              have := (hOp.at 1).2.2
              have e20 : bHi 1 = 20 := rfl
              exact (nI_leI (by omega) (by omega)).mp c9
            have hm20 : nn (getP r.1 p 1) ≤ 20 := (hOp.at 1).2.2
            have hq0 : RQ h (sI h 723 12 (nI (cd1 (okP r x)))) 0 := by rw [ko]; exact RQ.of
            replace hL := hL.rq hq0
            refine r_aload_n dX9_grow_63 rfl ?_
            refine q_callV0 (cv_X9_remembers ml_X9_337) hW kc_723 (by decide) rfl ⟨rfl, rfl⟩ rfl (Nat.le_of_ble_eq_true rfl) dX9_grow_64 (c_X9_remembers hW hm hL) (fun v_64 h_64 q_64 => ?_)
            obtain ⟨rfl, eR, eN, hL2⟩ := q_64
            have hW := eR.W hW
            replace hm := hm.cgH eR (by unfold RM; omega) (by unfold RM; omega)
            have he : eqx h_64 h_64 SM := eqx.rf
            have hqv := qv_row (p := p) hm hO
            have hE9 := hO.1.2.2.2.2.2
            refine r_iconst (-1) dX9_grow_67 (by decide) ?_
            refine r_istore_n (ls2 := [_, _, some _, _, _]) dX9_grow_68 (by decide) rfl ?_
            refine r_iconst (0) dX9_grow_69 (by decide) ?_
            refine r_istore (ls2 := [_, _, _, some _, _]) dX9_grow_70 (by decide) rfl ?_
            have hz := fun i hi => zr_ok (p := p) (t := nn (r.1 1)) (n := i) (r := (r.1 1 + getP r.1 p 4)) (q := rowQ r.1 p) hOp hi
            refine loopN (P := fun i => ∀ (H : AH) (v3 : Int32), i ≤ n → (0 < i → ¬ v3 < 0) → World H → eqx h_64 H SM → QV H r.2 p (grS p (nn (r.1 1)) (r.1 1 + getP r.1 p 4) i (rowQ r.1 p)) (getG r.2 p) → PW l9 G mX9_grow _ _ NT 72 [some (.ref 723), some (.int x), some (.int y), some (.int v3), some (.int (nI i))] [] _ H) n (fun i ih H v3 hi hv3 hW he hq => ?_) 0 h_64 (-1) (Nat.zero_le _) (fun q => absurd q (Nat.lt_irrefl _)) hW eqx.rf hqv
            obtain ⟨z1, z2, z3, z4, z5⟩ := hz i (show nn (getP r.1 p 23) + i ≤ 20 by omega)
            have z2' : nn (qF (grS p (nn (r.1 1)) (r.1 1 + getP r.1 p 4) i (rowQ r.1 p)) 23) = nn (getP r.1 p 23) + i := z2
            have z3' : qX (grS p (nn (r.1 1)) (r.1 1 + getP r.1 p 4) i (rowQ r.1 p)) = nn (r.1 2) + i := z3
            have z4' : qE (grS p (nn (r.1 1)) (r.1 1 + getP r.1 p 4) i (rowQ r.1 p)) = nn (r.1 3) + i := z4
            have hX9 := hO.1.2.2.1.2.2
            have hm : PV H (W2 (grS p (nn (r.1 1)) (r.1 1 + getP r.1 p 4) i (rowQ r.1 p))) r.2 p (qF (grS p (nn (r.1 1)) (r.1 1 + getP r.1 p 4) i (rowQ r.1 p))) (getG r.2 p) := hq
            have h1w : W2 (grS p (nn (r.1 1)) (r.1 1 + getP r.1 p 4) i (rowQ r.1 p)) 1 = r.1 1 := (W2_k (by decide) (by decide)).trans (gr_W (by omega))
            have h1q : qW (grS p (nn (r.1 1)) (r.1 1 + getP r.1 p 4) i (rowQ r.1 p)) 1 = nI (nn (r.1 1)) := (gr_W (by omega)).trans hO.1.2.1.1
            refine r_iload dX9_grow_72 rfl ?_
            refine r_iload_n dX9_grow_74 rfl ?_
            refine r_icmp_ge 103 dX9_grow_75 (by decide) (fun c_75 => ?_) (fun c_75 => ?_)
            · have hge : n = i := by
                have c9 := c_75
                rw [ek] at c9
                have := (nI_leI (by omega) (by omega)).mp c9
                omega
              subst hge
              refine r_iload_n dX9_grow_103 rfl ?_
              refine r_if_ge 111 dX9_grow_104 (by decide) (fun c_104 => ?_) (fun c_104 => ?_)
              · refine r_aload_n dX9_grow_111 rfl ?_
                refine r_iload_n dX9_grow_112 rfl ?_
                refine r_bipush (23) dX9_grow_113 (by decide) ?_
                refine q_callV2 (cv_X9_of ml_X9_81) hW kc_723 (by decide) rfl ⟨rfl, rfl⟩ rfl (Nat.le_of_ble_eq_true rfl) dX9_grow_115 (c_X9_of hW hm hp hx kn_23 (by omega)) (fun v_115 h_115 q_115 => ?_)
                obtain ⟨rfl, z9⟩ := q_115
                replace z9 := z9.symm
                subst z9
                refine r_iret dX9_grow_118 rfl ⟨Nat.zero_le _, Nat.zero_le _⟩ ?_
                refine ⟨fun q => absurd (cd3_t ko kr9 (by unfold fP; rw [ex]; exact kg)) q, fun _ => ⟨?_, rc_close hq0 eR eN he, ?_, hL2.sm he⟩⟩
                · rw [ex, ey]
                  exact some_int ((trP_k (by decide)).symm.trans (congrFun putQ_p.symm 23))
                · rw [ex, ey]; exact hq.mw
              · exact absurd (Int32.not_lt.mp (hv3 (by omega))) c_104
            · have hlt : i < n := by
                have c9 := c_75
                rw [ek] at c9
                exact (nI_ltI (by omega) (by omega)).mp (i_lt.mp c9)
              refine r_aload_n dX9_grow_78 rfl ?_
              refine r_iload_n dX9_grow_79 rfl ?_
              refine r_aload_n dX9_grow_80 rfl ?_
              refine q_getR fl_X9_7 hW kc_723 rfl (kl_9_0 hW) (by decide) dX9_grow_81 ?_
              refine r_iconst (1) dX9_grow_84 (by decide) ?_
              refine q_wldPV hW hm kn_1 (by omega) dX9_grow_85 ?_
              rw [h1w]
              refine r_aload_n dX9_grow_86 rfl ?_
              refine r_iload_n dX9_grow_87 rfl ?_
              refine r_iconst (4) dX9_grow_88 (by decide) ?_
              refine q_callV2 (cv_X9_of ml_X9_81) hW kc_723 (by decide) rfl ⟨rfl, rfl⟩ rfl (Nat.le_of_ble_eq_true rfl) dX9_grow_89 (c_X9_of hW hm hp hx kn_4 (by omega)) (fun v_89 h_89 q_89 => ?_)
              obtain ⟨rfl, z9⟩ := q_89
              replace z9 := z9.symm
              subst z9
              rw [show qF (grS p (nn (r.1 1)) (r.1 1 + getP r.1 p 4) i (rowQ r.1 p)) 4 = getP r.1 p 4 from z5 4 (by decide)]
              refine r_iadd dX9_grow_92 ?_
              refine q_callV2 (cv_X9_comes ml_X9_141) hW kc_723 (by decide) rfl ⟨rfl, rfl⟩ rfl (Nat.le_of_ble_eq_true rfl) dX9_grow_93 (c_X9_comes hW hq hp h1q hx (z1.at 23).1 (by omega) (by omega)) (fun v_93 h_93 q_93 => ?_)
              obtain ⟨rfl, eC, hqc⟩ := q_93
              have hW := eC.W hW
              refine r_istore_n (ls2 := [_, _, some _, _, _]) dX9_grow_96 (by decide) rfl ?_
              refine r_iinc (1) (by decide) (ls2 := [_, _, _, some _, _]) dX9_grow_97 rfl (by decide) rfl ?_
              refine r_goto 72 dX9_grow_100 (by decide) ?_
              rw [nI_1]
              exact ih hlt _ _ hlt (fun _ => nI_pos (by omega)) hW (he.tr eC) hqc
          · first | exact absurd c_58 (by decide) | exact absurd (by decide) c_58
        · refine r_iconst (1) dX9_grow_49 (by decide) ?_
          refine r_goto 54 dX9_grow_50 (by decide) ?_
          refine r_iconst (3) dX9_grow_54 (by decide) ?_
          refine q_callV2 (cv_X9_fails ml_X9_302) hW kc_723 (by decide) rfl ⟨rfl, rfl⟩ rfl (Nat.le_of_ble_eq_true rfl) dX9_grow_55 (c_X9_fails1 hW) (fun v_55 h_55 q_55 => ?_)
          obtain ⟨rfl, z9⟩ := q_55
          replace z9 := z9.symm
          subst z9
          replace hm := hm.s9 (k := 12) (x := 3)
          refine r_if_eq 63 dX9_grow_58 (by decide) (fun c_58 => ?_) (fun c_58 => ?_)
          · first | exact absurd c_58 (by decide) | exact absurd (by decide) c_58
          · refine r_iconst (0) dX9_grow_61 (by decide) ?_
            refine r_iret dX9_grow_62 rfl ⟨Nat.zero_le _, Nat.zero_le _⟩ ?_
            first
              | (have ko : okP r x = false := bn1 c_5
                 exact ⟨fun _ => by rw [ko]; exact RQ.of, fun q => absurd q (cd3_n1 ko)⟩)
              | (have kr9 : rgB 1 5 y = false := bI_0.mp c_15
                 exact ⟨fun _ => by rw [sI_2, ko, kr9]; exact RQ.of (c := 2), fun q => absurd q (cd3_n2 ko kr9)⟩)
              | (have kb9 : gwB (fP r x) y = false := by
                   unfold fP
                   rw [ex]
                   exact decide_eq_false c_46
                 exact ⟨fun _ => by rw [sI_2, ko, kr9, kb9]; exact RQ.of (c := 3), fun q => absurd q (cd3_n3 ko kr9 kb9)⟩)
              | (refine ⟨fun q => absurd (cd3_t ko kr9 (by unfold fP; rw [ex]; exact kg)) q, fun _ => ⟨?_, rc_close hq0 eR eN he, ?_, hL2.sm he⟩⟩
                 · rw [ex, ey]
                   exact some_int ((trP_k (by decide)).symm.trans (congrFun putQ_p.symm 23))
                 · rw [ex, ey]; exact hq.mw)
    · refine r_iconst (1) dX9_grow_18 (by decide) ?_
      refine r_goto 23 dX9_grow_19 (by decide) ?_
      refine r_iconst (2) dX9_grow_23 (by decide) ?_
      refine q_callV2 (cv_X9_fails ml_X9_302) hW kc_723 (by decide) rfl ⟨rfl, rfl⟩ rfl (Nat.le_of_ble_eq_true rfl) dX9_grow_24 (c_X9_fails1 hW) (fun v_24 h_24 q_24 => ?_)
      obtain ⟨rfl, z9⟩ := q_24
      replace z9 := z9.symm
      subst z9
      replace hm := hm.s9 (k := 12) (x := 2)
      refine r_if_ne 61 dX9_grow_27 (by decide) (fun c_27 => ?_) (fun c_27 => ?_)
      · refine r_iconst (0) dX9_grow_61 (by decide) ?_
        refine r_iret dX9_grow_62 rfl ⟨Nat.zero_le _, Nat.zero_le _⟩ ?_
        first
          | (have ko : okP r x = false := bn1 c_5
             exact ⟨fun _ => by rw [ko]; exact RQ.of, fun q => absurd q (cd3_n1 ko)⟩)
          | (have kr9 : rgB 1 5 y = false := bI_0.mp c_15
             exact ⟨fun _ => by rw [sI_2, ko, kr9]; exact RQ.of (c := 2), fun q => absurd q (cd3_n2 ko kr9)⟩)
          | (have kb9 : gwB (fP r x) y = false := by
               unfold fP
               rw [ex]
               exact decide_eq_false c_46
             exact ⟨fun _ => by rw [sI_2, ko, kr9, kb9]; exact RQ.of (c := 3), fun q => absurd q (cd3_n3 ko kr9 kb9)⟩)
          | (refine ⟨fun q => absurd (cd3_t ko kr9 (by unfold fP; rw [ex]; exact kg)) q, fun _ => ⟨?_, rc_close hq0 eR eN he, ?_, hL2.sm he⟩⟩
             · rw [ex, ey]
               exact some_int ((trP_k (by decide)).symm.trans (congrFun putQ_p.symm 23))
             · rw [ex, ey]; exact hq.mw)
      · first | exact absurd c_27 (by decide) | exact absurd (by decide) c_27

theorem c_X9_finds0 {l9 : Launch} {G : GC} {h : AH} {r : Row} {m : Nat} {x : Int32} (hW : World h) (hm : MW h r) (hO : RoOK r.1 r.2 m) (hm28 : m < 2 ^ 28) (hn : mbP r x = none) : PM l9 G mX9_finds NT NT [.ref 723, .int x] h (fun v h' => v = some (.int 0) ∧ h' = h) noX := (c_X9_finds hW hm hO hm28).mono (fun v h' q => ⟨by rw [q.1, hn]; rfl, by rw [q.2, fdH_n hn]⟩) (fun _ _ q => q)
theorem c_X9_finds1 {l9 : Launch} {G : GC} {h : AH} {r : Row} {m : Nat} {p k : Nat} {x : Int32} (hW : World h) (hm : MW h r) (hO : RoOK r.1 r.2 m) (hm28 : m < 2 ^ 28) (h1 : mbP r x = some p) (h2 : mbK r x = some k) : PM l9 G mX9_finds NT NT [.ref 723, .int x] h (fun v h' => v = some (.int 1) ∧ h' = sI (sI h 723 25 (nI p)) 723 26 (nI k)) noX := (c_X9_finds hW hm hO hm28).mono (fun v h' q => ⟨by rw [q.1, h1]; rfl, by rw [q.2, fdH_s h1 h2]⟩) (fun _ _ q => q)
set_option maxRecDepth 100000 in
set_option maxHeartbeats 4000000 in
theorem c_X9_transfer {l9 : Launch} {G : GC} {h : AH} {r : Row} {m : Nat} {L : List Row} {x y : Int32} (hW : World h) (hm : MW h r) (hO : RoOK r.1 r.2 m) (hm28 : m < 2 ^ 28) (hL : PsR h L) (hb : m + 300 < 2 ^ 23) : PM l9 G mX9_transfer NT NT [.ref 723, .int x, .int y] h (fun v h' => (tfC r x y ≠ 0 → RQ h h' (tfC r x y)) ∧ (tfC r x y = 0 → v = some (.int (r.1 2)) ∧ RC h h' ∧ MW h' (tfR r x y) ∧ PsR h' (pushL L r))) noX := by
  refine PM.of (by decide +kernel) rfl rfl (Nat.le_of_ble_eq_true rfl) (fun hst _ => ?_)
  cases hq : mbP r x with
  | none =>
    refine r_aload_n dX9_transfer_0 rfl ?_
    refine r_iload_n dX9_transfer_1 rfl ?_
    refine q_callV1 (cv_X9_noPool ml_X9_309) hW kc_723 (by decide) rfl ⟨rfl, rfl⟩ rfl (Nat.le_of_ble_eq_true rfl) dX9_transfer_2 (c_X9_noPool hW hm hO) (fun v_2 h_2 q_2 => ?_)
    obtain ⟨rfl, z9⟩ := q_2
    subst z9
    have hW : World (sI h 723 12 (nI (cd1 (okP r y)))) := wsI hW
    replace hm := hm.s9 (k := 12) (x := nI (cd1 (okP r y)))
    refine r_if_eq 10 dX9_transfer_5 (by decide) (fun c_5 => ?_) (fun c_5 => ?_)
    · have ko : okP r y = true := bn0 c_5
      obtain ⟨j, hj, jn, ey⟩ := okP_t hO ko
      have eyn : nn y = j := by rw [ey]; exact nn_I (by omega)
      have hOj := hO.2 j jn
      have eFy : fP r y = getP r.1 j := by unfold fP; rw [eyn]
      have yj23 : nn (getP r.1 j 23) ≤ 20 := (hOj.at 23).2.2
      refine r_aload_n dX9_transfer_10 rfl ?_
      refine r_iload_n dX9_transfer_11 rfl ?_
      refine q_callV1 (cv_X9_finds ml_X9_321) hW kc_723 (by decide) rfl ⟨rfl, rfl⟩ rfl (Nat.le_of_ble_eq_true rfl) dX9_transfer_12 (c_X9_finds0 hW hm hO hm28 hq) (fun v_12 h_12 q_12 => ?_)
      obtain ⟨rfl, z9⟩ := q_12
      replace z9 := z9.symm
      subst z9
      refine r_istore_n (ls2 := [_, _, some _, _]) dX9_transfer_15 (by decide) rfl ?_
      refine r_aload_n dX9_transfer_16 rfl ?_
      refine r_iload_n dX9_transfer_17 rfl ?_
      refine r_if_eq 33 dX9_transfer_18 (by decide) (fun c_18 => ?_) (fun c_18 => ?_)
      · refine r_iconst (0) dX9_transfer_33 (by decide) ?_
        refine r_iconst (2) dX9_transfer_34 (by decide) ?_
        refine q_callV2 (cv_X9_fails ml_X9_302) hW kc_723 (by decide) rfl ⟨rfl, rfl⟩ rfl (Nat.le_of_ble_eq_true rfl) dX9_transfer_35 (c_X9_fails0 hW) (fun v_35 h_35 q_35 => ?_)
        obtain ⟨rfl, z9⟩ := q_35
        replace z9 := z9.symm
        subst z9
        refine r_if_ne 98 dX9_transfer_38 (by decide) (fun c_38 => ?_) (fun c_38 => ?_)
        · first | exact absurd c_38 (by decide) | exact absurd (by decide) c_38
        · refine r_aload_n dX9_transfer_41 rfl ?_
          refine r_iload_n dX9_transfer_42 rfl ?_
          refine r_if_eq 53 dX9_transfer_43 (by decide) (fun c_43 => ?_) (fun c_43 => ?_)
          · refine r_aload_n dX9_transfer_53 rfl ?_
            refine r_iload_n dX9_transfer_54 rfl ?_
            refine r_bipush (23) dX9_transfer_55 (by decide) ?_
            refine q_callV2 (cv_X9_of ml_X9_81) hW kc_723 (by decide) rfl ⟨rfl, rfl⟩ rfl (Nat.le_of_ble_eq_true rfl) dX9_transfer_57 (c_X9_ofM hW hm hj ey kn_23 (by omega)) (fun v_57 h_57 q_57 => ?_)
            obtain ⟨rfl, z9⟩ := q_57
            replace z9 := z9.symm
            subst z9
            refine r_aload_n dX9_transfer_60 rfl ?_
            refine r_iload_n dX9_transfer_61 rfl ?_
            refine r_iconst (1) dX9_transfer_62 (by decide) ?_
            refine q_callV2 (cv_X9_of ml_X9_81) hW kc_723 (by decide) rfl ⟨rfl, rfl⟩ rfl (Nat.le_of_ble_eq_true rfl) dX9_transfer_63 (c_X9_ofM hW hm hj ey kn_1 (by omega)) (fun v_63 h_63 q_63 => ?_)
            obtain ⟨rfl, z9⟩ := q_63
            replace z9 := z9.symm
            subst z9
            refine r_icmp_lt 73 dX9_transfer_66 (by decide) (fun c_66 => ?_) (fun c_66 => ?_)
            · refine r_iconst (0) dX9_transfer_73 (by decide) ?_
              refine r_iconst (3) dX9_transfer_74 (by decide) ?_
              refine q_callV2 (cv_X9_fails ml_X9_302) hW kc_723 (by decide) rfl ⟨rfl, rfl⟩ rfl (Nat.le_of_ble_eq_true rfl) dX9_transfer_75 (c_X9_fails0 hW) (fun v_75 h_75 q_75 => ?_)
              obtain ⟨rfl, z9⟩ := q_75
              replace z9 := z9.symm
              subst z9
              refine r_if_ne 98 dX9_transfer_78 (by decide) (fun c_78 => ?_) (fun c_78 => ?_)
              · first | exact absurd c_78 (by decide) | exact absurd (by decide) c_78
              · refine r_aload_n dX9_transfer_81 rfl ?_
                refine r_iload_n dX9_transfer_82 rfl ?_
                refine r_if_ne 90 dX9_transfer_83 (by decide) (fun c_83 => ?_) (fun c_83 => ?_)
                · first | exact absurd c_83 (by decide) | exact absurd (by decide) c_83
                · refine r_iconst (1) dX9_transfer_86 (by decide) ?_
                  refine r_goto 91 dX9_transfer_87 (by decide) ?_
                  refine r_iconst (4) dX9_transfer_91 (by decide) ?_
                  refine q_callV2 (cv_X9_fails ml_X9_302) hW kc_723 (by decide) rfl ⟨rfl, rfl⟩ rfl (Nat.le_of_ble_eq_true rfl) dX9_transfer_92 (c_X9_fails1 hW) (fun v_92 h_92 q_92 => ?_)
                  obtain ⟨rfl, z9⟩ := q_92
                  replace z9 := z9.symm
                  subst z9
                  replace hm := hm.s9 (k := 12) (x := 4)
                  refine r_if_eq 100 dX9_transfer_95 (by decide) (fun c_95 => ?_) (fun c_95 => ?_)
                  · first | exact absurd c_95 (by decide) | exact absurd (by decide) c_95
                  · refine r_iconst (0) dX9_transfer_98 (by decide) ?_
                    refine r_iret dX9_transfer_99 rfl ⟨Nat.zero_le _, Nat.zero_le _⟩ ?_
                    first
                      | (have kfu : fuB (fP r y) = true := decide_eq_true (by rw [eFy]; exact c_66)
                         rw [tfC_n ko hq, kfu]
                         exact ⟨fun _ => by rw [sI_2]; exact RQ.of (c := 4), fun q => absurd q (by decide)⟩)
                      | (have kfu : fuB (fP r y) = false := decide_eq_false (by rw [eFy]; exact c_66)
                         rw [tfC_n ko hq, kfu]
                         exact ⟨fun _ => by rw [sI_2]; exact RQ.of (c := 3), fun q => absurd q (by decide)⟩)
            · refine r_iconst (1) dX9_transfer_69 (by decide) ?_
              refine r_goto 74 dX9_transfer_70 (by decide) ?_
              refine r_iconst (3) dX9_transfer_74 (by decide) ?_
              refine q_callV2 (cv_X9_fails ml_X9_302) hW kc_723 (by decide) rfl ⟨rfl, rfl⟩ rfl (Nat.le_of_ble_eq_true rfl) dX9_transfer_75 (c_X9_fails1 hW) (fun v_75 h_75 q_75 => ?_)
              obtain ⟨rfl, z9⟩ := q_75
              replace z9 := z9.symm
              subst z9
              replace hm := hm.s9 (k := 12) (x := 3)
              refine r_if_ne 98 dX9_transfer_78 (by decide) (fun c_78 => ?_) (fun c_78 => ?_)
              · refine r_iconst (0) dX9_transfer_98 (by decide) ?_
                refine r_iret dX9_transfer_99 rfl ⟨Nat.zero_le _, Nat.zero_le _⟩ ?_
                first
                  | (have kfu : fuB (fP r y) = true := decide_eq_true (by rw [eFy]; exact c_66)
                     rw [tfC_n ko hq, kfu]
                     exact ⟨fun _ => by rw [sI_2]; exact RQ.of (c := 4), fun q => absurd q (by decide)⟩)
                  | (have kfu : fuB (fP r y) = false := decide_eq_false (by rw [eFy]; exact c_66)
                     rw [tfC_n ko hq, kfu]
                     exact ⟨fun _ => by rw [sI_2]; exact RQ.of (c := 3), fun q => absurd q (by decide)⟩)
              · first | exact absurd c_78 (by decide) | exact absurd (by decide) c_78
          · first | exact absurd c_43 (by decide) | exact absurd (by decide) c_43
      · first | exact absurd c_18 (by decide) | exact absurd (by decide) c_18
    · refine r_iconst (0) dX9_transfer_8 (by decide) ?_
      refine r_iret dX9_transfer_9 rfl ⟨Nat.zero_le _, Nat.zero_le _⟩ ?_
      have ko : okP r y = false := bn1 c_5
      rw [tfC_1 ko]
      exact ⟨fun _ => by rw [ko]; exact RQ.of (c := 1), fun q => absurd q (by decide)⟩
  | some p =>
    obtain ⟨zp, k, zk, zl⟩ := mb_some hq
    have zkl := plS_lt zl
    obtain ⟨np, n4, n3, en⟩ := hO.np
    have hp : p < 4 := by omega
    have hOp := hO.2 p zp
    have y23 : nn (getP r.1 p 23) ≤ 20 := (hOp.at 23).2.2
    refine r_aload_n dX9_transfer_0 rfl ?_
    refine r_iload_n dX9_transfer_1 rfl ?_
    refine q_callV1 (cv_X9_noPool ml_X9_309) hW kc_723 (by decide) rfl ⟨rfl, rfl⟩ rfl (Nat.le_of_ble_eq_true rfl) dX9_transfer_2 (c_X9_noPool hW hm hO) (fun v_2 h_2 q_2 => ?_)
    obtain ⟨rfl, z9⟩ := q_2
    subst z9
    have hW : World (sI h 723 12 (nI (cd1 (okP r y)))) := wsI hW
    replace hm := hm.s9 (k := 12) (x := nI (cd1 (okP r y)))
    refine r_if_eq 10 dX9_transfer_5 (by decide) (fun c_5 => ?_) (fun c_5 => ?_)
    · have ko : okP r y = true := bn0 c_5
      obtain ⟨j, hj, jn, ey⟩ := okP_t hO ko
      have eyn : nn y = j := by rw [ey]; exact nn_I (by omega)
      have hOj := hO.2 j jn
      have eFy : fP r y = getP r.1 j := by unfold fP; rw [eyn]
      have yj23 : nn (getP r.1 j 23) ≤ 20 := (hOj.at 23).2.2
      have ei : aI (sI (sI (sI h 723 12 (nI (cd1 (okP r y)))) 723 25 (nI p)) 723 26 (nI k)) 723 25 = nI p := by rw [sI_k (by decide), sI_s]
      have ek9 : aI (sI (sI (sI h 723 12 (nI (cd1 (okP r y)))) 723 25 (nI p)) 723 26 (nI k)) 723 26 = nI k := sI_s
      have hq0 : RQ h (sI (sI (sI h 723 12 (nI (cd1 (okP r y)))) 723 25 (nI p)) 723 26 (nI k)) 0 := ⟨((eqx.rf.sI (S := fun i => i = 723) rfl).sI rfl).sI rfl, by rw [sI_k (by decide), sI_k (by decide), sI_s, ko]; rfl, fun k k1 k2 k3 => by rw [sI_k k3, sI_k k2, sI_k k1]⟩
      refine r_aload_n dX9_transfer_10 rfl ?_
      refine r_iload_n dX9_transfer_11 rfl ?_
      refine q_callV1 (cv_X9_finds ml_X9_321) hW kc_723 (by decide) rfl ⟨rfl, rfl⟩ rfl (Nat.le_of_ble_eq_true rfl) dX9_transfer_12 (c_X9_finds1 hW hm hO hm28 hq zk) (fun v_12 h_12 q_12 => ?_)
      obtain ⟨rfl, z9⟩ := q_12
      replace z9 := z9.symm
      subst z9
      replace hm := (hm.s9 (k := 25) (x := nI p)).s9 (k := 26) (x := nI k)
      refine r_istore_n (ls2 := [_, _, some _, _]) dX9_transfer_15 (by decide) rfl ?_
      refine r_aload_n dX9_transfer_16 rfl ?_
      refine r_iload_n dX9_transfer_17 rfl ?_
      refine r_if_eq 33 dX9_transfer_18 (by decide) (fun c_18 => ?_) (fun c_18 => ?_)
      · first | exact absurd c_18 (by decide) | exact absurd (by decide) c_18
      · refine r_aload_n dX9_transfer_21 rfl ?_
        refine q_getI fl_X9_315 hW kc_723 rfl dX9_transfer_22 ?_
        rw [ei]
        refine r_iload_n dX9_transfer_25 rfl ?_
        refine r_icmp_ne 33 dX9_transfer_26 (by decide) (fun c_26 => ?_) (fun c_26 => ?_)
        · refine r_iconst (0) dX9_transfer_33 (by decide) ?_
          refine r_iconst (2) dX9_transfer_34 (by decide) ?_
          refine q_callV2 (cv_X9_fails ml_X9_302) hW kc_723 (by decide) rfl ⟨rfl, rfl⟩ rfl (Nat.le_of_ble_eq_true rfl) dX9_transfer_35 (c_X9_fails0 hW) (fun v_35 h_35 q_35 => ?_)
          obtain ⟨rfl, z9⟩ := q_35
          replace z9 := z9.symm
          subst z9
          refine r_if_ne 98 dX9_transfer_38 (by decide) (fun c_38 => ?_) (fun c_38 => ?_)
          · first | exact absurd c_38 (by decide) | exact absurd (by decide) c_38
          · refine r_aload_n dX9_transfer_41 rfl ?_
            refine r_iload_n dX9_transfer_42 rfl ?_
            refine r_if_eq 53 dX9_transfer_43 (by decide) (fun c_43 => ?_) (fun c_43 => ?_)
            · first | exact absurd c_43 (by decide) | exact absurd (by decide) c_43
            · have hpj : ¬ p = nn y := fun q => c_26 (by rw [eyn] at q; rw [ey, q])
              refine r_aload_n dX9_transfer_46 rfl ?_
              refine q_callV0 (cv_X9_mustStay ml_X9_343) hW kc_723 (by decide) rfl ⟨rfl, rfl⟩ rfl (Nat.le_of_ble_eq_true rfl) dX9_transfer_47 (c_X9_mustStay hW hm hO hm28 ei ek9 hp zp zkl) (fun v_47 h_47 q_47 => ?_)
              obtain ⟨rfl, z9⟩ := q_47
              replace z9 := z9.symm
              subst z9
              refine r_if_ne 69 dX9_transfer_50 (by decide) (fun c_50 => ?_) (fun c_50 => ?_)
              · refine r_iconst (1) dX9_transfer_69 (by decide) ?_
                refine r_goto 74 dX9_transfer_70 (by decide) ?_
                refine r_iconst (3) dX9_transfer_74 (by decide) ?_
                refine q_callV2 (cv_X9_fails ml_X9_302) hW kc_723 (by decide) rfl ⟨rfl, rfl⟩ rfl (Nat.le_of_ble_eq_true rfl) dX9_transfer_75 (c_X9_fails1 hW) (fun v_75 h_75 q_75 => ?_)
                obtain ⟨rfl, z9⟩ := q_75
                replace z9 := z9.symm
                subst z9
                replace hm := hm.s9 (k := 12) (x := 3)
                refine r_if_ne 98 dX9_transfer_78 (by decide) (fun c_78 => ?_) (fun c_78 => ?_)
                · refine r_iconst (0) dX9_transfer_98 (by decide) ?_
                  refine r_iret dX9_transfer_99 rfl ⟨Nat.zero_le _, Nat.zero_le _⟩ ?_
                  first
                    | (rw [tfC_2 ko (by rw [hq, eyn]; exact congrArg some ((nI_eq (by omega) (by omega)).mp (by rw [← ey]; first | exact c_26 | simpa using c_26)))]
                       exact ⟨fun _ => ⟨(((eqx.rf.sI (S := fun i => i = 723) rfl).sI rfl).sI rfl).sI rfl, sI_s, fun k k1 k2 k3 => by rw [sI_k k1, sI_k k3, sI_k k2, sI_k k1]⟩, fun q => absurd q (by decide)⟩)
                    | (have ks : spB (getP r.1 p) k = false := bn1 c_50
                       rw [tfC_s ko hq zk hpj, ks, Bool.and_false]
                       exact ⟨fun _ => ⟨(((eqx.rf.sI (S := fun i => i = 723) rfl).sI rfl).sI rfl).sI rfl, sI_s, fun k k1 k2 k3 => by rw [sI_k k1, sI_k k3, sI_k k2, sI_k k1]⟩, fun q => absurd q (by decide)⟩)
                    | (have kfu : fuB (fP r y) = false := decide_eq_false (by rw [eFy]; exact c_66)
                       rw [tfC_s ko hq zk hpj, kfu, Bool.false_and]
                       exact ⟨fun _ => ⟨(((eqx.rf.sI (S := fun i => i = 723) rfl).sI rfl).sI rfl).sI rfl, sI_s, fun k k1 k2 k3 => by rw [sI_k k1, sI_k k3, sI_k k2, sI_k k1]⟩, fun q => absurd q (by decide)⟩)
                · first | exact absurd c_78 (by decide) | exact absurd (by decide) c_78
              · have ks : spB (getP r.1 p) k = true := bn0 c_50
                refine r_aload_n dX9_transfer_53 rfl ?_
                refine r_iload_n dX9_transfer_54 rfl ?_
                refine r_bipush (23) dX9_transfer_55 (by decide) ?_
                refine q_callV2 (cv_X9_of ml_X9_81) hW kc_723 (by decide) rfl ⟨rfl, rfl⟩ rfl (Nat.le_of_ble_eq_true rfl) dX9_transfer_57 (c_X9_ofM hW hm hj ey kn_23 (by omega)) (fun v_57 h_57 q_57 => ?_)
                obtain ⟨rfl, z9⟩ := q_57
                replace z9 := z9.symm
                subst z9
                refine r_aload_n dX9_transfer_60 rfl ?_
                refine r_iload_n dX9_transfer_61 rfl ?_
                refine r_iconst (1) dX9_transfer_62 (by decide) ?_
                refine q_callV2 (cv_X9_of ml_X9_81) hW kc_723 (by decide) rfl ⟨rfl, rfl⟩ rfl (Nat.le_of_ble_eq_true rfl) dX9_transfer_63 (c_X9_ofM hW hm hj ey kn_1 (by omega)) (fun v_63 h_63 q_63 => ?_)
                obtain ⟨rfl, z9⟩ := q_63
                replace z9 := z9.symm
                subst z9
                refine r_icmp_lt 73 dX9_transfer_66 (by decide) (fun c_66 => ?_) (fun c_66 => ?_)
                · refine r_iconst (0) dX9_transfer_73 (by decide) ?_
                  refine r_iconst (3) dX9_transfer_74 (by decide) ?_
                  refine q_callV2 (cv_X9_fails ml_X9_302) hW kc_723 (by decide) rfl ⟨rfl, rfl⟩ rfl (Nat.le_of_ble_eq_true rfl) dX9_transfer_75 (c_X9_fails0 hW) (fun v_75 h_75 q_75 => ?_)
                  obtain ⟨rfl, z9⟩ := q_75
                  replace z9 := z9.symm
                  subst z9
                  refine r_if_ne 98 dX9_transfer_78 (by decide) (fun c_78 => ?_) (fun c_78 => ?_)
                  · first | exact absurd c_78 (by decide) | exact absurd (by decide) c_78
                  · refine r_aload_n dX9_transfer_81 rfl ?_
                    refine r_iload_n dX9_transfer_82 rfl ?_
                    refine r_if_ne 90 dX9_transfer_83 (by decide) (fun c_83 => ?_) (fun c_83 => ?_)
                    · refine r_iconst (0) dX9_transfer_90 (by decide) ?_
                      refine r_iconst (4) dX9_transfer_91 (by decide) ?_
                      refine q_callV2 (cv_X9_fails ml_X9_302) hW kc_723 (by decide) rfl ⟨rfl, rfl⟩ rfl (Nat.le_of_ble_eq_true rfl) dX9_transfer_92 (c_X9_fails0 hW) (fun v_92 h_92 q_92 => ?_)
                      obtain ⟨rfl, z9⟩ := q_92
                      replace z9 := z9.symm
                      subst z9
                      refine r_if_eq 100 dX9_transfer_95 (by decide) (fun c_95 => ?_) (fun c_95 => ?_)
                      · have kfu : fuB (fP r y) = true := decide_eq_true (by rw [eFy]; exact c_66)
                        replace hL := hL.rq hq0
                        have hfu : nn (getP r.1 j 23) < 20 := by
                          have c9 := c_66
                          rw [(hOj.at 23).1, (hOj.at 1).1] at c9
                          have e20 : nn (getP r.1 j 1) ≤ 20 := (hOj.at 1).2.2
                          have := (nI_ltI (by omega) (by omega)).mp c9
                          omega
                        refine r_aload_n dX9_transfer_100 rfl ?_
                        refine q_callV0 (cv_X9_remembers ml_X9_337) hW kc_723 (by decide) rfl ⟨rfl, rfl⟩ rfl (Nat.le_of_ble_eq_true rfl) dX9_transfer_101 (c_X9_remembers hW hm hL) (fun v_101 h_101 q_101 => ?_)
                        obtain ⟨rfl, eR, eN, hL2⟩ := q_101
                        have hW := eR.W hW
                        replace hm := hm.cgH eR (by unfold RM; omega) (by unfold RM; omega)
                        have he : eqx h_101 h_101 SM := eqx.rf
                        have hqv := qv_row (p := p) hm hO
                        have ei : aI h_101 723 25 = nI p := by rw [eN, pk_un (by decide), sI_k (by decide), sI_s]
                        have ek9 : aI h_101 723 26 = nI k := by rw [eN, pk_un (by decide), sI_s]
                        have h1t : qW (rowQ r.1 p) 1 = nI (nn (r.1 1)) := hO.1.2.1.1
                        have hE9 := hO.1.2.2.2.2.2
                        have hE8 : qE (rowQ r.1 p) < 2 ^ 28 := by show nn (r.1 3) < _; omega
                        refine r_aload_n dX9_transfer_104 rfl ?_
                        refine r_aload_n dX9_transfer_105 rfl ?_
                        refine q_getI fl_X9_315 hW kc_723 rfl dX9_transfer_106 ?_
                        rw [ei]
                        refine r_aload_n dX9_transfer_109 rfl ?_
                        refine q_getI fl_X9_318 hW kc_723 rfl dX9_transfer_110 ?_
                        rw [ek9]
                        refine q_callV2 (cv_X9_goes ml_X9_144) hW kc_723 (by decide) rfl ⟨rfl, rfl⟩ rfl (Nat.le_of_ble_eq_true rfl) dX9_transfer_113 (c_X9_goes hW hqv hp h1t rfl rfl (hOp.at 23) zkl (by omega)) (fun v_113 h_113 q_113 => ?_)
                        obtain ⟨rfl, eG, hqg⟩ := q_113
                        have hW := eG.W hW
                        have he := he.tr eG
                        have hm1 : MW h_113 (goR r p k) := hqg.mw
                        have hO1 := goR_ok hO zp zkl (by omega)
                        have hqv1 := qv_row (p := j) hm1 hO1
                        have hm := hm1
                        have jn1 : j < nn ((goR r p k).1 0) := by rw [goR_0]; exact jn
                        have hgp : getP (goR r p k).1 j = getP r.1 j := goR_p2 (fun q => hpj (by rw [eyn]; exact q.symm))
                        have h1q : qW (rowQ (goR r p k).1 j) 1 = nI (nn ((goR r p k).1 1)) := by rw [goR_1]; exact goR_1.trans hO.1.2.1.1
                        have hE1 : qE (rowQ (goR r p k).1 j) < 2 ^ 28 := by
                          have := hO1.1.2.2.2.2.2
                          show nn ((goR r p k).1 3) < _
                          omega
                        refine r_aload_n dX9_transfer_116 rfl ?_
                        refine r_iload_n dX9_transfer_117 rfl ?_
                        refine r_aload_n dX9_transfer_118 rfl ?_
                        refine q_getR fl_X9_7 hW kc_723 rfl (kl_9_0 hW) (by decide) dX9_transfer_119 ?_
                        refine r_iconst (1) dX9_transfer_122 (by decide) ?_
                        refine q_wldMW hW hm kn_1 (by omega) dX9_transfer_123 ?_
                        refine r_aload_n dX9_transfer_124 rfl ?_
                        refine r_iload_n dX9_transfer_125 rfl ?_
                        refine r_iconst (4) dX9_transfer_126 (by decide) ?_
                        refine q_callV2 (cv_X9_of ml_X9_81) hW kc_723 (by decide) rfl ⟨rfl, rfl⟩ rfl (Nat.le_of_ble_eq_true rfl) dX9_transfer_127 (c_X9_ofM hW hm hj ey kn_4 (by omega)) (fun v_127 h_127 q_127 => ?_)
                        obtain ⟨rfl, z9⟩ := q_127
                        replace z9 := z9.symm
                        subst z9
                        refine r_iadd dX9_transfer_130 ?_
                        refine q_callV2 (cv_X9_comes ml_X9_141) hW kc_723 (by decide) rfl ⟨rfl, rfl⟩ rfl (Nat.le_of_ble_eq_true rfl) dX9_transfer_131 (c_X9_comes hW hqv1 hj h1q ey ((hO1.2 j jn1).at 23).1 (by rw [hgp]; exact hfu) (by omega)) (fun v_131 h_131 q_131 => ?_)
                        obtain ⟨rfl, eC, hqc⟩ := q_131
                        have he := he.tr eC
                        refine r_iret dX9_transfer_134 rfl ⟨Nat.zero_le _, Nat.zero_le _⟩ ?_
                        rw [tfC_s ko hq zk hpj, kfu, ks]
                        refine ⟨fun q => absurd rfl q, fun _ => ⟨?_, rc_close hq0 eR eN he, ?_, hL2.sm he⟩⟩
                        · refine some_int ?_
                          show nI (nn ((goR r p k).1 2)) = _
                          rw [goR_2, nn_I (by have := hO.1.2.2.1.2.2; omega)]; exact hO.1.2.2.1.1.symm
                        · rw [tfR_s hq zk, eyn]
                          exact hqc.mw
                      · first | exact absurd c_95 (by decide) | exact absurd (by decide) c_95
                    · first | exact absurd c_83 (by decide) | exact absurd (by decide) c_83
                · refine r_iconst (1) dX9_transfer_69 (by decide) ?_
                  refine r_goto 74 dX9_transfer_70 (by decide) ?_
                  refine r_iconst (3) dX9_transfer_74 (by decide) ?_
                  refine q_callV2 (cv_X9_fails ml_X9_302) hW kc_723 (by decide) rfl ⟨rfl, rfl⟩ rfl (Nat.le_of_ble_eq_true rfl) dX9_transfer_75 (c_X9_fails1 hW) (fun v_75 h_75 q_75 => ?_)
                  obtain ⟨rfl, z9⟩ := q_75
                  replace z9 := z9.symm
                  subst z9
                  replace hm := hm.s9 (k := 12) (x := 3)
                  refine r_if_ne 98 dX9_transfer_78 (by decide) (fun c_78 => ?_) (fun c_78 => ?_)
                  · refine r_iconst (0) dX9_transfer_98 (by decide) ?_
                    refine r_iret dX9_transfer_99 rfl ⟨Nat.zero_le _, Nat.zero_le _⟩ ?_
                    first
                      | (rw [tfC_2 ko (by rw [hq, eyn]; exact congrArg some ((nI_eq (by omega) (by omega)).mp (by rw [← ey]; first | exact c_26 | simpa using c_26)))]
                         exact ⟨fun _ => ⟨(((eqx.rf.sI (S := fun i => i = 723) rfl).sI rfl).sI rfl).sI rfl, sI_s, fun k k1 k2 k3 => by rw [sI_k k1, sI_k k3, sI_k k2, sI_k k1]⟩, fun q => absurd q (by decide)⟩)
                      | (have ks : spB (getP r.1 p) k = false := bn1 c_50
                         rw [tfC_s ko hq zk hpj, ks, Bool.and_false]
                         exact ⟨fun _ => ⟨(((eqx.rf.sI (S := fun i => i = 723) rfl).sI rfl).sI rfl).sI rfl, sI_s, fun k k1 k2 k3 => by rw [sI_k k1, sI_k k3, sI_k k2, sI_k k1]⟩, fun q => absurd q (by decide)⟩)
                      | (have kfu : fuB (fP r y) = false := decide_eq_false (by rw [eFy]; exact c_66)
                         rw [tfC_s ko hq zk hpj, kfu, Bool.false_and]
                         exact ⟨fun _ => ⟨(((eqx.rf.sI (S := fun i => i = 723) rfl).sI rfl).sI rfl).sI rfl, sI_s, fun k k1 k2 k3 => by rw [sI_k k1, sI_k k3, sI_k k2, sI_k k1]⟩, fun q => absurd q (by decide)⟩)
                  · first | exact absurd c_78 (by decide) | exact absurd (by decide) c_78
        · refine r_iconst (1) dX9_transfer_29 (by decide) ?_
          refine r_goto 34 dX9_transfer_30 (by decide) ?_
          refine r_iconst (2) dX9_transfer_34 (by decide) ?_
          refine q_callV2 (cv_X9_fails ml_X9_302) hW kc_723 (by decide) rfl ⟨rfl, rfl⟩ rfl (Nat.le_of_ble_eq_true rfl) dX9_transfer_35 (c_X9_fails1 hW) (fun v_35 h_35 q_35 => ?_)
          obtain ⟨rfl, z9⟩ := q_35
          replace z9 := z9.symm
          subst z9
          replace hm := hm.s9 (k := 12) (x := 2)
          refine r_if_ne 98 dX9_transfer_38 (by decide) (fun c_38 => ?_) (fun c_38 => ?_)
          · refine r_iconst (0) dX9_transfer_98 (by decide) ?_
            refine r_iret dX9_transfer_99 rfl ⟨Nat.zero_le _, Nat.zero_le _⟩ ?_
            first
              | (rw [tfC_2 ko (by rw [hq, eyn]; exact congrArg some ((nI_eq (by omega) (by omega)).mp (by rw [← ey]; first | exact c_26 | simpa using c_26)))]
                 exact ⟨fun _ => ⟨(((eqx.rf.sI (S := fun i => i = 723) rfl).sI rfl).sI rfl).sI rfl, sI_s, fun k k1 k2 k3 => by rw [sI_k k1, sI_k k3, sI_k k2, sI_k k1]⟩, fun q => absurd q (by decide)⟩)
              | (have ks : spB (getP r.1 p) k = false := bn1 c_50
                 rw [tfC_s ko hq zk hpj, ks, Bool.and_false]
                 exact ⟨fun _ => ⟨(((eqx.rf.sI (S := fun i => i = 723) rfl).sI rfl).sI rfl).sI rfl, sI_s, fun k k1 k2 k3 => by rw [sI_k k1, sI_k k3, sI_k k2, sI_k k1]⟩, fun q => absurd q (by decide)⟩)
              | (have kfu : fuB (fP r y) = false := decide_eq_false (by rw [eFy]; exact c_66)
                 rw [tfC_s ko hq zk hpj, kfu, Bool.false_and]
                 exact ⟨fun _ => ⟨(((eqx.rf.sI (S := fun i => i = 723) rfl).sI rfl).sI rfl).sI rfl, sI_s, fun k k1 k2 k3 => by rw [sI_k k1, sI_k k3, sI_k k2, sI_k k1]⟩, fun q => absurd q (by decide)⟩)
          · first | exact absurd c_38 (by decide) | exact absurd (by decide) c_38
    · refine r_iconst (0) dX9_transfer_8 (by decide) ?_
      refine r_iret dX9_transfer_9 rfl ⟨Nat.zero_le _, Nat.zero_le _⟩ ?_
      have ko : okP r y = false := bn1 c_5
      rw [tfC_1 ko]
      exact ⟨fun _ => by rw [ko]; exact RQ.of (c := 1), fun q => absurd q (by decide)⟩

def lcB (f : Nat → Int32) (t : Int32) (k : Nat) : Bool := !decide (f (103 + 4 * k) = 1) && clB f t k
def lcF (f : Nat → Int32) (t : Int32) : Nat → Option Nat
  | 0 => none
  | n + 1 => if lcB f t n then some n else lcF f t n
theorem lcF_some {f : Nat → Int32} {t : Int32} : ∀ {n k : Nat}, lcF f t n = some k → k < n ∧ lcB f t k = true ∧ ∀ j, k < j → j < n → lcB f t j = false
  | 0, k, h => by cases h
  | n + 1, k, h => by
    have h' : (if lcB f t n then some n else lcF f t n) = some k := h
    by_cases e : lcB f t n = true
    · rw [if_pos e] at h'
      cases h'
      exact ⟨by omega, e, fun j h1 h2 => by omega⟩
    · rw [if_neg e] at h'
      obtain ⟨i1, i2, i3⟩ := lcF_some h'
      refine ⟨by omega, i2, fun j h1 h2 => ?_⟩
      by_cases q : j = n
      · rw [q]; cases hq : lcB f t n with | false => rfl | true => exact absurd hq e
      · exact i3 j h1 (by omega)
theorem lcF_none {f : Nat → Int32} {t : Int32} : ∀ {n : Nat}, lcF f t n = none → ∀ j, j < n → lcB f t j = false
  | 0, _, j, hj => absurd hj (Nat.not_lt_zero _)
  | n + 1, h, j, hj => by
    have h' : (if lcB f t n then some n else lcF f t n) = none := h
    by_cases e : lcB f t n = true
    · rw [if_pos e] at h'; cases h'
    · rw [if_neg e] at h'
      by_cases q : j = n
      · rw [q]; cases hq : lcB f t n with | false => rfl | true => exact absurd hq e
      · exact lcF_none h' j (by omega)
theorem sp_lc {f : Nat → Int32} {t : Int32} {k : Nat} (h : nn (f 0) < nn (f 23)) : (spB f k && clB f t k) = lcB f t k := by unfold spB lcB; rw [decide_eq_true h, Bool.true_and]
theorem sp_no {f : Nat → Int32} {t : Int32} {k : Nat} (h : ¬ nn (f 0) < nn (f 23)) : (spB f k && clB f t k) = false := by unfold spB; rw [decide_eq_false h]; rfl
theorem dcS_no {p tn : Nat} {t : Int32} {q : Q4} : ∀ {c : Nat}, (∀ j, j < c → (spB (qF q) j && clB (qF q) t j) = false) → dcS p t tn c q = q
  | 0, _ => rfl
  | c + 1, h => by
    show dcS p t tn c (if spB (qF q) c && clB (qF q) t c then goQ p tn c q else q) = q
    rw [h c (by omega)]
    exact dcS_no (fun j hj => h j (by omega))
theorem dcS_at {p tn k : Nat} {t : Int32} {q : Q4} (hk : (spB (qF q) k && clB (qF q) t k) = true) : ∀ {c : Nat}, k < c → (∀ j, k < j → j < c → (spB (qF q) j && clB (qF q) t j) = false) → dcS p t tn c q = dcS p t tn k (goQ p tn k q)
  | 0, h, _ => absurd h (Nat.not_lt_zero _)
  | c + 1, h, hn => by
    show dcS p t tn c (if spB (qF q) c && clB (qF q) t c then goQ p tn c q else q) = _
    by_cases e : c = k
    · subst e; rw [hk]; rfl
    · rw [hn c (by omega) (by omega)]
      exact dcS_at hk (by omega) (fun j h1 h2 => hn j h1 (by omega))
theorem go_lc {f : Nat → Int32} {t : Int32} {k c : Nat} (h23 : nn (goF f k 23) = nn (f 23) - 1) (hn : ∀ j, k < j → j < nn (f 23) → lcB f t j = false) : ∀ j, k ≤ j → j < nn (goF f k 23) → lcB (goF f k) t j = false := fun j h1 h2 => by
  have e : ∀ i, i < 4 → goF f k (100 + 4 * j + i) = f (100 + 4 * (j + 1) + i) := fun i hi => by
    unfold goF
    rw [if_neg (by omega), if_pos (by omega)]
    rw [show 100 + 4 * j + i + 4 = 100 + 4 * (j + 1) + i from by omega]
  have z := hn (j + 1) (by omega) (by omega)
  unfold lcB clB at z ⊢
  rw [show 103 + 4 * j = 100 + 4 * j + 3 from by omega, show 102 + 4 * j = 100 + 4 * j + 2 from by omega, e 3 (by decide), e 2 (by decide), show 100 + 4 * (j + 1) + 3 = 103 + 4 * (j + 1) from by omega, show 100 + 4 * (j + 1) + 2 = 102 + 4 * (j + 1) from by omega]
  exact z
set_option maxRecDepth 100000 in
set_option maxHeartbeats 4000000 in
theorem c_X9_lastCold {l9 : Launch} {G : GC} {h : AH} {w : Nat → Int32} {v9 : Nat → Int64} {p : Nat} {f : Nat → Int32} {g : Nat → Int64} {c u : Nat} {x : Int32} (hW : World h) (hm : PV h w v9 p f g) (hp : p < 4) (hO : PoOK f g c u) (hx : x = nI p) : PM l9 G mX9_lastCold NT NT [.ref 723, .int x] h (fun v h' => v = some (.int (oI (lcF f (w 1) (nn (f 23))))) ∧ h' = h) noX := by
  refine PM.of (by decide +kernel) rfl rfl (Nat.le_of_ble_eq_true rfl) (fun hst _ => ?_)
  have y23 : nn (f 23) ≤ 20 := (hO.at 23).2.2
  have h23 := (hO.at 23).1
  refine r_aload_n dX9_lastCold_0 rfl ?_
  refine r_iload_n dX9_lastCold_1 rfl ?_
  refine r_bipush (23) dX9_lastCold_2 (by decide) ?_
  refine q_callV2 (cv_X9_of ml_X9_81) hW kc_723 (by decide) rfl ⟨rfl, rfl⟩ rfl (Nat.le_of_ble_eq_true rfl) dX9_lastCold_4 (c_X9_of hW hm hp hx kn_23 (by omega)) (fun v_4 h_4 q_4 => ?_)
  obtain ⟨rfl, z9⟩ := q_4
  replace z9 := z9.symm
  subst z9
  refine r_iconst (1) dX9_lastCold_7 (by decide) ?_
  skip
  refine r_isub dX9_lastCold_8 ?_
  refine r_istore_n (ls2 := [_, some _, _]) dX9_lastCold_9 (by decide) rfl ?_
  obtain ⟨n, hn⟩ : ∃ n, n = nn (f 23) := ⟨_, rfl⟩
  rw [← hn, h23, ← hn]
  rw [← hn] at y23
  refine loopN (P := fun i => i ≤ n → lcF f (w 1) n = lcF f (w 1) (n - i) → PW l9 G mX9_lastCold _ _ NT 10 [some (.ref 723), some (.int x), some (.int (nI (n - i) - 1))] [] (0, 0) h) n (fun i ih hi hl => ?_) 0 (Nat.zero_le _) rfl
  rcases Nat.eq_zero_or_pos (n - i) with h0 | h0
  · rw [h0] at hl ⊢
    rw [hl, show nI 0 - 1 = (-1 : Int32) from by decide]
    refine r_iload_n dX9_lastCold_10 rfl ?_
    refine r_if_lt 40 dX9_lastCold_11 (by decide) (fun c_11 => ?_) (fun c_11 => ?_)
    · refine r_iconst (-1) dX9_lastCold_40 (by decide) ?_
      refine r_iret dX9_lastCold_41 rfl ⟨Nat.zero_le _, Nat.zero_le _⟩ ?_
      exact ⟨rfl, rfl⟩
    · exact absurd (by decide) c_11
  · obtain ⟨c, hc⟩ : ∃ c, n - i = c + 1 := ⟨n - i - 1, by omega⟩
    have hth := ih (by omega) (by omega)
    rw [hc] at hl
    rw [hc, nI_s1 (by omega), show c + 1 - 1 = c from rfl]
    have hc1 : n - (i + 1) = c := by omega
    rw [hc1] at hth
    have hstep : lcF f (w 1) (c + 1) = if lcB f (w 1) c then some c else lcF f (w 1) c := rfl
    refine r_iload_n dX9_lastCold_10 rfl ?_
    refine r_if_lt 40 dX9_lastCold_11 (by decide) (fun c_11 => ?_) (fun c_11 => ?_)
    · exact absurd c_11 (nI_pos (by omega))
    · refine r_aload_n dX9_lastCold_14 rfl ?_
      refine r_iload_n dX9_lastCold_15 rfl ?_
      refine r_iload_n dX9_lastCold_16 rfl ?_
      refine q_callV2 (cv_X9_isGuarded ml_X9_95) hW kc_723 (by decide) rfl ⟨rfl, rfl⟩ rfl (Nat.le_of_ble_eq_true rfl) dX9_lastCold_17 (c_X9_isGuarded hW hm hp hx rfl (by omega)) (fun v_17 h_17 q_17 => ?_)
      obtain ⟨rfl, z9⟩ := q_17
      replace z9 := z9.symm
      subst z9
      refine r_if_ne 34 dX9_lastCold_20 (by decide) (fun c_20 => ?_) (fun c_20 => ?_)
      · refine r_iinc (-1) (by decide) (ls2 := [_, some _, _]) dX9_lastCold_34 rfl (by decide) rfl ?_
        refine r_goto 10 dX9_lastCold_37 (by decide) ?_
        rw [pk_dec]
        first
          | (have hnl : lcB f (w 1) c = false := by unfold lcB; rw [bI_1.mp c_20]; rfl
             rw [hnl] at hstep
             exact hth (hl.trans hstep))
          | (have hnl : lcB f (w 1) c = false := by unfold lcB clB; rw [bI_1.mp c_29]; exact Bool.and_false _
             rw [hnl] at hstep
             exact hth (hl.trans hstep))
      · refine r_aload_n dX9_lastCold_23 rfl ?_
        refine r_iload_n dX9_lastCold_24 rfl ?_
        refine r_iload_n dX9_lastCold_25 rfl ?_
        refine q_callV2 (cv_X9_isReady ml_X9_91) hW kc_723 (by decide) rfl ⟨rfl, rfl⟩ rfl (Nat.le_of_ble_eq_true rfl) dX9_lastCold_26 (c_X9_isReady hW hm hp hx rfl (by omega)) (fun v_26 h_26 q_26 => ?_)
        obtain ⟨rfl, z9⟩ := q_26
        replace z9 := z9.symm
        subst z9
        refine r_if_ne 34 dX9_lastCold_29 (by decide) (fun c_29 => ?_) (fun c_29 => ?_)
        · refine r_iinc (-1) (by decide) (ls2 := [_, some _, _]) dX9_lastCold_34 rfl (by decide) rfl ?_
          refine r_goto 10 dX9_lastCold_37 (by decide) ?_
          rw [pk_dec]
          first
            | (have hnl : lcB f (w 1) c = false := by unfold lcB; rw [bI_1.mp c_20]; rfl
               rw [hnl] at hstep
               exact hth (hl.trans hstep))
            | (have hnl : lcB f (w 1) c = false := by unfold lcB clB; rw [bI_1.mp c_29]; exact Bool.and_false _
               rw [hnl] at hstep
               exact hth (hl.trans hstep))
        · refine r_iload_n dX9_lastCold_32 rfl ?_
          refine r_iret dX9_lastCold_33 rfl ⟨Nat.zero_le _, Nat.zero_le _⟩ ?_
          have hyl : lcB f (w 1) c = true := by unfold lcB clB; rw [bI_0.mp c_20, bI_0.mp c_29]; rfl
          rw [hyl] at hstep
          rw [hl, hstep]
          exact ⟨rfl, rfl⟩

set_option maxRecDepth 100000 in
set_option maxHeartbeats 4000000 in
theorem c_X9_dropCold {l9 : Launch} {G : GC} {h : AH} {r : Row} {m : Nat} {L : List Row} {x : Int32} (hW : World h) (hm : MW h r) (hO : RoOK r.1 r.2 m) (hm28 : m < 2 ^ 28) (hL : PsR h L) (hb : m + 300 < 2 ^ 23) : PM l9 G mX9_dropCold NT NT [.ref 723, .int x] h (fun v h' => (cd1 (okP r x) ≠ 0 → RQ h h' (cd1 (okP r x))) ∧ (cd1 (okP r x) = 0 → v = some (.int (getP r.1 (nn x) 23 - getP (dcR r (nn x)).1 (nn x) 23)) ∧ RC h h' ∧ MW h' (dcR r (nn x)) ∧ PsR h' (pushL L r))) noX := by
  refine PM.of (by decide +kernel) rfl rfl (Nat.le_of_ble_eq_true rfl) (fun hst _ => ?_)
  refine r_aload_n dX9_dropCold_0 rfl ?_
  refine r_iload_n dX9_dropCold_1 rfl ?_
  refine q_callV1 (cv_X9_noPool ml_X9_309) hW kc_723 (by decide) rfl ⟨rfl, rfl⟩ rfl (Nat.le_of_ble_eq_true rfl) dX9_dropCold_2 (c_X9_noPool hW hm hO) (fun v_2 h_2 q_2 => ?_)
  obtain ⟨rfl, z9⟩ := q_2
  subst z9
  have hW : World (sI h 723 12 (nI (cd1 (okP r x)))) := wsI hW
  replace hm := hm.s9 (k := 12) (x := nI (cd1 (okP r x)))
  refine r_if_eq 10 dX9_dropCold_5 (by decide) (fun c_5 => ?_) (fun c_5 => ?_)
  · have ko : okP r x = true := bn0 c_5
    obtain ⟨p, hp, pn, hx⟩ := okP_t hO ko
    have ex : nn x = p := by rw [hx]; exact nn_I (by omega)
    have hOp := hO.2 p pn
    have y23 : nn (getP r.1 p 23) ≤ 20 := (hOp.at 23).2.2
    have y24 : nn (getP r.1 p 24) ≤ 24 := (hOp.at 24).2.2
    have hq0 : RQ h (sI h 723 12 (nI (cd1 (okP r x)))) 0 := by rw [ko]; exact RQ.of
    replace hL := hL.rq hq0
    refine r_aload_n dX9_dropCold_10 rfl ?_
    refine q_callV0 (cv_X9_remembers ml_X9_337) hW kc_723 (by decide) rfl ⟨rfl, rfl⟩ rfl (Nat.le_of_ble_eq_true rfl) dX9_dropCold_11 (c_X9_remembers hW hm hL) (fun v_11 h_11 q_11 => ?_)
    obtain ⟨rfl, eR, eN, hL2⟩ := q_11
    have hW := eR.W hW
    replace hm := hm.cgH eR (by unfold RM; omega) (by unfold RM; omega)
    have hqv := qv_row (p := p) hm hO
    refine r_iconst (0) dX9_dropCold_14 (by decide) ?_
    refine r_istore_n (ls2 := [_, some _, _]) dX9_dropCold_15 (by decide) rfl ?_
    have key : ∀ (c : Nat) (H : AH) (q : Q4) (cnt : Nat), World H → eqx h_11 H SM → QV H r.2 p q (getG r.2 p) → PoOK (qF q) (getG r.2 p) (nn (r.1 1)) (nn (r.1 1)) → qE q + c ≤ nn (r.1 3) + 20 → (∀ k, k < 4 ∨ 244 ≤ k → qW q k = r.1 k) → c ≤ nn (qF q 23) → cnt + nn (qF q 23) = nn (getP r.1 p 23) → (∀ j, c ≤ j → j < nn (qF q 23) → lcB (qF q) (r.1 1) j = false) → dcS p (r.1 1) (nn (r.1 1)) c q = dcS p (r.1 1) (nn (r.1 1)) (nn (getP r.1 p 23)) (rowQ r.1 p) → PW l9 G mX9_dropCold (mO mX9_dropCold) (fiM G mX9_dropCold NT (fun v h' => (cd1 (okP r x) ≠ 0 → RQ h h' (cd1 (okP r x))) ∧ (cd1 (okP r x) = 0 → v = some (.int (getP r.1 (nn x) 23 - getP (dcR r (nn x)).1 (nn x) 23)) ∧ RC h h' ∧ MW h' (dcR r (nn x)) ∧ PsR h' (pushL L r))) noX) NT 16 [some (.ref 723), some (.int x), some (.int (nI cnt))] [] (0, 0) H := by
      intro c
      induction c using Nat.strongRecOn with
      | ind c ih =>
      intro H q cnt hW he9 hq hOq hE9 hWq hcs hct hcold hd
      have hmq : PV H (W2 q) r.2 p (qF q) (getG r.2 p) := hq
      have z23 : nn (qF q 23) ≤ 20 := (hOq.at 23).2.2
      have z0 : nn (qF q 0) ≤ 20 := (hOq.at 0).2.2
      have hm3 := hO.1.2.2.2.2.2
      refine r_aload_n dX9_dropCold_16 rfl ?_
      refine r_iload_n dX9_dropCold_17 rfl ?_
      refine r_bipush (23) dX9_dropCold_18 (by decide) ?_
      refine q_callV2 (cv_X9_of ml_X9_81) hW kc_723 (by decide) rfl ⟨rfl, rfl⟩ rfl (Nat.le_of_ble_eq_true rfl) dX9_dropCold_20 (c_X9_of hW hmq hp hx kn_23 (by omega)) (fun v_20 h_20 q_20 => ?_)
      obtain ⟨rfl, z9⟩ := q_20
      replace z9 := z9.symm
      subst z9
      refine r_aload_n dX9_dropCold_23 rfl ?_
      refine r_iload_n dX9_dropCold_24 rfl ?_
      refine r_iconst (0) dX9_dropCold_25 (by decide) ?_
      refine q_callV2 (cv_X9_of ml_X9_81) hW kc_723 (by decide) rfl ⟨rfl, rfl⟩ rfl (Nat.le_of_ble_eq_true rfl) dX9_dropCold_26 (c_X9_of hW hmq hp hx kn_0 (by omega)) (fun v_26 h_26 q_26 => ?_)
      obtain ⟨rfl, z9⟩ := q_26
      replace z9 := z9.symm
      subst z9
      rw [(hOq.at 23).1, (hOq.at 0).1]
      refine r_icmp_le 57 dX9_dropCold_29 (by decide) (fun c_29 => ?_) (fun c_29 => ?_)
      · refine r_iload_n dX9_dropCold_57 rfl ?_
        refine r_iret dX9_dropCold_58 rfl ⟨Nat.zero_le _, Nat.zero_le _⟩ ?_
        first
          | (have hno : ∀ j, j < c → (spB (qF q) j && clB (qF q) (r.1 1) j) = false := fun j _ => sp_no (fun z => absurd ((nI_leI (a := nn (qF q 23)) (b := nn (qF q 0)) (by omega) (by omega)).mp c_29) (by omega))
             have hqd : q = dcS p (r.1 1) (nn (r.1 1)) (nn (getP r.1 p 23)) (rowQ r.1 p) := (dcS_no hno).symm.trans hd
             have h23d : getP (dcR r p).1 p 23 = nI (nn (qF q 23)) := by
               show getP (putQ p _) p 23 = _
               rw [putQ_p, trP_k (by decide), ← hqd]
               exact (hOq.at 23).1
             refine ⟨fun q => absurd (cd1_t ko) q, fun _ => ⟨?_, rc_close hq0 eR eN he9, ?_, hL2.sm he9⟩⟩
             · rw [ex]
               refine some_int ?_
               rw [h23d, (hOp.at 23).1, pk_sub (by omega)]
               congr 1
               omega
             · rw [ex]
               have z := hq.mw
               rw [hqd] at z
               exact z)
          | (have hln : lcF (qF q) (r.1 1) (nn (qF q 23)) = none := (oI_m1 hlt9).mp (by first | exact c_38 | simpa using c_38)
             have hno : ∀ j, j < c → (spB (qF q) j && clB (qF q) (r.1 1) j) = false := fun j hj => (sp_lc hsp).trans (lcF_none hln j (by omega))
             have hqd : q = dcS p (r.1 1) (nn (r.1 1)) (nn (getP r.1 p 23)) (rowQ r.1 p) := (dcS_no hno).symm.trans hd
             have h23d : getP (dcR r p).1 p 23 = nI (nn (qF q 23)) := by
               show getP (putQ p _) p 23 = _
               rw [putQ_p, trP_k (by decide), ← hqd]
               exact (hOq.at 23).1
             refine ⟨fun q => absurd (cd1_t ko) q, fun _ => ⟨?_, rc_close hq0 eR eN he9, ?_, hL2.sm he9⟩⟩
             · rw [ex]
               refine some_int ?_
               rw [h23d, (hOp.at 23).1, pk_sub (by omega)]
               congr 1
               omega
             · rw [ex]
               have z := hq.mw
               rw [hqd] at z
               exact z)
      · have hsp : nn (qF q 0) < nn (qF q 23) := by
          have z := fun z9 => c_29 ((nI_leI (a := nn (qF q 23)) (b := nn (qF q 0)) (by omega) (by omega)).mpr z9)
          exact Nat.lt_of_not_le z
        refine r_aload_n dX9_dropCold_32 rfl ?_
        refine r_iload_n dX9_dropCold_33 rfl ?_
        refine q_callV1 (cv_X9_lastCold ml_X9_346) hW kc_723 (by decide) rfl ⟨rfl, rfl⟩ rfl (Nat.le_of_ble_eq_true rfl) dX9_dropCold_34 (c_X9_lastCold hW hmq hp hOq hx) (fun v_34 h_34 q_34 => ?_)
        obtain ⟨rfl, z9⟩ := q_34
        replace z9 := z9.symm
        subst z9
        refine r_iconst (-1) dX9_dropCold_37 (by decide) ?_
        have hlm : W2 q 1 = r.1 1 := (W2_k (by decide) (by decide)).trans (hWq 1 (by decide))
        rw [hlm]
        have hlt9 : ∀ k, lcF (qF q) (r.1 1) (nn (qF q 23)) = some k → k < 2 ^ 31 := fun k hk => by have := (lcF_some hk).1; omega
        refine r_icmp_eq 57 dX9_dropCold_38 (by decide) (fun c_38 => ?_) (fun c_38 => ?_)
        · refine r_iload_n dX9_dropCold_57 rfl ?_
          refine r_iret dX9_dropCold_58 rfl ⟨Nat.zero_le _, Nat.zero_le _⟩ ?_
          first
            | (have hno : ∀ j, j < c → (spB (qF q) j && clB (qF q) (r.1 1) j) = false := fun j _ => sp_no (fun z => absurd ((nI_leI (a := nn (qF q 23)) (b := nn (qF q 0)) (by omega) (by omega)).mp c_29) (by omega))
               have hqd : q = dcS p (r.1 1) (nn (r.1 1)) (nn (getP r.1 p 23)) (rowQ r.1 p) := (dcS_no hno).symm.trans hd
               have h23d : getP (dcR r p).1 p 23 = nI (nn (qF q 23)) := by
                 show getP (putQ p _) p 23 = _
                 rw [putQ_p, trP_k (by decide), ← hqd]
                 exact (hOq.at 23).1
               refine ⟨fun q => absurd (cd1_t ko) q, fun _ => ⟨?_, rc_close hq0 eR eN he9, ?_, hL2.sm he9⟩⟩
               · rw [ex]
                 refine some_int ?_
                 rw [h23d, (hOp.at 23).1, pk_sub (by omega)]
                 congr 1
                 omega
               · rw [ex]
                 have z := hq.mw
                 rw [hqd] at z
                 exact z)
            | (have hln : lcF (qF q) (r.1 1) (nn (qF q 23)) = none := (oI_m1 hlt9).mp (by first | exact c_38 | simpa using c_38)
               have hno : ∀ j, j < c → (spB (qF q) j && clB (qF q) (r.1 1) j) = false := fun j hj => (sp_lc hsp).trans (lcF_none hln j (by omega))
               have hqd : q = dcS p (r.1 1) (nn (r.1 1)) (nn (getP r.1 p 23)) (rowQ r.1 p) := (dcS_no hno).symm.trans hd
               have h23d : getP (dcR r p).1 p 23 = nI (nn (qF q 23)) := by
                 show getP (putQ p _) p 23 = _
                 rw [putQ_p, trP_k (by decide), ← hqd]
                 exact (hOq.at 23).1
               refine ⟨fun q => absurd (cd1_t ko) q, fun _ => ⟨?_, rc_close hq0 eR eN he9, ?_, hL2.sm he9⟩⟩
               · rw [ex]
                 refine some_int ?_
                 rw [h23d, (hOp.at 23).1, pk_sub (by omega)]
                 congr 1
                 omega
               · rw [ex]
                 have z := hq.mw
                 rw [hqd] at z
                 exact z)
        · obtain ⟨k, hk⟩ : ∃ k, lcF (qF q) (r.1 1) (nn (qF q 23)) = some k := by
            cases hq9 : lcF (qF q) (r.1 1) (nn (qF q 23)) with
            | none => rw [hq9] at c_38; exact absurd rfl c_38
            | some k => exact ⟨k, rfl⟩
          obtain ⟨k1, k2, k3⟩ := lcF_some hk
          have hkc : k < c := by
            rcases Nat.lt_or_ge k c with z | z
            · exact z
            · rw [hcold k z k1] at k2; cases k2
          refine r_aload_n dX9_dropCold_41 rfl ?_
          refine r_iload_n dX9_dropCold_42 rfl ?_
          refine r_aload_n dX9_dropCold_43 rfl ?_
          refine r_iload_n dX9_dropCold_44 rfl ?_
          refine q_callV1 (cv_X9_lastCold ml_X9_346) hW kc_723 (by decide) rfl ⟨rfl, rfl⟩ rfl (Nat.le_of_ble_eq_true rfl) dX9_dropCold_45 (c_X9_lastCold hW hmq hp hOq hx) (fun v_45 h_45 q_45 => ?_)
          obtain ⟨rfl, z9⟩ := q_45
          replace z9 := z9.symm
          subst z9
          rw [hlm, hk]
          refine q_callV2 (cv_X9_goes ml_X9_144) hW kc_723 (by decide) rfl ⟨rfl, rfl⟩ rfl (Nat.le_of_ble_eq_true rfl) dX9_dropCold_48 (c_X9_goes hW hq hp (t := nn (r.1 1)) ((hWq 1 (by decide)).trans hO.1.2.1.1) hx (y := oI (some k)) (k := k) rfl (hOq.at 23) k1 (by omega)) (fun v_48 h_48 q_48 => ?_)
          obtain ⟨rfl, eG, hqg⟩ := q_48
          have hW := eG.W hW
          refine r_iinc (1) (by decide) (ls2 := [_, some _, _]) dX9_dropCold_51 rfl (by decide) rfl ?_
          refine r_goto 16 dX9_dropCold_54 (by decide) ?_
          rw [nI_1]
          have h9 : nn (goF (qF q) k 23) = nn (qF q 23) - 1 := goF_23 (x := k) (hOq.at 23).1 z23 (by omega)
          have hck : (spB (qF q) k && clB (qF q) (r.1 1) k) = true := (sp_lc hsp).trans k2
          refine ih k hkc _ (goQ p (nn (r.1 1)) k q) (cnt + 1) hW (he9.tr eG) hqg (hOq.go k1) ?_ (fun j hj => (evP_o hj).trans (hWq j hj)) ?_ ?_ ?_ ?_
          · show qE q + 1 + k ≤ _; omega
          · show k ≤ nn (goF (qF q) k 23); omega
          · show cnt + 1 + nn (goF (qF q) k 23) = _; omega
          · exact go_lc (c := c) h9 (fun j h1 h2 => by
              rcases Nat.lt_or_ge j c with z | z
              · exact k3 j h1 h2
              · exact hcold j z h2)
          · rw [← hd]
            exact (dcS_at hck hkc (fun j h1 h2 => (sp_lc hsp).trans (k3 j h1 (by omega)))).symm
    
    refine key (nn (getP r.1 p 23)) _ (rowQ r.1 p) 0 hW eqx.rf hqv hOp (by show nn (r.1 3) + _ ≤ _; omega) (fun _ _ => rfl) (Nat.le_refl _) (by show 0 + nn (getP r.1 p 23) = _; omega) (fun j h1 h2 => absurd h2 (by show ¬ j < nn (getP r.1 p 23); omega)) rfl
  · refine r_iconst (0) dX9_dropCold_8 (by decide) ?_
    refine r_iret dX9_dropCold_9 rfl ⟨Nat.zero_le _, Nat.zero_le _⟩ ?_
    first
      | (have ko : okP r x = false := bn1 c_5
         exact ⟨fun _ => by rw [ko]; exact RQ.of, fun q => absurd q (cd1_n ko)⟩)
      | (exact absurd rfl (by decide))
