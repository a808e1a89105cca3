-- the reference: run, hurry, protect, undo, save, restore
theorem RQ.f0 {h : AH} : RQ h (sI h 723 12 0) 0 := RQ.of (c := 0)
theorem RQ.f2 {h : AH} {a b : Int32} : RQ h (sI (sI (sI h 723 12 0) 723 25 a) 723 26 b) 0 := ⟨((eqx.rf.sI (S := fun i => i = 723) rfl).sI rfl).sI rfl, by rw [sI_k (by decide), sI_k (by decide), sI_s]; rfl, fun k k1 k2 k3 => by rw [sI_k k3, sI_k k2, sI_k k1]⟩
set_option maxRecDepth 100000 in
set_option maxHeartbeats 4000000 in
theorem c_X9_run {l9 : Launch} {G : GC} {h : AH} {r : Row} {m : Nat} {L : List Row} {x : Int32} (hW : World h) (hm : MW h r) (hO : RoOK r.1 r.2 m) (hm28 : m < 2 ^ 28) (hL : PsR h L) (hb : m + 300 < 2 ^ 23) : PM l9 G mX9_run NT NT [.ref 723, .int x] h (fun v h' => (cd1 (rgB 1 300 x) ≠ 0 → RQ h h' (cd1 (rgB 1 300 x))) ∧ (cd1 (rgB 1 300 x) = 0 → v = some (.int ((tkN (nn x) r).1 3 - r.1 3)) ∧ RC h h' ∧ MW h' (tkN (nn x) r) ∧ PsR h' (pushL L r))) noX := by
  refine PM.of (by decide +kernel) rfl rfl (Nat.le_of_ble_eq_true rfl) (fun hst _ => ?_)
  refine r_aload_n dX9_run_0 rfl ?_
  refine r_iconst (0) dX9_run_1 (by decide) ?_
  refine q_putM fl_X9_61 hW hm rfl rfl dX9_run_2 (fun hm => ?_)
  refine r_aload_n dX9_run_5 rfl ?_
  refine r_iload_n dX9_run_6 rfl ?_
  refine r_iconst (1) dX9_run_7 (by decide) ?_
  refine r_sipush (300) dX9_run_8 (by decide) ?_
  refine q_callS3 (cs_X9_inRange ml_X9_167) ⟨rfl, rfl⟩ rfl (Nat.le_of_ble_eq_true rfl) dX9_run_11 c_X9_inRange (fun v_11 h_11 q_11 => ?_)
  obtain ⟨rfl, z9⟩ := q_11
  replace z9 := z9.symm
  subst z9
  refine r_if_ne 21 dX9_run_14 (by decide) (fun c_14 => ?_) (fun c_14 => ?_)
  · refine r_iconst (0) dX9_run_21 (by decide) ?_
    refine r_iconst (1) dX9_run_22 (by decide) ?_
    refine q_callV2 (cv_X9_fails ml_X9_302) hW kc_723 (by decide) rfl ⟨rfl, rfl⟩ rfl (Nat.le_of_ble_eq_true rfl) dX9_run_23 (c_X9_fails0 hW) (fun v_23 h_23 q_23 => ?_)
    obtain ⟨rfl, z9⟩ := q_23
    replace z9 := z9.symm
    subst z9
    refine r_if_eq 31 dX9_run_26 (by decide) (fun c_26 => ?_) (fun c_26 => ?_)
    · have kr : rgB 1 300 x = true := bI_1.mp c_14
      obtain ⟨n, n1, n2, hx⟩ := rgB_t (a := 1) (b := 300) kr (by decide) (by decide)
      have ex : nn x = n := by rw [hx]; exact nn_I (by omega)
      have hq0 : RQ h (sI h 723 12 0) 0 := RQ.f0
      replace hL := hL.rq hq0
      refine r_aload_n dX9_run_31 rfl ?_
      refine q_callV0 (cv_X9_remembers ml_X9_337) hW kc_723 (by decide) rfl ⟨rfl, rfl⟩ rfl (Nat.le_of_ble_eq_true rfl) dX9_run_32 (c_X9_remembers hW hm hL) (fun v_32 h_32 q_32 => ?_)
      obtain ⟨rfl, eR, eN, hL2⟩ := q_32
      have hW := eR.W hW
      replace hm := hm.cgH eR (by unfold RM; omega) (by unfold RM; omega)
      have he : eqx h_32 h_32 SM := eqx.rf
      refine r_aload_n dX9_run_35 rfl ?_
      refine r_iload_n dX9_run_36 rfl ?_
      refine q_callV1 (cv_X9_runs ml_X9_340) hW kc_723 (by decide) rfl ⟨rfl, rfl⟩ rfl (Nat.le_of_ble_eq_true rfl) dX9_run_37 (c_X9_runs hW hm hO (n := n) (by omega) hx) (fun v_37 h_37 q_37 => ?_)
      obtain ⟨rfl, eT, hm⟩ := q_37
      have he := he.tr eT
      refine r_iret dX9_run_40 rfl ⟨Nat.zero_le _, Nat.zero_le _⟩ ?_
      refine ⟨fun q => absurd (cd1_t kr) q, fun _ => ⟨?_, rc_close hq0 eR eN he, ?_, hL2.sm he⟩⟩
      · rw [ex]
      · rw [ex]; exact hm
    · first | exact absurd c_26 (by decide) | exact absurd (by decide) c_26
  · refine r_iconst (1) dX9_run_17 (by decide) ?_
    refine r_goto 22 dX9_run_18 (by decide) ?_
    refine r_iconst (1) dX9_run_22 (by decide) ?_
    refine q_callV2 (cv_X9_fails ml_X9_302) hW kc_723 (by decide) rfl ⟨rfl, rfl⟩ rfl (Nat.le_of_ble_eq_true rfl) dX9_run_23 (c_X9_fails1 hW) (fun v_23 h_23 q_23 => ?_)
    obtain ⟨rfl, z9⟩ := q_23
    replace z9 := z9.symm
    subst z9
    replace hm := hm.s9 (k := 12) (x := 1)
    refine r_if_eq 31 dX9_run_26 (by decide) (fun c_26 => ?_) (fun c_26 => ?_)
    · first | exact absurd c_26 (by decide) | exact absurd (by decide) c_26
    · refine r_iconst (0) dX9_run_29 (by decide) ?_
      refine r_iret dX9_run_30 rfl ⟨Nat.zero_le _, Nat.zero_le _⟩ ?_
      have kr : rgB 1 300 x = false := bI_0.mp c_14
      exact ⟨fun _ => by rw [sI_2, kr]; exact RQ.of (c := 1), fun q => absurd q (cd1_n kr)⟩

set_option maxRecDepth 100000 in
set_option maxHeartbeats 4000000 in
theorem c_X9_hurry {l9 : Launch} {G : GC} {h : AH} {r : Row} {m : Nat} {L : List Row} {x : Int32} (hW : World h) (hm : MW h r) (hO : RoOK r.1 r.2 m) (hm28 : m < 2 ^ 28) (hL : PsR h L) (hb : m + 300 < 2 ^ 23) : PM l9 G mX9_hurry NT NT [.ref 723, .int x] h (fun v h' => (cd1 (okP r x) ≠ 0 → RQ h h' (cd1 (okP r x))) ∧ (cd1 (okP r x) = 0 → v = some (.int (getP (huR r (nn x)).1 (nn x) 17)) ∧ RC h h' ∧ MW h' (huR r (nn x)) ∧ PsR h' (pushL L r))) noX := by
  refine PM.of (by decide +kernel) rfl rfl (Nat.le_of_ble_eq_true rfl) (fun hst _ => ?_)
  refine r_aload_n dX9_hurry_0 rfl ?_
  refine r_iload_n dX9_hurry_1 rfl ?_
  refine q_callV1 (cv_X9_noPool ml_X9_309) hW kc_723 (by decide) rfl ⟨rfl, rfl⟩ rfl (Nat.le_of_ble_eq_true rfl) dX9_hurry_2 (c_X9_noPool hW hm hO) (fun v_2 h_2 q_2 => ?_)
  obtain ⟨rfl, z9⟩ := q_2
  subst z9
  have hW : World (sI h 723 12 (nI (cd1 (okP r x)))) := wsI hW
  replace hm := hm.s9 (k := 12) (x := nI (cd1 (okP r x)))
  refine r_if_eq 10 dX9_hurry_5 (by decide) (fun c_5 => ?_) (fun c_5 => ?_)
  · have ko : okP r x = true := bn0 c_5
    obtain ⟨p, hp, pn, hx⟩ := okP_t hO ko
    have ex : nn x = p := by rw [hx]; exact nn_I (by omega)
    have hOp := hO.2 p pn
    have y23 : nn (getP r.1 p 23) ≤ 20 := (hOp.at 23).2.2
    have y24 : nn (getP r.1 p 24) ≤ 24 := (hOp.at 24).2.2
    have hq0 : RQ h (sI h 723 12 (nI (cd1 (okP r x)))) 0 := by rw [ko]; exact RQ.of
    replace hL := hL.rq hq0
    have hOr := hO
    refine r_aload_n dX9_hurry_10 rfl ?_
    refine q_callV0 (cv_X9_remembers ml_X9_337) hW kc_723 (by decide) rfl ⟨rfl, rfl⟩ rfl (Nat.le_of_ble_eq_true rfl) dX9_hurry_11 (c_X9_remembers hW hm hL) (fun v_11 h_11 q_11 => ?_)
    obtain ⟨rfl, eR, eN, hL2⟩ := q_11
    have hW := eR.W hW
    replace hm := hm.cgH eR (by unfold RM; omega) (by unfold RM; omega)
    have he : eqx h_11 h_11 SM := eqx.rf
    replace hm := hm.pv p
    refine r_aload_n dX9_hurry_14 rfl ?_
    refine r_iload_n dX9_hurry_15 rfl ?_
    refine r_bipush (12) dX9_hurry_16 (by decide) ?_
    refine q_callV2 (cv_X9_of ml_X9_81) hW kc_723 (by decide) rfl ⟨rfl, rfl⟩ rfl (Nat.le_of_ble_eq_true rfl) dX9_hurry_18 (c_X9_of hW hm hp hx kn_12 (by omega)) (fun v_18 h_18 q_18 => ?_)
    obtain ⟨rfl, z9⟩ := q_18
    replace z9 := z9.symm
    subst z9
    refine r_istore_n (ls2 := [_, some _, _, _]) dX9_hurry_21 (by decide) rfl ?_
    refine r_aload_n dX9_hurry_22 rfl ?_
    refine r_iload_n dX9_hurry_23 rfl ?_
    refine r_bipush (13) dX9_hurry_24 (by decide) ?_
    refine q_callV2 (cv_X9_of ml_X9_81) hW kc_723 (by decide) rfl ⟨rfl, rfl⟩ rfl (Nat.le_of_ble_eq_true rfl) dX9_hurry_26 (c_X9_of hW hm hp hx kn_13 (by omega)) (fun v_26 h_26 q_26 => ?_)
    obtain ⟨rfl, z9⟩ := q_26
    replace z9 := z9.symm
    subst z9
    refine r_istore_n (ls2 := [_, _, some _, _]) dX9_hurry_29 (by decide) rfl ?_
    refine r_aload_n dX9_hurry_30 rfl ?_
    refine r_iload_n dX9_hurry_31 rfl ?_
    refine r_bipush (12) dX9_hurry_32 (by decide) ?_
    refine r_iconst (0) dX9_hurry_34 (by decide) ?_
    refine q_callV3 (cv_X9_put ml_X9_64) hW kc_723 (by decide) rfl ⟨rfl, rfl⟩ rfl (Nat.le_of_ble_eq_true rfl) dX9_hurry_35 (c_X9_put hW hm hp hx kn_12 (by omega)) (fun v_35 h_35 q_35 => ?_)
    obtain ⟨rfl, e_35, hm⟩ := q_35
    have hW := e_35.W hW
    have he := he.tr e_35
    refine r_aload_n dX9_hurry_38 rfl ?_
    refine r_iload_n dX9_hurry_39 rfl ?_
    refine r_bipush (13) dX9_hurry_40 (by decide) ?_
    refine r_iconst (0) dX9_hurry_42 (by decide) ?_
    refine q_callV3 (cv_X9_put ml_X9_64) hW kc_723 (by decide) rfl ⟨rfl, rfl⟩ rfl (Nat.le_of_ble_eq_true rfl) dX9_hurry_43 (c_X9_put hW hm hp hx kn_13 (by omega)) (fun v_43 h_43 q_43 => ?_)
    obtain ⟨rfl, e_43, hm⟩ := q_43
    have hW := e_43.W hW
    have he := he.tr e_43
    refine r_aload_n dX9_hurry_46 rfl ?_
    refine q_callV0 (cv_X9_tick ml_X9_158) hW kc_723 (by decide) rfl ⟨rfl, rfl⟩ rfl (Nat.le_of_ble_eq_true rfl) dX9_hurry_47 (c_X9_tick hW (PV.upP hm) (hz_ok hOr pn) (by omega)) (fun v_47 h_47 q_47 => ?_)
    obtain ⟨rfl, eT, hm⟩ := q_47
    have hW := eT.W hW
    have he := he.tr eT
    replace hm := hm.pv p
    refine r_aload_n dX9_hurry_50 rfl ?_
    refine r_iload_n dX9_hurry_51 rfl ?_
    refine r_bipush (12) dX9_hurry_52 (by decide) ?_
    refine r_iload_n dX9_hurry_54 rfl ?_
    refine q_callV3 (cv_X9_put ml_X9_64) hW kc_723 (by decide) rfl ⟨rfl, rfl⟩ rfl (Nat.le_of_ble_eq_true rfl) dX9_hurry_55 (c_X9_put hW hm hp hx kn_12 (by omega)) (fun v_55 h_55 q_55 => ?_)
    obtain ⟨rfl, e_55, hm⟩ := q_55
    have hW := e_55.W hW
    have he := he.tr e_55
    refine r_aload_n dX9_hurry_58 rfl ?_
    refine r_iload_n dX9_hurry_59 rfl ?_
    refine r_bipush (13) dX9_hurry_60 (by decide) ?_
    refine r_iload_n dX9_hurry_62 rfl ?_
    refine q_callV3 (cv_X9_put ml_X9_64) hW kc_723 (by decide) rfl ⟨rfl, rfl⟩ rfl (Nat.le_of_ble_eq_true rfl) dX9_hurry_63 (c_X9_put hW hm hp hx kn_13 (by omega)) (fun v_63 h_63 q_63 => ?_)
    obtain ⟨rfl, e_63, hm⟩ := q_63
    have hW := e_63.W hW
    have he := he.tr e_63
    refine r_aload_n dX9_hurry_66 rfl ?_
    refine r_iload_n dX9_hurry_67 rfl ?_
    refine r_bipush (17) dX9_hurry_68 (by decide) ?_
    refine q_callV2 (cv_X9_of ml_X9_81) hW kc_723 (by decide) rfl ⟨rfl, rfl⟩ rfl (Nat.le_of_ble_eq_true rfl) dX9_hurry_70 (c_X9_of hW hm hp hx kn_17 (by omega)) (fun v_70 h_70 q_70 => ?_)
    obtain ⟨rfl, z9⟩ := q_70
    replace z9 := z9.symm
    subst z9
    refine r_iret dX9_hurry_73 rfl ⟨Nat.zero_le _, Nat.zero_le _⟩ ?_
    first
      | (have ko : okP r x = false := bn1 c_5
         exact ⟨fun _ => by rw [ko]; exact RQ.of, fun q => absurd q (cd1_n ko)⟩)
      | (refine ⟨fun q => absurd (cd1_t ko) q, fun _ => ⟨?_, rc_close hq0 eR eN he, ?_, hL2.sm he⟩⟩
         · rw [ex]
           refine some_int ?_
           unfold huR
           rw [upP_p, trP_k (by decide)]
           all_goals rfl
         · rw [ex]
           exact PV.upP hm)
  · refine r_iconst (0) dX9_hurry_8 (by decide) ?_
    refine r_iret dX9_hurry_9 rfl ⟨Nat.zero_le _, Nat.zero_le _⟩ ?_
    first
      | (have ko : okP r x = false := bn1 c_5
         exact ⟨fun _ => by rw [ko]; exact RQ.of, fun q => absurd q (cd1_n ko)⟩)
      | (refine ⟨fun q => absurd (cd1_t ko) q, fun _ => ⟨?_, rc_close hq0 eR eN he, ?_, hL2.sm he⟩⟩
         · rw [ex]
           refine some_int ?_
           unfold huR
           rw [upP_p, trP_k (by decide)]
           all_goals rfl
         · rw [ex]
           exact PV.upP hm)

set_option maxRecDepth 100000 in
set_option maxHeartbeats 4000000 in
theorem c_X9_protect {l9 : Launch} {G : GC} {h : AH} {r : Row} {m : Nat} {L : List Row} {x : Int32} {b : Bool} (hW : World h) (hm : MW h r) (hO : RoOK r.1 r.2 m) (hm28 : m < 2 ^ 28) (hL : PsR h L) : PM l9 G mX9_protect NT NT [.ref 723, .int x, .int (bI b)] h (fun v h' => (cd1 (mbP r x).isSome ≠ 0 → RQ h h' (cd1 (mbP r x).isSome)) ∧ (cd1 (mbP r x).isSome = 0 → v = some (.int (mbAo r x 4)) ∧ RC h h' ∧ MW h' (prR r x (bI b)) ∧ PsR h' (pushL L r))) noX := by
  refine PM.of (by decide +kernel) rfl rfl (Nat.le_of_ble_eq_true rfl) (fun hst _ => ?_)
  refine r_aload_n dX9_protect_0 rfl ?_
  refine r_iconst (0) dX9_protect_1 (by decide) ?_
  refine q_putM fl_X9_61 hW hm rfl rfl dX9_protect_2 (fun hm => ?_)
  refine r_aload_n dX9_protect_5 rfl ?_
  refine r_aload_n dX9_protect_6 rfl ?_
  refine r_iload_n dX9_protect_7 rfl ?_
  refine q_callV1 (cv_X9_finds ml_X9_321) hW kc_723 (by decide) rfl ⟨rfl, rfl⟩ rfl (Nat.le_of_ble_eq_true rfl) dX9_protect_8 (c_X9_finds hW hm hO hm28) (fun v_8 h_8 q_8 => ?_)
  obtain ⟨rfl, z9⟩ := q_8
  replace z9 := z9.symm
  subst z9
  replace hm := hm.fdH (r := r) (x := x)
  replace hW : World (fdH (sI h 723 12 0) r x) := World.fdH (wsI hW)
  refine r_if_ne 18 dX9_protect_11 (by decide) (fun c_11 => ?_) (fun c_11 => ?_)
  · refine r_iconst (0) dX9_protect_18 (by decide) ?_
    refine r_iconst (1) dX9_protect_19 (by decide) ?_
    refine q_callV2 (cv_X9_fails ml_X9_302) hW kc_723 (by decide) rfl ⟨rfl, rfl⟩ rfl (Nat.le_of_ble_eq_true rfl) dX9_protect_20 (c_X9_fails0 hW) (fun v_20 h_20 q_20 => ?_)
    obtain ⟨rfl, z9⟩ := q_20
    replace z9 := z9.symm
    subst z9
    refine r_if_eq 28 dX9_protect_23 (by decide) (fun c_23 => ?_) (fun c_23 => ?_)
    · have kf : (mbP r x).isSome = true := bI_1.mp c_11
      obtain ⟨p, hp9⟩ : ∃ p, mbP r x = some p := by
        cases hq : mbP r x with
        | none => rw [hq] at kf; cases kf
        | some p => exact ⟨p, rfl⟩
      obtain ⟨zp, k, zk, zl⟩ := mb_some hp9
      have zkl := plS_lt zl
      obtain ⟨np, n4, n3, en⟩ := hO.np
      have hp : p < 4 := by omega
      have hOp := hO.2 p zp
      have y23 : nn (getP r.1 p 23) ≤ 20 := (hOp.at 23).2.2
      rw [fdH_s hp9 zk] at hW hm ⊢
      have hq0 := RQ.f2 (h := h) (a := nI p) (b := nI k)
      replace hL := hL.rq hq0
      refine r_aload_n dX9_protect_28 rfl ?_
      refine q_callV0 (cv_X9_remembers ml_X9_337) hW kc_723 (by decide) rfl ⟨rfl, rfl⟩ rfl (Nat.le_of_ble_eq_true rfl) dX9_protect_29 (c_X9_remembers hW hm hL) (fun v_29 h_29 q_29 => ?_)
      obtain ⟨rfl, eR, eN, hL2⟩ := q_29
      have hW := eR.W hW
      replace hm := hm.cgH eR (by unfold RM; omega) (by unfold RM; omega)
      have he : eqx h_29 h_29 SM := eqx.rf
      have hm0 := hm
      replace hm := hm.pv p
      have ei : aI h_29 723 25 = nI p := by rw [eN, pk_un (by decide), sI_k (by decide), sI_s]
      have ek9 : aI h_29 723 26 = nI k := by rw [eN, pk_un (by decide), sI_s]
      refine r_aload_n dX9_protect_32 rfl ?_
      refine r_aload_n dX9_protect_33 rfl ?_
      refine q_getI fl_X9_315 hW kc_723 rfl dX9_protect_34 ?_
      rw [ei]
      refine r_aload_n dX9_protect_37 rfl ?_
      refine q_getI fl_X9_318 hW kc_723 rfl dX9_protect_38 ?_
      rw [ek9]
      refine q_callV2 (cv_X9_isGuarded ml_X9_95) hW kc_723 (by decide) rfl ⟨rfl, rfl⟩ rfl (Nat.le_of_ble_eq_true rfl) dX9_protect_41 (c_X9_isGuarded hW hm hp rfl rfl (by omega)) (fun v_41 h_41 q_41 => ?_)
      obtain ⟨rfl, z9⟩ := q_41
      replace z9 := z9.symm
      subst z9
      refine r_istore_n (ls2 := [_, _, some _, _]) dX9_protect_44 (by decide) rfl ?_
      refine r_aload_n dX9_protect_45 rfl ?_
      refine r_aload_n dX9_protect_46 rfl ?_
      refine q_getI fl_X9_315 hW kc_723 rfl dX9_protect_47 ?_
      rw [ei]
      refine r_bipush (100) dX9_protect_50 (by decide) ?_
      refine r_iconst (4) dX9_protect_52 (by decide) ?_
      refine r_aload_n dX9_protect_53 rfl ?_
      refine q_getI fl_X9_318 hW kc_723 rfl dX9_protect_54 ?_
      rw [ek9]
      refine r_imul dX9_protect_57 ?_
      refine r_iadd dX9_protect_58 ?_
      refine r_iconst (3) dX9_protect_59 (by decide) ?_
      refine r_iadd dX9_protect_60 ?_
      refine r_iload_n dX9_protect_61 rfl ?_
      refine r_if_eq 69 dX9_protect_62 (by decide) (fun c_62 => ?_) (fun c_62 => ?_)
      · refine r_iconst (0) dX9_protect_69 (by decide) ?_
        refine q_callV3 (cv_X9_put ml_X9_64) hW kc_723 (by decide) rfl ⟨rfl, rfl⟩ rfl (Nat.le_of_ble_eq_true rfl) dX9_protect_70 (c_X9_put hW hm hp rfl (nadd (nadd kn_100 (nmul kn_4 rfl)) kn_3) (by omega)) (fun v_70 h_70 q_70 => ?_)
        obtain ⟨rfl, eP, hm⟩ := q_70
        have he := he.tr eP
        rw [show 100 + 4 * k + 3 = 103 + 4 * k from by omega] at hm
        refine r_iload_n dX9_protect_73 rfl ?_
        refine r_zret dX9_protect_74 rfl (bI_01 _) ⟨Nat.zero_le _, Nat.zero_le _⟩ ?_
        refine ⟨fun q => absurd (cd1_t kf) q, fun _ => ⟨?_, rc_close hq0 eR eN he, ?_, hL2.sm he⟩⟩
        · rw [mbAo_s hp9 zk]; rfl
        · rw [prR_s hp9 zk]
          first
            | (rw [c_62]; exact PV.upP hm)
            | (rw [show bI b = 1 from bI_1' c_62]; exact PV.upP hm)
      · refine r_iconst (1) dX9_protect_65 (by decide) ?_
        refine r_goto 70 dX9_protect_66 (by decide) ?_
        refine q_callV3 (cv_X9_put ml_X9_64) hW kc_723 (by decide) rfl ⟨rfl, rfl⟩ rfl (Nat.le_of_ble_eq_true rfl) dX9_protect_70 (c_X9_put hW hm hp rfl (nadd (nadd kn_100 (nmul kn_4 rfl)) kn_3) (by omega)) (fun v_70 h_70 q_70 => ?_)
        obtain ⟨rfl, eP, hm⟩ := q_70
        have he := he.tr eP
        rw [show 100 + 4 * k + 3 = 103 + 4 * k from by omega] at hm
        refine r_iload_n dX9_protect_73 rfl ?_
        refine r_zret dX9_protect_74 rfl (bI_01 _) ⟨Nat.zero_le _, Nat.zero_le _⟩ ?_
        refine ⟨fun q => absurd (cd1_t kf) q, fun _ => ⟨?_, rc_close hq0 eR eN he, ?_, hL2.sm he⟩⟩
        · rw [mbAo_s hp9 zk]; rfl
        · rw [prR_s hp9 zk]
          first
            | (rw [c_62]; exact PV.upP hm)
            | (rw [show bI b = 1 from bI_1' c_62]; exact PV.upP hm)
    · first | exact absurd c_23 (by decide) | exact absurd (by decide) c_23
  · refine r_iconst (1) dX9_protect_14 (by decide) ?_
    refine r_goto 19 dX9_protect_15 (by decide) ?_
    refine r_iconst (1) dX9_protect_19 (by decide) ?_
    refine q_callV2 (cv_X9_fails ml_X9_302) hW kc_723 (by decide) rfl ⟨rfl, rfl⟩ rfl (Nat.le_of_ble_eq_true rfl) dX9_protect_20 (c_X9_fails1 hW) (fun v_20 h_20 q_20 => ?_)
    obtain ⟨rfl, z9⟩ := q_20
    replace z9 := z9.symm
    subst z9
    replace hm := hm.s9 (k := 12) (x := 1)
    refine r_if_eq 28 dX9_protect_23 (by decide) (fun c_23 => ?_) (fun c_23 => ?_)
    · first | exact absurd c_23 (by decide) | exact absurd (by decide) c_23
    · refine r_iconst (0) dX9_protect_26 (by decide) ?_
      refine r_zret dX9_protect_27 rfl (by decide) ⟨Nat.zero_le _, Nat.zero_le _⟩ ?_
      have kf : (mbP r x).isSome = false := bI_0.mp c_11
      have kn : mbP r x = none := by cases hq : mbP r x with | none => rfl | some p => rw [hq] at kf; cases kf
      exact ⟨fun _ => by rw [fdH_n kn, sI_2, kf]; exact RQ.of (c := 1), fun q => absurd q (cd1_n kf)⟩

set_option maxRecDepth 100000 in
set_option maxHeartbeats 4000000 in
theorem c_X9_undo {l9 : Launch} {G : GC} {h : AH} {r : Row} {m : Nat} {L : List Row} (hW : World h) (hm : MW h r) (hO : RoOK r.1 r.2 m) (hm28 : m < 2 ^ 28) (hL : PsR h L) : PM l9 G mX9_undo NT NT [.ref 723] h (fun v h' => (L.length = 0 → v = some (.int (-1)) ∧ RQ h h' 0) ∧ (L.length ≠ 0 → v = some (.int (nI (L.length - 1))) ∧ eqx h h' RS ∧ aI h' 723 12 = 0 ∧ (∀ k, k ≠ 10 → k ≠ 12 → aI h' 723 k = aI h 723 k) ∧ MW h' (L.getD (L.length - 1) r00) ∧ PsR h' (L.take (L.length - 1)))) noX := by
  refine PM.of (by decide +kernel) rfl rfl (Nat.le_of_ble_eq_true rfl) (fun hst _ => ?_)
  obtain ⟨l1, l2, l3⟩ := hL
  refine r_aload_n dX9_undo_0 rfl ?_
  refine r_iconst (0) dX9_undo_1 (by decide) ?_
  refine q_putI fl_X9_61 hW kc_723 rfl rfl dX9_undo_2 ?_
  refine r_aload_n dX9_undo_5 rfl ?_
  refine q_getI fl_X9_71 hW kc_723 rfl dX9_undo_6 ?_
  rw [show aI (sI h 723 12 0) 723 10 = nI L.length from (sI_k (by decide)).trans l1]
  refine r_if_ne 14 dX9_undo_9 (by decide) (fun c_9 => ?_) (fun c_9 => ?_)
  · have hn0 : L.length ≠ 0 := fun q => c_9 (by rw [q]; rfl)
    have hg := l3 (L.length - 1) (by omega)
    refine r_aload_n dX9_undo_14 rfl ?_
    refine r_dup dX9_undo_15 rfl ?_
    refine q_getI fl_X9_71 hW kc_723 rfl dX9_undo_16 ?_
    rw [show aI (sI h 723 12 0) 723 10 = nI L.length from (sI_k (by decide)).trans l1]
    refine r_iconst (1) dX9_undo_19 (by decide) ?_
    refine r_isub dX9_undo_20 ?_
    rw [nI_s1 (by omega)]
    refine q_putI fl_X9_71 hW kc_723 rfl rfl dX9_undo_21 ?_
    refine r_aload_n dX9_undo_24 rfl ?_
    refine q_getR fl_X9_22 hW kc_723 rfl (kl_9_4 hW) (by decide) dX9_undo_25 ?_
    refine r_sipush (964) dX9_undo_28 (by decide) ?_
    refine r_aload_n dX9_undo_31 rfl ?_
    refine q_getI fl_X9_71 hW kc_723 rfl dX9_undo_32 ?_
    rw [sI_s]
    refine r_imul dX9_undo_35 ?_
    refine r_aload_n dX9_undo_36 rfl ?_
    refine q_getR fl_X9_7 hW kc_723 rfl (kl_9_0 hW) (by decide) dX9_undo_37 ?_
    refine r_iconst (0) dX9_undo_40 (by decide) ?_
    refine q_callS4 (cs_X9_copies ml_X9_74) ⟨rfl, rfl⟩ rfl (Nat.le_of_ble_eq_true rfl) dX9_undo_41 (c_X9_copies (wsI (wsI hW)) kc_728 kc_724 (Or.inl (by decide)) (nmul (a := 964) rfl rfl) kn_0 (by omega) (by omega) (by decide) (by decide)) (fun v_41 h_41 q_41 => ?_)
    obtain ⟨rfl, e_41, k_41, o_41⟩ := q_41
    have hW := e_41.W (wsI (wsI hW))
    refine r_aload_n dX9_undo_44 rfl ?_
    refine q_getR fl_X9_38 hW kc_723 rfl (kl_9_9 hW) (by decide) dX9_undo_45 ?_
    refine r_bipush (24) dX9_undo_48 (by decide) ?_
    refine r_aload_n dX9_undo_50 rfl ?_
    refine q_getI fl_X9_71 hW kc_723 rfl dX9_undo_51 ?_
    rw [show aI h_41 723 10 = nI (L.length - 1) from by rw [e_41.I (by unfold btw; omega), sI_s]]
    refine r_imul dX9_undo_54 ?_
    refine r_aload_n dX9_undo_55 rfl ?_
    refine q_getR fl_X9_25 hW kc_723 rfl (kl_9_5 hW) (by decide) dX9_undo_56 ?_
    refine r_iconst (0) dX9_undo_59 (by decide) ?_
    refine q_callS4 (cs_X9_copies_ ml_X9_78) ⟨rfl, rfl⟩ rfl (Nat.le_of_ble_eq_true rfl) dX9_undo_60 (c_X9_copies_ hW kc_733 kc_729 (Or.inl (by decide)) (nmul (a := 24) rfl rfl) kn_0 (by omega) (by omega) (by decide) (by decide)) (fun v_60 h_60 q_60 => ?_)
    obtain ⟨rfl, e_60, k_60, o_60⟩ := q_60
    have hW := e_60.W hW
    refine r_aload_n dX9_undo_63 rfl ?_
    refine q_getI fl_X9_71 hW kc_723 rfl dX9_undo_64 ?_
    rw [show aI h_60 723 10 = nI (L.length - 1) from by rw [e_60.I (by unfold btw; omega), e_41.I (by unfold btw; omega), sI_s]]
    refine r_iret dX9_undo_67 rfl ⟨Nat.zero_le _, Nat.zero_le _⟩ ?_
    have h723 : aI h_60 723 = upd (upd (aI h 723) 12 0) 10 (nI (L.length - 1)) := by rw [e_60.I (by unfold btw; omega), e_41.I (by unfold btw; omega), sI_r, sI_r]
    refine ⟨fun q => absurd q hn0, fun _ => ⟨rfl, ?_, ?_, fun k k1 k2 => ?_, ⟨fun k hk => ?_, fun k hk => ?_⟩, ?_, ?_, fun i hi => ?_⟩⟩
    · exact ((eqx.rf.sI (S := RS) (Or.inl rfl)).sI (Or.inl rfl)).tr ((e_41.wk (fun i q => by unfold btw at q; (try unfold RS); omega)).tr (e_60.wk (fun i q => by unfold btw at q; (try unfold RS); omega)))
    · rw [h723, pk_un (by decide), pk_us]
    · rw [h723, pk_un k1, pk_un k2]
    · rw [e_60.I (by unfold btw; omega)]
      have z := k_41 k hk
      rw [Nat.zero_add] at z
      exact z.trans (hg.1 k hk)
    · have z := k_60 k hk
      rw [Nat.zero_add, e_41.J (by unfold btw; omega)] at z
      exact z.trans (hg.2 k hk)
    · rw [h723, pk_us, List.length_take, Nat.min_eq_left (by omega)]
    · rw [List.length_take]; omega
    · rw [List.length_take] at hi
      have hg : (L.take (L.length - 1)).getD i r00 = L.getD i r00 := by
        rw [List.getD_eq_getElem?_getD, List.getD_eq_getElem?_getD, List.getElem?_take, if_pos (by omega)]
      rw [hg]
      refine ⟨fun k hk => ?_, fun k hk => ?_⟩
      · rw [e_60.I (by unfold btw; omega), e_41.I (by unfold btw; omega)]; exact (l3 i (by omega)).1 k hk
      · rw [e_60.J (by unfold btw; omega), e_41.J (by unfold btw; omega)]; exact (l3 i (by omega)).2 k hk
  · refine r_iconst (-1) dX9_undo_12 (by decide) ?_
    refine r_iret dX9_undo_13 rfl ⟨Nat.zero_le _, Nat.zero_le _⟩ ?_
    refine ⟨fun _ => ⟨rfl, RQ.f0⟩, fun q => absurd ?_ q⟩
    exact (nI_eq (b := 0) (by omega) (by decide)).mp (by first | exact c_9 | simpa using c_9)

def SW (h : AH) (s : Row) : Prop := AW h 727 732 s
set_option maxRecDepth 100000 in
set_option maxHeartbeats 4000000 in
theorem c_X9_saveState {l9 : Launch} {G : GC} {h : AH} {r : Row} {m : Nat} (hW : World h) (hm : MW h r) (hO : RoOK r.1 r.2 m) (hm28 : m < 2 ^ 28) : PM l9 G mX9_saveState NT NT [.ref 723] h (fun v h' => v = some (.int (r.1 1)) ∧ eqx h h' (fun i => i = 723 ∨ i = 727 ∨ i = 732) ∧ aI h' 723 = upd (upd (aI h 723) 12 0) 11 1 ∧ SW h' r) noX := by
  refine PM.of (by decide +kernel) rfl rfl (Nat.le_of_ble_eq_true rfl) (fun hst _ => ?_)
  have hm0 := hm
  refine r_aload_n dX9_saveState_0 rfl ?_
  refine r_iconst (0) dX9_saveState_1 (by decide) ?_
  refine q_putM fl_X9_61 hW hm rfl rfl dX9_saveState_2 (fun hm => ?_)
  refine r_aload_n dX9_saveState_5 rfl ?_
  refine q_getR fl_X9_7 hW kc_723 rfl (kl_9_0 hW) (by decide) dX9_saveState_6 ?_
  refine r_iconst (0) dX9_saveState_9 (by decide) ?_
  refine r_aload_n dX9_saveState_10 rfl ?_
  refine q_getR fl_X9_19 hW kc_723 rfl (kl_9_3 hW) (by decide) dX9_saveState_11 ?_
  refine r_iconst (0) dX9_saveState_14 (by decide) ?_
  refine q_callS4 (cs_X9_copies ml_X9_74) ⟨rfl, rfl⟩ rfl (Nat.le_of_ble_eq_true rfl) dX9_saveState_15 (c_X9_copies (wsI hW) kc_724 kc_727 (Or.inl (by decide)) kn_0 kn_0 (by omega) (by omega) (by decide) (by decide)) (fun v_15 h_15 q_15 => ?_)
  obtain ⟨rfl, e_15, k_15, o_15⟩ := q_15
  have hW := e_15.W (wsI hW)
  refine r_aload_n dX9_saveState_18 rfl ?_
  refine q_getR fl_X9_25 hW kc_723 rfl (kl_9_5 hW) (by decide) dX9_saveState_19 ?_
  refine r_iconst (0) dX9_saveState_22 (by decide) ?_
  refine r_aload_n dX9_saveState_23 rfl ?_
  refine q_getR fl_X9_35 hW kc_723 rfl (kl_9_8 hW) (by decide) dX9_saveState_24 ?_
  refine r_iconst (0) dX9_saveState_27 (by decide) ?_
  refine q_callS4 (cs_X9_copies_ ml_X9_78) ⟨rfl, rfl⟩ rfl (Nat.le_of_ble_eq_true rfl) dX9_saveState_28 (c_X9_copies_ hW kc_729 kc_732 (Or.inl (by decide)) kn_0 kn_0 (by omega) (by omega) (by decide) (by decide)) (fun v_28 h_28 q_28 => ?_)
  obtain ⟨rfl, e_28, k_28, o_28⟩ := q_28
  have hW := e_28.W hW
  have hm9 := (hm.cgH (e_15.wk (T := fun i => i = 727 ∨ i = 732) (fun i q => by unfold btw at q; omega)) (by omega) (by omega)).cgH (e_28.wk (T := fun i => i = 727 ∨ i = 732) (fun i q => by unfold btw at q; omega)) (by omega) (by omega)
  refine r_aload_n dX9_saveState_31 rfl ?_
  refine r_iconst (1) dX9_saveState_32 (by decide) ?_
  refine q_putZ fl_X9_298 hW kc_723 rfl (by decide) rfl dX9_saveState_33 ?_
  replace hm := hm9.s9 (k := 11) (x := 1)
  refine r_aload_n dX9_saveState_36 rfl ?_
  refine q_getR fl_X9_7 hW kc_723 rfl (kl_9_0 hW) (by decide) dX9_saveState_37 ?_
  refine r_iconst (1) dX9_saveState_40 (by decide) ?_
  refine q_wldMW hW hm kn_1 (by omega) dX9_saveState_41 ?_
  refine r_iret dX9_saveState_42 rfl ⟨Nat.zero_le _, Nat.zero_le _⟩ ?_
  have hm3 := hm
  refine ⟨rfl, ?_, ?_, fun k hk => ?_, fun k hk => ?_⟩
  · exact eqx.sI ((eqx.rf.sI (S := fun i => i = 723 ∨ i = 727 ∨ i = 732) (Or.inl rfl)).tr ((e_15.wk (fun i q => by unfold btw at q; omega)).tr (e_28.wk (fun i q => by unfold btw at q; omega)))) (Or.inl rfl)
  · rw [sI_r, e_28.I (by unfold btw; omega), e_15.I (by unfold btw; omega), sI_r]
  · rw [sI_o (by decide), e_28.I (by unfold btw; omega)]
    have z := k_15 k hk
    rw [Nat.zero_add] at z
    exact z.trans (hm0.1 k hk)
  · rw [sIJ]
    have z := k_28 k hk
    rw [Nat.zero_add, e_15.J (by unfold btw; omega)] at z
    exact z.trans (hm0.2 k hk)

set_option maxRecDepth 100000 in
set_option maxHeartbeats 4000000 in
theorem c_X9_restoreState {l9 : Launch} {G : GC} {h : AH} {r : Row} {m : Nat} {s : Row} {sv : Bool} (hW : World h) (hm : MW h r) (hO : RoOK r.1 r.2 m) (hm28 : m < 2 ^ 28) (h11 : aI h 723 11 = bI sv) (hs : sv = true → SW h s) : PM l9 G mX9_restoreState NT NT [.ref 723] h (fun v h' => (cd1 sv ≠ 0 → RQ h h' (cd1 sv)) ∧ (cd1 sv = 0 → v = some (.int (s.1 1)) ∧ eqx h h' (fun i => i = 723 ∨ i = 724 ∨ i = 729) ∧ aI h' 723 = upd (upd (aI h 723) 12 0) 10 0 ∧ MW h' s)) noX := by
  refine PM.of (by decide +kernel) rfl rfl (Nat.le_of_ble_eq_true rfl) (fun hst _ => ?_)
  refine r_aload_n dX9_restoreState_0 rfl ?_
  refine r_iconst (0) dX9_restoreState_1 (by decide) ?_
  refine q_putM fl_X9_61 hW hm rfl rfl dX9_restoreState_2 (fun hm => ?_)
  refine r_aload_n dX9_restoreState_5 rfl ?_
  refine r_aload_n dX9_restoreState_6 rfl ?_
  refine q_getI fl_X9_298 hW kc_723 rfl dX9_restoreState_7 ?_
  rw [show aI (sI h 723 12 0) 723 11 = bI sv from (sI_k (by decide)).trans h11]
  refine r_if_ne 17 dX9_restoreState_10 (by decide) (fun c_10 => ?_) (fun c_10 => ?_)
  · refine r_iconst (0) dX9_restoreState_17 (by decide) ?_
    refine r_iconst (1) dX9_restoreState_18 (by decide) ?_
    refine q_callV2 (cv_X9_fails ml_X9_302) hW kc_723 (by decide) rfl ⟨rfl, rfl⟩ rfl (Nat.le_of_ble_eq_true rfl) dX9_restoreState_19 (c_X9_fails0 hW) (fun v_19 h_19 q_19 => ?_)
    obtain ⟨rfl, z9⟩ := q_19
    replace z9 := z9.symm
    subst z9
    refine r_if_eq 27 dX9_restoreState_22 (by decide) (fun c_22 => ?_) (fun c_22 => ?_)
    · have hsv := bI_1.mp c_10
      have hs1 := hs hsv
      refine r_aload_n dX9_restoreState_27 rfl ?_
      refine q_getR fl_X9_19 hW kc_723 rfl (kl_9_3 hW) (by decide) dX9_restoreState_28 ?_
      refine r_iconst (0) dX9_restoreState_31 (by decide) ?_
      refine r_aload_n dX9_restoreState_32 rfl ?_
      refine q_getR fl_X9_7 hW kc_723 rfl (kl_9_0 hW) (by decide) dX9_restoreState_33 ?_
      refine r_iconst (0) dX9_restoreState_36 (by decide) ?_
      refine q_callS4 (cs_X9_copies ml_X9_74) ⟨rfl, rfl⟩ rfl (Nat.le_of_ble_eq_true rfl) dX9_restoreState_37 (c_X9_copies (wsI hW) kc_727 kc_724 (Or.inl (by decide)) kn_0 kn_0 (by omega) (by omega) (by decide) (by decide)) (fun v_37 h_37 q_37 => ?_)
      obtain ⟨rfl, e_37, k_37, o_37⟩ := q_37
      have hW := e_37.W (wsI hW)
      refine r_aload_n dX9_restoreState_40 rfl ?_
      refine q_getR fl_X9_35 hW kc_723 rfl (kl_9_8 hW) (by decide) dX9_restoreState_41 ?_
      refine r_iconst (0) dX9_restoreState_44 (by decide) ?_
      refine r_aload_n dX9_restoreState_45 rfl ?_
      refine q_getR fl_X9_25 hW kc_723 rfl (kl_9_5 hW) (by decide) dX9_restoreState_46 ?_
      refine r_iconst (0) dX9_restoreState_49 (by decide) ?_
      refine q_callS4 (cs_X9_copies_ ml_X9_78) ⟨rfl, rfl⟩ rfl (Nat.le_of_ble_eq_true rfl) dX9_restoreState_50 (c_X9_copies_ hW kc_732 kc_729 (Or.inl (by decide)) kn_0 kn_0 (by omega) (by omega) (by decide) (by decide)) (fun v_50 h_50 q_50 => ?_)
      obtain ⟨rfl, e_50, k_50, o_50⟩ := q_50
      have hW := e_50.W hW
      have hm9 : MW h_50 s := ⟨fun k hk => by
        rw [e_50.I (by unfold btw; omega)]
        have z := k_37 k hk
        rw [Nat.zero_add] at z
        exact z.trans (hs1.1 k hk), fun k hk => by
        have z := k_50 k hk
        rw [Nat.zero_add, e_37.J (by unfold btw; omega)] at z
        exact z.trans (hs1.2 k hk)⟩
      replace hm := hm9
      refine r_aload_n dX9_restoreState_53 rfl ?_
      refine r_iconst (0) dX9_restoreState_54 (by decide) ?_
      refine q_putM fl_X9_71 hW hm rfl rfl dX9_restoreState_55 (fun hm => ?_)
      refine r_aload_n dX9_restoreState_58 rfl ?_
      refine q_getR fl_X9_7 hW kc_723 rfl (kl_9_0 hW) (by decide) dX9_restoreState_59 ?_
      refine r_iconst (1) dX9_restoreState_62 (by decide) ?_
      refine q_wldMW hW hm kn_1 (by omega) dX9_restoreState_63 ?_
      refine r_iret dX9_restoreState_64 rfl ⟨Nat.zero_le _, Nat.zero_le _⟩ ?_
      refine ⟨fun q => absurd (cd1_t hsv) q, fun _ => ⟨rfl, ?_, ?_, hm⟩⟩
      · exact eqx.sI ((eqx.rf.sI (S := fun i => i = 723 ∨ i = 724 ∨ i = 729) (Or.inl rfl)).tr ((e_37.wk (fun i q => by unfold btw at q; omega)).tr (e_50.wk (fun i q => by unfold btw at q; omega)))) (Or.inl rfl)
      · rw [sI_r, e_50.I (by unfold btw; omega), e_37.I (by unfold btw; omega), sI_r]
    · first | exact absurd c_22 (by decide) | exact absurd (by decide) c_22
  · refine r_iconst (1) dX9_restoreState_13 (by decide) ?_
    refine r_goto 18 dX9_restoreState_14 (by decide) ?_
    refine r_iconst (1) dX9_restoreState_18 (by decide) ?_
    refine q_callV2 (cv_X9_fails ml_X9_302) hW kc_723 (by decide) rfl ⟨rfl, rfl⟩ rfl (Nat.le_of_ble_eq_true rfl) dX9_restoreState_19 (c_X9_fails1 hW) (fun v_19 h_19 q_19 => ?_)
    obtain ⟨rfl, z9⟩ := q_19
    replace z9 := z9.symm
    subst z9
    replace hm := hm.s9 (k := 12) (x := 1)
    refine r_if_eq 27 dX9_restoreState_22 (by decide) (fun c_22 => ?_) (fun c_22 => ?_)
    · first | exact absurd c_22 (by decide) | exact absurd (by decide) c_22
    · refine r_iconst (0) dX9_restoreState_25 (by decide) ?_
      refine r_iret dX9_restoreState_26 rfl ⟨Nat.zero_le _, Nat.zero_le _⟩ ?_
      have kf := bI_0.mp (show bI sv = 0 from by first | exact c_10 | simpa using c_10)
      exact ⟨fun _ => by rw [sI_2, kf]; exact RQ.of (c := 1), fun q => absurd q (cd1_n kf)⟩
