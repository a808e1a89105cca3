-- the reference's simple changers
def RS : Nat → Prop := fun i => i = 723 ∨ i = 724 ∨ i = 729 ∨ i = 728 ∨ i = 733
def RC (h h' : AH) : Prop := eqx h h' RS ∧ aI h' 723 12 = 0 ∧ ∀ k, k ≠ 10 → k ≠ 12 → k ≠ 25 → k ≠ 26 → k ≠ 27 → aI h' 723 k = aI h 723 k
theorem rc_close {h H0 h1 h2 : AH} {N : Int32} (hq : RQ h H0 0) (e1 : eqx H0 h1 RM) (e9 : aI h1 723 = upd (aI H0 723) 10 N) (he : eqx h1 h2 SM) : RC h h2 := by
  have e3 : aI h2 723 = upd (aI H0 723) 10 N := by rw [he.I (by unfold SM; omega), e9]
  refine ⟨(hq.1.wk (fun i zi => Or.inl zi)).tr ((e1.wk (fun i zi => by unfold RM at zi; (try unfold RS); omega)).tr (he.wk (fun i zi => by unfold SM at zi; (try unfold RS); omega))), by rw [e3, pk_un (by decide)]; exact hq.2.1, fun k k1 k2 k3 k4 k5 => by rw [e3, pk_un k1]; exact hq.2.2 k k2 k3 k4⟩
theorem PsR.rq {h h' : AH} {L : List Row} {c : Nat} (hL : PsR h L) (hq : RQ h h' c) : PsR h' L :=
  ⟨(hq.2.2 10 (by decide) (by decide) (by decide)).trans hL.1, hL.2.1, fun i hi => (hL.2.2 i hi).cgH hq.1 (by decide) (by decide)⟩
theorem MW.rq {h h' : AH} {r : Row} {c : Nat} (hm : MW h r) (hq : RQ h h' c) : MW h' r := hm.cgH hq.1 (by decide) (by decide)
theorem PsR.sm {h h' : AH} {L : List Row} (hL : PsR h L) (e : eqx h h' SM) : PsR h' L :=
  ⟨by rw [e.I (by unfold SM; omega)]; exact hL.1, hL.2.1, fun i hi => (hL.2.2 i hi).cgH e (by unfold SM; omega) (by unfold SM; omega)⟩
theorem ple_0 {z : Int32} (h : z = 0) : rgB 0 0 z = true := by rw [h]; decide
theorem ple_n {z : Int32} (h : ¬ z = 0) : rgB 0 0 z = false := by
  cases q : rgB 0 0 z with
  | false => rfl
  | true =>
    have := of_decide_eq_true q
    exact absurd (i_anti this.2 this.1) h
theorem cd3_n1 {a b c : Bool} (h : a = false) : ¬ cd3 a b c = 0 := by rw [h]; exact (by decide : ¬ (1 : Nat) = 0)
theorem cd3_n2 {a b c : Bool} (h : a = true) (h2 : b = false) : ¬ cd3 a b c = 0 := by rw [h, h2]; exact (by decide : ¬ (2 : Nat) = 0)
theorem cd3_n3 {a b c : Bool} (h : a = true) (h2 : b = true) (h3 : c = false) : ¬ cd3 a b c = 0 := by rw [h, h2, h3]; exact (by decide : ¬ (3 : Nat) = 0)
set_option maxRecDepth 100000 in
set_option maxHeartbeats 4000000 in
theorem c_X9_push {l9 : Launch} {G : GC} {h : AH} {r : Row} {m : Nat} {L : List Row} {x y : Int32} (hW : World h) (hm : MW h r) (hO : RoOK r.1 r.2 m) (hm28 : m < 2 ^ 28) (hL : PsR h L) : PM l9 G mX9_push NT NT [.ref 723, .int x, .int y] h (fun v h' => (cd2 (okP r x) (rgB 0 999 y) ≠ 0 → RQ h h' (cd2 (okP r x) (rgB 0 999 y))) ∧ (cd2 (okP r x) (rgB 0 999 y) = 0 → v = some (.int (puF r x y 20)) ∧ RC h h' ∧ MW h' (upP r (nn x) (puF r x y)) ∧ PsR h' (pushL L r))) noX := by
  refine PM.of (by decide +kernel) rfl rfl (Nat.le_of_ble_eq_true rfl) (fun hst _ => ?_)
  refine r_aload_n dX9_push_0 rfl ?_
  refine r_iload_n dX9_push_1 rfl ?_
  refine q_callV1 (cv_X9_noPool ml_X9_309) hW kc_723 (by decide) rfl ⟨rfl, rfl⟩ rfl (Nat.le_of_ble_eq_true rfl) dX9_push_2 (c_X9_noPool hW hm hO) (fun v_2 h_2 q_2 => ?_)
  obtain ⟨rfl, z9⟩ := q_2
  subst z9
  have hW : World (sI h 723 12 (nI (cd1 (okP r x)))) := wsI hW
  replace hm := hm.s9 (k := 12) (x := nI (cd1 (okP r x)))
  refine r_if_ne 32 dX9_push_5 (by decide) (fun c_5 => ?_) (fun c_5 => ?_)
  · refine r_iconst (0) dX9_push_32 (by decide) ?_
    refine r_iret dX9_push_33 rfl ⟨Nat.zero_le _, Nat.zero_le _⟩ ?_
    first
      | (have ko : okP r x = false := bn1 c_5
         exact ⟨fun _ => by rw [ko]; exact RQ.of, fun q => absurd q (cd2_n1 ko)⟩)
      | (have kr : rgB 0 999 y = false := by
           first
             | exact bI_0.mp c_17
         exact ⟨fun _ => by rw [sI_2, ko, kr]; exact RQ.of (c := 2), fun q => absurd q (cd2_n2 ko kr)⟩)
      | (refine ⟨fun q => absurd (cd2_t ko kr) q, fun _ => ⟨?_, rc_close hq0 eR eN he, ?_, hL2.sm he⟩⟩
         · try unfold puF
           try unfold fP
           try rw [ex]
           try rfl
         · try unfold puF
           try unfold fP
           try rw [ex]
           exact PV.upP hm)
  · have ko : okP r x = true := bn0 c_5
    refine r_aload_n dX9_push_8 rfl ?_
    refine r_iload_n dX9_push_9 rfl ?_
    refine r_iconst (0) dX9_push_10 (by decide) ?_
    refine r_sipush (999) dX9_push_11 (by decide) ?_
    refine q_callS3 (cs_X9_inRange ml_X9_167) ⟨rfl, rfl⟩ rfl (Nat.le_of_ble_eq_true rfl) dX9_push_14 c_X9_inRange (fun v_14 h_14 q_14 => ?_)
    obtain ⟨rfl, z9⟩ := q_14
    replace z9 := z9.symm
    subst z9
    refine r_if_ne 24 dX9_push_17 (by decide) (fun c_17 => ?_) (fun c_17 => ?_)
    · refine r_iconst (0) dX9_push_24 (by decide) ?_
      refine r_iconst (2) dX9_push_25 (by decide) ?_
      refine q_callV2 (cv_X9_fails ml_X9_302) hW kc_723 (by decide) rfl ⟨rfl, rfl⟩ rfl (Nat.le_of_ble_eq_true rfl) dX9_push_26 (c_X9_fails0 hW) (fun v_26 h_26 q_26 => ?_)
      obtain ⟨rfl, z9⟩ := q_26
      replace z9 := z9.symm
      subst z9
      refine r_if_eq 34 dX9_push_29 (by decide) (fun c_29 => ?_) (fun c_29 => ?_)
      · have kr : rgB 0 999 y = true := bI_1.mp c_17
        obtain ⟨p, hp, pn, hx⟩ := okP_t hO ko
        have ex : nn x = p := by rw [hx]; exact nn_I (by omega)
        have hOp := hO.2 p pn
        have y23 : nn (getP r.1 p 23) ≤ 20 := (hOp.at 23).2.2
        have y24 : nn (getP r.1 p 24) ≤ 24 := (hOp.at 24).2.2
        have hq0 : RQ h (sI h 723 12 (nI (cd1 (okP r x)))) 0 := by rw [ko]; exact RQ.of
        replace hL := hL.rq hq0
        refine r_aload_n dX9_push_34 rfl ?_
        refine q_callV0 (cv_X9_remembers ml_X9_337) hW kc_723 (by decide) rfl ⟨rfl, rfl⟩ rfl (Nat.le_of_ble_eq_true rfl) dX9_push_35 (c_X9_remembers hW hm hL) (fun v_35 h_35 q_35 => ?_)
        obtain ⟨rfl, eR, eN, hL2⟩ := q_35
        have hW := eR.W hW
        replace hm := hm.cgH eR (by unfold RM; omega) (by unfold RM; omega)
        have he : eqx h_35 h_35 SM := eqx.rf
        replace hm := hm.pv p
        refine r_aload_n dX9_push_38 rfl ?_
        refine r_iload_n dX9_push_39 rfl ?_
        refine r_bipush (20) dX9_push_40 (by decide) ?_
        refine r_sipush (999) dX9_push_42 (by decide) ?_
        refine r_aload_n dX9_push_45 rfl ?_
        refine r_iload_n dX9_push_46 rfl ?_
        refine r_bipush (20) dX9_push_47 (by decide) ?_
        refine q_callV2 (cv_X9_of ml_X9_81) hW kc_723 (by decide) rfl ⟨rfl, rfl⟩ rfl (Nat.le_of_ble_eq_true rfl) dX9_push_49 (c_X9_of hW hm hp hx kn_20 (by omega)) (fun v_49 h_49 q_49 => ?_)
        obtain ⟨rfl, z9⟩ := q_49
        replace z9 := z9.symm
        subst z9
        refine r_iload_n dX9_push_52 rfl ?_
        refine r_iadd dX9_push_53 ?_
        refine q_min mm_X9_106 rfl (Nat.le_of_ble_eq_true rfl) dX9_push_54 ?_
        refine q_callV3 (cv_X9_put ml_X9_64) hW kc_723 (by decide) rfl ⟨rfl, rfl⟩ rfl (Nat.le_of_ble_eq_true rfl) dX9_push_57 (c_X9_put hW hm hp hx kn_20 (by omega)) (fun v_57 h_57 q_57 => ?_)
        obtain ⟨rfl, e_57, hm⟩ := q_57
        have hW := e_57.W hW
        have he := he.tr e_57
        refine r_aload_n dX9_push_60 rfl ?_
        refine r_iload_n dX9_push_61 rfl ?_
        refine r_bipush (20) dX9_push_62 (by decide) ?_
        refine q_callV2 (cv_X9_of ml_X9_81) hW kc_723 (by decide) rfl ⟨rfl, rfl⟩ rfl (Nat.le_of_ble_eq_true rfl) dX9_push_64 (c_X9_of hW hm hp hx kn_20 (by omega)) (fun v_64 h_64 q_64 => ?_)
        obtain ⟨rfl, z9⟩ := q_64
        replace z9 := z9.symm
        subst z9
        refine r_iret dX9_push_67 rfl ⟨Nat.zero_le _, Nat.zero_le _⟩ ?_
        first
          | (have ko : okP r x = false := bn1 c_5
             exact ⟨fun _ => by rw [ko]; exact RQ.of, fun q => absurd q (cd2_n1 ko)⟩)
          | (have kr : rgB 0 999 y = false := by
               first
                 | exact bI_0.mp c_17
             exact ⟨fun _ => by rw [sI_2, ko, kr]; exact RQ.of (c := 2), fun q => absurd q (cd2_n2 ko kr)⟩)
          | (refine ⟨fun q => absurd (cd2_t ko kr) q, fun _ => ⟨?_, rc_close hq0 eR eN he, ?_, hL2.sm he⟩⟩
             · try unfold puF
               try unfold fP
               try rw [ex]
               try rfl
             · try unfold puF
               try unfold fP
               try rw [ex]
               exact PV.upP hm)
      · first | exact absurd c_29 (by decide) | exact absurd (by decide) c_29
    · refine r_iconst (1) dX9_push_20 (by decide) ?_
      refine r_goto 25 dX9_push_21 (by decide) ?_
      refine r_iconst (2) dX9_push_25 (by decide) ?_
      refine q_callV2 (cv_X9_fails ml_X9_302) hW kc_723 (by decide) rfl ⟨rfl, rfl⟩ rfl (Nat.le_of_ble_eq_true rfl) dX9_push_26 (c_X9_fails1 hW) (fun v_26 h_26 q_26 => ?_)
      obtain ⟨rfl, z9⟩ := q_26
      replace z9 := z9.symm
      subst z9
      replace hm := hm.s9 (k := 12) (x := 2)
      refine r_if_eq 34 dX9_push_29 (by decide) (fun c_29 => ?_) (fun c_29 => ?_)
      · first | exact absurd c_29 (by decide) | exact absurd (by decide) c_29
      · refine r_iconst (0) dX9_push_32 (by decide) ?_
        refine r_iret dX9_push_33 rfl ⟨Nat.zero_le _, Nat.zero_le _⟩ ?_
        first
          | (have ko : okP r x = false := bn1 c_5
             exact ⟨fun _ => by rw [ko]; exact RQ.of, fun q => absurd q (cd2_n1 ko)⟩)
          | (have kr : rgB 0 999 y = false := by
               first
                 | exact bI_0.mp c_17
             exact ⟨fun _ => by rw [sI_2, ko, kr]; exact RQ.of (c := 2), fun q => absurd q (cd2_n2 ko kr)⟩)
          | (refine ⟨fun q => absurd (cd2_t ko kr) q, fun _ => ⟨?_, rc_close hq0 eR eN he, ?_, hL2.sm he⟩⟩
             · try unfold puF
               try unfold fP
               try rw [ex]
               try rfl
             · try unfold puF
               try unfold fP
               try rw [ex]
               exact PV.upP hm)

set_option maxRecDepth 100000 in
set_option maxHeartbeats 4000000 in
theorem c_X9_pause {l9 : Launch} {G : GC} {h : AH} {r : Row} {m : Nat} {L : List Row} {x z : Int32} (hW : World h) (hm : MW h r) (hO : RoOK r.1 r.2 m) (hm28 : m < 2 ^ 28) (hL : PsR h L) (hz : z = 0 ∨ z = 1) : PM l9 G mX9_pause NT NT [.ref 723, .int x, .int z] h (fun v h' => (cd1 (okP r x) ≠ 0 → RQ h h' (cd1 (okP r x))) ∧ (cd1 (okP r x) = 0 → v = some (.int (fP r x 16)) ∧ RC h h' ∧ MW h' (upP r (nn x) (upd (fP r x) 16 z)) ∧ PsR h' (pushL L r))) noX := by
  refine PM.of (by decide +kernel) rfl rfl (Nat.le_of_ble_eq_true rfl) (fun hst _ => ?_)
  refine r_aload_n dX9_pause_0 rfl ?_
  refine r_iload_n dX9_pause_1 rfl ?_
  refine q_callV1 (cv_X9_noPool ml_X9_309) hW kc_723 (by decide) rfl ⟨rfl, rfl⟩ rfl (Nat.le_of_ble_eq_true rfl) dX9_pause_2 (c_X9_noPool hW hm hO) (fun v_2 h_2 q_2 => ?_)
  obtain ⟨rfl, z9⟩ := q_2
  subst z9
  have hW : World (sI h 723 12 (nI (cd1 (okP r x)))) := wsI hW
  replace hm := hm.s9 (k := 12) (x := nI (cd1 (okP r x)))
  refine r_if_eq 10 dX9_pause_5 (by decide) (fun c_5 => ?_) (fun c_5 => ?_)
  · have ko : okP r x = true := bn0 c_5
    obtain ⟨p, hp, pn, hx⟩ := okP_t hO ko
    have ex : nn x = p := by rw [hx]; exact nn_I (by omega)
    have hOp := hO.2 p pn
    have y23 : nn (getP r.1 p 23) ≤ 20 := (hOp.at 23).2.2
    have y24 : nn (getP r.1 p 24) ≤ 24 := (hOp.at 24).2.2
    have hq0 : RQ h (sI h 723 12 (nI (cd1 (okP r x)))) 0 := by rw [ko]; exact RQ.of
    replace hL := hL.rq hq0
    refine r_aload_n dX9_pause_10 rfl ?_
    refine q_callV0 (cv_X9_remembers ml_X9_337) hW kc_723 (by decide) rfl ⟨rfl, rfl⟩ rfl (Nat.le_of_ble_eq_true rfl) dX9_pause_11 (c_X9_remembers hW hm hL) (fun v_11 h_11 q_11 => ?_)
    obtain ⟨rfl, eR, eN, hL2⟩ := q_11
    have hW := eR.W hW
    replace hm := hm.cgH eR (by unfold RM; omega) (by unfold RM; omega)
    have he : eqx h_11 h_11 SM := eqx.rf
    replace hm := hm.pv p
    refine r_aload_n dX9_pause_14 rfl ?_
    refine r_iload_n dX9_pause_15 rfl ?_
    refine r_bipush (16) dX9_pause_16 (by decide) ?_
    refine q_callV2 (cv_X9_of ml_X9_81) hW kc_723 (by decide) rfl ⟨rfl, rfl⟩ rfl (Nat.le_of_ble_eq_true rfl) dX9_pause_18 (c_X9_of hW hm hp hx kn_16 (by omega)) (fun v_18 h_18 q_18 => ?_)
    obtain ⟨rfl, z9⟩ := q_18
    replace z9 := z9.symm
    subst z9
    refine r_iconst (1) dX9_pause_21 (by decide) ?_
    refine r_icmp_ne 29 dX9_pause_22 (by decide) (fun c_22 => ?_) (fun c_22 => ?_)
    · refine r_iconst (0) dX9_pause_29 (by decide) ?_
      refine r_istore_n (ls2 := [_, _, some _, _]) dX9_pause_30 (by decide) rfl ?_
      refine r_aload_n dX9_pause_31 rfl ?_
      refine r_iload_n dX9_pause_32 rfl ?_
      refine r_bipush (16) dX9_pause_33 (by decide) ?_
      refine r_iload_n dX9_pause_35 rfl ?_
      refine r_if_eq 43 dX9_pause_36 (by decide) (fun c_36 => ?_) (fun c_36 => ?_)
      · refine r_iconst (0) dX9_pause_43 (by decide) ?_
        refine q_callV3 (cv_X9_put ml_X9_64) hW kc_723 (by decide) rfl ⟨rfl, rfl⟩ rfl (Nat.le_of_ble_eq_true rfl) dX9_pause_44 (c_X9_put hW hm hp hx kn_16 (by omega)) (fun v_44 h_44 q_44 => ?_)
        obtain ⟨rfl, e_44, hm⟩ := q_44
        have hW := e_44.W hW
        have he := he.tr e_44
        refine r_iload_n dX9_pause_47 rfl ?_
        refine r_zret dX9_pause_48 rfl (by decide) ⟨Nat.zero_le _, Nat.zero_le _⟩ ?_
        first
          | (have ko : okP r x = false := bn1 c_5
             exact ⟨fun _ => by rw [ko]; exact RQ.of, fun q => absurd q (cd1_n ko)⟩)
          | (refine ⟨fun q => absurd (cd1_t ko) q, fun _ => ⟨?_, rc_close hq0 eR eN he, ?_, hL2.sm he⟩⟩
             · try unfold puF
               try unfold fP
               try rw [ex]
               first
                 | exact some_int c_22.symm
                 | exact some_int ((f16_01 (hOp.at 16)).resolve_right c_22).symm
             · try unfold puF
               try unfold fP
               try rw [ex]
               try rw [show z = 1 from hz.resolve_left c_36]
               try rw [show z = 0 from c_36]
               exact PV.upP hm)
      · refine r_iconst (1) dX9_pause_39 (by decide) ?_
        refine r_goto 44 dX9_pause_40 (by decide) ?_
        refine q_callV3 (cv_X9_put ml_X9_64) hW kc_723 (by decide) rfl ⟨rfl, rfl⟩ rfl (Nat.le_of_ble_eq_true rfl) dX9_pause_44 (c_X9_put hW hm hp hx kn_16 (by omega)) (fun v_44 h_44 q_44 => ?_)
        obtain ⟨rfl, e_44, hm⟩ := q_44
        have hW := e_44.W hW
        have he := he.tr e_44
        refine r_iload_n dX9_pause_47 rfl ?_
        refine r_zret dX9_pause_48 rfl (by decide) ⟨Nat.zero_le _, Nat.zero_le _⟩ ?_
        first
          | (have ko : okP r x = false := bn1 c_5
             exact ⟨fun _ => by rw [ko]; exact RQ.of, fun q => absurd q (cd1_n ko)⟩)
          | (refine ⟨fun q => absurd (cd1_t ko) q, fun _ => ⟨?_, rc_close hq0 eR eN he, ?_, hL2.sm he⟩⟩
             · try unfold puF
               try unfold fP
               try rw [ex]
               first
                 | exact some_int c_22.symm
                 | exact some_int ((f16_01 (hOp.at 16)).resolve_right c_22).symm
             · try unfold puF
               try unfold fP
               try rw [ex]
               try rw [show z = 1 from hz.resolve_left c_36]
               try rw [show z = 0 from c_36]
               exact PV.upP hm)
    · refine r_iconst (1) dX9_pause_25 (by decide) ?_
      refine r_goto 30 dX9_pause_26 (by decide) ?_
      refine r_istore_n (ls2 := [_, _, some _, _]) dX9_pause_30 (by decide) rfl ?_
      refine r_aload_n dX9_pause_31 rfl ?_
      refine r_iload_n dX9_pause_32 rfl ?_
      refine r_bipush (16) dX9_pause_33 (by decide) ?_
      refine r_iload_n dX9_pause_35 rfl ?_
      refine r_if_eq 43 dX9_pause_36 (by decide) (fun c_36 => ?_) (fun c_36 => ?_)
      · refine r_iconst (0) dX9_pause_43 (by decide) ?_
        refine q_callV3 (cv_X9_put ml_X9_64) hW kc_723 (by decide) rfl ⟨rfl, rfl⟩ rfl (Nat.le_of_ble_eq_true rfl) dX9_pause_44 (c_X9_put hW hm hp hx kn_16 (by omega)) (fun v_44 h_44 q_44 => ?_)
        obtain ⟨rfl, e_44, hm⟩ := q_44
        have hW := e_44.W hW
        have he := he.tr e_44
        refine r_iload_n dX9_pause_47 rfl ?_
        refine r_zret dX9_pause_48 rfl (by decide) ⟨Nat.zero_le _, Nat.zero_le _⟩ ?_
        first
          | (have ko : okP r x = false := bn1 c_5
             exact ⟨fun _ => by rw [ko]; exact RQ.of, fun q => absurd q (cd1_n ko)⟩)
          | (refine ⟨fun q => absurd (cd1_t ko) q, fun _ => ⟨?_, rc_close hq0 eR eN he, ?_, hL2.sm he⟩⟩
             · try unfold puF
               try unfold fP
               try rw [ex]
               first
                 | exact some_int c_22.symm
                 | exact some_int ((f16_01 (hOp.at 16)).resolve_right c_22).symm
             · try unfold puF
               try unfold fP
               try rw [ex]
               try rw [show z = 1 from hz.resolve_left c_36]
               try rw [show z = 0 from c_36]
               exact PV.upP hm)
      · refine r_iconst (1) dX9_pause_39 (by decide) ?_
        refine r_goto 44 dX9_pause_40 (by decide) ?_
        refine q_callV3 (cv_X9_put ml_X9_64) hW kc_723 (by decide) rfl ⟨rfl, rfl⟩ rfl (Nat.le_of_ble_eq_true rfl) dX9_pause_44 (c_X9_put hW hm hp hx kn_16 (by omega)) (fun v_44 h_44 q_44 => ?_)
        obtain ⟨rfl, e_44, hm⟩ := q_44
        have hW := e_44.W hW
        have he := he.tr e_44
        refine r_iload_n dX9_pause_47 rfl ?_
        refine r_zret dX9_pause_48 rfl (by decide) ⟨Nat.zero_le _, Nat.zero_le _⟩ ?_
        first
          | (have ko : okP r x = false := bn1 c_5
             exact ⟨fun _ => by rw [ko]; exact RQ.of, fun q => absurd q (cd1_n ko)⟩)
          | (refine ⟨fun q => absurd (cd1_t ko) q, fun _ => ⟨?_, rc_close hq0 eR eN he, ?_, hL2.sm he⟩⟩
             · try unfold puF
               try unfold fP
               try rw [ex]
               first
                 | exact some_int c_22.symm
                 | exact some_int ((f16_01 (hOp.at 16)).resolve_right c_22).symm
             · try unfold puF
               try unfold fP
               try rw [ex]
               try rw [show z = 1 from hz.resolve_left c_36]
               try rw [show z = 0 from c_36]
               exact PV.upP hm)
  · refine r_iconst (0) dX9_pause_8 (by decide) ?_
    refine r_zret dX9_pause_9 rfl (by decide) ⟨Nat.zero_le _, Nat.zero_le _⟩ ?_
    first
      | (have ko : okP r x = false := bn1 c_5
         exact ⟨fun _ => by rw [ko]; exact RQ.of, fun q => absurd q (cd1_n ko)⟩)
      | (refine ⟨fun q => absurd (cd1_t ko) q, fun _ => ⟨?_, rc_close hq0 eR eN he, ?_, hL2.sm he⟩⟩
         · try unfold puF
           try unfold fP
           try rw [ex]
           first
             | exact some_int c_22.symm
             | exact some_int ((f16_01 (hOp.at 16)).resolve_right c_22).symm
         · try unfold puF
           try unfold fP
           try rw [ex]
           try rw [show z = 1 from hz.resolve_left c_36]
           try rw [show z = 0 from c_36]
           exact PV.upP hm)

set_option maxRecDepth 100000 in
set_option maxHeartbeats 4000000 in
theorem c_X9_setTarget {l9 : Launch} {G : GC} {h : AH} {r : Row} {m : Nat} {L : List Row} {x y : Int32} (hW : World h) (hm : MW h r) (hO : RoOK r.1 r.2 m) (hm28 : m < 2 ^ 28) (hL : PsR h L) : PM l9 G mX9_setTarget NT NT [.ref 723, .int x, .int y] h (fun v h' => (cd2 (okP r x) (rgB 10 100 y) ≠ 0 → RQ h h' (cd2 (okP r x) (rgB 10 100 y))) ∧ (cd2 (okP r x) (rgB 10 100 y) = 0 → v = some (.int (fP r x 3)) ∧ RC h h' ∧ MW h' (upP r (nn x) (upd (fP r x) 3 y)) ∧ PsR h' (pushL L r))) noX := by
  refine PM.of (by decide +kernel) rfl rfl (Nat.le_of_ble_eq_true rfl) (fun hst _ => ?_)
  refine r_aload_n dX9_setTarget_0 rfl ?_
  refine r_iload_n dX9_setTarget_1 rfl ?_
  refine q_callV1 (cv_X9_noPool ml_X9_309) hW kc_723 (by decide) rfl ⟨rfl, rfl⟩ rfl (Nat.le_of_ble_eq_true rfl) dX9_setTarget_2 (c_X9_noPool hW hm hO) (fun v_2 h_2 q_2 => ?_)
  obtain ⟨rfl, z9⟩ := q_2
  subst z9
  have hW : World (sI h 723 12 (nI (cd1 (okP r x)))) := wsI hW
  replace hm := hm.s9 (k := 12) (x := nI (cd1 (okP r x)))
  refine r_if_ne 32 dX9_setTarget_5 (by decide) (fun c_5 => ?_) (fun c_5 => ?_)
  · refine r_iconst (0) dX9_setTarget_32 (by decide) ?_
    refine r_iret dX9_setTarget_33 rfl ⟨Nat.zero_le _, Nat.zero_le _⟩ ?_
    first
      | (have ko : okP r x = false := bn1 c_5
         exact ⟨fun _ => by rw [ko]; exact RQ.of, fun q => absurd q (cd2_n1 ko)⟩)
      | (have kr : rgB 10 100 y = false := by
           first
             | exact bI_0.mp c_17
         exact ⟨fun _ => by rw [sI_2, ko, kr]; exact RQ.of (c := 2), fun q => absurd q (cd2_n2 ko kr)⟩)
      | (refine ⟨fun q => absurd (cd2_t ko kr) q, fun _ => ⟨?_, rc_close hq0 eR eN he, ?_, hL2.sm he⟩⟩
         · try unfold puF
           try unfold fP
           try rw [ex]
           try rfl
         · try unfold puF
           try unfold fP
           try rw [ex]
           exact PV.upP hm)
  · have ko : okP r x = true := bn0 c_5
    refine r_aload_n dX9_setTarget_8 rfl ?_
    refine r_iload_n dX9_setTarget_9 rfl ?_
    refine r_bipush (10) dX9_setTarget_10 (by decide) ?_
    refine r_bipush (100) dX9_setTarget_12 (by decide) ?_
    refine q_callS3 (cs_X9_inRange ml_X9_167) ⟨rfl, rfl⟩ rfl (Nat.le_of_ble_eq_true rfl) dX9_setTarget_14 c_X9_inRange (fun v_14 h_14 q_14 => ?_)
    obtain ⟨rfl, z9⟩ := q_14
    replace z9 := z9.symm
    subst z9
    refine r_if_ne 24 dX9_setTarget_17 (by decide) (fun c_17 => ?_) (fun c_17 => ?_)
    · refine r_iconst (0) dX9_setTarget_24 (by decide) ?_
      refine r_iconst (2) dX9_setTarget_25 (by decide) ?_
      refine q_callV2 (cv_X9_fails ml_X9_302) hW kc_723 (by decide) rfl ⟨rfl, rfl⟩ rfl (Nat.le_of_ble_eq_true rfl) dX9_setTarget_26 (c_X9_fails0 hW) (fun v_26 h_26 q_26 => ?_)
      obtain ⟨rfl, z9⟩ := q_26
      replace z9 := z9.symm
      subst z9
      refine r_if_eq 34 dX9_setTarget_29 (by decide) (fun c_29 => ?_) (fun c_29 => ?_)
      · have kr : rgB 10 100 y = true := bI_1.mp c_17
        obtain ⟨p, hp, pn, hx⟩ := okP_t hO ko
        have ex : nn x = p := by rw [hx]; exact nn_I (by omega)
        have hOp := hO.2 p pn
        have y23 : nn (getP r.1 p 23) ≤ 20 := (hOp.at 23).2.2
        have y24 : nn (getP r.1 p 24) ≤ 24 := (hOp.at 24).2.2
        have hq0 : RQ h (sI h 723 12 (nI (cd1 (okP r x)))) 0 := by rw [ko]; exact RQ.of
        replace hL := hL.rq hq0
        refine r_aload_n dX9_setTarget_34 rfl ?_
        refine q_callV0 (cv_X9_remembers ml_X9_337) hW kc_723 (by decide) rfl ⟨rfl, rfl⟩ rfl (Nat.le_of_ble_eq_true rfl) dX9_setTarget_35 (c_X9_remembers hW hm hL) (fun v_35 h_35 q_35 => ?_)
        obtain ⟨rfl, eR, eN, hL2⟩ := q_35
        have hW := eR.W hW
        replace hm := hm.cgH eR (by unfold RM; omega) (by unfold RM; omega)
        have he : eqx h_35 h_35 SM := eqx.rf
        replace hm := hm.pv p
        refine r_aload_n dX9_setTarget_38 rfl ?_
        refine r_iload_n dX9_setTarget_39 rfl ?_
        refine r_iconst (3) dX9_setTarget_40 (by decide) ?_
        refine q_callV2 (cv_X9_of ml_X9_81) hW kc_723 (by decide) rfl ⟨rfl, rfl⟩ rfl (Nat.le_of_ble_eq_true rfl) dX9_setTarget_41 (c_X9_of hW hm hp hx kn_3 (by omega)) (fun v_41 h_41 q_41 => ?_)
        obtain ⟨rfl, z9⟩ := q_41
        replace z9 := z9.symm
        subst z9
        refine r_istore_n (ls2 := [_, _, some _, _]) dX9_setTarget_44 (by decide) rfl ?_
        refine r_aload_n dX9_setTarget_45 rfl ?_
        refine r_iload_n dX9_setTarget_46 rfl ?_
        refine r_iconst (3) dX9_setTarget_47 (by decide) ?_
        refine r_iload_n dX9_setTarget_48 rfl ?_
        refine q_callV3 (cv_X9_put ml_X9_64) hW kc_723 (by decide) rfl ⟨rfl, rfl⟩ rfl (Nat.le_of_ble_eq_true rfl) dX9_setTarget_49 (c_X9_put hW hm hp hx kn_3 (by omega)) (fun v_49 h_49 q_49 => ?_)
        obtain ⟨rfl, e_49, hm⟩ := q_49
        have hW := e_49.W hW
        have he := he.tr e_49
        refine r_iload_n dX9_setTarget_52 rfl ?_
        refine r_iret dX9_setTarget_53 rfl ⟨Nat.zero_le _, Nat.zero_le _⟩ ?_
        first
          | (have ko : okP r x = false := bn1 c_5
             exact ⟨fun _ => by rw [ko]; exact RQ.of, fun q => absurd q (cd2_n1 ko)⟩)
          | (have kr : rgB 10 100 y = false := by
               first
                 | exact bI_0.mp c_17
             exact ⟨fun _ => by rw [sI_2, ko, kr]; exact RQ.of (c := 2), fun q => absurd q (cd2_n2 ko kr)⟩)
          | (refine ⟨fun q => absurd (cd2_t ko kr) q, fun _ => ⟨?_, rc_close hq0 eR eN he, ?_, hL2.sm he⟩⟩
             · try unfold puF
               try unfold fP
               try rw [ex]
               try rfl
             · try unfold puF
               try unfold fP
               try rw [ex]
               exact PV.upP hm)
      · first | exact absurd c_29 (by decide) | exact absurd (by decide) c_29
    · refine r_iconst (1) dX9_setTarget_20 (by decide) ?_
      refine r_goto 25 dX9_setTarget_21 (by decide) ?_
      refine r_iconst (2) dX9_setTarget_25 (by decide) ?_
      refine q_callV2 (cv_X9_fails ml_X9_302) hW kc_723 (by decide) rfl ⟨rfl, rfl⟩ rfl (Nat.le_of_ble_eq_true rfl) dX9_setTarget_26 (c_X9_fails1 hW) (fun v_26 h_26 q_26 => ?_)
      obtain ⟨rfl, z9⟩ := q_26
      replace z9 := z9.symm
      subst z9
      replace hm := hm.s9 (k := 12) (x := 2)
      refine r_if_eq 34 dX9_setTarget_29 (by decide) (fun c_29 => ?_) (fun c_29 => ?_)
      · first | exact absurd c_29 (by decide) | exact absurd (by decide) c_29
      · refine r_iconst (0) dX9_setTarget_32 (by decide) ?_
        refine r_iret dX9_setTarget_33 rfl ⟨Nat.zero_le _, Nat.zero_le _⟩ ?_
        first
          | (have ko : okP r x = false := bn1 c_5
             exact ⟨fun _ => by rw [ko]; exact RQ.of, fun q => absurd q (cd2_n1 ko)⟩)
          | (have kr : rgB 10 100 y = false := by
               first
                 | exact bI_0.mp c_17
             exact ⟨fun _ => by rw [sI_2, ko, kr]; exact RQ.of (c := 2), fun q => absurd q (cd2_n2 ko kr)⟩)
          | (refine ⟨fun q => absurd (cd2_t ko kr) q, fun _ => ⟨?_, rc_close hq0 eR eN he, ?_, hL2.sm he⟩⟩
             · try unfold puF
               try unfold fP
               try rw [ex]
               try rfl
             · try unfold puF
               try unfold fP
               try rw [ex]
               exact PV.upP hm)

set_option maxRecDepth 100000 in
set_option maxHeartbeats 4000000 in
theorem c_X9_setCool {l9 : Launch} {G : GC} {h : AH} {r : Row} {m : Nat} {L : List Row} {x y z : Int32} (hW : World h) (hm : MW h r) (hO : RoOK r.1 r.2 m) (hm28 : m < 2 ^ 28) (hL : PsR h L) : PM l9 G mX9_setCool NT NT [.ref 723, .int x, .int y, .int z] h (fun v h' => (cd2 (okP r x) (rgB 0 30 y && rgB 0 30 z) ≠ 0 → RQ h h' (cd2 (okP r x) (rgB 0 30 y && rgB 0 30 z))) ∧ (cd2 (okP r x) (rgB 0 30 y && rgB 0 30 z) = 0 → v = some (.int (100 * fP r x 12 + fP r x 13)) ∧ RC h h' ∧ MW h' (upP r (nn x) (upd (upd (fP r x) 12 y) 13 z)) ∧ PsR h' (pushL L r))) noX := by
  refine PM.of (by decide +kernel) rfl rfl (Nat.le_of_ble_eq_true rfl) (fun hst _ => ?_)
  refine r_aload_n dX9_setCool_0 rfl ?_
  refine r_iload_n dX9_setCool_1 rfl ?_
  refine q_callV1 (cv_X9_noPool ml_X9_309) hW kc_723 (by decide) rfl ⟨rfl, rfl⟩ rfl (Nat.le_of_ble_eq_true rfl) dX9_setCool_2 (c_X9_noPool hW hm hO) (fun v_2 h_2 q_2 => ?_)
  obtain ⟨rfl, z9⟩ := q_2
  subst z9
  have hW : World (sI h 723 12 (nI (cd1 (okP r x)))) := wsI hW
  replace hm := hm.s9 (k := 12) (x := nI (cd1 (okP r x)))
  refine r_if_ne 41 dX9_setCool_5 (by decide) (fun c_5 => ?_) (fun c_5 => ?_)
  · refine r_iconst (0) dX9_setCool_41 (by decide) ?_
    refine r_iret dX9_setCool_42 rfl ⟨Nat.zero_le _, Nat.zero_le _⟩ ?_
    first
      | (have ko : okP r x = false := bn1 c_5
         exact ⟨fun _ => by rw [ko]; exact RQ.of, fun q => absurd q (cd2_n1 ko)⟩)
      | (have kr : (rgB 0 30 y && rgB 0 30 z) = false := by
           first
             | exact and_f1 (bI_0.mp c_16)
             | exact and_f2 (bI_0.mp c_26)
         exact ⟨fun _ => by rw [sI_2, ko, kr]; exact RQ.of (c := 2), fun q => absurd q (cd2_n2 ko kr)⟩)
      | (refine ⟨fun q => absurd (cd2_t ko kr) q, fun _ => ⟨?_, rc_close hq0 eR eN he, ?_, hL2.sm he⟩⟩
         · try unfold puF
           try unfold fP
           try rw [ex]
           try rfl
         · try unfold puF
           try unfold fP
           try rw [ex]
           exact PV.upP hm)
  · have ko : okP r x = true := bn0 c_5
    refine r_aload_n dX9_setCool_8 rfl ?_
    refine r_iload_n dX9_setCool_9 rfl ?_
    refine r_iconst (0) dX9_setCool_10 (by decide) ?_
    refine r_bipush (30) dX9_setCool_11 (by decide) ?_
    refine q_callS3 (cs_X9_inRange ml_X9_167) ⟨rfl, rfl⟩ rfl (Nat.le_of_ble_eq_true rfl) dX9_setCool_13 c_X9_inRange (fun v_13 h_13 q_13 => ?_)
    obtain ⟨rfl, z9⟩ := q_13
    replace z9 := z9.symm
    subst z9
    refine r_if_eq 29 dX9_setCool_16 (by decide) (fun c_16 => ?_) (fun c_16 => ?_)
    · refine r_iconst (1) dX9_setCool_29 (by decide) ?_
      refine r_goto 34 dX9_setCool_30 (by decide) ?_
      refine r_iconst (2) dX9_setCool_34 (by decide) ?_
      refine q_callV2 (cv_X9_fails ml_X9_302) hW kc_723 (by decide) rfl ⟨rfl, rfl⟩ rfl (Nat.le_of_ble_eq_true rfl) dX9_setCool_35 (c_X9_fails1 hW) (fun v_35 h_35 q_35 => ?_)
      obtain ⟨rfl, z9⟩ := q_35
      replace z9 := z9.symm
      subst z9
      replace hm := hm.s9 (k := 12) (x := 2)
      refine r_if_eq 43 dX9_setCool_38 (by decide) (fun c_38 => ?_) (fun c_38 => ?_)
      · first | exact absurd c_38 (by decide) | exact absurd (by decide) c_38
      · refine r_iconst (0) dX9_setCool_41 (by decide) ?_
        refine r_iret dX9_setCool_42 rfl ⟨Nat.zero_le _, Nat.zero_le _⟩ ?_
        first
          | (have ko : okP r x = false := bn1 c_5
             exact ⟨fun _ => by rw [ko]; exact RQ.of, fun q => absurd q (cd2_n1 ko)⟩)
          | (have kr : (rgB 0 30 y && rgB 0 30 z) = false := by
               first
                 | exact and_f1 (bI_0.mp c_16)
                 | exact and_f2 (bI_0.mp c_26)
             exact ⟨fun _ => by rw [sI_2, ko, kr]; exact RQ.of (c := 2), fun q => absurd q (cd2_n2 ko kr)⟩)
          | (refine ⟨fun q => absurd (cd2_t ko kr) q, fun _ => ⟨?_, rc_close hq0 eR eN he, ?_, hL2.sm he⟩⟩
             · try unfold puF
               try unfold fP
               try rw [ex]
               try rfl
             · try unfold puF
               try unfold fP
               try rw [ex]
               exact PV.upP hm)
    · refine r_iload_n dX9_setCool_19 rfl ?_
      refine r_iconst (0) dX9_setCool_20 (by decide) ?_
      refine r_bipush (30) dX9_setCool_21 (by decide) ?_
      refine q_callS3 (cs_X9_inRange ml_X9_167) ⟨rfl, rfl⟩ rfl (Nat.le_of_ble_eq_true rfl) dX9_setCool_23 c_X9_inRange (fun v_23 h_23 q_23 => ?_)
      obtain ⟨rfl, z9⟩ := q_23
      replace z9 := z9.symm
      subst z9
      refine r_if_ne 33 dX9_setCool_26 (by decide) (fun c_26 => ?_) (fun c_26 => ?_)
      · refine r_iconst (0) dX9_setCool_33 (by decide) ?_
        refine r_iconst (2) dX9_setCool_34 (by decide) ?_
        refine q_callV2 (cv_X9_fails ml_X9_302) hW kc_723 (by decide) rfl ⟨rfl, rfl⟩ rfl (Nat.le_of_ble_eq_true rfl) dX9_setCool_35 (c_X9_fails0 hW) (fun v_35 h_35 q_35 => ?_)
        obtain ⟨rfl, z9⟩ := q_35
        replace z9 := z9.symm
        subst z9
        refine r_if_eq 43 dX9_setCool_38 (by decide) (fun c_38 => ?_) (fun c_38 => ?_)
        · have kr : (rgB 0 30 y && rgB 0 30 z) = true := and_t (bI_1.mp c_16) (bI_1.mp c_26)
          obtain ⟨p, hp, pn, hx⟩ := okP_t hO ko
          have ex : nn x = p := by rw [hx]; exact nn_I (by omega)
          have hOp := hO.2 p pn
          have y23 : nn (getP r.1 p 23) ≤ 20 := (hOp.at 23).2.2
          have y24 : nn (getP r.1 p 24) ≤ 24 := (hOp.at 24).2.2
          have hq0 : RQ h (sI h 723 12 (nI (cd1 (okP r x)))) 0 := by rw [ko]; exact RQ.of
          replace hL := hL.rq hq0
          refine r_aload_n dX9_setCool_43 rfl ?_
          refine q_callV0 (cv_X9_remembers ml_X9_337) hW kc_723 (by decide) rfl ⟨rfl, rfl⟩ rfl (Nat.le_of_ble_eq_true rfl) dX9_setCool_44 (c_X9_remembers hW hm hL) (fun v_44 h_44 q_44 => ?_)
          obtain ⟨rfl, eR, eN, hL2⟩ := q_44
          have hW := eR.W hW
          replace hm := hm.cgH eR (by unfold RM; omega) (by unfold RM; omega)
          have he : eqx h_44 h_44 SM := eqx.rf
          replace hm := hm.pv p
          refine r_bipush (100) dX9_setCool_47 (by decide) ?_
          refine r_aload_n dX9_setCool_49 rfl ?_
          refine r_iload_n dX9_setCool_50 rfl ?_
          refine r_bipush (12) dX9_setCool_51 (by decide) ?_
          refine q_callV2 (cv_X9_of ml_X9_81) hW kc_723 (by decide) rfl ⟨rfl, rfl⟩ rfl (Nat.le_of_ble_eq_true rfl) dX9_setCool_53 (c_X9_of hW hm hp hx kn_12 (by omega)) (fun v_53 h_53 q_53 => ?_)
          obtain ⟨rfl, z9⟩ := q_53
          replace z9 := z9.symm
          subst z9
          refine r_imul dX9_setCool_56 ?_
          refine r_aload_n dX9_setCool_57 rfl ?_
          refine r_iload_n dX9_setCool_58 rfl ?_
          refine r_bipush (13) dX9_setCool_59 (by decide) ?_
          refine q_callV2 (cv_X9_of ml_X9_81) hW kc_723 (by decide) rfl ⟨rfl, rfl⟩ rfl (Nat.le_of_ble_eq_true rfl) dX9_setCool_61 (c_X9_of hW hm hp hx kn_13 (by omega)) (fun v_61 h_61 q_61 => ?_)
          obtain ⟨rfl, z9⟩ := q_61
          replace z9 := z9.symm
          subst z9
          refine r_iadd dX9_setCool_64 ?_
          refine r_istore (ls2 := [_, _, _, some _, _]) dX9_setCool_65 (by decide) rfl ?_
          refine r_aload_n dX9_setCool_67 rfl ?_
          refine r_iload_n dX9_setCool_68 rfl ?_
          refine r_bipush (12) dX9_setCool_69 (by decide) ?_
          refine r_iload_n dX9_setCool_71 rfl ?_
          refine q_callV3 (cv_X9_put ml_X9_64) hW kc_723 (by decide) rfl ⟨rfl, rfl⟩ rfl (Nat.le_of_ble_eq_true rfl) dX9_setCool_72 (c_X9_put hW hm hp hx kn_12 (by omega)) (fun v_72 h_72 q_72 => ?_)
          obtain ⟨rfl, e_72, hm⟩ := q_72
          have hW := e_72.W hW
          have he := he.tr e_72
          refine r_aload_n dX9_setCool_75 rfl ?_
          refine r_iload_n dX9_setCool_76 rfl ?_
          refine r_bipush (13) dX9_setCool_77 (by decide) ?_
          refine r_iload_n dX9_setCool_79 rfl ?_
          refine q_callV3 (cv_X9_put ml_X9_64) hW kc_723 (by decide) rfl ⟨rfl, rfl⟩ rfl (Nat.le_of_ble_eq_true rfl) dX9_setCool_80 (c_X9_put hW hm hp hx kn_13 (by omega)) (fun v_80 h_80 q_80 => ?_)
          obtain ⟨rfl, e_80, hm⟩ := q_80
          have hW := e_80.W hW
          have he := he.tr e_80
          refine r_iload dX9_setCool_83 rfl ?_
          refine r_iret dX9_setCool_85 rfl ⟨Nat.zero_le _, Nat.zero_le _⟩ ?_
          first
            | (have ko : okP r x = false := bn1 c_5
               exact ⟨fun _ => by rw [ko]; exact RQ.of, fun q => absurd q (cd2_n1 ko)⟩)
            | (have kr : (rgB 0 30 y && rgB 0 30 z) = false := by
                 first
                   | exact and_f1 (bI_0.mp c_16)
                   | exact and_f2 (bI_0.mp c_26)
               exact ⟨fun _ => by rw [sI_2, ko, kr]; exact RQ.of (c := 2), fun q => absurd q (cd2_n2 ko kr)⟩)
            | (refine ⟨fun q => absurd (cd2_t ko kr) q, fun _ => ⟨?_, rc_close hq0 eR eN he, ?_, hL2.sm he⟩⟩
               · try unfold puF
                 try unfold fP
                 try rw [ex]
                 try rfl
               · try unfold puF
                 try unfold fP
                 try rw [ex]
                 exact PV.upP hm)
        · first | exact absurd c_38 (by decide) | exact absurd (by decide) c_38
      · refine r_iconst (1) dX9_setCool_29 (by decide) ?_
        refine r_goto 34 dX9_setCool_30 (by decide) ?_
        refine r_iconst (2) dX9_setCool_34 (by decide) ?_
        refine q_callV2 (cv_X9_fails ml_X9_302) hW kc_723 (by decide) rfl ⟨rfl, rfl⟩ rfl (Nat.le_of_ble_eq_true rfl) dX9_setCool_35 (c_X9_fails1 hW) (fun v_35 h_35 q_35 => ?_)
        obtain ⟨rfl, z9⟩ := q_35
        replace z9 := z9.symm
        subst z9
        replace hm := hm.s9 (k := 12) (x := 2)
        refine r_if_eq 43 dX9_setCool_38 (by decide) (fun c_38 => ?_) (fun c_38 => ?_)
        · first | exact absurd c_38 (by decide) | exact absurd (by decide) c_38
        · refine r_iconst (0) dX9_setCool_41 (by decide) ?_
          refine r_iret dX9_setCool_42 rfl ⟨Nat.zero_le _, Nat.zero_le _⟩ ?_
          first
            | (have ko : okP r x = false := bn1 c_5
               exact ⟨fun _ => by rw [ko]; exact RQ.of, fun q => absurd q (cd2_n1 ko)⟩)
            | (have kr : (rgB 0 30 y && rgB 0 30 z) = false := by
                 first
                   | exact and_f1 (bI_0.mp c_16)
                   | exact and_f2 (bI_0.mp c_26)
               exact ⟨fun _ => by rw [sI_2, ko, kr]; exact RQ.of (c := 2), fun q => absurd q (cd2_n2 ko kr)⟩)
            | (refine ⟨fun q => absurd (cd2_t ko kr) q, fun _ => ⟨?_, rc_close hq0 eR eN he, ?_, hL2.sm he⟩⟩
               · try unfold puF
                 try unfold fP
                 try rw [ex]
                 try rfl
               · try unfold puF
                 try unfold fP
                 try rw [ex]
                 exact PV.upP hm)

set_option maxRecDepth 100000 in
set_option maxHeartbeats 4000000 in
theorem c_X9_setBounds {l9 : Launch} {G : GC} {h : AH} {r : Row} {m : Nat} {L : List Row} {x y z : Int32} (hW : World h) (hm : MW h r) (hO : RoOK r.1 r.2 m) (hm28 : m < 2 ^ 28) (hL : PsR h L) : PM l9 G mX9_setBounds NT NT [.ref 723, .int x, .int y, .int z] h (fun v h' => (cd2 (okP r x) (rgB 0 20 y && rgB (imx 1 y) 20 z) ≠ 0 → RQ h h' (cd2 (okP r x) (rgB 0 20 y && rgB (imx 1 y) 20 z))) ∧ (cd2 (okP r x) (rgB 0 20 y && rgB (imx 1 y) 20 z) = 0 → v = some (.int (100 * fP r x 0 + fP r x 1)) ∧ RC h h' ∧ MW h' (upP r (nn x) (upd (upd (fP r x) 0 y) 1 z)) ∧ PsR h' (pushL L r))) noX := by
  refine PM.of (by decide +kernel) rfl rfl (Nat.le_of_ble_eq_true rfl) (fun hst _ => ?_)
  refine r_aload_n dX9_setBounds_0 rfl ?_
  refine r_iload_n dX9_setBounds_1 rfl ?_
  refine q_callV1 (cv_X9_noPool ml_X9_309) hW kc_723 (by decide) rfl ⟨rfl, rfl⟩ rfl (Nat.le_of_ble_eq_true rfl) dX9_setBounds_2 (c_X9_noPool hW hm hO) (fun v_2 h_2 q_2 => ?_)
  obtain ⟨rfl, z9⟩ := q_2
  subst z9
  have hW : World (sI h 723 12 (nI (cd1 (okP r x)))) := wsI hW
  replace hm := hm.s9 (k := 12) (x := nI (cd1 (okP r x)))
  refine r_if_ne 45 dX9_setBounds_5 (by decide) (fun c_5 => ?_) (fun c_5 => ?_)
  · refine r_iconst (0) dX9_setBounds_45 (by decide) ?_
    refine r_iret dX9_setBounds_46 rfl ⟨Nat.zero_le _, Nat.zero_le _⟩ ?_
    first
      | (have ko : okP r x = false := bn1 c_5
         exact ⟨fun _ => by rw [ko]; exact RQ.of, fun q => absurd q (cd2_n1 ko)⟩)
      | (have kr : (rgB 0 20 y && rgB (imx 1 y) 20 z) = false := by
           first
             | exact and_f1 (bI_0.mp c_16)
             | exact and_f2 (bI_0.mp c_30)
         exact ⟨fun _ => by rw [sI_2, ko, kr]; exact RQ.of (c := 2), fun q => absurd q (cd2_n2 ko kr)⟩)
      | (refine ⟨fun q => absurd (cd2_t ko kr) q, fun _ => ⟨?_, rc_close hq0 eR eN he, ?_, hL2.sm he⟩⟩
         · try unfold puF
           try unfold fP
           try rw [ex]
           try rfl
         · try unfold puF
           try unfold fP
           try rw [ex]
           exact PV.upP hm)
  · have ko : okP r x = true := bn0 c_5
    refine r_aload_n dX9_setBounds_8 rfl ?_
    refine r_iload_n dX9_setBounds_9 rfl ?_
    refine r_iconst (0) dX9_setBounds_10 (by decide) ?_
    refine r_bipush (20) dX9_setBounds_11 (by decide) ?_
    refine q_callS3 (cs_X9_inRange ml_X9_167) ⟨rfl, rfl⟩ rfl (Nat.le_of_ble_eq_true rfl) dX9_setBounds_13 c_X9_inRange (fun v_13 h_13 q_13 => ?_)
    obtain ⟨rfl, z9⟩ := q_13
    replace z9 := z9.symm
    subst z9
    refine r_if_eq 33 dX9_setBounds_16 (by decide) (fun c_16 => ?_) (fun c_16 => ?_)
    · refine r_iconst (1) dX9_setBounds_33 (by decide) ?_
      refine r_goto 38 dX9_setBounds_34 (by decide) ?_
      refine r_iconst (2) dX9_setBounds_38 (by decide) ?_
      refine q_callV2 (cv_X9_fails ml_X9_302) hW kc_723 (by decide) rfl ⟨rfl, rfl⟩ rfl (Nat.le_of_ble_eq_true rfl) dX9_setBounds_39 (c_X9_fails1 hW) (fun v_39 h_39 q_39 => ?_)
      obtain ⟨rfl, z9⟩ := q_39
      replace z9 := z9.symm
      subst z9
      replace hm := hm.s9 (k := 12) (x := 2)
      refine r_if_eq 47 dX9_setBounds_42 (by decide) (fun c_42 => ?_) (fun c_42 => ?_)
      · first | exact absurd c_42 (by decide) | exact absurd (by decide) c_42
      · refine r_iconst (0) dX9_setBounds_45 (by decide) ?_
        refine r_iret dX9_setBounds_46 rfl ⟨Nat.zero_le _, Nat.zero_le _⟩ ?_
        first
          | (have ko : okP r x = false := bn1 c_5
             exact ⟨fun _ => by rw [ko]; exact RQ.of, fun q => absurd q (cd2_n1 ko)⟩)
          | (have kr : (rgB 0 20 y && rgB (imx 1 y) 20 z) = false := by
               first
                 | exact and_f1 (bI_0.mp c_16)
                 | exact and_f2 (bI_0.mp c_30)
             exact ⟨fun _ => by rw [sI_2, ko, kr]; exact RQ.of (c := 2), fun q => absurd q (cd2_n2 ko kr)⟩)
          | (refine ⟨fun q => absurd (cd2_t ko kr) q, fun _ => ⟨?_, rc_close hq0 eR eN he, ?_, hL2.sm he⟩⟩
             · try unfold puF
               try unfold fP
               try rw [ex]
               try rfl
             · try unfold puF
               try unfold fP
               try rw [ex]
               exact PV.upP hm)
    · refine r_iload_n dX9_setBounds_19 rfl ?_
      refine r_iconst (1) dX9_setBounds_20 (by decide) ?_
      refine r_iload_n dX9_setBounds_21 rfl ?_
      refine q_max mm_X9_123 rfl (Nat.le_of_ble_eq_true rfl) dX9_setBounds_22 ?_
      refine r_bipush (20) dX9_setBounds_25 (by decide) ?_
      refine q_callS3 (cs_X9_inRange ml_X9_167) ⟨rfl, rfl⟩ rfl (Nat.le_of_ble_eq_true rfl) dX9_setBounds_27 c_X9_inRange (fun v_27 h_27 q_27 => ?_)
      obtain ⟨rfl, z9⟩ := q_27
      replace z9 := z9.symm
      subst z9
      refine r_if_ne 37 dX9_setBounds_30 (by decide) (fun c_30 => ?_) (fun c_30 => ?_)
      · refine r_iconst (0) dX9_setBounds_37 (by decide) ?_
        refine r_iconst (2) dX9_setBounds_38 (by decide) ?_
        refine q_callV2 (cv_X9_fails ml_X9_302) hW kc_723 (by decide) rfl ⟨rfl, rfl⟩ rfl (Nat.le_of_ble_eq_true rfl) dX9_setBounds_39 (c_X9_fails0 hW) (fun v_39 h_39 q_39 => ?_)
        obtain ⟨rfl, z9⟩ := q_39
        replace z9 := z9.symm
        subst z9
        refine r_if_eq 47 dX9_setBounds_42 (by decide) (fun c_42 => ?_) (fun c_42 => ?_)
        · have kr : (rgB 0 20 y && rgB (imx 1 y) 20 z) = true := and_t (bI_1.mp c_16) (bI_1.mp c_30)
          obtain ⟨p, hp, pn, hx⟩ := okP_t hO ko
          have ex : nn x = p := by rw [hx]; exact nn_I (by omega)
          have hOp := hO.2 p pn
          have y23 : nn (getP r.1 p 23) ≤ 20 := (hOp.at 23).2.2
          have y24 : nn (getP r.1 p 24) ≤ 24 := (hOp.at 24).2.2
          have hq0 : RQ h (sI h 723 12 (nI (cd1 (okP r x)))) 0 := by rw [ko]; exact RQ.of
          replace hL := hL.rq hq0
          refine r_aload_n dX9_setBounds_47 rfl ?_
          refine q_callV0 (cv_X9_remembers ml_X9_337) hW kc_723 (by decide) rfl ⟨rfl, rfl⟩ rfl (Nat.le_of_ble_eq_true rfl) dX9_setBounds_48 (c_X9_remembers hW hm hL) (fun v_48 h_48 q_48 => ?_)
          obtain ⟨rfl, eR, eN, hL2⟩ := q_48
          have hW := eR.W hW
          replace hm := hm.cgH eR (by unfold RM; omega) (by unfold RM; omega)
          have he : eqx h_48 h_48 SM := eqx.rf
          replace hm := hm.pv p
          refine r_bipush (100) dX9_setBounds_51 (by decide) ?_
          refine r_aload_n dX9_setBounds_53 rfl ?_
          refine r_iload_n dX9_setBounds_54 rfl ?_
          refine r_iconst (0) dX9_setBounds_55 (by decide) ?_
          refine q_callV2 (cv_X9_of ml_X9_81) hW kc_723 (by decide) rfl ⟨rfl, rfl⟩ rfl (Nat.le_of_ble_eq_true rfl) dX9_setBounds_56 (c_X9_of hW hm hp hx kn_0 (by omega)) (fun v_56 h_56 q_56 => ?_)
          obtain ⟨rfl, z9⟩ := q_56
          replace z9 := z9.symm
          subst z9
          refine r_imul dX9_setBounds_59 ?_
          refine r_aload_n dX9_setBounds_60 rfl ?_
          refine r_iload_n dX9_setBounds_61 rfl ?_
          refine r_iconst (1) dX9_setBounds_62 (by decide) ?_
          refine q_callV2 (cv_X9_of ml_X9_81) hW kc_723 (by decide) rfl ⟨rfl, rfl⟩ rfl (Nat.le_of_ble_eq_true rfl) dX9_setBounds_63 (c_X9_of hW hm hp hx kn_1 (by omega)) (fun v_63 h_63 q_63 => ?_)
          obtain ⟨rfl, z9⟩ := q_63
          replace z9 := z9.symm
          subst z9
          refine r_iadd dX9_setBounds_66 ?_
          refine r_istore (ls2 := [_, _, _, some _, _]) dX9_setBounds_67 (by decide) rfl ?_
          refine r_aload_n dX9_setBounds_69 rfl ?_
          refine r_iload_n dX9_setBounds_70 rfl ?_
          refine r_iconst (0) dX9_setBounds_71 (by decide) ?_
          refine r_iload_n dX9_setBounds_72 rfl ?_
          refine q_callV3 (cv_X9_put ml_X9_64) hW kc_723 (by decide) rfl ⟨rfl, rfl⟩ rfl (Nat.le_of_ble_eq_true rfl) dX9_setBounds_73 (c_X9_put hW hm hp hx kn_0 (by omega)) (fun v_73 h_73 q_73 => ?_)
          obtain ⟨rfl, e_73, hm⟩ := q_73
          have hW := e_73.W hW
          have he := he.tr e_73
          refine r_aload_n dX9_setBounds_76 rfl ?_
          refine r_iload_n dX9_setBounds_77 rfl ?_
          refine r_iconst (1) dX9_setBounds_78 (by decide) ?_
          refine r_iload_n dX9_setBounds_79 rfl ?_
          refine q_callV3 (cv_X9_put ml_X9_64) hW kc_723 (by decide) rfl ⟨rfl, rfl⟩ rfl (Nat.le_of_ble_eq_true rfl) dX9_setBounds_80 (c_X9_put hW hm hp hx kn_1 (by omega)) (fun v_80 h_80 q_80 => ?_)
          obtain ⟨rfl, e_80, hm⟩ := q_80
          have hW := e_80.W hW
          have he := he.tr e_80
          refine r_iload dX9_setBounds_83 rfl ?_
          refine r_iret dX9_setBounds_85 rfl ⟨Nat.zero_le _, Nat.zero_le _⟩ ?_
          first
            | (have ko : okP r x = false := bn1 c_5
               exact ⟨fun _ => by rw [ko]; exact RQ.of, fun q => absurd q (cd2_n1 ko)⟩)
            | (have kr : (rgB 0 20 y && rgB (imx 1 y) 20 z) = false := by
                 first
                   | exact and_f1 (bI_0.mp c_16)
                   | exact and_f2 (bI_0.mp c_30)
               exact ⟨fun _ => by rw [sI_2, ko, kr]; exact RQ.of (c := 2), fun q => absurd q (cd2_n2 ko kr)⟩)
            | (refine ⟨fun q => absurd (cd2_t ko kr) q, fun _ => ⟨?_, rc_close hq0 eR eN he, ?_, hL2.sm he⟩⟩
               · try unfold puF
                 try unfold fP
                 try rw [ex]
                 try rfl
               · try unfold puF
                 try unfold fP
                 try rw [ex]
                 exact PV.upP hm)
        · first | exact absurd c_42 (by decide) | exact absurd (by decide) c_42
      · refine r_iconst (1) dX9_setBounds_33 (by decide) ?_
        refine r_goto 38 dX9_setBounds_34 (by decide) ?_
        refine r_iconst (2) dX9_setBounds_38 (by decide) ?_
        refine q_callV2 (cv_X9_fails ml_X9_302) hW kc_723 (by decide) rfl ⟨rfl, rfl⟩ rfl (Nat.le_of_ble_eq_true rfl) dX9_setBounds_39 (c_X9_fails1 hW) (fun v_39 h_39 q_39 => ?_)
        obtain ⟨rfl, z9⟩ := q_39
        replace z9 := z9.symm
        subst z9
        replace hm := hm.s9 (k := 12) (x := 2)
        refine r_if_eq 47 dX9_setBounds_42 (by decide) (fun c_42 => ?_) (fun c_42 => ?_)
        · first | exact absurd c_42 (by decide) | exact absurd (by decide) c_42
        · refine r_iconst (0) dX9_setBounds_45 (by decide) ?_
          refine r_iret dX9_setBounds_46 rfl ⟨Nat.zero_le _, Nat.zero_le _⟩ ?_
          first
            | (have ko : okP r x = false := bn1 c_5
               exact ⟨fun _ => by rw [ko]; exact RQ.of, fun q => absurd q (cd2_n1 ko)⟩)
            | (have kr : (rgB 0 20 y && rgB (imx 1 y) 20 z) = false := by
                 first
                   | exact and_f1 (bI_0.mp c_16)
                   | exact and_f2 (bI_0.mp c_30)
               exact ⟨fun _ => by rw [sI_2, ko, kr]; exact RQ.of (c := 2), fun q => absurd q (cd2_n2 ko kr)⟩)
            | (refine ⟨fun q => absurd (cd2_t ko kr) q, fun _ => ⟨?_, rc_close hq0 eR eN he, ?_, hL2.sm he⟩⟩
               · try unfold puF
                 try unfold fP
                 try rw [ex]
                 try rfl
               · try unfold puF
                 try unfold fP
                 try rw [ex]
                 exact PV.upP hm)

set_option maxRecDepth 100000 in
set_option maxHeartbeats 4000000 in
theorem c_X9_setPolicy {l9 : Launch} {G : GC} {h : AH} {r : Row} {m : Nat} {L : List Row} {x y z : Int32} (hW : World h) (hm : MW h r) (hO : RoOK r.1 r.2 m) (hm28 : m < 2 ^ 28) (hL : PsR h L) : PM l9 G mX9_setPolicy NT NT [.ref 723, .int x, .int y, .int z] h (fun v h' => (cd2 (okP r x) (rgB 0 2 y && plB y z) ≠ 0 → RQ h h' (cd2 (okP r x) (rgB 0 2 y && plB y z))) ∧ (cd2 (okP r x) (rgB 0 2 y && plB y z) = 0 → v = some (.int (fP r x 7)) ∧ RC h h' ∧ MW h' (upP r (nn x) (upd (upd (fP r x) 7 y) 8 z)) ∧ PsR h' (pushL L r))) noX := by
  refine PM.of (by decide +kernel) rfl rfl (Nat.le_of_ble_eq_true rfl) (fun hst _ => ?_)
  refine r_aload_n dX9_setPolicy_0 rfl ?_
  refine r_iload_n dX9_setPolicy_1 rfl ?_
  refine q_callV1 (cv_X9_noPool ml_X9_309) hW kc_723 (by decide) rfl ⟨rfl, rfl⟩ rfl (Nat.le_of_ble_eq_true rfl) dX9_setPolicy_2 (c_X9_noPool hW hm hO) (fun v_2 h_2 q_2 => ?_)
  obtain ⟨rfl, z9⟩ := q_2
  subst z9
  have hW : World (sI h 723 12 (nI (cd1 (okP r x)))) := wsI hW
  replace hm := hm.s9 (k := 12) (x := nI (cd1 (okP r x)))
  refine r_if_ne 52 dX9_setPolicy_5 (by decide) (fun c_5 => ?_) (fun c_5 => ?_)
  · refine r_iconst (0) dX9_setPolicy_52 (by decide) ?_
    refine r_iret dX9_setPolicy_53 rfl ⟨Nat.zero_le _, Nat.zero_le _⟩ ?_
    first
      | (have ko : okP r x = false := bn1 c_5
         exact ⟨fun _ => by rw [ko]; exact RQ.of, fun q => absurd q (cd2_n1 ko)⟩)
      | (have kr : (rgB 0 2 y && plB y z) = false := by
           first
             | exact and_f1 (bI_0.mp c_15)
             | exact and_f2 (by unfold plB; rw [if_pos c_20]; exact bI_0.mp c_30)
             | exact and_f2 (by unfold plB; rw [if_neg c_20]; exact ple_n c_37)
         exact ⟨fun _ => by rw [sI_2, ko, kr]; exact RQ.of (c := 2), fun q => absurd q (cd2_n2 ko kr)⟩)
      | (refine ⟨fun q => absurd (cd2_t ko kr) q, fun _ => ⟨?_, rc_close hq0 eR eN he, ?_, hL2.sm he⟩⟩
         · try unfold puF
           try unfold fP
           try rw [ex]
           try rfl
         · try unfold puF
           try unfold fP
           try rw [ex]
           exact PV.upP hm)
  · have ko : okP r x = true := bn0 c_5
    refine r_aload_n dX9_setPolicy_8 rfl ?_
    refine r_iload_n dX9_setPolicy_9 rfl ?_
    refine r_iconst (0) dX9_setPolicy_10 (by decide) ?_
    refine r_iconst (2) dX9_setPolicy_11 (by decide) ?_
    refine q_callS3 (cs_X9_inRange ml_X9_167) ⟨rfl, rfl⟩ rfl (Nat.le_of_ble_eq_true rfl) dX9_setPolicy_12 c_X9_inRange (fun v_12 h_12 q_12 => ?_)
    obtain ⟨rfl, z9⟩ := q_12
    replace z9 := z9.symm
    subst z9
    refine r_if_eq 40 dX9_setPolicy_15 (by decide) (fun c_15 => ?_) (fun c_15 => ?_)
    · refine r_iconst (1) dX9_setPolicy_40 (by decide) ?_
      refine r_goto 45 dX9_setPolicy_41 (by decide) ?_
      refine r_iconst (2) dX9_setPolicy_45 (by decide) ?_
      refine q_callV2 (cv_X9_fails ml_X9_302) hW kc_723 (by decide) rfl ⟨rfl, rfl⟩ rfl (Nat.le_of_ble_eq_true rfl) dX9_setPolicy_46 (c_X9_fails1 hW) (fun v_46 h_46 q_46 => ?_)
      obtain ⟨rfl, z9⟩ := q_46
      replace z9 := z9.symm
      subst z9
      replace hm := hm.s9 (k := 12) (x := 2)
      refine r_if_eq 54 dX9_setPolicy_49 (by decide) (fun c_49 => ?_) (fun c_49 => ?_)
      · first | exact absurd c_49 (by decide) | exact absurd (by decide) c_49
      · refine r_iconst (0) dX9_setPolicy_52 (by decide) ?_
        refine r_iret dX9_setPolicy_53 rfl ⟨Nat.zero_le _, Nat.zero_le _⟩ ?_
        first
          | (have ko : okP r x = false := bn1 c_5
             exact ⟨fun _ => by rw [ko]; exact RQ.of, fun q => absurd q (cd2_n1 ko)⟩)
          | (have kr : (rgB 0 2 y && plB y z) = false := by
               first
                 | exact and_f1 (bI_0.mp c_15)
                 | exact and_f2 (by unfold plB; rw [if_pos c_20]; exact bI_0.mp c_30)
                 | exact and_f2 (by unfold plB; rw [if_neg c_20]; exact ple_n c_37)
             exact ⟨fun _ => by rw [sI_2, ko, kr]; exact RQ.of (c := 2), fun q => absurd q (cd2_n2 ko kr)⟩)
          | (refine ⟨fun q => absurd (cd2_t ko kr) q, fun _ => ⟨?_, rc_close hq0 eR eN he, ?_, hL2.sm he⟩⟩
             · try unfold puF
               try unfold fP
               try rw [ex]
               try rfl
             · try unfold puF
               try unfold fP
               try rw [ex]
               exact PV.upP hm)
    · refine r_iload_n dX9_setPolicy_18 rfl ?_
      refine r_iconst (2) dX9_setPolicy_19 (by decide) ?_
      refine r_icmp_ne 36 dX9_setPolicy_20 (by decide) (fun c_20 => ?_) (fun c_20 => ?_)
      · refine r_iload_n dX9_setPolicy_36 rfl ?_
        refine r_if_eq 44 dX9_setPolicy_37 (by decide) (fun c_37 => ?_) (fun c_37 => ?_)
        · refine r_iconst (0) dX9_setPolicy_44 (by decide) ?_
          refine r_iconst (2) dX9_setPolicy_45 (by decide) ?_
          refine q_callV2 (cv_X9_fails ml_X9_302) hW kc_723 (by decide) rfl ⟨rfl, rfl⟩ rfl (Nat.le_of_ble_eq_true rfl) dX9_setPolicy_46 (c_X9_fails0 hW) (fun v_46 h_46 q_46 => ?_)
          obtain ⟨rfl, z9⟩ := q_46
          replace z9 := z9.symm
          subst z9
          refine r_if_eq 54 dX9_setPolicy_49 (by decide) (fun c_49 => ?_) (fun c_49 => ?_)
          · have kr : (rgB 0 2 y && plB y z) = true := by
              refine and_t (bI_1.mp c_15) ?_
              unfold plB
              first
                | (rw [if_pos c_20]; exact bI_1.mp c_30)
                | (rw [if_neg c_20]; exact ple_0 c_37)
            obtain ⟨p, hp, pn, hx⟩ := okP_t hO ko
            have ex : nn x = p := by rw [hx]; exact nn_I (by omega)
            have hOp := hO.2 p pn
            have y23 : nn (getP r.1 p 23) ≤ 20 := (hOp.at 23).2.2
            have y24 : nn (getP r.1 p 24) ≤ 24 := (hOp.at 24).2.2
            have hq0 : RQ h (sI h 723 12 (nI (cd1 (okP r x)))) 0 := by rw [ko]; exact RQ.of
            replace hL := hL.rq hq0
            refine r_aload_n dX9_setPolicy_54 rfl ?_
            refine q_callV0 (cv_X9_remembers ml_X9_337) hW kc_723 (by decide) rfl ⟨rfl, rfl⟩ rfl (Nat.le_of_ble_eq_true rfl) dX9_setPolicy_55 (c_X9_remembers hW hm hL) (fun v_55 h_55 q_55 => ?_)
            obtain ⟨rfl, eR, eN, hL2⟩ := q_55
            have hW := eR.W hW
            replace hm := hm.cgH eR (by unfold RM; omega) (by unfold RM; omega)
            have he : eqx h_55 h_55 SM := eqx.rf
            replace hm := hm.pv p
            refine r_aload_n dX9_setPolicy_58 rfl ?_
            refine r_iload_n dX9_setPolicy_59 rfl ?_
            refine r_bipush (7) dX9_setPolicy_60 (by decide) ?_
            refine q_callV2 (cv_X9_of ml_X9_81) hW kc_723 (by decide) rfl ⟨rfl, rfl⟩ rfl (Nat.le_of_ble_eq_true rfl) dX9_setPolicy_62 (c_X9_of hW hm hp hx kn_7 (by omega)) (fun v_62 h_62 q_62 => ?_)
            obtain ⟨rfl, z9⟩ := q_62
            replace z9 := z9.symm
            subst z9
            refine r_istore (ls2 := [_, _, _, some _, _]) dX9_setPolicy_65 (by decide) rfl ?_
            refine r_aload_n dX9_setPolicy_67 rfl ?_
            refine r_iload_n dX9_setPolicy_68 rfl ?_
            refine r_bipush (7) dX9_setPolicy_69 (by decide) ?_
            refine r_iload_n dX9_setPolicy_71 rfl ?_
            refine q_callV3 (cv_X9_put ml_X9_64) hW kc_723 (by decide) rfl ⟨rfl, rfl⟩ rfl (Nat.le_of_ble_eq_true rfl) dX9_setPolicy_72 (c_X9_put hW hm hp hx kn_7 (by omega)) (fun v_72 h_72 q_72 => ?_)
            obtain ⟨rfl, e_72, hm⟩ := q_72
            have hW := e_72.W hW
            have he := he.tr e_72
            refine r_aload_n dX9_setPolicy_75 rfl ?_
            refine r_iload_n dX9_setPolicy_76 rfl ?_
            refine r_bipush (8) dX9_setPolicy_77 (by decide) ?_
            refine r_iload_n dX9_setPolicy_79 rfl ?_
            refine q_callV3 (cv_X9_put ml_X9_64) hW kc_723 (by decide) rfl ⟨rfl, rfl⟩ rfl (Nat.le_of_ble_eq_true rfl) dX9_setPolicy_80 (c_X9_put hW hm hp hx kn_8 (by omega)) (fun v_80 h_80 q_80 => ?_)
            obtain ⟨rfl, e_80, hm⟩ := q_80
            have hW := e_80.W hW
            have he := he.tr e_80
            refine r_iload dX9_setPolicy_83 rfl ?_
            refine r_iret dX9_setPolicy_85 rfl ⟨Nat.zero_le _, Nat.zero_le _⟩ ?_
            first
              | (have ko : okP r x = false := bn1 c_5
                 exact ⟨fun _ => by rw [ko]; exact RQ.of, fun q => absurd q (cd2_n1 ko)⟩)
              | (have kr : (rgB 0 2 y && plB y z) = false := by
                   first
                     | exact and_f1 (bI_0.mp c_15)
                     | exact and_f2 (by unfold plB; rw [if_pos c_20]; exact bI_0.mp c_30)
                     | exact and_f2 (by unfold plB; rw [if_neg c_20]; exact ple_n c_37)
                 exact ⟨fun _ => by rw [sI_2, ko, kr]; exact RQ.of (c := 2), fun q => absurd q (cd2_n2 ko kr)⟩)
              | (refine ⟨fun q => absurd (cd2_t ko kr) q, fun _ => ⟨?_, rc_close hq0 eR eN he, ?_, hL2.sm he⟩⟩
                 · try unfold puF
                   try unfold fP
                   try rw [ex]
                   try rfl
                 · try unfold puF
                   try unfold fP
                   try rw [ex]
                   exact PV.upP hm)
          · first | exact absurd c_49 (by decide) | exact absurd (by decide) c_49
        · refine r_iconst (1) dX9_setPolicy_40 (by decide) ?_
          refine r_goto 45 dX9_setPolicy_41 (by decide) ?_
          refine r_iconst (2) dX9_setPolicy_45 (by decide) ?_
          refine q_callV2 (cv_X9_fails ml_X9_302) hW kc_723 (by decide) rfl ⟨rfl, rfl⟩ rfl (Nat.le_of_ble_eq_true rfl) dX9_setPolicy_46 (c_X9_fails1 hW) (fun v_46 h_46 q_46 => ?_)
          obtain ⟨rfl, z9⟩ := q_46
          replace z9 := z9.symm
          subst z9
          replace hm := hm.s9 (k := 12) (x := 2)
          refine r_if_eq 54 dX9_setPolicy_49 (by decide) (fun c_49 => ?_) (fun c_49 => ?_)
          · first | exact absurd c_49 (by decide) | exact absurd (by decide) c_49
          · refine r_iconst (0) dX9_setPolicy_52 (by decide) ?_
            refine r_iret dX9_setPolicy_53 rfl ⟨Nat.zero_le _, Nat.zero_le _⟩ ?_
            first
              | (have ko : okP r x = false := bn1 c_5
                 exact ⟨fun _ => by rw [ko]; exact RQ.of, fun q => absurd q (cd2_n1 ko)⟩)
              | (have kr : (rgB 0 2 y && plB y z) = false := by
                   first
                     | exact and_f1 (bI_0.mp c_15)
                     | exact and_f2 (by unfold plB; rw [if_pos c_20]; exact bI_0.mp c_30)
                     | exact and_f2 (by unfold plB; rw [if_neg c_20]; exact ple_n c_37)
                 exact ⟨fun _ => by rw [sI_2, ko, kr]; exact RQ.of (c := 2), fun q => absurd q (cd2_n2 ko kr)⟩)
              | (refine ⟨fun q => absurd (cd2_t ko kr) q, fun _ => ⟨?_, rc_close hq0 eR eN he, ?_, hL2.sm he⟩⟩
                 · try unfold puF
                   try unfold fP
                   try rw [ex]
                   try rfl
                 · try unfold puF
                   try unfold fP
                   try rw [ex]
                   exact PV.upP hm)
      · refine r_iload_n dX9_setPolicy_23 rfl ?_
        refine r_iconst (2) dX9_setPolicy_24 (by decide) ?_
        refine r_bipush (24) dX9_setPolicy_25 (by decide) ?_
        refine q_callS3 (cs_X9_inRange ml_X9_167) ⟨rfl, rfl⟩ rfl (Nat.le_of_ble_eq_true rfl) dX9_setPolicy_27 c_X9_inRange (fun v_27 h_27 q_27 => ?_)
        obtain ⟨rfl, z9⟩ := q_27
        replace z9 := z9.symm
        subst z9
        refine r_if_ne 44 dX9_setPolicy_30 (by decide) (fun c_30 => ?_) (fun c_30 => ?_)
        · refine r_iconst (0) dX9_setPolicy_44 (by decide) ?_
          refine r_iconst (2) dX9_setPolicy_45 (by decide) ?_
          refine q_callV2 (cv_X9_fails ml_X9_302) hW kc_723 (by decide) rfl ⟨rfl, rfl⟩ rfl (Nat.le_of_ble_eq_true rfl) dX9_setPolicy_46 (c_X9_fails0 hW) (fun v_46 h_46 q_46 => ?_)
          obtain ⟨rfl, z9⟩ := q_46
          replace z9 := z9.symm
          subst z9
          refine r_if_eq 54 dX9_setPolicy_49 (by decide) (fun c_49 => ?_) (fun c_49 => ?_)
          · have kr : (rgB 0 2 y && plB y z) = true := by
              refine and_t (bI_1.mp c_15) ?_
              unfold plB
              first
                | (rw [if_pos c_20]; exact bI_1.mp c_30)
                | (rw [if_neg c_20]; exact ple_0 c_37)
            obtain ⟨p, hp, pn, hx⟩ := okP_t hO ko
            have ex : nn x = p := by rw [hx]; exact nn_I (by omega)
            have hOp := hO.2 p pn
            have y23 : nn (getP r.1 p 23) ≤ 20 := (hOp.at 23).2.2
            have y24 : nn (getP r.1 p 24) ≤ 24 := (hOp.at 24).2.2
            have hq0 : RQ h (sI h 723 12 (nI (cd1 (okP r x)))) 0 := by rw [ko]; exact RQ.of
            replace hL := hL.rq hq0
            refine r_aload_n dX9_setPolicy_54 rfl ?_
            refine q_callV0 (cv_X9_remembers ml_X9_337) hW kc_723 (by decide) rfl ⟨rfl, rfl⟩ rfl (Nat.le_of_ble_eq_true rfl) dX9_setPolicy_55 (c_X9_remembers hW hm hL) (fun v_55 h_55 q_55 => ?_)
            obtain ⟨rfl, eR, eN, hL2⟩ := q_55
            have hW := eR.W hW
            replace hm := hm.cgH eR (by unfold RM; omega) (by unfold RM; omega)
            have he : eqx h_55 h_55 SM := eqx.rf
            replace hm := hm.pv p
            refine r_aload_n dX9_setPolicy_58 rfl ?_
            refine r_iload_n dX9_setPolicy_59 rfl ?_
            refine r_bipush (7) dX9_setPolicy_60 (by decide) ?_
            refine q_callV2 (cv_X9_of ml_X9_81) hW kc_723 (by decide) rfl ⟨rfl, rfl⟩ rfl (Nat.le_of_ble_eq_true rfl) dX9_setPolicy_62 (c_X9_of hW hm hp hx kn_7 (by omega)) (fun v_62 h_62 q_62 => ?_)
            obtain ⟨rfl, z9⟩ := q_62
            replace z9 := z9.symm
            subst z9
            refine r_istore (ls2 := [_, _, _, some _, _]) dX9_setPolicy_65 (by decide) rfl ?_
            refine r_aload_n dX9_setPolicy_67 rfl ?_
            refine r_iload_n dX9_setPolicy_68 rfl ?_
            refine r_bipush (7) dX9_setPolicy_69 (by decide) ?_
            refine r_iload_n dX9_setPolicy_71 rfl ?_
            refine q_callV3 (cv_X9_put ml_X9_64) hW kc_723 (by decide) rfl ⟨rfl, rfl⟩ rfl (Nat.le_of_ble_eq_true rfl) dX9_setPolicy_72 (c_X9_put hW hm hp hx kn_7 (by omega)) (fun v_72 h_72 q_72 => ?_)
            obtain ⟨rfl, e_72, hm⟩ := q_72
            have hW := e_72.W hW
            have he := he.tr e_72
            refine r_aload_n dX9_setPolicy_75 rfl ?_
            refine r_iload_n dX9_setPolicy_76 rfl ?_
            refine r_bipush (8) dX9_setPolicy_77 (by decide) ?_
            refine r_iload_n dX9_setPolicy_79 rfl ?_
            refine q_callV3 (cv_X9_put ml_X9_64) hW kc_723 (by decide) rfl ⟨rfl, rfl⟩ rfl (Nat.le_of_ble_eq_true rfl) dX9_setPolicy_80 (c_X9_put hW hm hp hx kn_8 (by omega)) (fun v_80 h_80 q_80 => ?_)
            obtain ⟨rfl, e_80, hm⟩ := q_80
            have hW := e_80.W hW
            have he := he.tr e_80
            refine r_iload dX9_setPolicy_83 rfl ?_
            refine r_iret dX9_setPolicy_85 rfl ⟨Nat.zero_le _, Nat.zero_le _⟩ ?_
            first
              | (have ko : okP r x = false := bn1 c_5
                 exact ⟨fun _ => by rw [ko]; exact RQ.of, fun q => absurd q (cd2_n1 ko)⟩)
              | (have kr : (rgB 0 2 y && plB y z) = false := by
                   first
                     | exact and_f1 (bI_0.mp c_15)
                     | exact and_f2 (by unfold plB; rw [if_pos c_20]; exact bI_0.mp c_30)
                     | exact and_f2 (by unfold plB; rw [if_neg c_20]; exact ple_n c_37)
                 exact ⟨fun _ => by rw [sI_2, ko, kr]; exact RQ.of (c := 2), fun q => absurd q (cd2_n2 ko kr)⟩)
              | (refine ⟨fun q => absurd (cd2_t ko kr) q, fun _ => ⟨?_, rc_close hq0 eR eN he, ?_, hL2.sm he⟩⟩
                 · try unfold puF
                   try unfold fP
                   try rw [ex]
                   try rfl
                 · try unfold puF
                   try unfold fP
                   try rw [ex]
                   exact PV.upP hm)
          · first | exact absurd c_49 (by decide) | exact absurd (by decide) c_49
        · refine r_goto 40 dX9_setPolicy_33 (by decide) ?_
          refine r_iconst (1) dX9_setPolicy_40 (by decide) ?_
          refine r_goto 45 dX9_setPolicy_41 (by decide) ?_
          refine r_iconst (2) dX9_setPolicy_45 (by decide) ?_
          refine q_callV2 (cv_X9_fails ml_X9_302) hW kc_723 (by decide) rfl ⟨rfl, rfl⟩ rfl (Nat.le_of_ble_eq_true rfl) dX9_setPolicy_46 (c_X9_fails1 hW) (fun v_46 h_46 q_46 => ?_)
          obtain ⟨rfl, z9⟩ := q_46
          replace z9 := z9.symm
          subst z9
          replace hm := hm.s9 (k := 12) (x := 2)
          refine r_if_eq 54 dX9_setPolicy_49 (by decide) (fun c_49 => ?_) (fun c_49 => ?_)
          · first | exact absurd c_49 (by decide) | exact absurd (by decide) c_49
          · refine r_iconst (0) dX9_setPolicy_52 (by decide) ?_
            refine r_iret dX9_setPolicy_53 rfl ⟨Nat.zero_le _, Nat.zero_le _⟩ ?_
            first
              | (have ko : okP r x = false := bn1 c_5
                 exact ⟨fun _ => by rw [ko]; exact RQ.of, fun q => absurd q (cd2_n1 ko)⟩)
              | (have kr : (rgB 0 2 y && plB y z) = false := by
                   first
                     | exact and_f1 (bI_0.mp c_15)
                     | exact and_f2 (by unfold plB; rw [if_pos c_20]; exact bI_0.mp c_30)
                     | exact and_f2 (by unfold plB; rw [if_neg c_20]; exact ple_n c_37)
                 exact ⟨fun _ => by rw [sI_2, ko, kr]; exact RQ.of (c := 2), fun q => absurd q (cd2_n2 ko kr)⟩)
              | (refine ⟨fun q => absurd (cd2_t ko kr) q, fun _ => ⟨?_, rc_close hq0 eR eN he, ?_, hL2.sm he⟩⟩
                 · try unfold puF
                   try unfold fP
                   try rw [ex]
                   try rfl
                 · try unfold puF
                   try unfold fP
                   try rw [ex]
                   exact PV.upP hm)

set_option maxRecDepth 100000 in
set_option maxHeartbeats 4000000 in
theorem c_X9_setLoad {l9 : Launch} {G : GC} {h : AH} {r : Row} {m : Nat} {L : List Row} {x y z : Int32} (hW : World h) (hm : MW h r) (hO : RoOK r.1 r.2 m) (hm28 : m < 2 ^ 28) (hL : PsR h L) : PM l9 G mX9_setLoad NT NT [.ref 723, .int x, .int y, .int z] h (fun v h' => (cd3 (okP r x) (rgB 0 999 z) (ltB (fP r x 24) y) ≠ 0 → RQ h h' (cd3 (okP r x) (rgB 0 999 z) (ltB (fP r x 24) y))) ∧ (cd3 (okP r x) (rgB 0 999 z) (ltB (fP r x 24) y) = 0 → v = some (.int (fP r x (36 + nn y))) ∧ RC h h' ∧ MW h' (upP r (nn x) (upd (fP r x) (36 + nn y) z)) ∧ PsR h' (pushL L r))) noX := by
  refine PM.of (by decide +kernel) rfl rfl (Nat.le_of_ble_eq_true rfl) (fun hst _ => ?_)
  refine r_aload_n dX9_setLoad_0 rfl ?_
  refine r_iload_n dX9_setLoad_1 rfl ?_
  refine q_callV1 (cv_X9_noPool ml_X9_309) hW kc_723 (by decide) rfl ⟨rfl, rfl⟩ rfl (Nat.le_of_ble_eq_true rfl) dX9_setLoad_2 (c_X9_noPool hW hm hO) (fun v_2 h_2 q_2 => ?_)
  obtain ⟨rfl, z9⟩ := q_2
  subst z9
  have hW : World (sI h 723 12 (nI (cd1 (okP r x)))) := wsI hW
  replace hm := hm.s9 (k := 12) (x := nI (cd1 (okP r x)))
  refine r_if_ne 62 dX9_setLoad_5 (by decide) (fun c_5 => ?_) (fun c_5 => ?_)
  · refine r_iconst (0) dX9_setLoad_62 (by decide) ?_
    refine r_iret dX9_setLoad_63 rfl ⟨Nat.zero_le _, Nat.zero_le _⟩ ?_
    first
      | (have ko : okP r x = false := bn1 c_5
         exact ⟨fun _ => by rw [ko]; exact RQ.of, fun q => absurd q (cd3_n1 ko)⟩)
      | (have kr9 : rgB 0 999 z = false := bI_0.mp c_17
         exact ⟨fun _ => by rw [sI_2, ko, kr9]; exact RQ.of (c := 2), fun q => absurd q (cd3_n2 ko kr9)⟩)
      | (have kb : ltB (getP r.1 p 24) y = false := bI_0.mp c_47
         have kb9 : ltB (fP r x 24) y = false := by
           unfold fP
           rw [ex]
           exact kb
         exact ⟨fun _ => by rw [sI_2, ko, kr, kb9]; exact RQ.of (c := 3), fun q => absurd q (cd3_n3 ko kr kb9)⟩)
      | (refine ⟨fun q => absurd (cd3_t ko kr (by unfold fP; rw [ex]; exact kb)) q, fun _ => ⟨?_, rc_close hq0 eR eN he, ?_, hL2.sm he⟩⟩
         · try unfold puF
           try unfold fP
           try rw [ex, ey]
           try rfl
         · try unfold puF
           try unfold fP
           try rw [ex, ey]
           exact PV.upP hm)
  · have ko : okP r x = true := bn0 c_5
    refine r_aload_n dX9_setLoad_8 rfl ?_
    refine r_iload_n dX9_setLoad_9 rfl ?_
    refine r_iconst (0) dX9_setLoad_10 (by decide) ?_
    refine r_sipush (999) dX9_setLoad_11 (by decide) ?_
    refine q_callS3 (cs_X9_inRange ml_X9_167) ⟨rfl, rfl⟩ rfl (Nat.le_of_ble_eq_true rfl) dX9_setLoad_14 c_X9_inRange (fun v_14 h_14 q_14 => ?_)
    obtain ⟨rfl, z9⟩ := q_14
    replace z9 := z9.symm
    subst z9
    refine r_if_ne 24 dX9_setLoad_17 (by decide) (fun c_17 => ?_) (fun c_17 => ?_)
    · refine r_iconst (0) dX9_setLoad_24 (by decide) ?_
      refine r_iconst (2) dX9_setLoad_25 (by decide) ?_
      refine q_callV2 (cv_X9_fails ml_X9_302) hW kc_723 (by decide) rfl ⟨rfl, rfl⟩ rfl (Nat.le_of_ble_eq_true rfl) dX9_setLoad_26 (c_X9_fails0 hW) (fun v_26 h_26 q_26 => ?_)
      obtain ⟨rfl, z9⟩ := q_26
      replace z9 := z9.symm
      subst z9
      refine r_if_ne 62 dX9_setLoad_29 (by decide) (fun c_29 => ?_) (fun c_29 => ?_)
      · first | exact absurd c_29 (by decide) | exact absurd (by decide) c_29
      · have kr : rgB 0 999 z = true := bI_1.mp c_17
        obtain ⟨p, hp, pn, hx⟩ := okP_t hO ko
        have ex : nn x = p := by rw [hx]; exact nn_I (by omega)
        have hOp := hO.2 p pn
        have y23 : nn (getP r.1 p 23) ≤ 20 := (hOp.at 23).2.2
        have y24 : nn (getP r.1 p 24) ≤ 24 := (hOp.at 24).2.2
        refine r_aload_n dX9_setLoad_32 rfl ?_
        refine r_iload_n dX9_setLoad_33 rfl ?_
        refine r_iconst (0) dX9_setLoad_34 (by decide) ?_
        refine r_aload_n dX9_setLoad_35 rfl ?_
        refine r_iload_n dX9_setLoad_36 rfl ?_
        refine r_bipush (24) dX9_setLoad_37 (by decide) ?_
        refine q_callV2 (cv_X9_of ml_X9_81) hW kc_723 (by decide) rfl ⟨rfl, rfl⟩ rfl (Nat.le_of_ble_eq_true rfl) dX9_setLoad_39 (c_X9_ofM hW hm hp hx kn_24 (by omega)) (fun v_39 h_39 q_39 => ?_)
        obtain ⟨rfl, z9⟩ := q_39
        replace z9 := z9.symm
        subst z9
        refine r_iconst (1) dX9_setLoad_42 (by decide) ?_
        refine r_isub dX9_setLoad_43 ?_
        refine q_callS3 (cs_X9_inRange ml_X9_167) ⟨rfl, rfl⟩ rfl (Nat.le_of_ble_eq_true rfl) dX9_setLoad_44 c_X9_inRange (fun v_44 h_44 q_44 => ?_)
        obtain ⟨rfl, z9⟩ := q_44
        replace z9 := z9.symm
        subst z9
        rw [inR1 (hOp.at 24).1 (by omega)]
        refine r_if_ne 54 dX9_setLoad_47 (by decide) (fun c_47 => ?_) (fun c_47 => ?_)
        · refine r_iconst (0) dX9_setLoad_54 (by decide) ?_
          refine r_iconst (3) dX9_setLoad_55 (by decide) ?_
          refine q_callV2 (cv_X9_fails ml_X9_302) hW kc_723 (by decide) rfl ⟨rfl, rfl⟩ rfl (Nat.le_of_ble_eq_true rfl) dX9_setLoad_56 (c_X9_fails0 hW) (fun v_56 h_56 q_56 => ?_)
          obtain ⟨rfl, z9⟩ := q_56
          replace z9 := z9.symm
          subst z9
          refine r_if_eq 64 dX9_setLoad_59 (by decide) (fun c_59 => ?_) (fun c_59 => ?_)
          · have kb : ltB (getP r.1 p 24) y = true := bI_1.mp c_47
            obtain ⟨k, k1, ek⟩ := ltB_t (hOp.at 24).1 (by omega) kb
            have ey : nn y = k := by rw [ek]; exact nn_I (by omega)
            have hq0 : RQ h (sI h 723 12 (nI (cd1 (okP r x)))) 0 := by rw [ko]; exact RQ.of
            replace hL := hL.rq hq0
            refine r_aload_n dX9_setLoad_64 rfl ?_
            refine q_callV0 (cv_X9_remembers ml_X9_337) hW kc_723 (by decide) rfl ⟨rfl, rfl⟩ rfl (Nat.le_of_ble_eq_true rfl) dX9_setLoad_65 (c_X9_remembers hW hm hL) (fun v_65 h_65 q_65 => ?_)
            obtain ⟨rfl, eR, eN, hL2⟩ := q_65
            have hW := eR.W hW
            replace hm := hm.cgH eR (by unfold RM; omega) (by unfold RM; omega)
            have he : eqx h_65 h_65 SM := eqx.rf
            replace hm := hm.pv p
            refine r_aload_n dX9_setLoad_68 rfl ?_
            refine r_iload_n dX9_setLoad_69 rfl ?_
            refine r_bipush (36) dX9_setLoad_70 (by decide) ?_
            refine r_iload_n dX9_setLoad_72 rfl ?_
            refine r_iadd dX9_setLoad_73 ?_
            refine q_callV2 (cv_X9_of ml_X9_81) hW kc_723 (by decide) rfl ⟨rfl, rfl⟩ rfl (Nat.le_of_ble_eq_true rfl) dX9_setLoad_74 (c_X9_of hW hm hp hx (nadd kn_36 ek) (by omega)) (fun v_74 h_74 q_74 => ?_)
            obtain ⟨rfl, z9⟩ := q_74
            replace z9 := z9.symm
            subst z9
            refine r_istore (ls2 := [_, _, _, some _, _]) dX9_setLoad_77 (by decide) rfl ?_
            refine r_aload_n dX9_setLoad_79 rfl ?_
            refine r_iload_n dX9_setLoad_80 rfl ?_
            refine r_bipush (36) dX9_setLoad_81 (by decide) ?_
            refine r_iload_n dX9_setLoad_83 rfl ?_
            refine r_iadd dX9_setLoad_84 ?_
            refine r_iload_n dX9_setLoad_85 rfl ?_
            refine q_callV3 (cv_X9_put ml_X9_64) hW kc_723 (by decide) rfl ⟨rfl, rfl⟩ rfl (Nat.le_of_ble_eq_true rfl) dX9_setLoad_86 (c_X9_put hW hm hp hx (nadd kn_36 ek) (by omega)) (fun v_86 h_86 q_86 => ?_)
            obtain ⟨rfl, e_86, hm⟩ := q_86
            have hW := e_86.W hW
            have he := he.tr e_86
            refine r_iload dX9_setLoad_89 rfl ?_
            refine r_iret dX9_setLoad_91 rfl ⟨Nat.zero_le _, Nat.zero_le _⟩ ?_
            first
              | (have ko : okP r x = false := bn1 c_5
                 exact ⟨fun _ => by rw [ko]; exact RQ.of, fun q => absurd q (cd3_n1 ko)⟩)
              | (have kr9 : rgB 0 999 z = false := bI_0.mp c_17
                 exact ⟨fun _ => by rw [sI_2, ko, kr9]; exact RQ.of (c := 2), fun q => absurd q (cd3_n2 ko kr9)⟩)
              | (have kb : ltB (getP r.1 p 24) y = false := bI_0.mp c_47
                 have kb9 : ltB (fP r x 24) y = false := by
                   unfold fP
                   rw [ex]
                   exact kb
                 exact ⟨fun _ => by rw [sI_2, ko, kr, kb9]; exact RQ.of (c := 3), fun q => absurd q (cd3_n3 ko kr kb9)⟩)
              | (refine ⟨fun q => absurd (cd3_t ko kr (by unfold fP; rw [ex]; exact kb)) q, fun _ => ⟨?_, rc_close hq0 eR eN he, ?_, hL2.sm he⟩⟩
                 · try unfold puF
                   try unfold fP
                   try rw [ex, ey]
                   try rfl
                 · try unfold puF
                   try unfold fP
                   try rw [ex, ey]
                   exact PV.upP hm)
          · first | exact absurd c_59 (by decide) | exact absurd (by decide) c_59
        · refine r_iconst (1) dX9_setLoad_50 (by decide) ?_
          refine r_goto 55 dX9_setLoad_51 (by decide) ?_
          refine r_iconst (3) dX9_setLoad_55 (by decide) ?_
          refine q_callV2 (cv_X9_fails ml_X9_302) hW kc_723 (by decide) rfl ⟨rfl, rfl⟩ rfl (Nat.le_of_ble_eq_true rfl) dX9_setLoad_56 (c_X9_fails1 hW) (fun v_56 h_56 q_56 => ?_)
          obtain ⟨rfl, z9⟩ := q_56
          replace z9 := z9.symm
          subst z9
          replace hm := hm.s9 (k := 12) (x := 3)
          refine r_if_eq 64 dX9_setLoad_59 (by decide) (fun c_59 => ?_) (fun c_59 => ?_)
          · first | exact absurd c_59 (by decide) | exact absurd (by decide) c_59
          · refine r_iconst (0) dX9_setLoad_62 (by decide) ?_
            refine r_iret dX9_setLoad_63 rfl ⟨Nat.zero_le _, Nat.zero_le _⟩ ?_
            first
              | (have ko : okP r x = false := bn1 c_5
                 exact ⟨fun _ => by rw [ko]; exact RQ.of, fun q => absurd q (cd3_n1 ko)⟩)
              | (have kr9 : rgB 0 999 z = false := bI_0.mp c_17
                 exact ⟨fun _ => by rw [sI_2, ko, kr9]; exact RQ.of (c := 2), fun q => absurd q (cd3_n2 ko kr9)⟩)
              | (have kb : ltB (getP r.1 p 24) y = false := bI_0.mp c_47
                 have kb9 : ltB (fP r x 24) y = false := by
                   unfold fP
                   rw [ex]
                   exact kb
                 exact ⟨fun _ => by rw [sI_2, ko, kr, kb9]; exact RQ.of (c := 3), fun q => absurd q (cd3_n3 ko kr kb9)⟩)
              | (refine ⟨fun q => absurd (cd3_t ko kr (by unfold fP; rw [ex]; exact kb)) q, fun _ => ⟨?_, rc_close hq0 eR eN he, ?_, hL2.sm he⟩⟩
                 · try unfold puF
                   try unfold fP
                   try rw [ex, ey]
                   try rfl
                 · try unfold puF
                   try unfold fP
                   try rw [ex, ey]
                   exact PV.upP hm)
    · refine r_iconst (1) dX9_setLoad_20 (by decide) ?_
      refine r_goto 25 dX9_setLoad_21 (by decide) ?_
      refine r_iconst (2) dX9_setLoad_25 (by decide) ?_
      refine q_callV2 (cv_X9_fails ml_X9_302) hW kc_723 (by decide) rfl ⟨rfl, rfl⟩ rfl (Nat.le_of_ble_eq_true rfl) dX9_setLoad_26 (c_X9_fails1 hW) (fun v_26 h_26 q_26 => ?_)
      obtain ⟨rfl, z9⟩ := q_26
      replace z9 := z9.symm
      subst z9
      replace hm := hm.s9 (k := 12) (x := 2)
      refine r_if_ne 62 dX9_setLoad_29 (by decide) (fun c_29 => ?_) (fun c_29 => ?_)
      · refine r_iconst (0) dX9_setLoad_62 (by decide) ?_
        refine r_iret dX9_setLoad_63 rfl ⟨Nat.zero_le _, Nat.zero_le _⟩ ?_
        first
          | (have ko : okP r x = false := bn1 c_5
             exact ⟨fun _ => by rw [ko]; exact RQ.of, fun q => absurd q (cd3_n1 ko)⟩)
          | (have kr9 : rgB 0 999 z = false := bI_0.mp c_17
             exact ⟨fun _ => by rw [sI_2, ko, kr9]; exact RQ.of (c := 2), fun q => absurd q (cd3_n2 ko kr9)⟩)
          | (have kb : ltB (getP r.1 p 24) y = false := bI_0.mp c_47
             have kb9 : ltB (fP r x 24) y = false := by
               unfold fP
               rw [ex]
               exact kb
             exact ⟨fun _ => by rw [sI_2, ko, kr, kb9]; exact RQ.of (c := 3), fun q => absurd q (cd3_n3 ko kr kb9)⟩)
          | (refine ⟨fun q => absurd (cd3_t ko kr (by unfold fP; rw [ex]; exact kb)) q, fun _ => ⟨?_, rc_close hq0 eR eN he, ?_, hL2.sm he⟩⟩
             · try unfold puF
               try unfold fP
               try rw [ex, ey]
               try rfl
             · try unfold puF
               try unfold fP
               try rw [ex, ey]
               exact PV.upP hm)
      · first | exact absurd c_29 (by decide) | exact absurd (by decide) c_29
