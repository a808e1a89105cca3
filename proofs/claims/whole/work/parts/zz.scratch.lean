-- the reference's reader: a statement, the text, loadPools
set_option maxRecDepth 100000 in
set_option maxHeartbeats 1600000 in
theorem c_X9_readStatement {l9 : Launch} {G : GC} {h : AH} {b : Nat → Int32} {n : Nat} {w : Nat → Int32} {ts : Nat → Bool} {p : Nat} (hW : World h) (hr : RpS h b n p) (hm : MW h (w, ZG)) (hP : PI w) (hT : 0 < nn (w 0) → TbD (aI h 723 23) ts) (hG : GOK G) : PM l9 G mX9_readStatement NT NT [.ref 723] h (fun v h' => RsS h h' v b n w ts p) noX := by
  refine PM.of (by decide +kernel) rfl rfl (Nat.le_of_ble_eq_true rfl) (fun hst _ => ?_)
  obtain ⟨m, m1, m2, m3⟩ := hP.n4.nat
  have em : nn (w 0) = m := by rw [m3]; exact nn_I (by omega)
  have hT9 : 0 < m → TbD (aI h 723 23) ts := fun q => hT (by omega)
  obtain ⟨u, eu⟩ : ∃ u, u = nn (w 0) - 1 := ⟨_, rfl⟩
  have hu : u < 4 := by omega
  have hmu : 0 < m → m = u + 1 := fun q => by omega
  have hpv : PV h w ZG u (getP w u) (getG ZG u) := MW.pv hm u
  refine r_aload_n dX9_readStatement_0 rfl ?_
  refine r_ldcSW sw_X9_277 dX9_readStatement_1 ?_
  refine q_callV1 (cv_X9_isWord ml_X9_225) hW kc_723 (by decide) rfl ⟨rfl, rfl⟩ rfl (Nat.le_of_ble_eq_true rfl) dX9_readStatement_4 (c_X9_isWord hW hr hG (by decide)) (fun v_4 h_4 q_4 => ?_)
  obtain ⟨rfl, z9⟩ := q_4
  replace z9 := z9.symm
  subst z9
  refine r_if_eq 15 dX9_readStatement_7 (by decide) (fun c_7 => ?_) (fun c_7 => ?_)
  · refine r_aload_n dX9_readStatement_15 rfl ?_
    refine r_ldcSW sw_X9_282 dX9_readStatement_16 ?_
    refine q_callV1 (cv_X9_isWord ml_X9_225) hW kc_723 (by decide) rfl ⟨rfl, rfl⟩ rfl (Nat.le_of_ble_eq_true rfl) dX9_readStatement_19 (c_X9_isWord hW hr hG (by decide)) (fun v_19 h_19 q_19 => ?_)
    obtain ⟨rfl, z9⟩ := q_19
    replace z9 := z9.symm
    subst z9
    refine r_if_eq 35 dX9_readStatement_22 (by decide) (fun c_22 => ?_) (fun c_22 => ?_)
    · refine r_aload_n dX9_readStatement_35 rfl ?_
      refine r_ldcSW sw_X9_284 dX9_readStatement_36 ?_
      refine q_callV1 (cv_X9_isWord ml_X9_225) hW kc_723 (by decide) rfl ⟨rfl, rfl⟩ rfl (Nat.le_of_ble_eq_true rfl) dX9_readStatement_39 (c_X9_isWord hW hr hG (by decide)) (fun v_39 h_39 q_39 => ?_)
      obtain ⟨rfl, z9⟩ := q_39
      replace z9 := z9.symm
      subst z9
      refine r_if_eq 58 dX9_readStatement_42 (by decide) (fun c_42 => ?_) (fun c_42 => ?_)
      · refine r_aload_n dX9_readStatement_58 rfl ?_
        refine q_callV0 (cv_X9_readSetting ml_X9_286) hW kc_723 (by decide) rfl ⟨rfl, rfl⟩ rfl (Nat.le_of_ble_eq_true rfl) dX9_readStatement_59 (c_X9_readSetting hW hr hm hP hT hG (bI_0.mp c_7) (bI_0.mp c_22) (bI_0.mp c_42)) (fun v_59 h_59 q_59 => ?_)
        obtain ⟨E, w', k1, k2, k3, k4, k5, k6, k7⟩ := q_59
        subst k1
        refine r_zret dX9_readStatement_62 rfl (by first | decide | exact bI_01 _) ⟨Nat.zero_le _, Nat.zero_le _⟩ ?_
        first
          | exact ⟨E, w', rfl, k2, k3, k4, k5, k6, k7⟩
          | (have hj : stW b n p = 2 := by unfold stW; rw [if_neg (by rw [bI_0.mp c_7]; decide), if_neg (by rw [bI_0.mp c_22]; decide), if_pos (bI_1.mp c_42)]
             refine RsS.of hR (stm_j hj (by decide) (by decide) (by decide) em ?_) (fun _ => ?_) (stm_t hj (by decide))
             · rw [← eu]; rfl
             · rw [eu]
               refine stm_w hj (by decide) ?_
               rw [← eu]; rfl)
      · refine r_aload_n dX9_readStatement_45 rfl ?_
        refine r_iconst (2) dX9_readStatement_46 (by decide) ?_
        refine r_bipush (12) dX9_readStatement_47 (by decide) ?_
        refine r_iconst (0) dX9_readStatement_49 (by decide) ?_
        refine r_bipush (30) dX9_readStatement_50 (by decide) ?_
        refine q_callV4 (cv_X9_readTwo ml_X9_264) hW kc_723 (by decide) rfl ⟨rfl, rfl⟩ rfl (Nat.le_of_ble_eq_true rfl) dX9_readStatement_52 (c_X9_readTwo (j := 2) (k := 12) hW hr hpv hu m3 m2 hT9 ⟨by decide, by decide⟩ (by decide) hmu kn_12 (by decide)) (fun v_52 h_52 q_52 => ?_)
        have hv := q_52.1
        subst hv
        have hR := q_52
        refine r_goto 62 dX9_readStatement_55 (by decide) ?_
        refine r_zret dX9_readStatement_62 rfl (by first | decide | exact bI_01 _) ⟨Nat.zero_le _, Nat.zero_le _⟩ ?_
        first
          | exact ⟨E, w', rfl, k2, k3, k4, k5, k6, k7⟩
          | (have hj : stW b n p = 2 := by unfold stW; rw [if_neg (by rw [bI_0.mp c_7]; decide), if_neg (by rw [bI_0.mp c_22]; decide), if_pos (bI_1.mp c_42)]
             refine RsS.of hR (stm_j hj (by decide) (by decide) (by decide) em ?_) (fun _ => ?_) (stm_t hj (by decide))
             · rw [← eu]; rfl
             · rw [eu]
               refine stm_w hj (by decide) ?_
               rw [← eu]; rfl)
    · refine r_aload_n dX9_readStatement_25 rfl ?_
      refine r_iconst (1) dX9_readStatement_26 (by decide) ?_
      refine r_bipush (10) dX9_readStatement_27 (by decide) ?_
      refine r_iconst (1) dX9_readStatement_29 (by decide) ?_
      refine r_iconst (5) dX9_readStatement_30 (by decide) ?_
      refine q_callV4 (cv_X9_readTwo ml_X9_264) hW kc_723 (by decide) rfl ⟨rfl, rfl⟩ rfl (Nat.le_of_ble_eq_true rfl) dX9_readStatement_31 (c_X9_readTwo (j := 1) (k := 10) hW hr hpv hu m3 m2 hT9 ⟨by decide, by decide⟩ (by decide) hmu kn_10 (by decide)) (fun v_31 h_31 q_31 => ?_)
      have hv := q_31.1
      subst hv
      have hR := q_31
      refine r_zret dX9_readStatement_34 rfl (by first | decide | exact bI_01 _) ⟨Nat.zero_le _, Nat.zero_le _⟩ ?_
      have hj : stW b n p = 1 := by unfold stW; rw [if_neg (by rw [bI_0.mp c_7]; decide), if_pos (bI_1.mp c_22)]
      refine RsS.of hR (stm_j hj (by decide) (by decide) (by decide) em ?_) (fun _ => ?_) (stm_t hj (by decide))
      · rw [← eu]; rfl
      · rw [eu]
        refine stm_w hj (by decide) ?_
        rw [← eu]; rfl
  · refine r_aload_n dX9_readStatement_10 rfl ?_
    refine q_callV0 (cv_X9_readPool ml_X9_279) hW kc_723 (by decide) rfl ⟨rfl, rfl⟩ rfl (Nat.le_of_ble_eq_true rfl) dX9_readStatement_11 (c_X9_readPool hW hr hm hP) (fun v_11 h_11 q_11 => ?_)
    obtain ⟨rfl, k2, k3, k4, k5⟩ := q_11
    refine r_zret dX9_readStatement_14 rfl (by first | decide | exact bI_01 _) ⟨Nat.zero_le _, Nat.zero_le _⟩ ?_
    have hj : stW b n p = 0 := by unfold stW; rw [if_pos (bI_1.mp c_7)]
    have hS : stmE b n ts w p = (if nn (w 0) < 4 then pooE b n (tE b n p) else (4, tS b n p)) := by
      unfold stmE
      rw [hj, if_pos rfl]
    have hWw : stmW b n w p = apW w (poA b n (tE b n p)) (poB b n (tE b n p)) (poC b n (tE b n p)) := by
      unfold stmW
      rw [hj, if_pos rfl]
    have hTt : stmT b n ts p = fun _ => false := by unfold stmT; rw [hj, if_pos rfl]
    refine ⟨_, apW w (poA b n (tE b n p)) (poB b n (tE b n p)) (poC b n (tE b n p)), rfl, k2, k3, fun q => ?_, k5, ?_, fun _ => hWw.symm⟩
    · obtain ⟨z1, z2, z3⟩ := k4 q
      exact ⟨z1, z2, fun j _ _ => by rw [hTt, z3]; exact bg_0⟩
    · rw [hS]
      by_cases h4 : nn (w 0) < 4
      · rw [if_pos h4, if_pos h4]; rfl
      · rw [if_neg h4, if_neg h4]
        exact if_neg (by show ¬ (4 : Nat) = 0; decide)

set_option maxRecDepth 100000 in
set_option maxHeartbeats 1600000 in
theorem c_X9_readText {l9 : Launch} {G : GC} {h : AH} {b : Nat → Int32} {n : Nat} (hW : World h) (hr : RpS h b n 0) (hm : MW h (noW, ZG)) (hG : GOK G) : PM l9 G mX9_readText NT NT [.ref 723] h (fun v h' => v = some (.int (bI (decide ((rdS b n).1.1 = 0)))) ∧ eqx h h' SRp ∧ OthF h h' ∧ ((rdS b n).1.1 = 0 → aI h' 723 17 = 0 ∧ aI h' 723 18 = -1 ∧ MW h' ((rdS b n).2, ZG) ∧ PI (rdS b n).2 ∧ 0 < nn ((rdS b n).2 0)) ∧ ((rdS b n).1.1 ≠ 0 → FlS h' (rdS b n).1)) noX := by
  refine PM.of (by decide +kernel) rfl rfl (Nat.le_of_ble_eq_true rfl) (fun hst _ => ?_)
  refine loopN (P := fun i => ∀ (H : AH) (ts : Nat → Bool) (w : Nat → Int32) (p : Nat), i ≤ p → rdS b n = rdA b n (n + 1 - i) ts w p → World H → RpS H b n p → MW H (w, ZG) → PI w → TI ts w → (0 < nn (w 0) → TbD (aI H 723 23) ts) → eqx h H SRp → OthF h H → PW l9 G mX9_readText (mO mX9_readText) (fiM G mX9_readText NT (fun v h' => v = some (.int (bI (decide ((rdS b n).1.1 = 0)))) ∧ eqx h h' SRp ∧ OthF h h' ∧ ((rdS b n).1.1 = 0 → aI h' 723 17 = 0 ∧ aI h' 723 18 = -1 ∧ MW h' ((rdS b n).2, ZG) ∧ PI (rdS b n).2 ∧ 0 < nn ((rdS b n).2 0)) ∧ ((rdS b n).1.1 ≠ 0 → FlS h' (rdS b n).1)) noX) NT 0 [some (.ref 723)] [] (0, 0) H) (n + 1) (fun i ih H ts w p hip hL hW hr hm hP hTI hTb he ho => ?_) 0 h noT noW 0 (Nat.le_refl _) rfl hW hr hm pi_0 (fun q => absurd q (by show ¬ 0 < 0; decide)) (fun q => absurd q (by show ¬ 0 < 0; decide)) eqx.rf OthF.rf
  have hn7 := hr.1.2.1
  have hk6 := tK_lt (b := b) (n := n) (p := p)
  have hk4 := tK_4 (b := b) (n := n) (p := p)
  have hpn := hr.2.2.2.2
  have hf1 : n + 1 - i = (n - i) + 1 := by omega
  rw [hf1] at hL
  refine r_aload_n dX9_readText_0 rfl ?_
  refine q_getI fl_X9_182 hW kc_723 rfl dX9_readText_1 ?_
  rw [hr.2.1.2.1]
  refine r_if_eq 37 dX9_readText_4 (by decide) (fun c_4 => ?_) (fun c_4 => ?_)
  · have hm := hm
    refine r_aload_n dX9_readText_37 rfl ?_
    refine q_getR fl_X9_7 hW kc_723 rfl (kl_9_0 hW) (by decide) dX9_readText_38 ?_
    refine r_iconst (0) dX9_readText_41 (by decide) ?_
    skip
    refine q_wldMW hW hm kn_0 (by omega) dX9_readText_42 ?_
    refine r_if_gt 54 dX9_readText_43 (by decide) (fun c_43 => ?_) (fun c_43 => ?_)
    · refine r_iconst (1) dX9_readText_54 (by decide) ?_
      refine r_goto 59 dX9_readText_55 (by decide) ?_
      refine r_zret dX9_readText_59 rfl (by decide) ⟨Nat.zero_le _, Nat.zero_le _⟩ ?_
      have hk0 : tK b n p = 0 := (tkR_e hk6 hk4 (j := 0) (by decide)).mp c_4
      have hL2 : rdS b n = ((if nn (w 0) = 0 then (5, tS b n p) else (0, tE b n p)), w) := hL.trans (if_pos hk0)
      have hw0 := hP.n4
      first
        | (have q0 : ¬ nn (w 0) = 0 := fun q => by
             have z : w 0 = nI 0 := hw0.1.trans (congrArg nI q)
             have c9 : (0 : Int32) < w 0 := c_43
             rw [z] at c9
             exact absurd c9 (by decide)
           rw [if_neg q0] at hL2
           rw [hL2]
           exact ⟨rfl, he, ho, fun _ => ⟨hr.2.2.1, hr.2.2.2.1, hm, hP, by show 0 < nn (w 0); omega⟩, fun q => absurd rfl q⟩)
        | exact absurd rfl c_51
        | (have q0 : nn (w 0) = 0 := by
             refine Classical.byContradiction fun q => c_43 ?_
             show (0 : Int32) < w 0
             rw [hw0.1]
             exact (nI_ltI (a := 0) (by decide) (by have := hw0.2.2; omega)).mpr (by omega)
           rw [if_pos q0] at hL2
           rw [hL2]
           exact ⟨rfl, he.tr (eF.wk (fun i q => SRp9 q)), ho.tr (fun k hk => fF k (by omega) (by omega)), fun q => absurd q (by show ¬ (5 : Nat) = 0; decide), fun _ => ⟨f17, f18⟩⟩)
    · refine r_aload_n dX9_readText_46 rfl ?_
      refine r_iconst (5) dX9_readText_47 (by decide) ?_
      refine q_callV1 (cv_X9_failsAt ml_X9_204) hW kc_723 (by decide) rfl ⟨rfl, rfl⟩ rfl (Nat.le_of_ble_eq_true rfl) dX9_readText_48 (c_X9_failsAt (c := 5) hW kn_5 hr.2.2.1 hr.2.1.1) (fun v_48 h_48 q_48 => ?_)
      obtain ⟨rfl, eF, f17, f18, fF⟩ := q_48
      refine r_if_eq 58 dX9_readText_51 (by decide) (fun c_51 => ?_) (fun c_51 => ?_)
      · refine r_iconst (0) dX9_readText_58 (by decide) ?_
        refine r_zret dX9_readText_59 rfl (by decide) ⟨Nat.zero_le _, Nat.zero_le _⟩ ?_
        have hk0 : tK b n p = 0 := (tkR_e hk6 hk4 (j := 0) (by decide)).mp c_4
        have hL2 : rdS b n = ((if nn (w 0) = 0 then (5, tS b n p) else (0, tE b n p)), w) := hL.trans (if_pos hk0)
        have hw0 := hP.n4
        first
          | (have q0 : ¬ nn (w 0) = 0 := fun q => by
               have z : w 0 = nI 0 := hw0.1.trans (congrArg nI q)
               have c9 : (0 : Int32) < w 0 := c_43
               rw [z] at c9
               exact absurd c9 (by decide)
             rw [if_neg q0] at hL2
             rw [hL2]
             exact ⟨rfl, he, ho, fun _ => ⟨hr.2.2.1, hr.2.2.2.1, hm, hP, by show 0 < nn (w 0); omega⟩, fun q => absurd rfl q⟩)
          | exact absurd rfl c_51
          | (have q0 : nn (w 0) = 0 := by
               refine Classical.byContradiction fun q => c_43 ?_
               show (0 : Int32) < w 0
               rw [hw0.1]
               exact (nI_ltI (a := 0) (by decide) (by have := hw0.2.2; omega)).mpr (by omega)
             rw [if_pos q0] at hL2
             rw [hL2]
             exact ⟨rfl, he.tr (eF.wk (fun i q => SRp9 q)), ho.tr (fun k hk => fF k (by omega) (by omega)), fun q => absurd q (by show ¬ (5 : Nat) = 0; decide), fun _ => ⟨f17, f18⟩⟩)
      · refine r_iconst (1) dX9_readText_54 (by decide) ?_
        refine r_goto 59 dX9_readText_55 (by decide) ?_
        refine r_zret dX9_readText_59 rfl (by decide) ⟨Nat.zero_le _, Nat.zero_le _⟩ ?_
        have hk0 : tK b n p = 0 := (tkR_e hk6 hk4 (j := 0) (by decide)).mp c_4
        have hL2 : rdS b n = ((if nn (w 0) = 0 then (5, tS b n p) else (0, tE b n p)), w) := hL.trans (if_pos hk0)
        have hw0 := hP.n4
        first
          | (have q0 : ¬ nn (w 0) = 0 := fun q => by
               have z : w 0 = nI 0 := hw0.1.trans (congrArg nI q)
               have c9 : (0 : Int32) < w 0 := c_43
               rw [z] at c9
               exact absurd c9 (by decide)
             rw [if_neg q0] at hL2
             rw [hL2]
             exact ⟨rfl, he, ho, fun _ => ⟨hr.2.2.1, hr.2.2.2.1, hm, hP, by show 0 < nn (w 0); omega⟩, fun q => absurd rfl q⟩)
          | exact absurd rfl c_51
          | (have q0 : nn (w 0) = 0 := by
               refine Classical.byContradiction fun q => c_43 ?_
               show (0 : Int32) < w 0
               rw [hw0.1]
               exact (nI_ltI (a := 0) (by decide) (by have := hw0.2.2; omega)).mpr (by omega)
             rw [if_pos q0] at hL2
             rw [hL2]
             exact ⟨rfl, he.tr (eF.wk (fun i q => SRp9 q)), ho.tr (fun k hk => fF k (by omega) (by omega)), fun q => absurd q (by show ¬ (5 : Nat) = 0; decide), fun _ => ⟨f17, f18⟩⟩)
  · have hk0 : ¬ tK b n p = 0 := fun q => c_4 (by rw [q]; rfl)
    have hL2 : rdS b n = if (stmE b n ts w p).1 = 0 then rdA b n (n - i) (stmT b n ts p) (stmW b n w p) (stmE b n ts w p).2 else (stmE b n ts w p, w) := hL.trans (if_neg hk0)
    refine r_aload_n dX9_readText_7 rfl ?_
    refine q_callV0 (cv_X9_readStatement ml_X9_289) hW kc_723 (by decide) rfl ⟨rfl, rfl⟩ rfl (Nat.le_of_ble_eq_true rfl) dX9_readText_8 (c_X9_readStatement hW hr hm hP hTb hG) (fun v_8 h_8 q_8 => ?_)
    obtain ⟨E, w', k1, k2, k3, k4, k5, k6, k7⟩ := q_8
    subst k1
    have hW := k2.W hW
    refine r_if_ne 16 dX9_readText_11 (by decide) (fun c_11 => ?_) (fun c_11 => ?_)
    · have hE0 : E.1 = 0 := of_decide_eq_true (bI_1.mp c_11)
      obtain ⟨hr2, hm2, hT2⟩ := k4 hE0
      have ek6 := tK_lt (b := b) (n := n) (p := E.2)
      have ek4 := tK_4 (b := b) (n := n) (p := E.2)
      refine r_aload_n dX9_readText_16 rfl ?_
      refine q_getI fl_X9_182 hW kc_723 rfl dX9_readText_17 ?_
      rw [hr2.2.1.2.1]
      refine r_iconst (3) dX9_readText_20 (by decide) ?_
      refine r_icmp_eq 30 dX9_readText_21 (by decide) (fun c_21 => ?_) (fun c_21 => ?_)
      · refine r_aload_n dX9_readText_30 rfl ?_
        refine q_callV0 (cv_X9_advanceToken ml_X9_208) hW kc_723 (by decide) rfl ⟨rfl, rfl⟩ rfl (Nat.le_of_ble_eq_true rfl) dX9_readText_31 (c_X9_advanceToken hW hr2.1 hr2.2.1.2.2.1 (tE_le hr2.2.2.2.2)) (fun v_31 h_31 q_31 => ?_)
        obtain ⟨rfl, eA, lA, fA⟩ := q_31
        have hW := eA.W hW
        refine r_goto 0 dX9_readText_34 (by decide) ?_
        have ht3 : tC b n E.2 = 3 := (tC_k (by decide) (by decide)).mpr ((tkR_e ek6 ek4 (j := 3) (by decide)).mp c_21)
        have hsm : smiS b n E = (0, tE b n E.2) := by unfold smiS; rw [if_pos hE0, if_pos ht3]
        rw [hsm] at k6
        have q0 : (stmE b n ts w p).1 = 0 := by rw [← k6]
        rw [if_pos q0] at hL2
        have hw' := k7 q0
        subst hw'
        obtain ⟨p1, p2, p3⟩ := stm_pi hP hTI q0
        have hgo := stmE_go hk0 q0
        have e2 : (stmE b n ts w p).2 = tE b n E.2 := by rw [← k6]
        have hn9 := tE_le (b := b) (n := n) hr2.2.2.2.2
        refine ih (by omega) _ _ _ (stmE b n ts w p).2 (by omega) (by rw [show n + 1 - (i + 1) = n - i from by omega]; exact hL2) hW ?_ (hm2.cgH eA (by decide) (by decide)) p1 p2 (fun _ => by rw [fA 23 (by decide) (by decide) (by decide) (by decide)]; exact hT2) ((he.tr k2).tr (eA.wk (fun i q => SRp9 q))) ((ho.tr k3).tr (fun k hk => fA k (by omega) (by omega) (by omega) (by omega)))
        rw [e2]
        exact ⟨hr2.1.cg eA (by decide) (fA 14 (by decide) (by decide) (by decide) (by decide)), lA, (fA 17 (by decide) (by decide) (by decide) (by decide)).trans hr2.2.2.1, (fA 18 (by decide) (by decide) (by decide) (by decide)).trans hr2.2.2.2.1, hn9⟩
      · refine r_aload_n dX9_readText_24 rfl ?_
        refine r_iconst (1) dX9_readText_25 (by decide) ?_
        refine q_callV1 (cv_X9_failsAt ml_X9_204) hW kc_723 (by decide) rfl ⟨rfl, rfl⟩ rfl (Nat.le_of_ble_eq_true rfl) dX9_readText_26 (c_X9_failsAt (c := 1) hW kn_1 hr2.2.2.1 hr2.2.1.1) (fun v_26 h_26 q_26 => ?_)
        obtain ⟨rfl, eF, f17, f18, fF⟩ := q_26
        refine r_zret dX9_readText_29 rfl (by decide) ⟨Nat.zero_le _, Nat.zero_le _⟩ ?_
        have ht3 : ¬ tC b n E.2 = 3 := fun q => c_21 ((tkR_e ek6 ek4 (j := 3) (by decide)).mpr ((tC_k (by decide) (by decide)).mp q))
        have hsm : smiS b n E = (1, tS b n E.2) := by unfold smiS; rw [if_pos hE0, if_neg ht3]
        rw [hsm] at k6
        have q0 : ¬ (stmE b n ts w p).1 = 0 := by rw [← k6]; show ¬ (1 : Nat) = 0; decide
        rw [if_neg q0] at hL2
        rw [hL2]
        exact ⟨by rw [decide_eq_false q0]; rfl, (he.tr k2).tr (eF.wk (fun i q => SRp9 q)), (ho.tr k3).tr (fun k hk => fF k (by omega) (by omega)), fun q => absurd q q0, fun _ => by show FlS _ (stmE b n ts w p); rw [← k6]; exact ⟨f17, f18⟩⟩
    · refine r_iconst (0) dX9_readText_14 (by decide) ?_
      refine r_zret dX9_readText_15 rfl (by decide) ⟨Nat.zero_le _, Nat.zero_le _⟩ ?_
      have hE0 : E.1 ≠ 0 := of_decide_eq_false (bI_0.mp c_11)
      have hsm : smiS b n E = E := if_neg hE0
      rw [hsm] at k6
      have q0 : ¬ (stmE b n ts w p).1 = 0 := by rw [← k6]; exact hE0
      rw [if_neg q0] at hL2
      rw [hL2]
      exact ⟨by rw [decide_eq_false q0]; rfl, he.tr k2, ho.tr k3, fun q => absurd q q0, fun _ => by show FlS _ (stmE b n ts w p); rw [← k6]; exact k5 hE0⟩

set_option maxRecDepth 100000 in
set_option maxHeartbeats 1600000 in
theorem c_X9_loadPools {l9 : Launch} {G : GC} {h : AH} {b : Nat → Int32} {n : Nat} {r : Row} (hW : World h) (hi : InB h b n) (hm : MW h r) (hG : GOK G) : PM l9 G mX9_loadPools NT NT [.ref 723] h (fun v h' => eqx h h' (fun i => i = 723 ∨ i = 724 ∨ i = 725 ∨ i = 729 ∨ i = 730 ∨ i = 735) ∧ (∀ k, k ≠ 10 → k ≠ 11 → k ≠ 12 → k < 14 ∨ 23 < k → aI h' 723 k = aI h 723 k) ∧ aI h' 723 12 = 0 ∧ aI h' 723 14 = 0 ∧ aI h' 723 15 = nI (rdS b n).1.1 ∧ aI h' 723 16 = (if (rdS b n).1.1 = 0 then -1 else nI (rdS b n).1.2) ∧ ((rdS b n).1.1 ≠ 0 → v = some (.int (-1)) ∧ MW h' r ∧ aI h' 723 10 = aI h 723 10 ∧ aI h' 723 11 = aI h 723 11) ∧ ((rdS b n).1.1 = 0 → v = some (.int ((rdS b n).2 0)) ∧ MW h' ((rdS b n).2, ZG) ∧ aI h' 723 10 = 0 ∧ aI h' 723 11 = 0)) noX := by
  refine PM.of (by decide +kernel) rfl rfl (Nat.le_of_ble_eq_true rfl) (fun hst _ => ?_)
  refine r_aload_n dX9_loadPools_0 rfl ?_
  refine r_iconst (0) dX9_loadPools_1 (by decide) ?_
  refine q_putI fl_X9_61 hW kc_723 rfl rfl dX9_loadPools_2 ?_
  have e0 : eqx h (sI h 723 12 0) (fun i => i = 723 ∨ i = 724 ∨ i = 725 ∨ i = 729 ∨ i = 730 ∨ i = 735) := eqx.rf.sI (Or.inl rfl)
  have hW := e0.W hW
  refine r_aload_n dX9_loadPools_5 rfl ?_
  refine q_getR fl_X9_7 hW kc_723 rfl (kl_9_0 hW) (by decide) dX9_loadPools_6 ?_
  refine r_iconst (0) dX9_loadPools_9 (by decide) ?_
  refine r_aload_n dX9_loadPools_10 rfl ?_
  refine q_getR fl_X9_13 hW kc_723 rfl (kl_9_1 hW) (by decide) dX9_loadPools_11 ?_
  refine r_iconst (0) dX9_loadPools_14 (by decide) ?_
  refine q_callS4 (cs_X9_copies ml_X9_74) ⟨rfl, rfl⟩ rfl (Nat.le_of_ble_eq_true rfl) dX9_loadPools_15 (c_X9_copies hW kc_724 kc_725 (Or.inl (by decide)) kn_0 kn_0 (by omega) (by omega) (by decide) (by decide)) (fun v_15 h_15 q_15 => ?_)
  obtain ⟨rfl, eC, kC, oC⟩ := q_15
  have hW := eC.W hW
  refine r_aload_n dX9_loadPools_18 rfl ?_
  refine q_getR fl_X9_25 hW kc_723 rfl (kl_9_5 hW) (by decide) dX9_loadPools_19 ?_
  refine r_iconst (0) dX9_loadPools_22 (by decide) ?_
  refine r_aload_n dX9_loadPools_23 rfl ?_
  refine q_getR fl_X9_29 hW kc_723 rfl (kl_9_6 hW) (by decide) dX9_loadPools_24 ?_
  refine r_iconst (0) dX9_loadPools_27 (by decide) ?_
  refine q_callS4 (cs_X9_copies_ ml_X9_78) ⟨rfl, rfl⟩ rfl (Nat.le_of_ble_eq_true rfl) dX9_loadPools_28 (c_X9_copies_ hW kc_729 kc_730 (Or.inl (by decide)) kn_0 kn_0 (by omega) (by omega) (by decide) (by decide)) (fun v_28 h_28 q_28 => ?_)
  obtain ⟨rfl, eD, kD, oD⟩ := q_28
  have hW := eD.W hW
  have he : eqx h h_28 (fun i => i = 723 ∨ i = 724 ∨ i = 725 ∨ i = 729 ∨ i = 730 ∨ i = 735) := (e0.tr (eC.wk (fun i q => by unfold btw at q; omega))).tr (eD.wk (fun i q => by unfold btw at q; omega))
  have hK : AW h_28 725 730 r := by
    refine ⟨fun k hk => ?_, fun k hk => ?_⟩
    · rw [eD.I (by unfold btw; omega)]
      have z := kC k hk
      rw [Nat.zero_add] at z
      rw [z, sI_o (by decide)]
      exact hm.1 k hk
    · have z := kD k hk
      rw [Nat.zero_add] at z
      rw [z, eC.J (by unfold btw; omega), sIJ]
      exact hm.2 k hk
  have f28 : aI h_28 723 = aI (sI h 723 12 0) 723 := by rw [eD.I (by unfold btw; omega), eC.I (by unfold btw; omega)]
  refine r_aload_n dX9_loadPools_31 rfl ?_
  refine q_callV0 (cv_X9_clear ml_X9_54) hW kc_723 (by decide) rfl ⟨rfl, rfl⟩ rfl (Nat.le_of_ble_eq_true rfl) dX9_loadPools_32 (c_X9_clear hW) (fun v_32 h_32 q_32 => ?_)
  obtain ⟨rfl, eL, hm2⟩ := q_32
  have hW := eL.W hW
  refine r_aload_n dX9_loadPools_35 rfl ?_
  refine r_iconst (0) dX9_loadPools_36 (by decide) ?_
  refine q_putI fl_X9_185 hW kc_723 rfl rfl dX9_loadPools_37 ?_
  refine r_aload_n dX9_loadPools_40 rfl ?_
  refine r_iconst (-1) dX9_loadPools_41 (by decide) ?_
  refine q_putI fl_X9_188 hW kc_723 rfl rfl dX9_loadPools_42 ?_
  refine r_aload_n dX9_loadPools_45 rfl ?_
  refine r_iconst (0) dX9_loadPools_46 (by decide) ?_
  refine q_putI fl_X9_170 hW kc_723 rfl rfl dX9_loadPools_47 ?_
  refine r_aload_n dX9_loadPools_50 rfl ?_
  refine r_iconst (0) dX9_loadPools_51 (by decide) ?_
  refine q_putI fl_X9_214 hW kc_723 rfl rfl dX9_loadPools_52 ?_
  have e4 : eqx h_32 (sI (sI (sI (sI h_32 723 17 0) 723 18 (-1)) 723 19 0) 723 23 0) S9 := ((((eqx.rf (S := S9)).sI rfl).sI rfl).sI rfl).sI rfl
  have hW := e4.W hW
  have f32 : aI h_32 723 = aI h_28 723 := eL.I (by unfold SM; omega)
  have hi4 : InB (sI (sI (sI (sI h_32 723 17 0) 723 18 (-1)) 723 19 0) 723 23 0) b n := by
    refine ⟨?_, hi.2.1, fun i q => ?_⟩
    · rw [sI_k (by decide), sI_k (by decide), sI_k (by decide), sI_k (by decide), f32, f28, sI_k (by decide)]; exact hi.1
    · rw [e4.I (by decide), eL.I (by unfold SM; omega), eD.I (by unfold btw; omega), eC.I (by unfold btw; omega), sI_o (by decide)]; exact hi.2.2 i q
  have hm4 : MW (sI (sI (sI (sI h_32 723 17 0) 723 18 (-1)) 723 19 0) 723 23 0) (noW, ZG) := hm2.cgH e4 (by decide) (by decide)
  refine r_aload_n dX9_loadPools_55 rfl ?_
  refine q_callV0 (cv_X9_advanceToken ml_X9_208) hW kc_723 (by decide) rfl ⟨rfl, rfl⟩ rfl (Nat.le_of_ble_eq_true rfl) dX9_loadPools_56 (c_X9_advanceToken hW hi4 (by rw [sI_k (by decide), sI_s]; rfl) (Nat.zero_le _)) (fun v_56 h_56 q_56 => ?_)
  obtain ⟨rfl, eA, lA, fA⟩ := q_56
  have hW := eA.W hW
  have hr0 : RpS h_56 b n 0 := ⟨hi4.cg eA (by decide) (fA 14 (by decide) (by decide) (by decide) (by decide)), lA, by rw [fA 17 (by decide) (by decide) (by decide) (by decide), sI_k (by decide), sI_k (by decide), sI_k (by decide), sI_s], by rw [fA 18 (by decide) (by decide) (by decide) (by decide), sI_k (by decide), sI_k (by decide), sI_s], Nat.zero_le _⟩
  have hm5 : MW h_56 (noW, ZG) := hm4.cgH eA (by decide) (by decide)
  refine r_aload_n dX9_loadPools_59 rfl ?_
  refine q_callV0 (cv_X9_readText ml_X9_292) hW kc_723 (by decide) rfl ⟨rfl, rfl⟩ rfl (Nat.le_of_ble_eq_true rfl) dX9_loadPools_60 (c_X9_readText hW hr0 hm5 hG) (fun v_60 h_60 q_60 => ?_)
  obtain ⟨rfl, eT, oT, gT, bT⟩ := q_60
  have hW := eT.W hW
  have t17 : aI h_60 723 17 = nI (rdS b n).1.1 := by
    by_cases q : (rdS b n).1.1 = 0
    · rw [(gT q).1, q]; rfl
    · exact (bT q).1
  have t18 : aI h_60 723 18 = (if (rdS b n).1.1 = 0 then -1 else nI (rdS b n).1.2) := by
    by_cases q : (rdS b n).1.1 = 0
    · rw [if_pos q]; exact (gT q).2.1
    · rw [if_neg q]; exact (bT q).2
  refine r_istore_n (ls2 := [some _, _]) dX9_loadPools_63 (by decide) rfl ?_
  refine r_aload_n dX9_loadPools_64 rfl ?_
  refine r_iconst (0) dX9_loadPools_65 (by decide) ?_
  refine q_putI fl_X9_161 hW kc_723 rfl rfl dX9_loadPools_66 ?_
  refine r_aload_n dX9_loadPools_69 rfl ?_
  refine r_aload_n dX9_loadPools_70 rfl ?_
  refine q_getI fl_X9_185 hW kc_723 rfl dX9_loadPools_71 ?_
  rw [show aI (sI h_60 723 14 0) 723 17 = nI (rdS b n).1.1 from by rw [sI_k (by decide)]; exact t17]
  refine q_putI fl_X9_295 hW kc_723 rfl rfl dX9_loadPools_74 ?_
  refine r_aload_n dX9_loadPools_77 rfl ?_
  refine r_aload_n dX9_loadPools_78 rfl ?_
  refine q_getI fl_X9_188 hW kc_723 rfl dX9_loadPools_79 ?_
  rw [show aI (sI (sI h_60 723 14 0) 723 15 (nI (rdS b n).1.1)) 723 18 = (if (rdS b n).1.1 = 0 then -1 else nI (rdS b n).1.2) from by rw [sI_k (by decide), sI_k (by decide)]; exact t18]
  refine q_putI fl_X9_44 hW kc_723 rfl rfl dX9_loadPools_82 ?_
  have eZ : eqx h_60 (sI (sI (sI h_60 723 14 0) 723 15 (nI (rdS b n).1.1)) 723 16 (if (rdS b n).1.1 = 0 then -1 else nI (rdS b n).1.2)) S9 := (((eqx.rf (S := S9)).sI rfl).sI rfl).sI rfl
  have hW := eZ.W hW
  have he9 : eqx h (sI (sI (sI h_60 723 14 0) 723 15 (nI (rdS b n).1.1)) 723 16 (if (rdS b n).1.1 = 0 then -1 else nI (rdS b n).1.2)) (fun i => i = 723 ∨ i = 724 ∨ i = 725 ∨ i = 729 ∨ i = 730 ∨ i = 735) := ((((he.tr (eL.wk (fun i q => by unfold SM at q; omega))).tr (e4.wk (fun i q => Or.inl q))).tr (eA.wk (fun i q => Or.inl q))).tr (eT.wk (fun i q => by unfold SRp at q; omega))).tr (eZ.wk (fun i q => Or.inl q))
  have hK9 : AW (sI (sI (sI h_60 723 14 0) 723 15 (nI (rdS b n).1.1)) 723 16 (if (rdS b n).1.1 = 0 then -1 else nI (rdS b n).1.2)) 725 730 r := ((((hK.cgH eL (by unfold SM; omega) (by unfold SM; omega)).cgH e4 (by decide) (by decide)).cgH eA (by decide) (by decide)).cgH eT (by unfold SRp; omega) (by unfold SRp; omega)).cgH eZ (by decide) (by decide)
  have f9 : ∀ k, k ≠ 12 → k < 14 ∨ 23 < k → aI (sI (sI (sI h_60 723 14 0) 723 15 (nI (rdS b n).1.1)) 723 16 (if (rdS b n).1.1 = 0 then -1 else nI (rdS b n).1.2)) 723 k = aI h 723 k := fun k k1 k2 => by
    rw [sI_k (by omega), sI_k (by omega), sI_k (by omega), oT k (by omega), fA k (by omega) (by omega) (by omega) (by omega), sI_k (by omega), sI_k (by omega), sI_k (by omega), sI_k (by omega), f32, f28, sI_k k1]
  have f12 : aI (sI (sI (sI h_60 723 14 0) 723 15 (nI (rdS b n).1.1)) 723 16 (if (rdS b n).1.1 = 0 then -1 else nI (rdS b n).1.2)) 723 12 = 0 := by
    rw [sI_k (by decide), sI_k (by decide), sI_k (by decide), oT 12 (by decide), fA 12 (by decide) (by decide) (by decide) (by decide), sI_k (by decide), sI_k (by decide), sI_k (by decide), sI_k (by decide), f32, f28, sI_s]
  refine r_iload_n dX9_loadPools_85 rfl ?_
  refine r_if_ne 117 dX9_loadPools_86 (by decide) (fun c_86 => ?_) (fun c_86 => ?_)
  · refine r_aload_n dX9_loadPools_117 rfl ?_
    refine r_iconst (0) dX9_loadPools_118 (by decide) ?_
    refine q_putI fl_X9_71 hW kc_723 rfl rfl dX9_loadPools_119 ?_
    refine r_aload_n dX9_loadPools_122 rfl ?_
    refine r_iconst (0) dX9_loadPools_123 (by decide) ?_
    refine q_putZ fl_X9_298 hW kc_723 rfl (by decide) rfl dX9_loadPools_124 ?_
    refine r_aload_n dX9_loadPools_127 rfl ?_
    refine q_getR fl_X9_7 hW kc_723 rfl (kl_9_0 hW) (by decide) dX9_loadPools_128 ?_
    skip
    refine r_iconst (0) dX9_loadPools_131 (by decide) ?_
    refine q_iald hW kc_724 kn_0 (by decide) (by decide) dX9_loadPools_132 ?_
    refine r_iret dX9_loadPools_133 rfl ⟨Nat.zero_le _, Nat.zero_le _⟩ ?_
    have q0 : (rdS b n).1.1 = 0 := of_decide_eq_true (bI_1.mp c_86)
    have e7 : eqx (sI (sI (sI h_60 723 14 0) 723 15 (nI (rdS b n).1.1)) 723 16 (if (rdS b n).1.1 = 0 then -1 else nI (rdS b n).1.2)) (sI (sI (sI (sI (sI h_60 723 14 0) 723 15 (nI (rdS b n).1.1)) 723 16 (if (rdS b n).1.1 = 0 then -1 else nI (rdS b n).1.2)) 723 10 0) 723 11 0) S9 := ((eqx.rf (S := S9)).sI rfl).sI rfl
    have hm9 := ((gT q0).2.2.1.cgH eZ (by decide) (by decide)).cgH e7 (by decide) (by decide)
    refine ⟨he9.tr (e7.wk (fun i q => Or.inl q)), fun k k10 k11 k12 k2 => ?_, ?_, ?_, ?_, ?_, fun q => absurd q0 q, fun _ => ⟨?_, hm9, ?_, sI_s⟩⟩
    · rw [sI_k k11, sI_k k10]; exact f9 k k12 k2
    · rw [sI_k (by decide), sI_k (by decide)]; exact f12
    · rw [sI_k (by decide), sI_k (by decide), sI_k (by decide), sI_k (by decide), sI_s]
    · rw [sI_k (by decide), sI_k (by decide), sI_k (by decide), sI_s]
    · rw [sI_k (by decide), sI_k (by decide), sI_s]
    · exact some_int (hm9.1 0 (by decide))
    · rw [sI_k (by decide), sI_s]
  · refine r_aload_n dX9_loadPools_89 rfl ?_
    refine q_getR fl_X9_13 hW kc_723 rfl (kl_9_1 hW) (by decide) dX9_loadPools_90 ?_
    refine r_iconst (0) dX9_loadPools_93 (by decide) ?_
    refine r_aload_n dX9_loadPools_94 rfl ?_
    refine q_getR fl_X9_7 hW kc_723 rfl (kl_9_0 hW) (by decide) dX9_loadPools_95 ?_
    refine r_iconst (0) dX9_loadPools_98 (by decide) ?_
    refine q_callS4 (cs_X9_copies ml_X9_74) ⟨rfl, rfl⟩ rfl (Nat.le_of_ble_eq_true rfl) dX9_loadPools_99 (c_X9_copies hW kc_725 kc_724 (Or.inl (by decide)) kn_0 kn_0 (by omega) (by omega) (by decide) (by decide)) (fun v_99 h_99 q_99 => ?_)
    obtain ⟨rfl, eC, kC, oC⟩ := q_99
    have hW := eC.W hW
    refine r_aload_n dX9_loadPools_102 rfl ?_
    refine q_getR fl_X9_29 hW kc_723 rfl (kl_9_6 hW) (by decide) dX9_loadPools_103 ?_
    refine r_iconst (0) dX9_loadPools_106 (by decide) ?_
    refine r_aload_n dX9_loadPools_107 rfl ?_
    refine q_getR fl_X9_25 hW kc_723 rfl (kl_9_5 hW) (by decide) dX9_loadPools_108 ?_
    refine r_iconst (0) dX9_loadPools_111 (by decide) ?_
    refine q_callS4 (cs_X9_copies_ ml_X9_78) ⟨rfl, rfl⟩ rfl (Nat.le_of_ble_eq_true rfl) dX9_loadPools_112 (c_X9_copies_ hW kc_730 kc_729 (Or.inl (by decide)) kn_0 kn_0 (by omega) (by omega) (by decide) (by decide)) (fun v_112 h_112 q_112 => ?_)
    obtain ⟨rfl, eD, kD, oD⟩ := q_112
    have hW := eD.W hW
    refine r_iconst (-1) dX9_loadPools_115 (by decide) ?_
    refine r_iret dX9_loadPools_116 rfl ⟨Nat.zero_le _, Nat.zero_le _⟩ ?_
    have q0 : (rdS b n).1.1 ≠ 0 := of_decide_eq_false (bI_0.mp c_86)
    refine ⟨(he9.tr (eC.wk (fun i q => by unfold btw at q; omega))).tr (eD.wk (fun i q => by unfold btw at q; omega)), fun k k10 k11 k12 k2 => ?_, ?_, ?_, ?_, ?_, fun _ => ⟨rfl, ⟨fun k hk => ?_, fun k hk => ?_⟩, ?_, ?_⟩, fun q => absurd q q0⟩
    · rw [eD.I (by unfold btw; omega), eC.I (by unfold btw; omega)]; exact f9 k k12 k2
    · rw [eD.I (by unfold btw; omega), eC.I (by unfold btw; omega)]; exact f12
    · rw [eD.I (by unfold btw; omega), eC.I (by unfold btw; omega), sI_k (by decide), sI_k (by decide), sI_s]
    · rw [eD.I (by unfold btw; omega), eC.I (by unfold btw; omega), sI_k (by decide), sI_s]
    · rw [eD.I (by unfold btw; omega), eC.I (by unfold btw; omega), sI_s]
    · rw [eD.I (by unfold btw; omega)]
      have z := kC k hk
      rw [Nat.zero_add] at z
      rw [z]
      exact hK9.1 k hk
    · have z := kD k hk
      rw [Nat.zero_add] at z
      rw [z, eC.J (by unfold btw; omega)]
      exact hK9.2 k hk
    · rw [eD.I (by unfold btw; omega), eC.I (by unfold btw; omega)]; exact f9 10 (by decide) (by decide)
    · rw [eD.I (by unfold btw; omega), eC.I (by unfold btw; omega)]; exact f9 11 (by decide) (by decide)
