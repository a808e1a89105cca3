-- how many are needed
set_option maxRecDepth 100000 in
set_option maxHeartbeats 4000000 in
theorem c_X8_needed {l9 : Launch} {G : GC} {h : AH} {r : Row} {m : Nat} {x y : Int32} (hW : World h) (hs : StR h 7 r.1 r.2) (hO : RoOK r.1 r.2 m) : PM l9 G mX8_needed NT NT [.ref 1, .int x, .int y] h (fun v h' => cd2 (okP r x) (rgB 1 300 y) = 0 ∧ v = some (.int (ndP (fP r x) (tP r) (nn y))) ∧ h' = h) (fun E h' => thr [eB, eA] (cd2 (okP r x) (rgB 1 300 y)) E ∧ h' = h) := by
  refine PM.of (by decide +kernel) rfl rfl (Nat.le_of_ble_eq_true rfl) (fun hst _ => ?_)
  refine r_aload_n dX8_needed_0 rfl ?_
  refine r_iload_n dX8_needed_1 rfl ?_
  refine q_callX1 (cv_X8_existingPool ml_X8_112) hW kc_1 (by decide) rfl rfl (Nat.le_of_ble_eq_true rfl) dX8_needed_2 (c_X8_existingPool hW hs hO) (fun v_2 h_2 q_2 => ?_) (fun E_2 h_2 q_2 => ?_)
  · obtain ⟨z9, ko, p, p1, p2, rfl, rfl⟩ := q_2
    replace z9 := z9.symm
    subst z9
    have ex : nn (nI p) = p := nn_I (by omega)
    have hOp := hO.2 p p2
    have hpo : PoR h (14 + 12 * p) (nn (r.1 1)) (nn (r.1 1)) (getP r.1 p) (getG r.2 p) := hs.po p2
    have hpo9 := hpo
    obtain ⟨zs, zm, zt, ⟨zd, zc⟩, zf, z20, z18, z19, z17, z21, z22, z16⟩ := hpo
    have zd0 : DemR h (14 + 12 * p) (nn (r.1 1)) (getP r.1 p) := ⟨zd, zc⟩
    have yc := hOp.2.2.2.2.1.2.1
    refine r_astore_n (ls2 := [_, _, some _, _, _, _, _]) dX8_needed_5 (by decide) rfl ?_
    refine r_iload_n dX8_needed_6 rfl ?_
    refine r_iconst (1) dX8_needed_7 (by decide) ?_
    refine r_sipush (300) dX8_needed_8 (by decide) ?_
    refine q_callXS3 (cs_X8_requireRange ml_X8_116) rfl (Nat.le_of_ble_eq_true rfl) dX8_needed_11 c_X8_requireRange (fun v_11 h_11 q_11 => ?_) (fun E_11 h_11 q_11 => ?_)
    · obtain ⟨z9, kr, rfl⟩ := q_11
      replace z9 := z9.symm
      subst z9
      have kr9 : rgB 1 300 y = true := decide_eq_true kr
      obtain ⟨k, k1, k2, rfl⟩ := rgB_t (a := 1) (b := 300) kr9 (by decide) (by decide)
      have ek : nn (nI k) = k := nn_I (by omega)
      refine r_iconst (0) dX8_needed_14 (by decide) ?_
      refine r_istore (ls2 := [_, _, _, some _, _, _, _]) dX8_needed_15 (by decide) rfl ?_
      refine r_iconst (0) dX8_needed_17 (by decide) ?_
      refine r_istore (ls2 := [_, _, _, _, some _, _, _]) dX8_needed_18 (by decide) rfl ?_
      refine loopN (P := fun i => ∀ z6 : Option Value, i ≤ k → PW l9 G mX8_needed _ _ NT 20 [some (.ref 1), some (.int (nI p)), some (.int (nI k)), some (.ref (14 + 12 * p)), some (.int (ndP (getP r.1 p) (nn (r.1 1)) i)), some (.int (nI i)), z6] [] (2, 12) h) k (fun i ih z6 hi => ?_) 0 none (Nat.zero_le _)
      refine r_iload dX8_needed_20 rfl ?_
      refine r_iload_n dX8_needed_22 rfl ?_
      refine r_icmp_ge 66 dX8_needed_23 (by decide) (fun c_23 => ?_) (fun c_23 => ?_)
      · have hge : k = i := by have := (nI_leI (by omega) (by omega)).mp c_23; omega
        refine r_iload dX8_needed_66 rfl ?_
        refine r_iret dX8_needed_68 rfl ⟨Nat.le_of_ble_eq_true rfl, Nat.le_of_ble_eq_true rfl⟩ ?_
        refine ⟨cd2_t ko kr9, ?_, rfl⟩
        try unfold fP
        try unfold tP
        rw [ex, ek, hge]
      · have hlt : i < k := (nI_ltI (by omega) (by omega)).mp (i_lt.mp c_23)
        refine r_aload_n dX8_needed_26 rfl ?_
        refine r_aload_n dX8_needed_27 rfl ?_
        refine q_getR fl_X8_37 hW kc_1 rfl (kl_8_6 hW) (by decide) dX8_needed_28 ?_
        refine q_getI fl_X8_86 hW kc_7 rfl dX8_needed_31 ?_
        rw [hs.2.1, show r.1 1 = nI (nn (r.1 1)) from hO.1.2.1.1]
        refine r_iload dX8_needed_34 rfl ?_
        refine q_callV2 (cv_X3_demandAhead ml_X8_196) hW (kd_po p1) (by decide) rfl ⟨rfl, rfl⟩ rfl (Nat.le_of_ble_eq_true rfl) dX8_needed_36 (c_X3_demandAhead hW (kd_po p1) zs z20 (by omega)) (fun v_36 h_36 q_36 => ?_)
        obtain ⟨rfl, z9⟩ := q_36
        replace z9 := z9.symm
        subst z9
        refine r_istore (ls2 := [_, _, _, _, _, some _, _]) dX8_needed_39 (by decide) rfl ?_
        refine r_iload dX8_needed_41 rfl ?_
        refine r_iload dX8_needed_43 rfl ?_
        refine r_aload_n dX8_needed_45 rfl ?_
        refine q_getR fl_X8_143 hW (kd_po p1) rfl (kl_3_0 hW (kd_po p1)) (Nat.succ_ne_zero _) dX8_needed_46 ?_
        refine q_getI fl_X8_359 hW (kk_3_0 (kd_po p1)) rfl dX8_needed_49 ?_
        rw [show aI h (14 + 12 * p + 1) 2 = getP r.1 p 2 from zs.1 2 (by decide)]
        refine q_callS2 (cs_X8_dividedUp ml_X8_362) ⟨rfl, rfl⟩ rfl (Nat.le_of_ble_eq_true rfl) dX8_needed_52 c_X8_dividedUp (fun v_52 h_52 q_52 => ?_)
        obtain ⟨rfl, z9⟩ := q_52
        replace z9 := z9.symm
        subst z9
        refine q_max mm_X8_239 rfl (Nat.le_of_ble_eq_true rfl) dX8_needed_55 ?_
        refine r_istore (ls2 := [_, _, _, some _, _, _, _]) dX8_needed_58 (by decide) rfl ?_
        refine r_iinc (1) (by decide) (ls2 := [_, _, _, _, some _, _, _]) dX8_needed_60 rfl (by decide) rfl ?_
        refine r_goto 20 dX8_needed_63 (by decide) ?_
        rw [nI_1, ← show r.1 1 = nI (nn (r.1 1)) from hO.1.2.1.1]
        exact ih hlt _ hlt
    · refine PX.out rfl ⟨Nat.le_of_ble_eq_true rfl, Nat.le_of_ble_eq_true rfl⟩ ?_
      obtain ⟨rfl, kx, rfl⟩ := q_11
      exact ⟨thr_22 ko (decide_eq_false kx), rfl⟩
  · refine PX.out rfl ⟨Nat.le_of_ble_eq_true rfl, Nat.le_of_ble_eq_true rfl⟩ ?_
    obtain ⟨rfl, kx, rfl⟩ := q_2
    exact ⟨thr_21 kx, rfl⟩

