set_option maxRecDepth 100000 in
set_option maxHeartbeats 4000000 in
theorem c_X1_isReady {l : Launch} {G : GC} {h : AH} {o : Nat} {k : Nat} {t : Int32} (hW : World h) (hk : kd o 1) (hk2 : k < 20) : PM l G mX1_isReady NT NT [.ref o, .int (nI k), .int t] h (fun v h' => v = some (.int (bI (decide (aI h (o + 3) k ≤ t)))) ∧ h' = h) noX := by
  refine PM.of (by decide) rfl rfl (Nat.le_of_ble_eq_true rfl) (fun hst _ => ?_)
  refine r_aload_n dX1_isReady_0 rfl ?_
  refine q_getR fl_X1_18 hW hk rfl (kl_1_2 hW hk) (Nat.succ_ne_zero _) dX1_isReady_1 ?_
  refine r_iload_n dX1_isReady_4 rfl ?_
  refine q_iald hW (kk_1_2 hk) rfl (by omega) (by decide) dX1_isReady_5 ?_
  refine r_iload_n dX1_isReady_6 rfl ?_
  refine r_icmp_gt 14 dX1_isReady_7 (by decide) (fun c_7 => ?_) (fun c_7 => ?_)
  · refine r_iconst (0) dX1_isReady_14 (by decide) ?_
    refine r_zret dX1_isReady_15 rfl (by decide) ⟨Nat.zero_le _, Nat.zero_le _⟩ ?_
    first
      | exact ⟨some_int (dT (i_le.mp c_7)).symm, rfl⟩
      | exact ⟨some_int (dF (fun q => absurd c_7 (i_le.mpr q))).symm, rfl⟩
  · refine r_iconst (1) dX1_isReady_10 (by decide) ?_
    refine r_goto 15 dX1_isReady_11 (by decide) ?_
    refine r_zret dX1_isReady_15 rfl (by decide) ⟨Nat.zero_le _, Nat.zero_le _⟩ ?_
    first
      | exact ⟨some_int (dT (i_le.mp c_7)).symm, rfl⟩
      | exact ⟨some_int (dF (fun q => absurd c_7 (i_le.mpr q))).symm, rfl⟩

set_option maxRecDepth 100000 in
set_option maxHeartbeats 4000000 in
theorem c_X1_has {l : Launch} {G : GC} {h : AH} {o : Nat} {x : Int32} (hW : World h) (hk : kd o 1) : PM l G mX1_has NT NT [.ref o, .int x] h (fun v h' => v = some (.int (bI (decide (0 ≤ x ∧ x < aI h o 4)))) ∧ h' = h) noX := by
  refine PM.of (by decide) rfl rfl (Nat.le_of_ble_eq_true rfl) (fun hst _ => ?_)
  refine r_iload_n dX1_has_0 rfl ?_
  refine r_if_lt 16 dX1_has_1 (by decide) (fun c_1 => ?_) (fun c_1 => ?_)
  · refine r_iconst (0) dX1_has_16 (by decide) ?_
    refine r_zret dX1_has_17 rfl (by decide) ⟨Nat.zero_le _, Nat.zero_le _⟩ ?_
    first
      | exact ⟨some_int (dF (fun q => absurd c_1 (i_le.mpr q.1))).symm, rfl⟩
      | exact ⟨some_int (dF (fun q => absurd q.2 (i_le.mpr c_9))).symm, rfl⟩
      | exact ⟨some_int (dT ⟨i_le.mp c_1, i_lt.mp c_9⟩).symm, rfl⟩
  · refine r_iload_n dX1_has_4 rfl ?_
    refine r_aload_n dX1_has_5 rfl ?_
    refine q_getI fl_X1_25 hW hk rfl dX1_has_6 ?_
    refine r_icmp_ge 16 dX1_has_9 (by decide) (fun c_9 => ?_) (fun c_9 => ?_)
    · refine r_iconst (0) dX1_has_16 (by decide) ?_
      refine r_zret dX1_has_17 rfl (by decide) ⟨Nat.zero_le _, Nat.zero_le _⟩ ?_
      first
        | exact ⟨some_int (dF (fun q => absurd c_1 (i_le.mpr q.1))).symm, rfl⟩
        | exact ⟨some_int (dF (fun q => absurd q.2 (i_le.mpr c_9))).symm, rfl⟩
        | exact ⟨some_int (dT ⟨i_le.mp c_1, i_lt.mp c_9⟩).symm, rfl⟩
    · refine r_iconst (1) dX1_has_12 (by decide) ?_
      refine r_goto 17 dX1_has_13 (by decide) ?_
      refine r_zret dX1_has_17 rfl (by decide) ⟨Nat.zero_le _, Nat.zero_le _⟩ ?_
      first
        | exact ⟨some_int (dF (fun q => absurd c_1 (i_le.mpr q.1))).symm, rfl⟩
        | exact ⟨some_int (dF (fun q => absurd q.2 (i_le.mpr c_9))).symm, rfl⟩
        | exact ⟨some_int (dT ⟨i_le.mp c_1, i_lt.mp c_9⟩).symm, rfl⟩

set_option maxRecDepth 100000 in
set_option maxHeartbeats 4000000 in
theorem c_X1_placeOf {l : Launch} {G : GC} {h : AH} {o : Nat} {n : Nat} {x : Int32} (hW : World h) (hk : kd o 1) (hn : aI h o 4 = nI n) (hn2 : n ≤ 20) : PM l G mX1_placeOf NT NT [.ref o, .int x] h (fun v h' => v = some (.int (oI (fi (fun k => decide (aI h (o + 1) k = x)) n))) ∧ h' = h) noX := by
  refine PM.of (by decide) rfl rfl (Nat.le_of_ble_eq_true rfl) (fun hst _ => ?_)
  refine r_iconst (0) dX1_placeOf_0 (by decide) ?_
  refine r_istore_n (ls2 := [_, some _, _]) dX1_placeOf_1 (by decide) rfl ?_
  refine loopN (P := fun i => i ≤ n → fi (fun k => decide (aI h (o + 1) k = x)) i = none → PW l G mX1_placeOf _ _ NT 2 [some (.ref o), some (.int x), some (.int (nI i))] [] (0, 0) h) n (fun i ih hi hf => ?_) 0 (Nat.zero_le _) rfl
  refine r_iload_n dX1_placeOf_2 rfl ?_
  refine r_aload_n dX1_placeOf_3 rfl ?_
  refine q_getI fl_X1_25 hW hk rfl dX1_placeOf_4 ?_
  refine r_icmp_ge 28 dX1_placeOf_7 (by decide) (fun c_7 => ?_) (fun c_7 => ?_)
  · have hge : n = i := by rw [hn] at c_7; have := (nI_leI (by omega) (by omega)).mp c_7; omega
    refine r_iconst (-1) dX1_placeOf_28 (by decide) ?_
    refine r_iret dX1_placeOf_29 rfl ⟨Nat.zero_le _, Nat.zero_le _⟩ ?_
    exact ⟨some_int (by rw [hge, hf]; rfl), rfl⟩
  · have hlt : i < n := by rw [hn] at c_7; exact (nI_ltI (by omega) (by omega)).mp (i_lt.mp c_7)
    refine r_aload_n dX1_placeOf_10 rfl ?_
    refine q_getR fl_X1_9 hW hk rfl (kl_1_0 hW hk) (Nat.succ_ne_zero _) dX1_placeOf_11 ?_
    refine r_iload_n dX1_placeOf_14 rfl ?_
    refine q_iald hW (kk_1_0 hk) rfl (by omega) (by decide) dX1_placeOf_15 ?_
    refine r_iload_n dX1_placeOf_16 rfl ?_
    refine r_icmp_ne 22 dX1_placeOf_17 (by decide) (fun c_17 => ?_) (fun c_17 => ?_)
    · refine r_iinc (1) (by decide) (ls2 := [_, some _, _]) dX1_placeOf_22 rfl (by decide) rfl ?_
      refine r_goto 2 dX1_placeOf_25 (by decide) ?_
      rw [nI_1]
      exact ih hlt hlt (fi_pass hf (decide_eq_false c_17))
    · refine r_iload_n dX1_placeOf_20 rfl ?_
      refine r_iret dX1_placeOf_21 rfl ⟨Nat.zero_le _, Nat.zero_le _⟩ ?_
      exact ⟨some_int (by rw [fi_hit hf (decide_eq_true (by simpa using c_17)) hlt]; rfl), rfl⟩

set_option maxRecDepth 100000 in
set_option maxHeartbeats 4000000 in
theorem c_X1_countReady {l : Launch} {G : GC} {h : AH} {o : Nat} {n : Nat} {t : Int32} (hW : World h) (hk : kd o 1) (hn : aI h o 4 = nI n) (hn2 : n ≤ 20) : PM l G mX1_countReady NT NT [.ref o, .int t] h (fun v h' => v = some (.int (nI (cn (fun k => decide (aI h (o + 3) k ≤ t)) n))) ∧ h' = h) noX := by
  refine PM.of (by decide) rfl rfl (Nat.le_of_ble_eq_true rfl) (fun hst _ => ?_)
  refine r_iconst (0) dX1_countReady_0 (by decide) ?_
  refine r_istore_n (ls2 := [_, some _, _, _]) dX1_countReady_1 (by decide) rfl ?_
  refine r_iconst (0) dX1_countReady_2 (by decide) ?_
  refine r_istore_n (ls2 := [_, _, some _, _]) dX1_countReady_3 (by decide) rfl ?_
  refine loopN (P := fun i => i ≤ n → PW l G mX1_countReady _ _ NT 4 [some (.ref o), some (.int t), some (.int (nI (cn (fun k => decide (aI h (o + 3) k ≤ t)) i))), some (.int (nI i))] [] (0, 0) h) n (fun i ih hi => ?_) 0 (Nat.zero_le _)
  refine r_iload_n dX1_countReady_4 rfl ?_
  refine r_aload_n dX1_countReady_5 rfl ?_
  refine q_getI fl_X1_25 hW hk rfl dX1_countReady_6 ?_
  refine r_icmp_ge 30 dX1_countReady_9 (by decide) (fun c_9 => ?_) (fun c_9 => ?_)
  · have hge : n = i := by rw [hn] at c_9; have := (nI_leI (by omega) (by omega)).mp c_9; omega
    refine r_iload_n dX1_countReady_30 rfl ?_
    refine r_iret dX1_countReady_31 rfl ⟨Nat.zero_le _, Nat.zero_le _⟩ ?_
    exact ⟨some_int (by rw [hge]), rfl⟩
  · have hlt : i < n := by rw [hn] at c_9; exact (nI_ltI (by omega) (by omega)).mp (i_lt.mp c_9)
    refine r_aload_n dX1_countReady_12 rfl ?_
    refine r_iload_n dX1_countReady_13 rfl ?_
    refine r_iload_n dX1_countReady_14 rfl ?_
    refine q_callV2 (cv_X1_isReady ml_X1_37) hW hk (by decide) rfl ⟨rfl, rfl⟩ rfl (Nat.le_of_ble_eq_true rfl) dX1_countReady_15 (c_X1_isReady hW hk (by omega)) (fun v_15 h_15 q_15 => ?_)
    obtain ⟨rfl, z9⟩ := q_15
    replace z9 := z9.symm
    subst z9
    refine r_if_eq 24 dX1_countReady_18 (by decide) (fun c_18 => ?_) (fun c_18 => ?_)
    · refine r_iinc (1) (by decide) (ls2 := [_, _, some _, _]) dX1_countReady_24 rfl (by decide) rfl ?_
      refine r_goto 4 dX1_countReady_27 (by decide) ?_
      simp only [nI_1]
      have := ih hlt hlt
      first
        | (rw [cn_f (bI_0.mp c_18)] at this; exact this)
        | (rw [cn_t (bI_1.mp c_18)] at this; exact this)
    · refine r_iinc (1) (by decide) (ls2 := [_, some _, _, _]) dX1_countReady_21 rfl (by decide) rfl ?_
      refine r_iinc (1) (by decide) (ls2 := [_, _, some _, _]) dX1_countReady_24 rfl (by decide) rfl ?_
      refine r_goto 4 dX1_countReady_27 (by decide) ?_
      simp only [nI_1]
      have := ih hlt hlt
      first
        | (rw [cn_f (bI_0.mp c_18)] at this; exact this)
        | (rw [cn_t (bI_1.mp c_18)] at this; exact this)
