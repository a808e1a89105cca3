-- the reference: what a pool tells by its row
theorem pwN_eq {f : Nat → Int32} {t : Int32} : pwN f t = cn (fun k => decide (f (102 + 4 * k) ≤ t)) (nn (f 23)) := by
  unfold pwN
  rw [mbs_len]
  exact cn_cg (fun k hk => by rw [mbs_rdy hk])
def gdN (f : Nat → Int32) : Nat := cn (fun k => mPrt (mbs f) k) (mbs f).length
theorem gdN_eq {f : Nat → Int32} : gdN f = cn (fun k => decide (f (103 + 4 * k) = 1)) (nn (f 23)) := by
  unfold gdN
  rw [mbs_len]
  exact cn_cg (fun k hk => by rw [mbs_prt hk])
set_option maxRecDepth 100000 in
set_option maxHeartbeats 4000000 in
theorem c_X9_isReady {l9 : Launch} {G : GC} {h : AH} {w : Nat → Int32} {v9 : Nat → Int64} {p : Nat} {f : Nat → Int32} {g : Nat → Int64} {k : Nat} {x y : Int32} (hW : World h) (hm : PV h w v9 p f g) (hp : p < 4) (hx : x = nI p) (hy : y = nI k) (hk : k < 20) : PM l9 G mX9_isReady NT NT [.ref 723, .int x, .int y] h (fun v h' => v = some (.int (bI (decide (f (102 + 4 * k) ≤ w 1)))) ∧ h' = h) noX := by
  refine PM.of (by decide +kernel) rfl rfl (Nat.le_of_ble_eq_true rfl) (fun hst _ => ?_)
  refine r_aload_n dX9_isReady_0 rfl ?_
  refine r_iload_n dX9_isReady_1 rfl ?_
  refine r_bipush (100) dX9_isReady_2 (by decide) ?_
  refine r_iconst (4) dX9_isReady_4 (by decide) ?_
  refine r_iload_n dX9_isReady_5 rfl ?_
  refine r_imul dX9_isReady_6 ?_
  refine r_iadd dX9_isReady_7 ?_
  refine r_iconst (2) dX9_isReady_8 (by decide) ?_
  refine r_iadd dX9_isReady_9 ?_
  refine q_callV2 (cv_X9_of ml_X9_81) hW kc_723 (by decide) rfl ⟨rfl, rfl⟩ rfl (Nat.le_of_ble_eq_true rfl) dX9_isReady_10 (c_X9_of hW hm hp hx (nadd (nadd kn_100 (nmul kn_4 hy)) kn_2) (by omega)) (fun v_10 h_10 q_10 => ?_)
  obtain ⟨rfl, z9⟩ := q_10
  replace z9 := z9.symm
  subst z9
  rw [show 100 + 4 * k + 2 = 102 + 4 * k from by omega]
  refine r_aload_n dX9_isReady_13 rfl ?_
  refine q_getR fl_X9_7 hW kc_723 rfl (kl_9_0 hW) (by decide) dX9_isReady_14 ?_
  refine r_iconst (1) dX9_isReady_17 (by decide) ?_
  refine q_wldPV hW hm kn_1 (by omega) dX9_isReady_18 ?_
  refine r_icmp_gt 26 dX9_isReady_19 (by decide) (fun c_19 => ?_) (fun c_19 => ?_)
  · refine r_iconst (0) dX9_isReady_26 (by decide) ?_
    refine r_zret dX9_isReady_27 rfl (by decide) ⟨Nat.zero_le _, Nat.zero_le _⟩ ?_
    first
      | exact ⟨some_int (dT (i_le.mp c_19)).symm, rfl⟩
      | exact ⟨some_int (dF (fun q => absurd c_19 (i_le.mpr q))).symm, rfl⟩
  · refine r_iconst (1) dX9_isReady_22 (by decide) ?_
    refine r_goto 27 dX9_isReady_23 (by decide) ?_
    refine r_zret dX9_isReady_27 rfl (by decide) ⟨Nat.zero_le _, Nat.zero_le _⟩ ?_
    first
      | exact ⟨some_int (dT (i_le.mp c_19)).symm, rfl⟩
      | exact ⟨some_int (dF (fun q => absurd c_19 (i_le.mpr q))).symm, rfl⟩

set_option maxRecDepth 100000 in
set_option maxHeartbeats 4000000 in
theorem c_X9_isGuarded {l9 : Launch} {G : GC} {h : AH} {w : Nat → Int32} {v9 : Nat → Int64} {p : Nat} {f : Nat → Int32} {g : Nat → Int64} {k : Nat} {x y : Int32} (hW : World h) (hm : PV h w v9 p f g) (hp : p < 4) (hx : x = nI p) (hy : y = nI k) (hk : k < 20) : PM l9 G mX9_isGuarded NT NT [.ref 723, .int x, .int y] h (fun v h' => v = some (.int (bI (decide (f (103 + 4 * k) = 1)))) ∧ h' = h) noX := by
  refine PM.of (by decide +kernel) rfl rfl (Nat.le_of_ble_eq_true rfl) (fun hst _ => ?_)
  refine r_aload_n dX9_isGuarded_0 rfl ?_
  refine r_iload_n dX9_isGuarded_1 rfl ?_
  refine r_bipush (100) dX9_isGuarded_2 (by decide) ?_
  refine r_iconst (4) dX9_isGuarded_4 (by decide) ?_
  refine r_iload_n dX9_isGuarded_5 rfl ?_
  refine r_imul dX9_isGuarded_6 ?_
  refine r_iadd dX9_isGuarded_7 ?_
  refine r_iconst (3) dX9_isGuarded_8 (by decide) ?_
  refine r_iadd dX9_isGuarded_9 ?_
  refine q_callV2 (cv_X9_of ml_X9_81) hW kc_723 (by decide) rfl ⟨rfl, rfl⟩ rfl (Nat.le_of_ble_eq_true rfl) dX9_isGuarded_10 (c_X9_of hW hm hp hx (nadd (nadd kn_100 (nmul kn_4 hy)) kn_3) (by omega)) (fun v_10 h_10 q_10 => ?_)
  obtain ⟨rfl, z9⟩ := q_10
  replace z9 := z9.symm
  subst z9
  rw [show 100 + 4 * k + 3 = 103 + 4 * k from by omega]
  refine r_iconst (1) dX9_isGuarded_13 (by decide) ?_
  refine r_icmp_ne 21 dX9_isGuarded_14 (by decide) (fun c_14 => ?_) (fun c_14 => ?_)
  · refine r_iconst (0) dX9_isGuarded_21 (by decide) ?_
    refine r_zret dX9_isGuarded_22 rfl (by decide) ⟨Nat.zero_le _, Nat.zero_le _⟩ ?_
    first
      | exact ⟨some_int (dT c_14).symm, rfl⟩
      | exact ⟨some_int (dF c_14).symm, rfl⟩
      | exact ⟨some_int (dT (by first | exact c_14 | simpa using c_14)).symm, rfl⟩
  · refine r_iconst (1) dX9_isGuarded_17 (by decide) ?_
    refine r_goto 22 dX9_isGuarded_18 (by decide) ?_
    refine r_zret dX9_isGuarded_22 rfl (by decide) ⟨Nat.zero_le _, Nat.zero_le _⟩ ?_
    first
      | exact ⟨some_int (dT c_14).symm, rfl⟩
      | exact ⟨some_int (dF c_14).symm, rfl⟩
      | exact ⟨some_int (dT (by first | exact c_14 | simpa using c_14)).symm, rfl⟩

set_option maxRecDepth 100000 in
set_option maxHeartbeats 4000000 in
theorem c_X9_readyMany {l9 : Launch} {G : GC} {h : AH} {w : Nat → Int32} {v9 : Nat → Int64} {p : Nat} {f : Nat → Int32} {g : Nat → Int64} {c u : Nat} {x : Int32} (hW : World h) (hm : PV h w v9 p f g) (hp : p < 4) (hO : PoOK f g c u) (hx : x = nI p) : PM l9 G mX9_readyMany NT NT [.ref 723, .int x] h (fun v h' => v = some (.int (nI (pwN f (w 1)))) ∧ h' = h) noX := by
  refine PM.of (by decide +kernel) rfl rfl (Nat.le_of_ble_eq_true rfl) (fun hst _ => ?_)
  have y23 : nn (f 23) ≤ 20 := (hO.at 23).2.2
  have hl20 : (mbs f).length = nn (f 23) := mbs_len f
  rw [pwN_eq]
  obtain ⟨n9, k1, k2, k3⟩ := (hO.at 23).nat
  have k2b : n9 ≤ 20 := k2
  have en : nn (f 23) = n9 := by rw [k3]; exact nn_I (by omega)
  rw [en]
  rw [en] at y23 hl20
  refine r_iconst (0) dX9_readyMany_0 (by decide) ?_
  refine r_istore_n (ls2 := [_, some _, _, _]) dX9_readyMany_1 (by decide) rfl ?_
  refine r_iconst (0) dX9_readyMany_2 (by decide) ?_
  refine r_istore_n (ls2 := [_, _, some _, _]) dX9_readyMany_3 (by decide) rfl ?_
  refine loopN (P := fun i => i ≤ n9 → PW l9 G mX9_readyMany _ _ NT 4 [some (.ref 723), some (.int x), some (.int (nI (cn (fun k => decide (f (102 + 4 * k) ≤ w 1)) i))), some (.int (nI i))] [] (0, 0) h) n9 (fun i ih hi => ?_) 0 (Nat.zero_le _)
  refine r_iload_n dX9_readyMany_4 rfl ?_
  refine r_aload_n dX9_readyMany_5 rfl ?_
  refine r_iload_n dX9_readyMany_6 rfl ?_
  refine r_bipush (23) dX9_readyMany_7 (by decide) ?_
  refine q_callV2 (cv_X9_of ml_X9_81) hW kc_723 (by decide) rfl ⟨rfl, rfl⟩ rfl (Nat.le_of_ble_eq_true rfl) dX9_readyMany_9 (c_X9_of hW hm hp hx kn_23 (by omega)) (fun v_9 h_9 q_9 => ?_)
  obtain ⟨rfl, z9⟩ := q_9
  replace z9 := z9.symm
  subst z9
  rw [k3]
  refine r_icmp_ge 38 dX9_readyMany_12 (by decide) (fun c_12 => ?_) (fun c_12 => ?_)
  · have hge : n9 = i := by have := (nI_leI (by omega) (by omega)).mp c_12; omega
    refine r_iload_n dX9_readyMany_38 rfl ?_
    refine r_iret dX9_readyMany_39 rfl ⟨Nat.zero_le _, Nat.zero_le _⟩ ?_
    rw [hge]; exact ⟨rfl, rfl⟩
  · have hlt : i < n9 := (nI_ltI (by omega) (by omega)).mp (i_lt.mp c_12)
    refine r_iload_n dX9_readyMany_15 rfl ?_
    refine r_aload_n dX9_readyMany_16 rfl ?_
    refine r_iload_n dX9_readyMany_17 rfl ?_
    refine r_iload_n dX9_readyMany_18 rfl ?_
    refine q_callV2 (cv_X9_isReady ml_X9_91) hW kc_723 (by decide) rfl ⟨rfl, rfl⟩ rfl (Nat.le_of_ble_eq_true rfl) dX9_readyMany_19 (c_X9_isReady hW hm hp hx rfl (by omega)) (fun v_19 h_19 q_19 => ?_)
    obtain ⟨rfl, z9⟩ := q_19
    replace z9 := z9.symm
    subst z9
    refine r_if_eq 29 dX9_readyMany_22 (by decide) (fun c_22 => ?_) (fun c_22 => ?_)
    · refine r_iconst (0) dX9_readyMany_29 (by decide) ?_
      refine r_iadd dX9_readyMany_30 ?_
      refine r_istore_n (ls2 := [_, some _, _, _]) dX9_readyMany_31 (by decide) rfl ?_
      refine r_iinc (1) (by decide) (ls2 := [_, _, some _, _]) dX9_readyMany_32 rfl (by decide) rfl ?_
      refine r_goto 4 dX9_readyMany_35 (by decide) ?_
      simp only [nI_1]
      have hth := ih hlt hlt
      first
        | (rw [cn_f (P := fun k => decide (f (102 + 4 * k) ≤ w 1)) (bI_0.mp c_22)] at hth; rw [Int32.add_zero]; exact hth)
        | (rw [cn_t (P := fun k => decide (f (102 + 4 * k) ≤ w 1)) (bI_1.mp c_22)] at hth; exact hth)
    · refine r_iconst (1) dX9_readyMany_25 (by decide) ?_
      refine r_goto 30 dX9_readyMany_26 (by decide) ?_
      refine r_iadd dX9_readyMany_30 ?_
      refine r_istore_n (ls2 := [_, some _, _, _]) dX9_readyMany_31 (by decide) rfl ?_
      refine r_iinc (1) (by decide) (ls2 := [_, _, some _, _]) dX9_readyMany_32 rfl (by decide) rfl ?_
      refine r_goto 4 dX9_readyMany_35 (by decide) ?_
      simp only [nI_1]
      have hth := ih hlt hlt
      first
        | (rw [cn_f (P := fun k => decide (f (102 + 4 * k) ≤ w 1)) (bI_0.mp c_22)] at hth; rw [Int32.add_zero]; exact hth)
        | (rw [cn_t (P := fun k => decide (f (102 + 4 * k) ≤ w 1)) (bI_1.mp c_22)] at hth; exact hth)

set_option maxRecDepth 100000 in
set_option maxHeartbeats 4000000 in
theorem c_X9_guardedMany {l9 : Launch} {G : GC} {h : AH} {w : Nat → Int32} {v9 : Nat → Int64} {p : Nat} {f : Nat → Int32} {g : Nat → Int64} {c u : Nat} {x : Int32} (hW : World h) (hm : PV h w v9 p f g) (hp : p < 4) (hO : PoOK f g c u) (hx : x = nI p) : PM l9 G mX9_guardedMany NT NT [.ref 723, .int x] h (fun v h' => v = some (.int (nI (gdN f))) ∧ h' = h) noX := by
  refine PM.of (by decide +kernel) rfl rfl (Nat.le_of_ble_eq_true rfl) (fun hst _ => ?_)
  have y23 : nn (f 23) ≤ 20 := (hO.at 23).2.2
  have hl20 : (mbs f).length = nn (f 23) := mbs_len f
  rw [gdN_eq]
  obtain ⟨n9, k1, k2, k3⟩ := (hO.at 23).nat
  have k2b : n9 ≤ 20 := k2
  have en : nn (f 23) = n9 := by rw [k3]; exact nn_I (by omega)
  rw [en]
  rw [en] at y23 hl20
  refine r_iconst (0) dX9_guardedMany_0 (by decide) ?_
  refine r_istore_n (ls2 := [_, some _, _, _]) dX9_guardedMany_1 (by decide) rfl ?_
  refine r_iconst (0) dX9_guardedMany_2 (by decide) ?_
  refine r_istore_n (ls2 := [_, _, some _, _]) dX9_guardedMany_3 (by decide) rfl ?_
  refine loopN (P := fun i => i ≤ n9 → PW l9 G mX9_guardedMany _ _ NT 4 [some (.ref 723), some (.int x), some (.int (nI (cn (fun k => decide (f (103 + 4 * k) = 1)) i))), some (.int (nI i))] [] (0, 0) h) n9 (fun i ih hi => ?_) 0 (Nat.zero_le _)
  refine r_iload_n dX9_guardedMany_4 rfl ?_
  refine r_aload_n dX9_guardedMany_5 rfl ?_
  refine r_iload_n dX9_guardedMany_6 rfl ?_
  refine r_bipush (23) dX9_guardedMany_7 (by decide) ?_
  refine q_callV2 (cv_X9_of ml_X9_81) hW kc_723 (by decide) rfl ⟨rfl, rfl⟩ rfl (Nat.le_of_ble_eq_true rfl) dX9_guardedMany_9 (c_X9_of hW hm hp hx kn_23 (by omega)) (fun v_9 h_9 q_9 => ?_)
  obtain ⟨rfl, z9⟩ := q_9
  replace z9 := z9.symm
  subst z9
  rw [k3]
  refine r_icmp_ge 38 dX9_guardedMany_12 (by decide) (fun c_12 => ?_) (fun c_12 => ?_)
  · have hge : n9 = i := by have := (nI_leI (by omega) (by omega)).mp c_12; omega
    refine r_iload_n dX9_guardedMany_38 rfl ?_
    refine r_iret dX9_guardedMany_39 rfl ⟨Nat.zero_le _, Nat.zero_le _⟩ ?_
    rw [hge]; exact ⟨rfl, rfl⟩
  · have hlt : i < n9 := (nI_ltI (by omega) (by omega)).mp (i_lt.mp c_12)
    refine r_iload_n dX9_guardedMany_15 rfl ?_
    refine r_aload_n dX9_guardedMany_16 rfl ?_
    refine r_iload_n dX9_guardedMany_17 rfl ?_
    refine r_iload_n dX9_guardedMany_18 rfl ?_
    refine q_callV2 (cv_X9_isGuarded ml_X9_95) hW kc_723 (by decide) rfl ⟨rfl, rfl⟩ rfl (Nat.le_of_ble_eq_true rfl) dX9_guardedMany_19 (c_X9_isGuarded hW hm hp hx rfl (by omega)) (fun v_19 h_19 q_19 => ?_)
    obtain ⟨rfl, z9⟩ := q_19
    replace z9 := z9.symm
    subst z9
    refine r_if_eq 29 dX9_guardedMany_22 (by decide) (fun c_22 => ?_) (fun c_22 => ?_)
    · refine r_iconst (0) dX9_guardedMany_29 (by decide) ?_
      refine r_iadd dX9_guardedMany_30 ?_
      refine r_istore_n (ls2 := [_, some _, _, _]) dX9_guardedMany_31 (by decide) rfl ?_
      refine r_iinc (1) (by decide) (ls2 := [_, _, some _, _]) dX9_guardedMany_32 rfl (by decide) rfl ?_
      refine r_goto 4 dX9_guardedMany_35 (by decide) ?_
      simp only [nI_1]
      have hth := ih hlt hlt
      first
        | (rw [cn_f (P := fun k => decide (f (103 + 4 * k) = 1)) (bI_0.mp c_22)] at hth; rw [Int32.add_zero]; exact hth)
        | (rw [cn_t (P := fun k => decide (f (103 + 4 * k) = 1)) (bI_1.mp c_22)] at hth; exact hth)
    · refine r_iconst (1) dX9_guardedMany_25 (by decide) ?_
      refine r_goto 30 dX9_guardedMany_26 (by decide) ?_
      refine r_iadd dX9_guardedMany_30 ?_
      refine r_istore_n (ls2 := [_, some _, _, _]) dX9_guardedMany_31 (by decide) rfl ?_
      refine r_iinc (1) (by decide) (ls2 := [_, _, some _, _]) dX9_guardedMany_32 rfl (by decide) rfl ?_
      refine r_goto 4 dX9_guardedMany_35 (by decide) ?_
      simp only [nI_1]
      have hth := ih hlt hlt
      first
        | (rw [cn_f (P := fun k => decide (f (103 + 4 * k) = 1)) (bI_0.mp c_22)] at hth; rw [Int32.add_zero]; exact hth)
        | (rw [cn_t (P := fun k => decide (f (103 + 4 * k) = 1)) (bI_1.mp c_22)] at hth; exact hth)

set_option maxRecDepth 100000 in
set_option maxHeartbeats 4000000 in
theorem c_X9_power {l9 : Launch} {G : GC} {h : AH} {w : Nat → Int32} {v9 : Nat → Int64} {p : Nat} {f : Nat → Int32} {g : Nat → Int64} {c u : Nat} {x : Int32} (hW : World h) (hm : PV h w v9 p f g) (hp : p < 4) (hO : PoOK f g c u) (hx : x = nI p) : PM l9 G mX9_power NT NT [.ref 723, .int x] h (fun v h' => v = some (.int (pwF f (w 1))) ∧ h' = h) noX := by
  refine PM.of (by decide +kernel) rfl rfl (Nat.le_of_ble_eq_true rfl) (fun hst _ => ?_)
  refine r_aload_n dX9_power_0 rfl ?_
  refine r_iload_n dX9_power_1 rfl ?_
  refine r_iconst (2) dX9_power_2 (by decide) ?_
  refine q_callV2 (cv_X9_of ml_X9_81) hW kc_723 (by decide) rfl ⟨rfl, rfl⟩ rfl (Nat.le_of_ble_eq_true rfl) dX9_power_3 (c_X9_of hW hm hp hx kn_2 (by omega)) (fun v_3 h_3 q_3 => ?_)
  obtain ⟨rfl, z9⟩ := q_3
  replace z9 := z9.symm
  subst z9
  refine r_aload_n dX9_power_6 rfl ?_
  refine r_iload_n dX9_power_7 rfl ?_
  refine q_callV1 (cv_X9_readyMany ml_X9_98) hW kc_723 (by decide) rfl ⟨rfl, rfl⟩ rfl (Nat.le_of_ble_eq_true rfl) dX9_power_8 (c_X9_readyMany hW hm hp hO hx) (fun v_8 h_8 q_8 => ?_)
  obtain ⟨rfl, z9⟩ := q_8
  replace z9 := z9.symm
  subst z9
  refine r_imul dX9_power_11 ?_
  refine r_iret dX9_power_12 rfl ⟨Nat.zero_le _, Nat.zero_le _⟩ ?_
  exact ⟨rfl, rfl⟩

set_option maxRecDepth 100000 in
set_option maxHeartbeats 4000000 in
theorem c_X9_isAhead {l9 : Launch} {G : GC} {h : AH} {w : Nat → Int32} {v9 : Nat → Int64} {p : Nat} {f : Nat → Int32} {g : Nat → Int64} {c u : Nat} {a b : Nat} {x y z : Int32} (hW : World h) (hm : PV h w v9 p f g) (hp : p < 4) (hO : PoOK f g c u) (hx : x = nI p) (hy : y = nI a) (hz : z = nI b) (ha : a < nn (f 23)) (hb : b < nn (f 23)) : PM l9 G mX9_isAhead NT NT [.ref 723, .int x, .int y, .int z] h (fun v h' => v = some (.int (bI (ngB (mbs f) (f 9) a b))) ∧ h' = h) noX := by
  refine PM.of (by decide +kernel) rfl rfl (Nat.le_of_ble_eq_true rfl) (fun hst _ => ?_)
  have y23 : nn (f 23) ≤ 20 := (hO.at 23).2.2
  have hl20 : (mbs f).length = nn (f 23) := mbs_len f
  obtain ⟨n9, r1, r2, r3⟩ := (hO.at 9).nat
  have r4 : n9 ≤ 2 := r2
  have e0 : f 9 = 0 ↔ n9 = 0 := by rw [r3]; exact nI_eq (b := 0) (by omega) (by decide)
  have e1 : f 9 = 1 ↔ n9 = 1 := by rw [r3]; exact nI_eq (b := 1) (by omega) (by decide)
  have e2 : f 9 = 2 ↔ n9 = 2 := by rw [r3]; exact nI_eq (b := 2) (by omega) (by decide)
  unfold ngB
  rw [mbs_rdy ha, mbs_rdy hb]
  refine r_aload_n dX9_isAhead_0 rfl ?_
  refine r_iload_n dX9_isAhead_1 rfl ?_
  refine r_bipush (9) dX9_isAhead_2 (by decide) ?_
  refine q_callV2 (cv_X9_of ml_X9_81) hW kc_723 (by decide) rfl ⟨rfl, rfl⟩ rfl (Nat.le_of_ble_eq_true rfl) dX9_isAhead_4 (c_X9_of hW hm hp hx kn_9 (by omega)) (fun v_4 h_4 q_4 => ?_)
  obtain ⟨rfl, z9⟩ := q_4
  replace z9 := z9.symm
  subst z9
  refine r_istore (ls2 := [_, _, _, some _, _]) dX9_isAhead_7 (by decide) rfl ?_
  refine r_iload dX9_isAhead_9 rfl ?_
  refine r_if_ne 16 dX9_isAhead_11 (by decide) (fun c_11 => ?_) (fun c_11 => ?_)
  · refine r_iload dX9_isAhead_16 rfl ?_
    refine r_iconst (1) dX9_isAhead_18 (by decide) ?_
    refine r_icmp_eq 55 dX9_isAhead_19 (by decide) (fun c_19 => ?_) (fun c_19 => ?_)
    · refine r_iconst (0) dX9_isAhead_55 (by decide) ?_
      refine r_zret dX9_isAhead_56 rfl (by decide) ⟨Nat.zero_le _, Nat.zero_le _⟩ ?_
      first
        | (have z0 := e0.mp (by first | exact c_11 | simpa using c_11)
           rw [if_neg (fun q => absurd (e2.mp q) (by omega))]
           exact ⟨some_int (dT (e0.mpr z0)).symm, rfl⟩)
        | (have z0 : n9 = 1 := e1.mp (by first | exact c_19 | simpa using c_19)
           rw [if_neg (fun q => absurd (e2.mp q) (by omega))]
           exact ⟨some_int (dF (fun q => absurd (e0.mp q) (by omega))).symm, rfl⟩)
        | (have z0 : ¬ n9 = 0 := fun q => absurd (e0.mpr q) (by first | exact c_11 | simpa using c_11)
           have z1 : ¬ n9 = 1 := fun q => absurd (e1.mpr q) (by first | exact c_19 | simpa using c_19)
           rw [if_pos (e2.mpr (by omega))]
           first
             | exact ⟨some_int (dF (fun q => absurd c_48 (i_lt.mp.mt (fun _ => absurd q (Int32.not_le.mpr c_48))))).symm, rfl⟩
             | exact ⟨some_int (dF (Int32.not_le.mpr c_48)).symm, rfl⟩
             | exact ⟨some_int (dT (Int32.not_lt.mp c_48)).symm, rfl⟩)
    · refine r_aload_n dX9_isAhead_22 rfl ?_
      refine r_iload_n dX9_isAhead_23 rfl ?_
      refine r_bipush (100) dX9_isAhead_24 (by decide) ?_
      refine r_iconst (4) dX9_isAhead_26 (by decide) ?_
      refine r_iload_n dX9_isAhead_27 rfl ?_
      refine r_imul dX9_isAhead_28 ?_
      refine r_iadd dX9_isAhead_29 ?_
      refine r_iconst (2) dX9_isAhead_30 (by decide) ?_
      refine r_iadd dX9_isAhead_31 ?_
      refine q_callV2 (cv_X9_of ml_X9_81) hW kc_723 (by decide) rfl ⟨rfl, rfl⟩ rfl (Nat.le_of_ble_eq_true rfl) dX9_isAhead_32 (c_X9_of hW hm hp hx (nadd (nadd kn_100 (nmul kn_4 hy)) kn_2) (by omega)) (fun v_32 h_32 q_32 => ?_)
      obtain ⟨rfl, z9⟩ := q_32
      replace z9 := z9.symm
      subst z9
      rw [show 100 + 4 * a + 2 = 102 + 4 * a from by omega]
      refine r_aload_n dX9_isAhead_35 rfl ?_
      refine r_iload_n dX9_isAhead_36 rfl ?_
      refine r_bipush (100) dX9_isAhead_37 (by decide) ?_
      refine r_iconst (4) dX9_isAhead_39 (by decide) ?_
      refine r_iload_n dX9_isAhead_40 rfl ?_
      refine r_imul dX9_isAhead_41 ?_
      refine r_iadd dX9_isAhead_42 ?_
      refine r_iconst (2) dX9_isAhead_43 (by decide) ?_
      refine r_iadd dX9_isAhead_44 ?_
      refine q_callV2 (cv_X9_of ml_X9_81) hW kc_723 (by decide) rfl ⟨rfl, rfl⟩ rfl (Nat.le_of_ble_eq_true rfl) dX9_isAhead_45 (c_X9_of hW hm hp hx (nadd (nadd kn_100 (nmul kn_4 hz)) kn_2) (by omega)) (fun v_45 h_45 q_45 => ?_)
      obtain ⟨rfl, z9⟩ := q_45
      replace z9 := z9.symm
      subst z9
      rw [show 100 + 4 * b + 2 = 102 + 4 * b from by omega]
      refine r_icmp_lt 55 dX9_isAhead_48 (by decide) (fun c_48 => ?_) (fun c_48 => ?_)
      · refine r_iconst (0) dX9_isAhead_55 (by decide) ?_
        refine r_zret dX9_isAhead_56 rfl (by decide) ⟨Nat.zero_le _, Nat.zero_le _⟩ ?_
        first
          | (have z0 := e0.mp (by first | exact c_11 | simpa using c_11)
             rw [if_neg (fun q => absurd (e2.mp q) (by omega))]
             exact ⟨some_int (dT (e0.mpr z0)).symm, rfl⟩)
          | (have z0 : n9 = 1 := e1.mp (by first | exact c_19 | simpa using c_19)
             rw [if_neg (fun q => absurd (e2.mp q) (by omega))]
             exact ⟨some_int (dF (fun q => absurd (e0.mp q) (by omega))).symm, rfl⟩)
          | (have z0 : ¬ n9 = 0 := fun q => absurd (e0.mpr q) (by first | exact c_11 | simpa using c_11)
             have z1 : ¬ n9 = 1 := fun q => absurd (e1.mpr q) (by first | exact c_19 | simpa using c_19)
             rw [if_pos (e2.mpr (by omega))]
             first
               | exact ⟨some_int (dF (fun q => absurd c_48 (i_lt.mp.mt (fun _ => absurd q (Int32.not_le.mpr c_48))))).symm, rfl⟩
               | exact ⟨some_int (dF (Int32.not_le.mpr c_48)).symm, rfl⟩
               | exact ⟨some_int (dT (Int32.not_lt.mp c_48)).symm, rfl⟩)
      · refine r_iconst (1) dX9_isAhead_51 (by decide) ?_
        refine r_goto 56 dX9_isAhead_52 (by decide) ?_
        refine r_zret dX9_isAhead_56 rfl (by decide) ⟨Nat.zero_le _, Nat.zero_le _⟩ ?_
        first
          | (have z0 := e0.mp (by first | exact c_11 | simpa using c_11)
             rw [if_neg (fun q => absurd (e2.mp q) (by omega))]
             exact ⟨some_int (dT (e0.mpr z0)).symm, rfl⟩)
          | (have z0 : n9 = 1 := e1.mp (by first | exact c_19 | simpa using c_19)
             rw [if_neg (fun q => absurd (e2.mp q) (by omega))]
             exact ⟨some_int (dF (fun q => absurd (e0.mp q) (by omega))).symm, rfl⟩)
          | (have z0 : ¬ n9 = 0 := fun q => absurd (e0.mpr q) (by first | exact c_11 | simpa using c_11)
             have z1 : ¬ n9 = 1 := fun q => absurd (e1.mpr q) (by first | exact c_19 | simpa using c_19)
             rw [if_pos (e2.mpr (by omega))]
             first
               | exact ⟨some_int (dF (fun q => absurd c_48 (i_lt.mp.mt (fun _ => absurd q (Int32.not_le.mpr c_48))))).symm, rfl⟩
               | exact ⟨some_int (dF (Int32.not_le.mpr c_48)).symm, rfl⟩
               | exact ⟨some_int (dT (Int32.not_lt.mp c_48)).symm, rfl⟩)
  · refine r_iconst (1) dX9_isAhead_14 (by decide) ?_
    refine r_zret dX9_isAhead_15 rfl (by decide) ⟨Nat.zero_le _, Nat.zero_le _⟩ ?_
    first
      | (have z0 := e0.mp (by first | exact c_11 | simpa using c_11)
         rw [if_neg (fun q => absurd (e2.mp q) (by omega))]
         exact ⟨some_int (dT (e0.mpr z0)).symm, rfl⟩)
      | (have z0 : n9 = 1 := e1.mp (by first | exact c_19 | simpa using c_19)
         rw [if_neg (fun q => absurd (e2.mp q) (by omega))]
         exact ⟨some_int (dF (fun q => absurd (e0.mp q) (by omega))).symm, rfl⟩)
      | (have z0 : ¬ n9 = 0 := fun q => absurd (e0.mpr q) (by first | exact c_11 | simpa using c_11)
         have z1 : ¬ n9 = 1 := fun q => absurd (e1.mpr q) (by first | exact c_19 | simpa using c_19)
         rw [if_pos (e2.mpr (by omega))]
         first
           | exact ⟨some_int (dF (fun q => absurd c_48 (i_lt.mp.mt (fun _ => absurd q (Int32.not_le.mpr c_48))))).symm, rfl⟩
           | exact ⟨some_int (dF (Int32.not_le.mpr c_48)).symm, rfl⟩
           | exact ⟨some_int (dT (Int32.not_lt.mp c_48)).symm, rfl⟩)

set_option maxRecDepth 100000 in
set_option maxHeartbeats 4000000 in
theorem c_X9_dropped {l9 : Launch} {G : GC} {h : AH} {w : Nat → Int32} {v9 : Nat → Int64} {p : Nat} {f : Nat → Int32} {g : Nat → Int64} {c u : Nat} {x : Int32} (hW : World h) (hm : PV h w v9 p f g) (hp : p < 4) (hO : PoOK f g c u) (hx : x = nI p) : PM l9 G mX9_dropped NT NT [.ref 723, .int x] h (fun v h' => v = some (.int (oI (ng (mbs f) (f 9) (mbs f).length))) ∧ h' = h) noX := by
  refine PM.of (by decide +kernel) rfl rfl (Nat.le_of_ble_eq_true rfl) (fun hst _ => ?_)
  have y23 : nn (f 23) ≤ 20 := (hO.at 23).2.2
  have hl20 : (mbs f).length = nn (f 23) := mbs_len f
  rw [hl20]
  obtain ⟨n9, k1, k2, k3⟩ := (hO.at 23).nat
  have k2b : n9 ≤ 20 := k2
  have en : nn (f 23) = n9 := by rw [k3]; exact nn_I (by omega)
  rw [en]
  refine r_iconst (-1) dX9_dropped_0 (by decide) ?_
  refine r_istore_n (ls2 := [_, some _, _, _]) dX9_dropped_1 (by decide) rfl ?_
  refine r_iconst (0) dX9_dropped_2 (by decide) ?_
  refine r_istore_n (ls2 := [_, _, some _, _]) dX9_dropped_3 (by decide) rfl ?_
  refine loopN (P := fun i => i ≤ n9 → PW l9 G mX9_dropped _ _ NT 4 [some (.ref 723), some (.int x), some (.int (oI (ng (mbs f) (f 9) i))), some (.int (nI i))] [] (0, 0) h) n9 (fun i ih hi => ?_) 0 (Nat.zero_le _)
  refine r_iload_n dX9_dropped_4 rfl ?_
  refine r_aload_n dX9_dropped_5 rfl ?_
  refine r_iload_n dX9_dropped_6 rfl ?_
  refine r_bipush (23) dX9_dropped_7 (by decide) ?_
  refine q_callV2 (cv_X9_of ml_X9_81) hW kc_723 (by decide) rfl ⟨rfl, rfl⟩ rfl (Nat.le_of_ble_eq_true rfl) dX9_dropped_9 (c_X9_of hW hm hp hx kn_23 (by omega)) (fun v_9 h_9 q_9 => ?_)
  obtain ⟨rfl, z9⟩ := q_9
  replace z9 := z9.symm
  subst z9
  rw [k3]
  refine r_icmp_ge 47 dX9_dropped_12 (by decide) (fun c_12 => ?_) (fun c_12 => ?_)
  · have hge : n9 = i := by have := (nI_leI (by omega) (by omega)).mp c_12; omega
    refine r_iload_n dX9_dropped_47 rfl ?_
    refine r_iret dX9_dropped_48 rfl ⟨Nat.zero_le _, Nat.zero_le _⟩ ?_
    rw [hge]; exact ⟨rfl, rfl⟩
  · have hlt9 : i < n9 := (nI_ltI (by omega) (by omega)).mp (i_lt.mp c_12)
    have hlt : i < nn (f 23) := by omega
    have hth := ih hlt9 hlt9
    have hg := mbs_prt hlt
    refine r_aload_n dX9_dropped_15 rfl ?_
    refine r_iload_n dX9_dropped_16 rfl ?_
    refine r_iload_n dX9_dropped_17 rfl ?_
    refine q_callV2 (cv_X9_isGuarded ml_X9_95) hW kc_723 (by decide) rfl ⟨rfl, rfl⟩ rfl (Nat.le_of_ble_eq_true rfl) dX9_dropped_18 (c_X9_isGuarded hW hm hp hx rfl (by omega)) (fun v_18 h_18 q_18 => ?_)
    obtain ⟨rfl, z9⟩ := q_18
    replace z9 := z9.symm
    subst z9
    refine r_if_ne 41 dX9_dropped_21 (by decide) (fun c_21 => ?_) (fun c_21 => ?_)
    · refine r_iinc (1) (by decide) (ls2 := [_, _, some _, _]) dX9_dropped_41 rfl (by decide) rfl ?_
      refine r_goto 4 dX9_dropped_44 (by decide) ?_
      simp only [nI_1]
      first
        | (have hg2 := hg.trans (bI_1.mp c_21)
           rw [ng_p hg2] at hth; exact hth)
        | (have hg2 := hg.trans (bI_0.mp c_21)
           first
             | (have hno : ng (mbs f) (f 9) i = none := (oI_m1 (fun k hk => by have := ng_lt hk; omega)).mp (by first | exact c_26 | simpa using c_26)
                rw [ng_n hg2 hno] at hth; exact hth)
             | (rw [ng_s hg2 hb9, if_pos (bI_1.mp c_36)] at hth; exact hth)
             | (rw [ng_s hg2 hb9, if_neg (by rw [bI_0.mp c_36]; decide)] at hth; exact hth))
    · refine r_iload_n dX9_dropped_24 rfl ?_
      refine r_iconst (-1) dX9_dropped_25 (by decide) ?_
      refine r_icmp_eq 39 dX9_dropped_26 (by decide) (fun c_26 => ?_) (fun c_26 => ?_)
      · refine r_iload_n dX9_dropped_39 rfl ?_
        refine r_istore_n (ls2 := [_, some _, _, _]) dX9_dropped_40 (by decide) rfl ?_
        refine r_iinc (1) (by decide) (ls2 := [_, _, some _, _]) dX9_dropped_41 rfl (by decide) rfl ?_
        refine r_goto 4 dX9_dropped_44 (by decide) ?_
        simp only [nI_1]
        first
          | (have hg2 := hg.trans (bI_1.mp c_21)
             rw [ng_p hg2] at hth; exact hth)
          | (have hg2 := hg.trans (bI_0.mp c_21)
             first
               | (have hno : ng (mbs f) (f 9) i = none := (oI_m1 (fun k hk => by have := ng_lt hk; omega)).mp (by first | exact c_26 | simpa using c_26)
                  rw [ng_n hg2 hno] at hth; exact hth)
               | (rw [ng_s hg2 hb9, if_pos (bI_1.mp c_36)] at hth; exact hth)
               | (rw [ng_s hg2 hb9, if_neg (by rw [bI_0.mp c_36]; decide)] at hth; exact hth))
      · obtain ⟨b, hb9⟩ : ∃ b, ng (mbs f) (f 9) i = some b := by
          cases hq : ng (mbs f) (f 9) i with
          | none => rw [hq] at c_26; exact absurd rfl c_26
          | some b => exact ⟨b, rfl⟩
        have hbl := ng_lt hb9
        rw [hb9]
        refine r_aload_n dX9_dropped_29 rfl ?_
        refine r_iload_n dX9_dropped_30 rfl ?_
        refine r_iload_n dX9_dropped_31 rfl ?_
        refine r_iload_n dX9_dropped_32 rfl ?_
        refine q_callV3 (cv_X9_isAhead ml_X9_102) hW kc_723 (by decide) rfl ⟨rfl, rfl⟩ rfl (Nat.le_of_ble_eq_true rfl) dX9_dropped_33 (c_X9_isAhead hW hm hp hO hx rfl rfl hlt (by omega)) (fun v_33 h_33 q_33 => ?_)
        obtain ⟨rfl, z9⟩ := q_33
        replace z9 := z9.symm
        subst z9
        refine r_if_eq 41 dX9_dropped_36 (by decide) (fun c_36 => ?_) (fun c_36 => ?_)
        · refine r_iinc (1) (by decide) (ls2 := [_, _, some _, _]) dX9_dropped_41 rfl (by decide) rfl ?_
          refine r_goto 4 dX9_dropped_44 (by decide) ?_
          simp only [nI_1]
          first
            | (have hg2 := hg.trans (bI_1.mp c_21)
               rw [ng_p hg2] at hth; exact hth)
            | (have hg2 := hg.trans (bI_0.mp c_21)
               first
                 | (have hno : ng (mbs f) (f 9) i = none := (oI_m1 (fun k hk => by have := ng_lt hk; omega)).mp (by first | exact c_26 | simpa using c_26)
                    rw [ng_n hg2 hno] at hth; exact hth)
                 | (rw [ng_s hg2 hb9, if_pos (bI_1.mp c_36)] at hth; exact hth)
                 | (rw [ng_s hg2 hb9, if_neg (by rw [bI_0.mp c_36]; decide)] at hth; exact hth))
        · refine r_iload_n dX9_dropped_39 rfl ?_
          refine r_istore_n (ls2 := [_, some _, _, _]) dX9_dropped_40 (by decide) rfl ?_
          refine r_iinc (1) (by decide) (ls2 := [_, _, some _, _]) dX9_dropped_41 rfl (by decide) rfl ?_
          refine r_goto 4 dX9_dropped_44 (by decide) ?_
          simp only [nI_1]
          first
            | (have hg2 := hg.trans (bI_1.mp c_21)
               rw [ng_p hg2] at hth; exact hth)
            | (have hg2 := hg.trans (bI_0.mp c_21)
               first
                 | (have hno : ng (mbs f) (f 9) i = none := (oI_m1 (fun k hk => by have := ng_lt hk; omega)).mp (by first | exact c_26 | simpa using c_26)
                    rw [ng_n hg2 hno] at hth; exact hth)
                 | (rw [ng_s hg2 hb9, if_pos (bI_1.mp c_36)] at hth; exact hth)
                 | (rw [ng_s hg2 hb9, if_neg (by rw [bI_0.mp c_36]; decide)] at hth; exact hth))

set_option maxRecDepth 100000 in
set_option maxHeartbeats 4000000 in
theorem c_X9_told {l9 : Launch} {G : GC} {h : AH} {w : Nat → Int32} {v9 : Nat → Int64} {p : Nat} {f : Nat → Int32} {g : Nat → Int64} {c u : Nat} {t : Nat} {x y : Int32} (hW : World h) (hm : PV h w v9 p f g) (hp : p < 4) (hO : PoOK f g c u) (hx : x = nI p) (hy : y = nI t) (ht : t < 2 ^ 31) : PM l9 G mX9_told NT NT [.ref 723, .int x, .int y] h (fun v h' => v = some (.int (ldA (lds f) t)) ∧ h' = h) noX := by
  refine PM.of (by decide +kernel) rfl rfl (Nat.le_of_ble_eq_true rfl) (fun hst _ => ?_)
  have y24 : nn (f 24) ≤ 24 := (hO.at 24).2.2
  have e24 : f 24 = nI (nn (f 24)) := (hO.at 24).1
  have hz : f 24 = 0 ↔ nn (f 24) = 0 := by rw [e24, nn_I (by omega)]; exact nI_eq (b := 0) (by omega) (by decide)
  unfold ldA
  rw [lds_len]
  refine r_aload_n dX9_told_0 rfl ?_
  refine r_iload_n dX9_told_1 rfl ?_
  refine r_bipush (24) dX9_told_2 (by decide) ?_
  refine q_callV2 (cv_X9_of ml_X9_81) hW kc_723 (by decide) rfl ⟨rfl, rfl⟩ rfl (Nat.le_of_ble_eq_true rfl) dX9_told_4 (c_X9_of hW hm hp hx kn_24 (by omega)) (fun v_4 h_4 q_4 => ?_)
  obtain ⟨rfl, z9⟩ := q_4
  replace z9 := z9.symm
  subst z9
  refine r_if_ne 14 dX9_told_7 (by decide) (fun c_7 => ?_) (fun c_7 => ?_)
  · have h0 : 0 < nn (f 24) := Nat.pos_of_ne_zero (fun q => c_7 (hz.mpr q))
    have hm9 := Nat.mod_lt t h0
    refine r_aload_n dX9_told_14 rfl ?_
    refine r_iload_n dX9_told_15 rfl ?_
    refine r_bipush (36) dX9_told_16 (by decide) ?_
    refine r_iload_n dX9_told_18 rfl ?_
    refine r_aload_n dX9_told_19 rfl ?_
    refine r_iload_n dX9_told_20 rfl ?_
    refine r_bipush (24) dX9_told_21 (by decide) ?_
    refine q_callV2 (cv_X9_of ml_X9_81) hW kc_723 (by decide) rfl ⟨rfl, rfl⟩ rfl (Nat.le_of_ble_eq_true rfl) dX9_told_23 (c_X9_of hW hm hp hx kn_24 (by omega)) (fun v_23 h_23 q_23 => ?_)
    obtain ⟨rfl, z9⟩ := q_23
    replace z9 := z9.symm
    subst z9
    refine r_irem dX9_told_26 (fun q => absurd q c_7) ?_
    refine r_iadd dX9_told_27 ?_
    refine q_callV2 (cv_X9_of ml_X9_81) hW kc_723 (by decide) rfl ⟨rfl, rfl⟩ rfl (Nat.le_of_ble_eq_true rfl) dX9_told_28 (c_X9_of hW hm hp hx (nadd kn_36 (nrem hy (hO.at 24).1 (by omega) (by omega) (by omega))) (by omega)) (fun v_28 h_28 q_28 => ?_)
    obtain ⟨rfl, z9⟩ := q_28
    replace z9 := z9.symm
    subst z9
    refine r_iret dX9_told_31 rfl ⟨Nat.zero_le _, Nat.zero_le _⟩ ?_
    first
      | (rw [if_pos (hz.mp (by first | exact c_7 | simpa using c_7))]; exact ⟨rfl, rfl⟩)
      | (rw [if_neg (by omega), lds_at hm9]; exact ⟨rfl, rfl⟩)
  · refine r_iconst (0) dX9_told_10 (by decide) ?_
    refine r_goto 31 dX9_told_11 (by decide) ?_
    refine r_iret dX9_told_31 rfl ⟨Nat.zero_le _, Nat.zero_le _⟩ ?_
    first
      | (rw [if_pos (hz.mp (by first | exact c_7 | simpa using c_7))]; exact ⟨rfl, rfl⟩)
      | (rw [if_neg (by omega), lds_at hm9]; exact ⟨rfl, rfl⟩)

set_option maxRecDepth 100000 in
set_option maxHeartbeats 4000000 in
theorem c_X9_back {l9 : Launch} {G : GC} {h : AH} {w : Nat → Int32} {v9 : Nat → Int64} {p : Nat} {f : Nat → Int32} {g : Nat → Int64} {c u : Nat} {b : Nat} {x y : Int32} (hW : World h) (hm : PV h w v9 p f g) (hp : p < 4) (hO : PoOK f g c u) (hx : x = nI p) (hy : y = nI b) (hb : b < c) : PM l9 G mX9_back NT NT [.ref 723, .int x, .int y] h (fun v h' => v = some (.int (bk f c b)) ∧ h' = h) noX := by
  refine PM.of (by decide +kernel) rfl rfl (Nat.le_of_ble_eq_true rfl) (fun hst _ => ?_)
  have yc := hO.2.2.2.2.1.2.1
  refine r_aload_n dX9_back_0 rfl ?_
  refine r_iload_n dX9_back_1 rfl ?_
  refine r_bipush (60) dX9_back_2 (by decide) ?_
  refine r_aload_n dX9_back_4 rfl ?_
  refine r_iload_n dX9_back_5 rfl ?_
  refine r_bipush (29) dX9_back_6 (by decide) ?_
  skip
  refine q_callV2 (cv_X9_of ml_X9_81) hW kc_723 (by decide) rfl ⟨rfl, rfl⟩ rfl (Nat.le_of_ble_eq_true rfl) dX9_back_8 (c_X9_of hW hm hp hx kn_29 (by omega)) (fun v_8 h_8 q_8 => ?_)
  obtain ⟨rfl, z9⟩ := q_8
  replace z9 := z9.symm
  subst z9
  refine r_iconst (1) dX9_back_11 (by decide) ?_
  refine r_isub dX9_back_12 ?_
  refine r_iload_n dX9_back_13 rfl ?_
  refine r_isub dX9_back_14 ?_
  refine r_bipush (24) dX9_back_15 (by decide) ?_
  refine r_irem dX9_back_17 (by decide) ?_
  refine r_iadd dX9_back_18 ?_
  refine q_callV2 (cv_X9_of ml_X9_81) hW kc_723 (by decide) rfl ⟨rfl, rfl⟩ rfl (Nat.le_of_ble_eq_true rfl) dX9_back_19 (c_X9_of hW hm hp hx (nadd kn_60 (nrem (nsub (nsub hO.2.2.2.2.1.1 kn_1 (by omega)) hy (by omega)) kn_24 (by omega) (by omega) (by omega))) (by omega)) (fun v_19 h_19 q_19 => ?_)
  obtain ⟨rfl, z9⟩ := q_19
  replace z9 := z9.symm
  subst z9
  refine r_iret dX9_back_22 rfl ⟨Nat.zero_le _, Nat.zero_le _⟩ ?_
  exact ⟨rfl, rfl⟩

set_option maxRecDepth 100000 in
set_option maxHeartbeats 4000000 in
theorem c_X9_windowOf {l9 : Launch} {G : GC} {h : AH} {w : Nat → Int32} {v9 : Nat → Int64} {p : Nat} {f : Nat → Int32} {g : Nat → Int64} {c u : Nat} {x : Int32} (hW : World h) (hm : PV h w v9 p f g) (hp : p < 4) (hO : PoOK f g c u) (hx : x = nI p) : PM l9 G mX9_windowOf NT NT [.ref 723, .int x] h (fun v h' => v = some (.int (nI (wn f c))) ∧ h' = h) noX := by
  refine PM.of (by decide +kernel) rfl rfl (Nat.le_of_ble_eq_true rfl) (fun hst _ => ?_)
  have yc := hO.2.2.2.2.1.2.1
  have y5 : nn (f 5) ≤ 8 := (hO.at 5).2.2
  refine r_aload_n dX9_windowOf_0 rfl ?_
  refine r_iload_n dX9_windowOf_1 rfl ?_
  refine r_iconst (5) dX9_windowOf_2 (by decide) ?_
  refine q_callV2 (cv_X9_of ml_X9_81) hW kc_723 (by decide) rfl ⟨rfl, rfl⟩ rfl (Nat.le_of_ble_eq_true rfl) dX9_windowOf_3 (c_X9_of hW hm hp hx kn_5 (by omega)) (fun v_3 h_3 q_3 => ?_)
  obtain ⟨rfl, z9⟩ := q_3
  replace z9 := z9.symm
  subst z9
  refine r_aload_n dX9_windowOf_6 rfl ?_
  refine r_iload_n dX9_windowOf_7 rfl ?_
  refine r_bipush (29) dX9_windowOf_8 (by decide) ?_
  refine q_callV2 (cv_X9_of ml_X9_81) hW kc_723 (by decide) rfl ⟨rfl, rfl⟩ rfl (Nat.le_of_ble_eq_true rfl) dX9_windowOf_10 (c_X9_of hW hm hp hx kn_29 (by omega)) (fun v_10 h_10 q_10 => ?_)
  obtain ⟨rfl, z9⟩ := q_10
  replace z9 := z9.symm
  subst z9
  refine q_min mm_X9_106 rfl (Nat.le_of_ble_eq_true rfl) dX9_windowOf_13 ?_
  rw [(hO.at 5).1, hO.2.2.2.2.1.1, imn_I (by omega) (by omega)]
  refine r_iret dX9_windowOf_16 rfl ⟨Nat.zero_le _, Nat.zero_le _⟩ ?_
  exact ⟨rfl, rfl⟩

set_option maxRecDepth 100000 in
set_option maxHeartbeats 4000000 in
theorem c_X9_windowSum {l9 : Launch} {G : GC} {h : AH} {w : Nat → Int32} {v9 : Nat → Int64} {p : Nat} {f : Nat → Int32} {g : Nat → Int64} {c u : Nat} {x : Int32} (hW : World h) (hm : PV h w v9 p f g) (hp : p < 4) (hO : PoOK f g c u) (hx : x = nI p) : PM l9 G mX9_windowSum NT NT [.ref 723, .int x] h (fun v h' => v = some (.int (ws f c (wn f c))) ∧ h' = h) noX := by
  refine PM.of (by decide +kernel) rfl rfl (Nat.le_of_ble_eq_true rfl) (fun hst _ => ?_)
  have yc := hO.2.2.2.2.1.2.1
  obtain ⟨y8, yw, yw0⟩ := wn_le (c := c) (hO.at 5)
  refine r_iconst (0) dX9_windowSum_0 (by decide) ?_
  refine r_istore_n (ls2 := [_, some _, _, _]) dX9_windowSum_1 (by decide) rfl ?_
  refine r_iconst (0) dX9_windowSum_2 (by decide) ?_
  refine r_istore_n (ls2 := [_, _, some _, _]) dX9_windowSum_3 (by decide) rfl ?_
  refine loopN (P := fun i => i ≤ wn f c → PW l9 G mX9_windowSum _ _ NT 4 [some (.ref 723), some (.int x), some (.int (ws f c i)), some (.int (nI i))] [] (0, 0) h) (wn f c) (fun i ih hi => ?_) 0 (Nat.zero_le _)
  refine r_iload_n dX9_windowSum_4 rfl ?_
  refine r_aload_n dX9_windowSum_5 rfl ?_
  refine r_iload_n dX9_windowSum_6 rfl ?_
  refine q_callV1 (cv_X9_windowOf ml_X9_111) hW kc_723 (by decide) rfl ⟨rfl, rfl⟩ rfl (Nat.le_of_ble_eq_true rfl) dX9_windowSum_7 (c_X9_windowOf hW hm hp hO hx) (fun v_7 h_7 q_7 => ?_)
  obtain ⟨rfl, z9⟩ := q_7
  replace z9 := z9.symm
  subst z9
  refine r_icmp_ge 28 dX9_windowSum_10 (by decide) (fun c_10 => ?_) (fun c_10 => ?_)
  · have hge : wn f c = i := by have := (nI_leI (by omega) (by omega)).mp c_10; omega
    refine r_iload_n dX9_windowSum_28 rfl ?_
    refine r_iret dX9_windowSum_29 rfl ⟨Nat.zero_le _, Nat.zero_le _⟩ ?_
    rw [hge]; exact ⟨rfl, rfl⟩
  · have hlt : i < wn f c := (nI_ltI (by omega) (by omega)).mp (i_lt.mp c_10)
    refine r_iload_n dX9_windowSum_13 rfl ?_
    refine r_aload_n dX9_windowSum_14 rfl ?_
    refine r_iload_n dX9_windowSum_15 rfl ?_
    refine r_iload_n dX9_windowSum_16 rfl ?_
    refine q_callV2 (cv_X9_back ml_X9_114) hW kc_723 (by decide) rfl ⟨rfl, rfl⟩ rfl (Nat.le_of_ble_eq_true rfl) dX9_windowSum_17 (c_X9_back hW hm hp hO hx rfl (by omega)) (fun v_17 h_17 q_17 => ?_)
    obtain ⟨rfl, z9⟩ := q_17
    replace z9 := z9.symm
    subst z9
    refine r_iadd dX9_windowSum_20 ?_
    refine r_istore_n (ls2 := [_, some _, _, _]) dX9_windowSum_21 (by decide) rfl ?_
    refine r_iinc (1) (by decide) (ls2 := [_, _, some _, _]) dX9_windowSum_22 rfl (by decide) rfl ?_
    refine r_goto 4 dX9_windowSum_25 (by decide) ?_
    rw [nI_1]
    exact ih hlt hlt
