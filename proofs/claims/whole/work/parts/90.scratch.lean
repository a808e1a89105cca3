-- the reference: what a pool tells by its row
theorem pwN_eq {f : Nat → Int32} {t : Int32} : pwN f t = cn (fun k => decide (f (102 + 4 * k) ≤ t)) (nn (f 23)) := by
  unfold pwN
  rw [mbs_len]
  exact cn_cg (fun k hk => by rw [mbs_rdy hk])
def gdN (f : Nat → Int32) : Nat := cn (fun k => mPrt (mbs f) k) (mbs f).length
theorem gdN_eq {f : Nat → Int32} : gdN f = cn (fun k => decide (f (103 + 4 * k) = 1)) (nn (f 23)) := by
  unfold gdN
  rw [mbs_len]
  exact cn_cg (fun k hk => by rw [mbs_prt hk])
set_option maxRecDepth 100000 in
set_option maxHeartbeats 4000000 in
theorem c_X9_isReady {l9 : Launch} {G : GC} {h : AH} {w : Nat → Int32} {v9 : Nat → Int64} {p : Nat} {f : Nat → Int32} {g : Nat → Int64} {k : Nat} {x y : Int32} (hW : World h) (hm : PV h w v9 p f g) (hp : p < 4) (hx : x = nI p) (hy : y = nI k) (hk : k < 20) : PM l9 G mX9_isReady NT NT [.ref 723, .int x, .int y] h (fun v h' => v = some (.int (bI (decide (f (102 + 4 * k) ≤ w 1)))) ∧ h' = h) noX := by
  refine PM.of (by decide +kernel) rfl rfl (Nat.le_of_ble_eq_true rfl) (fun hst _ => ?_)
  refine r_aload_n dX9_isReady_0 rfl ?_
  refine r_iload_n dX9_isReady_1 rfl ?_
  refine r_bipush (100) dX9_isReady_2 (by decide) ?_
  refine r_iconst (4) dX9_isReady_4 (by decide) ?_
  refine r_iload_n dX9_isReady_5 rfl ?_
  refine r_imul dX9_isReady_6 ?_
  refine r_iadd dX9_isReady_7 ?_
  refine r_iconst (2) dX9_isReady_8 (by decide) ?_
  refine r_iadd dX9_isReady_9 ?_
  refine q_callV2 (cv_X9_of ml_X9_81) hW kc_723 (by decide) rfl ⟨rfl, rfl⟩ rfl (Nat.le_of_ble_eq_true rfl) dX9_isReady_10 (c_X9_of hW hm hp hx (nadd (nadd kn_100 (nmul kn_4 hy)) kn_2) (by omega)) (fun v_10 h_10 q_10 => ?_)
  obtain ⟨rfl, z9⟩ := q_10
  replace z9 := z9.symm
  subst z9
  rw [show 100 + 4 * k + 2 = 102 + 4 * k from by omega]
  refine r_aload_n dX9_isReady_13 rfl ?_
  refine q_getR fl_X9_7 hW kc_723 rfl (kl_9_0 hW) (by decide) dX9_isReady_14 ?_
  refine r_iconst (1) dX9_isReady_17 (by decide) ?_
  refine q_wldPV hW hm kn_1 (by omega) dX9_isReady_18 ?_
  refine r_icmp_gt 26 dX9_isReady_19 (by decide) (fun c_19 => ?_) (fun c_19 => ?_)
  · refine r_iconst (0) dX9_isReady_26 (by decide) ?_
    refine r_zret dX9_isReady_27 rfl (by decide) ⟨Nat.zero_le _, Nat.zero_le _⟩ ?_
    first
      | exact ⟨some_int (dT (i_le.mp c_19)).symm, rfl⟩
      | exact ⟨some_int (dF (fun q => absurd c_19 (i_le.mpr q))).symm, rfl⟩
  · refine r_iconst (1) dX9_isReady_22 (by decide) ?_
    refine r_goto 27 dX9_isReady_23 (by decide) ?_
    refine r_zret dX9_isReady_27 rfl (by decide) ⟨Nat.zero_le _, Nat.zero_le _⟩ ?_
    first
      | exact ⟨some_int (dT (i_le.mp c_19)).symm, rfl⟩
      | exact ⟨some_int (dF (fun q => absurd c_19 (i_le.mpr q))).symm, rfl⟩

set_option maxRecDepth 100000 in
set_option maxHeartbeats 4000000 in
theorem c_X9_isGuarded {l9 : Launch} {G : GC} {h : AH} {w : Nat → Int32} {v9 : Nat → Int64} {p : Nat} {f : Nat → Int32} {g : Nat → Int64} {k : Nat} {x y : Int32} (hW : World h) (hm : PV h w v9 p f g) (hp : p < 4) (hx : x = nI p) (hy : y = nI k) (hk : k < 20) : PM l9 G mX9_isGuarded NT NT [.ref 723, .int x, .int y] h (fun v h' => v = some (.int (bI (decide (f (103 + 4 * k) = 1)))) ∧ h' = h) noX := by
  refine PM.of (by decide +kernel) rfl rfl (Nat.le_of_ble_eq_true rfl) (fun hst _ => ?_)
  refine r_aload_n dX9_isGuarded_0 rfl ?_
  refine r_iload_n dX9_isGuarded_1 rfl ?_
  refine r_bipush (100) dX9_isGuarded_2 (by decide) ?_
  refine r_iconst (4) dX9_isGuarded_4 (by decide) ?_
  refine r_iload_n dX9_isGuarded_5 rfl ?_
  refine r_imul dX9_isGuarded_6 ?_
  refine r_iadd dX9_isGuarded_7 ?_
  refine r_iconst (3) dX9_isGuarded_8 (by decide) ?_
  refine r_iadd dX9_isGuarded_9 ?_
  refine q_callV2 (cv_X9_of ml_X9_81) hW kc_723 (by decide) rfl ⟨rfl, rfl⟩ rfl (Nat.le_of_ble_eq_true rfl) dX9_isGuarded_10 (c_X9_of hW hm hp hx (nadd (nadd kn_100 (nmul kn_4 hy)) kn_3) (by omega)) (fun v_10 h_10 q_10 => ?_)
  obtain ⟨rfl, z9⟩ := q_10
  replace z9 := z9.symm
  subst z9
  rw [show 100 + 4 * k + 3 = 103 + 4 * k from by omega]
  refine r_iconst (1) dX9_isGuarded_13 (by decide) ?_
  refine r_icmp_ne 21 dX9_isGuarded_14 (by decide) (fun c_14 => ?_) (fun c_14 => ?_)
  · refine r_iconst (0) dX9_isGuarded_21 (by decide) ?_
    refine r_zret dX9_isGuarded_22 rfl (by decide) ⟨Nat.zero_le _, Nat.zero_le _⟩ ?_
    first
      | exact ⟨some_int (dT c_14).symm, rfl⟩
      | exact ⟨some_int (dF c_14).symm, rfl⟩
      | exact ⟨some_int (dT (by first | exact c_14 | simpa using c_14)).symm, rfl⟩
  · refine r_iconst (1) dX9_isGuarded_17 (by decide) ?_
    refine r_goto 22 dX9_isGuarded_18 (by decide) ?_
    refine r_zret dX9_isGuarded_22 rfl (by decide) ⟨Nat.zero_le _, Nat.zero_le _⟩ ?_
    first
      | exact ⟨some_int (dT c_14).symm, rfl⟩
      | exact ⟨some_int (dF c_14).symm, rfl⟩
      | exact ⟨some_int (dT (by first | exact c_14 | simpa using c_14)).symm, rfl⟩

set_option maxRecDepth 100000 in
set_option maxHeartbeats 4000000 in
theorem c_X9_readyMany {l9 : Launch} {G : GC} {h : AH} {w : Nat → Int32} {v9 : Nat → Int64} {p : Nat} {f : Nat → Int32} {g : Nat → Int64} {c u : Nat} {x : Int32} (hW : World h) (hm : PV h w v9 p f g) (hp : p < 4) (hO : PoOK f g c u) (hx : x = nI p) : PM l9 G mX9_readyMany NT NT [.ref 723, .int x] h (fun v h' => v = some (.int (nI (pwN f (w 1)))) ∧ h' = h) noX := by
  refine PM.of (by decide +kernel) rfl rfl (Nat.le_of_ble_eq_true rfl) (fun hst _ => ?_)
  have y23 : nn (f 23) ≤ 20 := (hO.at 23).2.2
  have hl20 : (mbs f).length = nn (f 23) := mbs_len f
  rw [pwN_eq]
  obtain ⟨n9, k1, k2, k3⟩ := (hO.at 23).nat
  have k2b : n9 ≤ 20 := k2
  have en : nn (f 23) = n9 := by rw [k3]; exact nn_I (by omega)
  rw [en]
  rw [en] at y23 hl20
  refine r_iconst (0) dX9_readyMany_0 (by decide) ?_
  refine r_istore_n (ls2 := [_, some _, _, _]) dX9_readyMany_1 (by decide) rfl ?_
  refine r_iconst (0) dX9_readyMany_2 (by decide) ?_
  refine r_istore_n (ls2 := [_, _, some _, _]) dX9_readyMany_3 (by decide) rfl ?_
  refine loopN (P := fun i => i ≤ n9 → PW l9 G mX9_readyMany _ _ NT 4 [some (.ref 723), some (.int x), some (.int (nI (cn (fun k => decide (f (102 + 4 * k) ≤ w 1)) i))), some (.int (nI i))] [] (0, 0) h) n9 (fun i ih hi => ?_) 0 (Nat.zero_le _)
  refine r_iload_n dX9_readyMany_4 rfl ?_
  refine r_aload_n dX9_readyMany_5 rfl ?_
  refine r_iload_n dX9_readyMany_6 rfl ?_
  refine r_bipush (23) dX9_readyMany_7 (by decide) ?_
  refine q_callV2 (cv_X9_of ml_X9_81) hW kc_723 (by decide) rfl ⟨rfl, rfl⟩ rfl (Nat.le_of_ble_eq_true rfl) dX9_readyMany_9 (c_X9_of hW hm hp hx kn_23 (by omega)) (fun v_9 h_9 q_9 => ?_)
  obtain ⟨rfl, z9⟩ := q_9
  replace z9 := z9.symm
  subst z9
  rw [k3]
  refine r_icmp_ge 38 dX9_readyMany_12 (by decide) (fun c_12 => ?_) (fun c_12 => ?_)
  · have hge : n9 = i := by have := (nI_leI (by omega) (by omega)).mp c_12; omega
    refine r_iload_n dX9_readyMany_38 rfl ?_
    refine r_iret dX9_readyMany_39 rfl ⟨Nat.zero_le _, Nat.zero_le _⟩ ?_
    rw [hge]; exact ⟨rfl, rfl⟩
  · have hlt : i < n9 := (nI_ltI (by omega) (by omega)).mp (i_lt.mp c_12)
    refine r_iload_n dX9_readyMany_15 rfl ?_
    refine r_aload_n dX9_readyMany_16 rfl ?_
    refine r_iload_n dX9_readyMany_17 rfl ?_
    refine r_iload_n dX9_readyMany_18 rfl ?_
    refine q_callV2 (cv_X9_isReady ml_X9_91) hW kc_723 (by decide) rfl ⟨rfl, rfl⟩ rfl (Nat.le_of_ble_eq_true rfl) dX9_readyMany_19 (c_X9_isReady hW hm hp hx rfl (by omega)) (fun v_19 h_19 q_19 => ?_)
    obtain ⟨rfl, z9⟩ := q_19
    replace z9 := z9.symm
    subst z9
    refine r_if_eq 29 dX9_readyMany_22 (by decide) (fun c_22 => ?_) (fun c_22 => ?_)
    · refine r_iconst (0) dX9_readyMany_29 (by decide) ?_
      refine r_iadd dX9_readyMany_30 ?_
      refine r_istore_n (ls2 := [_, some _, _, _]) dX9_readyMany_31 (by decide) rfl ?_
      refine r_iinc (1) (by decide) (ls2 := [_, _, some _, _]) dX9_readyMany_32 rfl (by decide) rfl ?_
      refine r_goto 4 dX9_readyMany_35 (by decide) ?_
      simp only [nI_1]
      have hth := ih hlt hlt
      first
        | (rw [cn_f (P := fun k => decide (f (102 + 4 * k) ≤ w 1)) (bI_0.mp c_22)] at hth; rw [Int32.add_zero]; exact hth)
        | (rw [cn_t (P := fun k => decide (f (102 + 4 * k) ≤ w 1)) (bI_1.mp c_22)] at hth; exact hth)
    · refine r_iconst (1) dX9_readyMany_25 (by decide) ?_
      refine r_goto 30 dX9_readyMany_26 (by decide) ?_
      refine r_iadd dX9_readyMany_30 ?_
      refine r_istore_n (ls2 := [_, some _, _, _]) dX9_readyMany_31 (by decide) rfl ?_
      refine r_iinc (1) (by decide) (ls2 := [_, _, some _, _]) dX9_readyMany_32 rfl (by decide) rfl ?_
      refine r_goto 4 dX9_readyMany_35 (by decide) ?_
      simp only [nI_1]
      have hth := ih hlt hlt
      first
        | (rw [cn_f (P := fun k => decide (f (102 + 4 * k) ≤ w 1)) (bI_0.mp c_22)] at hth; rw [Int32.add_zero]; exact hth)
        | (rw [cn_t (P := fun k => decide (f (102 + 4 * k) ≤ w 1)) (bI_1.mp c_22)] at hth; exact hth)

set_option maxRecDepth 100000 in
set_option maxHeartbeats 4000000 in
theorem c_X9_guardedMany {l9 : Launch} {G : GC} {h : AH} {w : Nat → Int32} {v9 : Nat → Int64} {p : Nat} {f : Nat → Int32} {g : Nat → Int64} {c u : Nat} {x : Int32} (hW : World h) (hm : PV h w v9 p f g) (hp : p < 4) (hO : PoOK f g c u) (hx : x = nI p) : PM l9 G mX9_guardedMany NT NT [.ref 723, .int x] h (fun v h' => v = some (.int (nI (gdN f))) ∧ h' = h) noX := by
  refine PM.of (by decide +kernel) rfl rfl (Nat.le_of_ble_eq_true rfl) (fun hst _ => ?_)
  have y23 : nn (f 23) ≤ 20 := (hO.at 23).2.2
  have hl20 : (mbs f).length = nn (f 23) := mbs_len f
  rw [gdN_eq]
  obtain ⟨n9, k1, k2, k3⟩ := (hO.at 23).nat
  have k2b : n9 ≤ 20 := k2
  have en : nn (f 23) = n9 := by rw [k3]; exact nn_I (by omega)
  rw [en]
  rw [en] at y23 hl20
  refine r_iconst (0) dX9_guardedMany_0 (by decide) ?_
  refine r_istore_n (ls2 := [_, some _, _, _]) dX9_guardedMany_1 (by decide) rfl ?_
  refine r_iconst (0) dX9_guardedMany_2 (by decide) ?_
  refine r_istore_n (ls2 := [_, _, some _, _]) dX9_guardedMany_3 (by decide) rfl ?_
  refine loopN (P := fun i => i ≤ n9 → PW l9 G mX9_guardedMany _ _ NT 4 [some (.ref 723), some (.int x), some (.int (nI (cn (fun k => decide (f (103 + 4 * k) = 1)) i))), some (.int (nI i))] [] (0, 0) h) n9 (fun i ih hi => ?_) 0 (Nat.zero_le _)
  refine r_iload_n dX9_guardedMany_4 rfl ?_
  refine r_aload_n dX9_guardedMany_5 rfl ?_
  refine r_iload_n dX9_guardedMany_6 rfl ?_
  refine r_bipush (23) dX9_guardedMany_7 (by decide) ?_
  refine q_callV2 (cv_X9_of ml_X9_81) hW kc_723 (by decide) rfl ⟨rfl, rfl⟩ rfl (Nat.le_of_ble_eq_true rfl) dX9_guardedMany_9 (c_X9_of hW hm hp hx kn_23 (by omega)) (fun v_9 h_9 q_9 => ?_)
  obtain ⟨rfl, z9⟩ := q_9
  replace z9 := z9.symm
  subst z9
  rw [k3]
  refine r_icmp_ge 38 dX9_guardedMany_12 (by decide) (fun c_12 => ?_) (fun c_12 => ?_)
  · have hge : n9 = i := by have := (nI_leI (by omega) (by omega)).mp c_12; omega
    refine r_iload_n dX9_guardedMany_38 rfl ?_
    refine r_iret dX9_guardedMany_39 rfl ⟨Nat.zero_le _, Nat.zero_le _⟩ ?_
    rw [hge]; exact ⟨rfl, rfl⟩
  · have hlt : i < n9 := (nI_ltI (by omega) (by omega)).mp (i_lt.mp c_12)
    refine r_iload_n dX9_guardedMany_15 rfl ?_
    refine r_aload_n dX9_guardedMany_16 rfl ?_
    refine r_iload_n dX9_guardedMany_17 rfl ?_
    refine r_iload_n dX9_guardedMany_18 rfl ?_
    refine q_callV2 (cv_X9_isGuarded ml_X9_95) hW kc_723 (by decide) rfl ⟨rfl, rfl⟩ rfl (Nat.le_of_ble_eq_true rfl) dX9_guardedMany_19 (c_X9_isGuarded hW hm hp hx rfl (by omega)) (fun v_19 h_19 q_19 => ?_)
    obtain ⟨rfl, z9⟩ := q_19
    replace z9 := z9.symm
    subst z9
    refine r_if_eq 29 dX9_guardedMany_22 (by decide) (fun c_22 => ?_) (fun c_22 => ?_)
    · refine r_iconst (0) dX9_guardedMany_29 (by decide) ?_
      refine r_iadd dX9_guardedMany_30 ?_
      refine r_istore_n (ls2 := [_, some _, _, _]) dX9_guardedMany_31 (by decide) rfl ?_
      refine r_iinc (1) (by decide) (ls2 := [_, _, some _, _]) dX9_guardedMany_32 rfl (by decide) rfl ?_
      refine r_goto 4 dX9_guardedMany_35 (by decide) ?_
      simp only [nI_1]
      have hth := ih hlt hlt
      first
        | (rw [cn_f (P := fun k => decide (f (103 + 4 * k) = 1)) (bI_0.mp c_22)] at hth; rw [Int32.add_zero]; exact hth)
        | (rw [cn_t (P := fun k => decide (f (103 + 4 * k) = 1)) (bI_1.mp c_22)] at hth; exact hth)
    · refine r_iconst (1) dX9_guardedMany_25 (by decide) ?_
      refine r_goto 30 dX9_guardedMany_26 (by decide) ?_
      refine r_iadd dX9_guardedMany_30 ?_
      refine r_istore_n (ls2 := [_, some _, _, _]) dX9_guardedMany_31 (by decide) rfl ?_
      refine r_iinc (1) (by decide) (ls2 := [_, _, some _, _]) dX9_guardedMany_32 rfl (by decide) rfl ?_
      refine r_goto 4 dX9_guardedMany_35 (by decide) ?_
      simp only [nI_1]
      have hth := ih hlt hlt
      first
        | (rw [cn_f (P := fun k => decide (f (103 + 4 * k) = 1)) (bI_0.mp c_22)] at hth; rw [Int32.add_zero]; exact hth)
        | (rw [cn_t (P := fun k => decide (f (103 + 4 * k) = 1)) (bI_1.mp c_22)] at hth; exact hth)

set_option maxRecDepth 100000 in
set_option maxHeartbeats 4000000 in
theorem c_X9_power {l9 : Launch} {G : GC} {h : AH} {w : Nat → Int32} {v9 : Nat → Int64} {p : Nat} {f : Nat → Int32} {g : Nat → Int64} {c u : Nat} {x : Int32} (hW : World h) (hm : PV h w v9 p f g) (hp : p < 4) (hO : PoOK f g c u) (hx : x = nI p) : PM l9 G mX9_power NT NT [.ref 723, .int x] h (fun v h' => v = some (.int (pwF f (w 1))) ∧ h' = h) noX := by
  refine PM.of (by decide +kernel) rfl rfl (Nat.le_of_ble_eq_true rfl) (fun hst _ => ?_)
  refine r_aload_n dX9_power_0 rfl ?_
  refine r_iload_n dX9_power_1 rfl ?_
  refine r_iconst (2) dX9_power_2 (by decide) ?_
  refine q_callV2 (cv_X9_of ml_X9_81) hW kc_723 (by decide) rfl ⟨rfl, rfl⟩ rfl (Nat.le_of_ble_eq_true rfl) dX9_power_3 (c_X9_of hW hm hp hx kn_2 (by omega)) (fun v_3 h_3 q_3 => ?_)
  obtain ⟨rfl, z9⟩ := q_3
  replace z9 := z9.symm
  subst z9
  refine r_aload_n dX9_power_6 rfl ?_
  refine r_iload_n dX9_power_7 rfl ?_
  refine q_callV1 (cv_X9_readyMany ml_X9_98) hW kc_723 (by decide) rfl ⟨rfl, rfl⟩ rfl (Nat.le_of_ble_eq_true rfl) dX9_power_8 (c_X9_readyMany hW hm hp hO hx) (fun v_8 h_8 q_8 => ?_)
  obtain ⟨rfl, z9⟩ := q_8
  replace z9 := z9.symm
  subst z9
  refine r_imul dX9_power_11 ?_
  refine r_iret dX9_power_12 rfl ⟨Nat.zero_le _, Nat.zero_le _⟩ ?_
  exact ⟨rfl, rfl⟩

set_option maxRecDepth 100000 in
set_option maxHeartbeats 4000000 in
theorem c_X9_isAhead {l9 : Launch} {G : GC} {h : AH} {w : Nat → Int32} {v9 : Nat → Int64} {p : Nat} {f : Nat → Int32} {g : Nat → Int64} {c u : Nat} {a b : Nat} {x y z : Int32} (hW : World h) (hm : PV h w v9 p f g) (hp : p < 4) (hO : PoOK f g c u) (hx : x = nI p) (hy : y = nI a) (hz : z = nI b) (ha : a < nn (f 23)) (hb : b < nn (f 23)) : PM l9 G mX9_isAhead NT NT [.ref 723, .int x, .int y, .int z] h (fun v h' => v = some (.int (bI (ngB (mbs f) (f 9) a b))) ∧ h' = h) noX := by
  refine PM.of (by decide +kernel) rfl rfl (Nat.le_of_ble_eq_true rfl) (fun hst _ => ?_)
  have y23 : nn (f 23) ≤ 20 := (hO.at 23).2.2
  have hl20 : (mbs f).length = nn (f 23) := mbs_len f
  obtain ⟨n9, r1, r2, r3⟩ := (hO.at 9).nat
  have r4 : n9 ≤ 2 := r2
  have e0 : f 9 = 0 ↔ n9 = 0 := by rw [r3]; exact nI_eq (b := 0) (by omega) (by decide)
  have e1 : f 9 = 1 ↔ n9 = 1 := by rw [r3]; exact nI_eq (b := 1) (by omega) (by decide)
  have e2 : f 9 = 2 ↔ n9 = 2 := by rw [r3]; exact nI_eq (b := 2) (by omega) (by decide)
  unfold ngB
  rw [mbs_rdy ha, mbs_rdy hb]
  refine r_aload_n dX9_isAhead_0 rfl ?_
  refine r_iload_n dX9_isAhead_1 rfl ?_
  refine r_bipush (9) dX9_isAhead_2 (by decide) ?_
  refine q_callV2 (cv_X9_of ml_X9_81) hW kc_723 (by decide) rfl ⟨rfl, rfl⟩ rfl (Nat.le_of_ble_eq_true rfl) dX9_isAhead_4 (c_X9_of hW hm hp hx kn_9 (by omega)) (fun v_4 h_4 q_4 => ?_)
  obtain ⟨rfl, z9⟩ := q_4
  replace z9 := z9.symm
  subst z9
  refine r_istore (ls2 := [_, _, _, some _, _]) dX9_isAhead_7 (by decide) rfl ?_
  refine r_iload dX9_isAhead_9 rfl ?_
  refine r_if_ne 16 dX9_isAhead_11 (by decide) (fun c_11 => ?_) (fun c_11 => ?_)
  · refine r_iload dX9_isAhead_16 rfl ?_
    refine r_iconst (1) dX9_isAhead_18 (by decide) ?_
    refine r_icmp_eq 55 dX9_isAhead_19 (by decide) (fun c_19 => ?_) (fun c_19 => ?_)
    · refine r_iconst (0) dX9_isAhead_55 (by decide) ?_
      refine r_zret dX9_isAhead_56 rfl (by decide) ⟨Nat.zero_le _, Nat.zero_le _⟩ ?_
      first
        | (have z0 := e0.mp (by first | exact c_11 | simpa using c_11)
           rw [if_neg (fun q => absurd (e2.mp q) (by omega))]
           exact ⟨some_int (dT (e0.mpr z0)).symm, rfl⟩)
        | (have z0 : n9 = 1 := e1.mp (by first | exact c_19 | simpa using c_19)
           rw [if_neg (fun q => absurd (e2.mp q) (by omega))]
           exact ⟨some_int (dF (fun q => absurd (e0.mp q) (by omega))).symm, rfl⟩)
        | (have z0 : ¬ n9 = 0 := fun q => absurd (e0.mpr q) (by first | exact c_11 | simpa using c_11)
           have z1 : ¬ n9 = 1 := fun q => absurd (e1.mpr q) (by first | exact c_19 | simpa using c_19)
           rw [if_pos (e2.mpr (by omega))]
           first
             | exact ⟨some_int (dF (fun q => absurd c_48 (i_lt.mp.mt (fun _ => absurd q (Int32.not_le.mpr c_48))))).symm, rfl⟩
             | exact ⟨some_int (dF (Int32.not_le.mpr c_48)).symm, rfl⟩
             | exact ⟨some_int (dT (Int32.not_lt.mp c_48)).symm, rfl⟩)
    · refine r_aload_n dX9_isAhead_22 rfl ?_
      refine r_iload_n dX9_isAhead_23 rfl ?_
      refine r_bipush (100) dX9_isAhead_24 (by decide) ?_
      refine r_iconst (4) dX9_isAhead_26 (by decide) ?_
      refine r_iload_n dX9_isAhead_27 rfl ?_
      refine r_imul dX9_isAhead_28 ?_
      refine r_iadd dX9_isAhead_29 ?_
      refine r_iconst (2) dX9_isAhead_30 (by decide) ?_
      refine r_iadd dX9_isAhead_31 ?_
      refine q_callV2 (cv_X9_of ml_X9_81) hW kc_723 (by decide) rfl ⟨rfl, rfl⟩ rfl (Nat.le_of_ble_eq_true rfl) dX9_isAhead_32 (c_X9_of hW hm hp hx (nadd (nadd kn_100 (nmul kn_4 hy)) kn_2) (by omega)) (fun v_32 h_32 q_32 => ?_)
      obtain ⟨rfl, z9⟩ := q_32
      replace z9 := z9.symm
      subst z9
      rw [show 100 + 4 * a + 2 = 102 + 4 * a from by omega]
      refine r_aload_n dX9_isAhead_35 rfl ?_
      refine r_iload_n dX9_isAhead_36 rfl ?_
      refine r_bipush (100) dX9_isAhead_37 (by decide) ?_
      refine r_iconst (4) dX9_isAhead_39 (by decide) ?_
      refine r_iload_n dX9_isAhead_40 rfl ?_
      refine r_imul dX9_isAhead_41 ?_
      refine r_iadd dX9_isAhead_42 ?_
      refine r_iconst (2) dX9_isAhead_43 (by decide) ?_
      refine r_iadd dX9_isAhead_44 ?_
      refine q_callV2 (cv_X9_of ml_X9_81) hW kc_723 (by decide) rfl ⟨rfl, rfl⟩ rfl (Nat.le_of_ble_eq_true rfl) dX9_isAhead_45 (c_X9_of hW hm hp hx (nadd (nadd kn_100 (nmul kn_4 hz)) kn_2) (by omega)) (fun v_45 h_45 q_45 => ?_)
      obtain ⟨rfl, z9⟩ := q_45
      replace z9 := z9.symm
      subst z9
      rw [show 100 + 4 * b + 2 = 102 + 4 * b from by omega]
      refine r_icmp_lt 55 dX9_isAhead_48 (by decide) (fun c_48 => ?_) (fun c_48 => ?_)
      · refine r_iconst (0) dX9_isAhead_55 (by decide) ?_
        refine r_zret dX9_isAhead_56 rfl (by decide) ⟨Nat.zero_le _, Nat.zero_le _⟩ ?_
        first
          | (have z0 := e0.mp (by first | exact c_11 | simpa using c_11)
             rw [if_neg (fun q => absurd (e2.mp q) (by omega))]
             exact ⟨some_int (dT (e0.mpr z0)).symm, rfl⟩)
          | (have z0 : n9 = 1 := e1.mp (by first | exact c_19 | simpa using c_19)
             rw [if_neg (fun q => absurd (e2.mp q) (by omega))]
             exact ⟨some_int (dF (fun q => absurd (e0.mp q) (by omega))).symm, rfl⟩)
          | (have z0 : ¬ n9 = 0 := fun q => absurd (e0.mpr q) (by first | exact c_11 | simpa using c_11)
             have z1 : ¬ n9 = 1 := fun q => absurd (e1.mpr q) (by first | exact c_19 | simpa using c_19)
             rw [if_pos (e2.mpr (by omega))]
             first
               | exact ⟨some_int (dF (fun q => absurd c_48 (i_lt.mp.mt (fun _ => absurd q (Int32.not_le.mpr c_48))))).symm, rfl⟩
               | exact ⟨some_int (dF (Int32.not_le.mpr c_48)).symm, rfl⟩
               | exact ⟨some_int (dT (Int32.not_lt.mp c_48)).symm, rfl⟩)
      · refine r_iconst (1) dX9_isAhead_51 (by decide) ?_
        refine r_goto 56 dX9_isAhead_52 (by decide) ?_
        refine r_zret dX9_isAhead_56 rfl (by decide) ⟨Nat.zero_le _, Nat.zero_le _⟩ ?_
        first
          | (have z0 := e0.mp (by first | exact c_11 | simpa using c_11)
             rw [if_neg (fun q => absurd (e2.mp q) (by omega))]
             exact ⟨some_int (dT (e0.mpr z0)).symm, rfl⟩)
          | (have z0 : n9 = 1 := e1.mp (by first | exact c_19 | simpa using c_19)
             rw [if_neg (fun q => absurd (e2.mp q) (by omega))]
             exact ⟨some_int (dF (fun q => absurd (e0.mp q) (by omega))).symm, rfl⟩)
          | (have z0 : ¬ n9 = 0 := fun q => absurd (e0.mpr q) (by first | exact c_11 | simpa using c_11)
             have z1 : ¬ n9 = 1 := fun q => absurd (e1.mpr q) (by first | exact c_19 | simpa using c_19)
             rw [if_pos (e2.mpr (by omega))]
             first
               | exact ⟨some_int (dF (fun q => absurd c_48 (i_lt.mp.mt (fun _ => absurd q (Int32.not_le.mpr c_48))))).symm, rfl⟩
               | exact ⟨some_int (dF (Int32.not_le.mpr c_48)).symm, rfl⟩
               | exact ⟨some_int (dT (Int32.not_lt.mp c_48)).symm, rfl⟩)
  · refine r_iconst (1) dX9_isAhead_14 (by decide) ?_
    refine r_zret dX9_isAhead_15 rfl (by decide) ⟨Nat.zero_le _, Nat.zero_le _⟩ ?_
    first
      | (have z0 := e0.mp (by first | exact c_11 | simpa using c_11)
         rw [if_neg (fun q => absurd (e2.mp q) (by omega))]
         exact ⟨some_int (dT (e0.mpr z0)).symm, rfl⟩)
      | (have z0 : n9 = 1 := e1.mp (by first | exact c_19 | simpa using c_19)
         rw [if_neg (fun q => absurd (e2.mp q) (by omega))]
         exact ⟨some_int (dF (fun q => absurd (e0.mp q) (by omega))).symm, rfl⟩)
      | (have z0 : ¬ n9 = 0 := fun q => absurd (e0.mpr q) (by first | exact c_11 | simpa using c_11)
         have z1 : ¬ n9 = 1 := fun q => absurd (e1.mpr q) (by first | exact c_19 | simpa using c_19)
         rw [if_pos (e2.mpr (by omega))]
         first
           | exact ⟨some_int (dF (fun q => absurd c_48 (i_lt.mp.mt (fun _ => absurd q (Int32.not_le.mpr c_48))))).symm, rfl⟩
           | exact ⟨some_int (dF (Int32.not_le.mpr c_48)).symm, rfl⟩
           | exact ⟨some_int (dT (Int32.not_lt.mp c_48)).symm, rfl⟩)

set_option maxRecDepth 100000 in
set_option maxHeartbeats 4000000 in
theorem c_X9_dropped {l9 : Launch} {G : GC} {h : AH} {w : Nat → Int32} {v9 : Nat → Int64} {p : Nat} {f : Nat → Int32} {g : Nat → Int64} {c u : Nat} {x : Int32} (hW : World h) (hm : PV h w v9 p f g) (hp : p < 4) (hO : PoOK f g c u) (hx : x = nI p) : PM l9 G mX9_dropped NT NT [.ref 723, .int x] h (fun v h' => v = some (.int (oI (ng (mbs f) (f 9) (mbs f).length))) ∧ h' = h) noX := by
  refine PM.of (by decide +kernel) rfl rfl (Nat.le_of_ble_eq_true rfl) (fun hst _ => ?_)
  have y23 : nn (f 23) ≤ 20 := (hO.at 23).2.2
  have hl20 : (mbs f).length = nn (f 23) := mbs_len f
  rw [hl20]
  obtain ⟨n9, k1, k2, k3⟩ := (hO.at 23).nat
  have k2b : n9 ≤ 20 := k2
  have en : nn (f 23) = n9 := by rw [k3]; exact nn_I (by omega)
  rw [en]
  refine r_iconst (-1) dX9_dropped_0 (by decide) ?_
  refine r_istore_n (ls2 := [_, some _, _, _]) dX9_dropped_1 (by decide) rfl ?_
  refine r_iconst (0) dX9_dropped_2 (by decide) ?_
  refine r_istore_n (ls2 := [_, _, some _, _]) dX9_dropped_3 (by decide) rfl ?_
  refine loopN (P := fun i => i ≤ n9 → PW l9 G mX9_dropped _ _ NT 4 [some (.ref 723), some (.int x), some (.int (oI (ng (mbs f) (f 9) i))), some (.int (nI i))] [] (0, 0) h) n9 (fun i ih hi => ?_) 0 (Nat.zero_le _)
  refine r_iload_n dX9_dropped_4 rfl ?_
  refine r_aload_n dX9_dropped_5 rfl ?_
  refine r_iload_n dX9_dropped_6 rfl ?_
  refine r_bipush (23) dX9_dropped_7 (by decide) ?_
  refine q_callV2 (cv_X9_of ml_X9_81) hW kc_723 (by decide) rfl ⟨rfl, rfl⟩ rfl (Nat.le_of_ble_eq_true rfl) dX9_dropped_9 (c_X9_of hW hm hp hx kn_23 (by omega)) (fun v_9 h_9 q_9 => ?_)
  obtain ⟨rfl, z9⟩ := q_9
  replace z9 := z9.symm
  subst z9
  rw [k3]
  refine r_icmp_ge 47 dX9_dropped_12 (by decide) (fun c_12 => ?_) (fun c_12 => ?_)
  · have hge : n9 = i := by have := (nI_leI (by omega) (by omega)).mp c_12; omega
    refine r_iload_n dX9_dropped_47 rfl ?_
    refine r_iret dX9_dropped_48 rfl ⟨Nat.zero_le _, Nat.zero_le _⟩ ?_
    rw [hge]; exact ⟨rfl, rfl⟩
  · have hlt9 : i < n9 := (nI_ltI (by omega) (by omega)).mp (i_lt.mp c_12)
    have hlt : i < nn (f 23) := by omega
    have hth := ih hlt9 hlt9
    have hg := mbs_prt hlt
    refine r_aload_n dX9_dropped_15 rfl ?_
    refine r_iload_n dX9_dropped_16 rfl ?_
    refine r_iload_n dX9_dropped_17 rfl ?_
    refine q_callV2 (cv_X9_isGuarded ml_X9_95) hW kc_723 (by decide) rfl ⟨rfl, rfl⟩ rfl (Nat.le_of_ble_eq_true rfl) dX9_dropped_18 (c_X9_isGuarded hW hm hp hx rfl (by omega)) (fun v_18 h_18 q_18 => ?_)
    obtain ⟨rfl, z9⟩ := q_18
    replace z9 := z9.symm
    subst z9
    refine r_if_ne 41 dX9_dropped_21 (by decide) (fun c_21 => ?_) (fun c_21 => ?_)
    · refine r_iinc (1) (by decide) (ls2 := [_, _, some _, _]) dX9_dropped_41 rfl (by decide) rfl ?_
      refine r_goto 4 dX9_dropped_44 (by decide) ?_
      simp only [nI_1]
      first
        | (have hg2 := hg.trans (bI_1.mp c_21)
           rw [ng_p hg2] at hth; exact hth)
        | (have hg2 := hg.trans (bI_0.mp c_21)
           first
             | (have hno : ng (mbs f) (f 9) i = none := (oI_m1 (fun k hk => by have := ng_lt hk; omega)).mp (by first | exact c_26 | simpa using c_26)
                rw [ng_n hg2 hno] at hth; exact hth)
             | (rw [ng_s hg2 hb9, if_pos (bI_1.mp c_36)] at hth; exact hth)
             | (rw [ng_s hg2 hb9, if_neg (by rw [bI_0.mp c_36]; decide)] at hth; exact hth))
    · refine r_iload_n dX9_dropped_24 rfl ?_
      refine r_iconst (-1) dX9_dropped_25 (by decide) ?_
      refine r_icmp_eq 39 dX9_dropped_26 (by decide) (fun c_26 => ?_) (fun c_26 => ?_)
      · refine r_iload_n dX9_dropped_39 rfl ?_
        refine r_istore_n (ls2 := [_, some _, _, _]) dX9_dropped_40 (by decide) rfl ?_
        refine r_iinc (1) (by decide) (ls2 := [_, _, some _, _]) dX9_dropped_41 rfl (by decide) rfl ?_
        refine r_goto 4 dX9_dropped_44 (by decide) ?_
        simp only [nI_1]
        first
          | (have hg2 := hg.trans (bI_1.mp c_21)
             rw [ng_p hg2] at hth; exact hth)
          | (have hg2 := hg.trans (bI_0.mp c_21)
             first
               | (have hno : ng (mbs f) (f 9) i = none := (oI_m1 (fun k hk => by have := ng_lt hk; omega)).mp (by first | exact c_26 | simpa using c_26)
                  rw [ng_n hg2 hno] at hth; exact hth)
               | (rw [ng_s hg2 hb9, if_pos (bI_1.mp c_36)] at hth; exact hth)
               | (rw [ng_s hg2 hb9, if_neg (by rw [bI_0.mp c_36]; decide)] at hth; exact hth))
      · obtain ⟨b, hb9⟩ : ∃ b, ng (mbs f) (f 9) i = some b := by
          cases hq : ng (mbs f) (f 9) i with
          | none => rw [hq] at c_26; exact absurd rfl c_26
          | some b => exact ⟨b, rfl⟩
        have hbl := ng_lt hb9
        rw [hb9]
        refine r_aload_n dX9_dropped_29 rfl ?_
        refine r_iload_n dX9_dropped_30 rfl ?_
        refine r_iload_n dX9_dropped_31 rfl ?_
        refine r_iload_n dX9_dropped_32 rfl ?_
        refine q_callV3 (cv_X9_isAhead ml_X9_102) hW kc_723 (by decide) rfl ⟨rfl, rfl⟩ rfl (Nat.le_of_ble_eq_true rfl) dX9_dropped_33 (c_X9_isAhead hW hm hp hO hx rfl rfl hlt (by omega)) (fun v_33 h_33 q_33 => ?_)
        obtain ⟨rfl, z9⟩ := q_33
        replace z9 := z9.symm
        subst z9
        refine r_if_eq 41 dX9_dropped_36 (by decide) (fun c_36 => ?_) (fun c_36 => ?_)
        · refine r_iinc (1) (by decide) (ls2 := [_, _, some _, _]) dX9_dropped_41 rfl (by decide) rfl ?_
          refine r_goto 4 dX9_dropped_44 (by decide) ?_
          simp only [nI_1]
          first
            | (have hg2 := hg.trans (bI_1.mp c_21)
               rw [ng_p hg2] at hth; exact hth)
            | (have hg2 := hg.trans (bI_0.mp c_21)
               first
                 | (have hno : ng (mbs f) (f 9) i = none := (oI_m1 (fun k hk => by have := ng_lt hk; omega)).mp (by first | exact c_26 | simpa using c_26)
                    rw [ng_n hg2 hno] at hth; exact hth)
                 | (rw [ng_s hg2 hb9, if_pos (bI_1.mp c_36)] at hth; exact hth)
                 | (rw [ng_s hg2 hb9, if_neg (by rw [bI_0.mp c_36]; decide)] at hth; exact hth))
        · refine r_iload_n dX9_dropped_39 rfl ?_
          refine r_istore_n (ls2 := [_, some _, _, _]) dX9_dropped_40 (by decide) rfl ?_
          refine r_iinc (1) (by decide) (ls2 := [_, _, some _, _]) dX9_dropped_41 rfl (by decide) rfl ?_
          refine r_goto 4 dX9_dropped_44 (by decide) ?_
          simp only [nI_1]
          first
            | (have hg2 := hg.trans (bI_1.mp c_21)
               rw [ng_p hg2] at hth; exact hth)
            | (have hg2 := hg.trans (bI_0.mp c_21)
               first
                 | (have hno : ng (mbs f) (f 9) i = none := (oI_m1 (fun k hk => by have := ng_lt hk; omega)).mp (by first | exact c_26 | simpa using c_26)
                    rw [ng_n hg2 hno] at hth; exact hth)
                 | (rw [ng_s hg2 hb9, if_pos (bI_1.mp c_36)] at hth; exact hth)
                 | (rw [ng_s hg2 hb9, if_neg (by rw [bI_0.mp c_36]; decide)] at hth; exact hth))

set_option maxRecDepth 100000 in
set_option maxHeartbeats 4000000 in
theorem c_X9_told {l9 : Launch} {G : GC} {h : AH} {w : Nat → Int32} {v9 : Nat → Int64} {p : Nat} {f : Nat → Int32} {g : Nat → Int64} {c u : Nat} {t : Nat} {x y : Int32} (hW : World h) (hm : PV h w v9 p f g) (hp : p < 4) (hO : PoOK f g c u) (hx : x = nI p) (hy : y = nI t) (ht : t < 2 ^ 31) : PM l9 G mX9_told NT NT [.ref 723, .int x, .int y] h (fun v h' => v = some (.int (ldA (lds f) t)) ∧ h' = h) noX := by
  refine PM.of (by decide +kernel) rfl rfl (Nat.le_of_ble_eq_true rfl) (fun hst _ => ?_)
  have y24 : nn (f 24) ≤ 24 := (hO.at 24).2.2
  have e24 : f 24 = nI (nn (f 24)) := (hO.at 24).1
  have hz : f 24 = 0 ↔ nn (f 24) = 0 := by rw [e24, nn_I (by omega)]; exact nI_eq (b := 0) (by omega) (by decide)
  unfold ldA
  rw [lds_len]
  refine r_aload_n dX9_told_0 rfl ?_
  refine r_iload_n dX9_told_1 rfl ?_
  refine r_bipush (24) dX9_told_2 (by decide) ?_
  refine q_callV2 (cv_X9_of ml_X9_81) hW kc_723 (by decide) rfl ⟨rfl, rfl⟩ rfl (Nat.le_of_ble_eq_true rfl) dX9_told_4 (c_X9_of hW hm hp hx kn_24 (by omega)) (fun v_4 h_4 q_4 => ?_)
  obtain ⟨rfl, z9⟩ := q_4
  replace z9 := z9.symm
  subst z9
  refine r_if_ne 14 dX9_told_7 (by decide) (fun c_7 => ?_) (fun c_7 => ?_)
  · have h0 : 0 < nn (f 24) := Nat.pos_of_ne_zero (fun q => c_7 (hz.mpr q))
    have hm9 := Nat.mod_lt t h0
    refine r_aload_n dX9_told_14 rfl ?_
    refine r_iload_n dX9_told_15 rfl ?_
    refine r_bipush (36) dX9_told_16 (by decide) ?_
    refine r_iload_n dX9_told_18 rfl ?_
    refine r_aload_n dX9_told_19 rfl ?_
    refine r_iload_n dX9_told_20 rfl ?_
    refine r_bipush (24) dX9_told_21 (by decide) ?_
    refine q_callV2 (cv_X9_of ml_X9_81) hW kc_723 (by decide) rfl ⟨rfl, rfl⟩ rfl (Nat.le_of_ble_eq_true rfl) dX9_told_23 (c_X9_of hW hm hp hx kn_24 (by omega)) (fun v_23 h_23 q_23 => ?_)
    obtain ⟨rfl, z9⟩ := q_23
    replace z9 := z9.symm
    subst z9
    refine r_irem dX9_told_26 (fun q => absurd q c_7) ?_
    refine r_iadd dX9_told_27 ?_
    refine q_callV2 (cv_X9_of ml_X9_81) hW kc_723 (by decide) rfl ⟨rfl, rfl⟩ rfl (Nat.le_of_ble_eq_true rfl) dX9_told_28 (c_X9_of hW hm hp hx (nadd kn_36 (nrem hy (hO.at 24).1 (by omega) (by omega) (by omega))) (by omega)) (fun v_28 h_28 q_28 => ?_)
    obtain ⟨rfl, z9⟩ := q_28
    replace z9 := z9.symm
    subst z9
    refine r_iret dX9_told_31 rfl ⟨Nat.zero_le _, Nat.zero_le _⟩ ?_
    first
      | (rw [if_pos (hz.mp (by first | exact c_7 | simpa using c_7))]; exact ⟨rfl, rfl⟩)
      | (rw [if_neg (by omega), lds_at hm9]; exact ⟨rfl, rfl⟩)
  · refine r_iconst (0) dX9_told_10 (by decide) ?_
    refine r_goto 31 dX9_told_11 (by decide) ?_
    refine r_iret dX9_told_31 rfl ⟨Nat.zero_le _, Nat.zero_le _⟩ ?_
    first
      | (rw [if_pos (hz.mp (by first | exact c_7 | simpa using c_7))]; exact ⟨rfl, rfl⟩)
      | (rw [if_neg (by omega), lds_at hm9]; exact ⟨rfl, rfl⟩)

set_option maxRecDepth 100000 in
set_option maxHeartbeats 4000000 in
theorem c_X9_back {l9 : Launch} {G : GC} {h : AH} {w : Nat → Int32} {v9 : Nat → Int64} {p : Nat} {f : Nat → Int32} {g : Nat → Int64} {c u : Nat} {b : Nat} {x y : Int32} (hW : World h) (hm : PV h w v9 p f g) (hp : p < 4) (hO : PoOK f g c u) (hx : x = nI p) (hy : y = nI b) (hb : b < c) : PM l9 G mX9_back NT NT [.ref 723, .int x, .int y] h (fun v h' => v = some (.int (bk f c b)) ∧ h' = h) noX := by
  refine PM.of (by decide +kernel) rfl rfl (Nat.le_of_ble_eq_true rfl) (fun hst _ => ?_)
  have yc := hO.2.2.2.2.1.2.1
  refine r_aload_n dX9_back_0 rfl ?_
  refine r_iload_n dX9_back_1 rfl ?_
  refine r_bipush (60) dX9_back_2 (by decide) ?_
  refine r_aload_n dX9_back_4 rfl ?_
  refine r_iload_n dX9_back_5 rfl ?_
  refine r_bipush (29) dX9_back_6 (by decide) ?_
  skip
  refine q_callV2 (cv_X9_of ml_X9_81) hW kc_723 (by decide) rfl ⟨rfl, rfl⟩ rfl (Nat.le_of_ble_eq_true rfl) dX9_back_8 (c_X9_of hW hm hp hx kn_29 (by omega)) (fun v_8 h_8 q_8 => ?_)
  obtain ⟨rfl, z9⟩ := q_8
  replace z9 := z9.symm
  subst z9
  refine r_iconst (1) dX9_back_11 (by decide) ?_
  refine r_isub dX9_back_12 ?_
  refine r_iload_n dX9_back_13 rfl ?_
  refine r_isub dX9_back_14 ?_
  refine r_bipush (24) dX9_back_15 (by decide) ?_
  refine r_irem dX9_back_17 (by decide) ?_
  refine r_iadd dX9_back_18 ?_
  refine q_callV2 (cv_X9_of ml_X9_81) hW kc_723 (by decide) rfl ⟨rfl, rfl⟩ rfl (Nat.le_of_ble_eq_true rfl) dX9_back_19 (c_X9_of hW hm hp hx (nadd kn_60 (nrem (nsub (nsub hO.2.2.2.2.1.1 kn_1 (by omega)) hy (by omega)) kn_24 (by omega) (by omega) (by omega))) (by omega)) (fun v_19 h_19 q_19 => ?_)
  obtain ⟨rfl, z9⟩ := q_19
  replace z9 := z9.symm
  subst z9
  refine r_iret dX9_back_22 rfl ⟨Nat.zero_le _, Nat.zero_le _⟩ ?_
  exact ⟨rfl, rfl⟩

set_option maxRecDepth 100000 in
set_option maxHeartbeats 4000000 in
theorem c_X9_windowOf {l9 : Launch} {G : GC} {h : AH} {w : Nat → Int32} {v9 : Nat → Int64} {p : Nat} {f : Nat → Int32} {g : Nat → Int64} {c u : Nat} {x : Int32} (hW : World h) (hm : PV h w v9 p f g) (hp : p < 4) (hO : PoOK f g c u) (hx : x = nI p) : PM l9 G mX9_windowOf NT NT [.ref 723, .int x] h (fun v h' => v = some (.int (nI (wn f c))) ∧ h' = h) noX := by
  refine PM.of (by decide +kernel) rfl rfl (Nat.le_of_ble_eq_true rfl) (fun hst _ => ?_)
  have yc := hO.2.2.2.2.1.2.1
  have y5 : nn (f 5) ≤ 8 := (hO.at 5).2.2
  refine r_aload_n dX9_windowOf_0 rfl ?_
  refine r_iload_n dX9_windowOf_1 rfl ?_
  refine r_iconst (5) dX9_windowOf_2 (by decide) ?_
  refine q_callV2 (cv_X9_of ml_X9_81) hW kc_723 (by decide) rfl ⟨rfl, rfl⟩ rfl (Nat.le_of_ble_eq_true rfl) dX9_windowOf_3 (c_X9_of hW hm hp hx kn_5 (by omega)) (fun v_3 h_3 q_3 => ?_)
  obtain ⟨rfl, z9⟩ := q_3
  replace z9 := z9.symm
  subst z9
  refine r_aload_n dX9_windowOf_6 rfl ?_
  refine r_iload_n dX9_windowOf_7 rfl ?_
  refine r_bipush (29) dX9_windowOf_8 (by decide) ?_
  refine q_callV2 (cv_X9_of ml_X9_81) hW kc_723 (by decide) rfl ⟨rfl, rfl⟩ rfl (Nat.le_of_ble_eq_true rfl) dX9_windowOf_10 (c_X9_of hW hm hp hx kn_29 (by omega)) (fun v_10 h_10 q_10 => ?_)
  obtain ⟨rfl, z9⟩ := q_10
  replace z9 := z9.symm
  subst z9
  refine q_min mm_X9_106 rfl (Nat.le_of_ble_eq_true rfl) dX9_windowOf_13 ?_
  rw [(hO.at 5).1, hO.2.2.2.2.1.1, imn_I (by omega) (by omega)]
  refine r_iret dX9_windowOf_16 rfl ⟨Nat.zero_le _, Nat.zero_le _⟩ ?_
  exact ⟨rfl, rfl⟩

set_option maxRecDepth 100000 in
set_option maxHeartbeats 4000000 in
theorem c_X9_windowSum {l9 : Launch} {G : GC} {h : AH} {w : Nat → Int32} {v9 : Nat → Int64} {p : Nat} {f : Nat → Int32} {g : Nat → Int64} {c u : Nat} {x : Int32} (hW : World h) (hm : PV h w v9 p f g) (hp : p < 4) (hO : PoOK f g c u) (hx : x = nI p) : PM l9 G mX9_windowSum NT NT [.ref 723, .int x] h (fun v h' => v = some (.int (ws f c (wn f c))) ∧ h' = h) noX := by
  refine PM.of (by decide +kernel) rfl rfl (Nat.le_of_ble_eq_true rfl) (fun hst _ => ?_)
  have yc := hO.2.2.2.2.1.2.1
  obtain ⟨y8, yw, yw0⟩ := wn_le (c := c) (hO.at 5)
  refine r_iconst (0) dX9_windowSum_0 (by decide) ?_
  refine r_istore_n (ls2 := [_, some _, _, _]) dX9_windowSum_1 (by decide) rfl ?_
  refine r_iconst (0) dX9_windowSum_2 (by decide) ?_
  refine r_istore_n (ls2 := [_, _, some _, _]) dX9_windowSum_3 (by decide) rfl ?_
  refine loopN (P := fun i => i ≤ wn f c → PW l9 G mX9_windowSum _ _ NT 4 [some (.ref 723), some (.int x), some (.int (ws f c i)), some (.int (nI i))] [] (0, 0) h) (wn f c) (fun i ih hi => ?_) 0 (Nat.zero_le _)
  refine r_iload_n dX9_windowSum_4 rfl ?_
  refine r_aload_n dX9_windowSum_5 rfl ?_
  refine r_iload_n dX9_windowSum_6 rfl ?_
  refine q_callV1 (cv_X9_windowOf ml_X9_111) hW kc_723 (by decide) rfl ⟨rfl, rfl⟩ rfl (Nat.le_of_ble_eq_true rfl) dX9_windowSum_7 (c_X9_windowOf hW hm hp hO hx) (fun v_7 h_7 q_7 => ?_)
  obtain ⟨rfl, z9⟩ := q_7
  replace z9 := z9.symm
  subst z9
  refine r_icmp_ge 28 dX9_windowSum_10 (by decide) (fun c_10 => ?_) (fun c_10 => ?_)
  · have hge : wn f c = i := by have := (nI_leI (by omega) (by omega)).mp c_10; omega
    refine r_iload_n dX9_windowSum_28 rfl ?_
    refine r_iret dX9_windowSum_29 rfl ⟨Nat.zero_le _, Nat.zero_le _⟩ ?_
    rw [hge]; exact ⟨rfl, rfl⟩
  · have hlt : i < wn f c := (nI_ltI (by omega) (by omega)).mp (i_lt.mp c_10)
    refine r_iload_n dX9_windowSum_13 rfl ?_
    refine r_aload_n dX9_windowSum_14 rfl ?_
    refine r_iload_n dX9_windowSum_15 rfl ?_
    refine r_iload_n dX9_windowSum_16 rfl ?_
    refine q_callV2 (cv_X9_back ml_X9_114) hW kc_723 (by decide) rfl ⟨rfl, rfl⟩ rfl (Nat.le_of_ble_eq_true rfl) dX9_windowSum_17 (c_X9_back hW hm hp hO hx rfl (by omega)) (fun v_17 h_17 q_17 => ?_)
    obtain ⟨rfl, z9⟩ := q_17
    replace z9 := z9.symm
    subst z9
    refine r_iadd dX9_windowSum_20 ?_
    refine r_istore_n (ls2 := [_, some _, _, _]) dX9_windowSum_21 (by decide) rfl ?_
    refine r_iinc (1) (by decide) (ls2 := [_, _, some _, _]) dX9_windowSum_22 rfl (by decide) rfl ?_
    refine r_goto 4 dX9_windowSum_25 (by decide) ?_
    rw [nI_1]
    exact ih hlt hlt
-- the reference: the phases of a tick
theorem imx1_ne {x : Int32} : ¬ imx 1 x = 0 := by
  unfold imx
  split
  · next h => exact fun q => absurd (q ▸ h) (by decide)
  · decide
theorem dUp_e {x y : Int32} {b : Nat} (hy : y = nI b) (hb : 0 < b) (h2 : b < 2 ^ 31) : dUp x y = (x + y - 1) / y := by
  unfold dUp
  rw [if_neg (fun q => by rw [hy] at q; exact absurd ((nI_leI (b := 0) h2 (by decide)).mp q) (by omega))]
theorem foF_w {f : Nat → Int32} {c : Nat} (h7 : f 7 = 0) : foF f c = dUp (ws f c (wn f c)) (nI (wn f c)) := by
  unfold foF
  rw [if_neg (by rw [h7]; decide), if_neg (by rw [h7]; decide)]
theorem foF_t {f : Nat → Int32} {c : Nat} (h7 : f 7 = 1) : foF f c = imx 0 (bk f c 0 + (bk f c 0 - bk f c (wn f c - 1)) * f 6 / imx 1 (nI (wn f c) - 1)) := by
  unfold foF
  rw [if_pos h7]
theorem foF_s {f : Nat → Int32} {c : Nat} (h7 : f 7 = 2) : foF f c = bk f c (if dUp (f 6) (f 8) * f 8 - f 6 < nI c then nn (dUp (f 6) (f 8) * f 8 - f 6) else 0) := by
  unfold foF
  rw [if_neg (by rw [h7]; decide), if_pos h7]
theorem pol_3 {f : Nat → Int32} (h : rg (f 7) 0 2) : f 7 = 0 ∨ f 7 = 1 ∨ f 7 = 2 := by
  obtain ⟨m, m1, m2, m3⟩ := h.nat
  rw [m3]
  obtain rfl | rfl | rfl : m = 0 ∨ m = 1 ∨ m = 2 := by omega
  · exact Or.inl rfl
  · exact Or.inr (Or.inl rfl)
  · exact Or.inr (Or.inr rfl)
set_option maxRecDepth 100000 in
set_option maxHeartbeats 4000000 in
theorem c_X9_foresees {l9 : Launch} {G : GC} {h : AH} {w : Nat → Int32} {v9 : Nat → Int64} {p : Nat} {f : Nat → Int32} {g : Nat → Int64} {c u : Nat} {x : Int32} (hW : World h) (hm : PV h w v9 p f g) (hp : p < 4) (hO : PoOK f g c u) (hx : x = nI p) (hc0 : 0 < c) : PM l9 G mX9_foresees NT NT [.ref 723, .int x] h (fun v h' => v = some (.int (foF f c)) ∧ h' = h) noX := by
  refine PM.of (by decide +kernel) rfl rfl (Nat.le_of_ble_eq_true rfl) (fun hst _ => ?_)
  have yc := hO.2.2.2.2.1.2.1
  obtain ⟨y8, yw, yw0⟩ := wn_le (c := c) (hO.at 5)
  have yn0 : 0 < wn f c := yw0 hc0
  have ye6 : nn (f 6) ≤ 8 := (hO.at 6).2.2
  have hp3 := pol_3 (hO.at 7)
  refine r_aload_n dX9_foresees_0 rfl ?_
  refine r_iload_n dX9_foresees_1 rfl ?_
  refine q_callV1 (cv_X9_windowOf ml_X9_111) hW kc_723 (by decide) rfl ⟨rfl, rfl⟩ rfl (Nat.le_of_ble_eq_true rfl) dX9_foresees_2 (c_X9_windowOf hW hm hp hO hx) (fun v_2 h_2 q_2 => ?_)
  obtain ⟨rfl, z9⟩ := q_2
  replace z9 := z9.symm
  subst z9
  refine r_istore_n (ls2 := [_, some _, _, _, _]) dX9_foresees_5 (by decide) rfl ?_
  refine r_aload_n dX9_foresees_6 rfl ?_
  refine r_iload_n dX9_foresees_7 rfl ?_
  refine r_bipush (6) dX9_foresees_8 (by decide) ?_
  refine q_callV2 (cv_X9_of ml_X9_81) hW kc_723 (by decide) rfl ⟨rfl, rfl⟩ rfl (Nat.le_of_ble_eq_true rfl) dX9_foresees_10 (c_X9_of hW hm hp hx kn_6 (by omega)) (fun v_10 h_10 q_10 => ?_)
  obtain ⟨rfl, z9⟩ := q_10
  replace z9 := z9.symm
  subst z9
  refine r_istore_n (ls2 := [_, _, some _, _, _]) dX9_foresees_13 (by decide) rfl ?_
  refine r_aload_n dX9_foresees_14 rfl ?_
  refine r_iload_n dX9_foresees_15 rfl ?_
  refine r_bipush (7) dX9_foresees_16 (by decide) ?_
  refine q_callV2 (cv_X9_of ml_X9_81) hW kc_723 (by decide) rfl ⟨rfl, rfl⟩ rfl (Nat.le_of_ble_eq_true rfl) dX9_foresees_18 (c_X9_of hW hm hp hx kn_7 (by omega)) (fun v_18 h_18 q_18 => ?_)
  obtain ⟨rfl, z9⟩ := q_18
  replace z9 := z9.symm
  subst z9
  refine r_if_ne 34 dX9_foresees_21 (by decide) (fun c_21 => ?_) (fun c_21 => ?_)
  · refine r_aload_n dX9_foresees_34 rfl ?_
    refine r_iload_n dX9_foresees_35 rfl ?_
    refine r_bipush (7) dX9_foresees_36 (by decide) ?_
    refine q_callV2 (cv_X9_of ml_X9_81) hW kc_723 (by decide) rfl ⟨rfl, rfl⟩ rfl (Nat.le_of_ble_eq_true rfl) dX9_foresees_38 (c_X9_of hW hm hp hx kn_7 (by omega)) (fun v_38 h_38 q_38 => ?_)
    obtain ⟨rfl, z9⟩ := q_38
    replace z9 := z9.symm
    subst z9
    refine r_iconst (1) dX9_foresees_41 (by decide) ?_
    refine r_icmp_ne 82 dX9_foresees_42 (by decide) (fun c_42 => ?_) (fun c_42 => ?_)
    · have h7 : f 7 = 2 := hp3.resolve_left c_21 |>.resolve_left c_42
      obtain ⟨ld, l1, l2, l3⟩ := (hO.at 6).nat
      have l2' : ld ≤ 8 := l2
      have z8 : rg (f 8) 1 24 := ⟨(hO.at 8).1, hO.2.1.1 h7, (hO.at 8).2.2⟩
      obtain ⟨pe, p1, p2, p3⟩ := z8.nat
      have q1 := Nat.div_add_mod (ld + pe - 1) pe
      have q2 := Nat.mod_lt (ld + pe - 1) (show 0 < pe by omega)
      rw [Nat.mul_comm] at q1
      have hfar : (f 6 + f 8 - 1) / f 8 * f 8 - f 6 = nI ((ld + pe - 1) / pe * pe - ld) := by
        rw [l3, p3, nI_add, nI_s1 (by omega), pk_div (by omega) (by omega) (by omega), pk_mul, pk_sub (by omega)]
      have hD : dUp (f 6) (f 8) * f 8 - f 6 = nI ((ld + pe - 1) / pe * pe - ld) := by rw [dUp_e p3 (by omega) (by omega)]; exact hfar
      have hF := foF_s (c := c) h7
      rw [hD, nn_I (by omega)] at hF
      refine r_iload_n dX9_foresees_82 rfl ?_
      refine r_aload_n dX9_foresees_83 rfl ?_
      refine r_iload_n dX9_foresees_84 rfl ?_
      refine r_bipush (8) dX9_foresees_85 (by decide) ?_
      refine q_callV2 (cv_X9_of ml_X9_81) hW kc_723 (by decide) rfl ⟨rfl, rfl⟩ rfl (Nat.le_of_ble_eq_true rfl) dX9_foresees_87 (c_X9_of hW hm hp hx kn_8 (by omega)) (fun v_87 h_87 q_87 => ?_)
      obtain ⟨rfl, z9⟩ := q_87
      replace z9 := z9.symm
      subst z9
      refine q_callS2 (cs_X9_up ml_X9_120) ⟨rfl, rfl⟩ rfl (Nat.le_of_ble_eq_true rfl) dX9_foresees_90 (c_X9_up (by rw [p3]; exact nI_ne0 (by omega) (by omega))) (fun v_90 h_90 q_90 => ?_)
      obtain ⟨rfl, z9⟩ := q_90
      replace z9 := z9.symm
      subst z9
      refine r_aload_n dX9_foresees_93 rfl ?_
      refine r_iload_n dX9_foresees_94 rfl ?_
      refine r_bipush (8) dX9_foresees_95 (by decide) ?_
      refine q_callV2 (cv_X9_of ml_X9_81) hW kc_723 (by decide) rfl ⟨rfl, rfl⟩ rfl (Nat.le_of_ble_eq_true rfl) dX9_foresees_97 (c_X9_of hW hm hp hx kn_8 (by omega)) (fun v_97 h_97 q_97 => ?_)
      obtain ⟨rfl, z9⟩ := q_97
      replace z9 := z9.symm
      subst z9
      refine r_imul dX9_foresees_100 ?_
      refine r_iload_n dX9_foresees_101 rfl ?_
      refine r_isub dX9_foresees_102 ?_
      rw [hfar]
      refine r_istore (ls2 := [_, _, _, some _, _]) dX9_foresees_103 (by decide) rfl ?_
      refine r_iload dX9_foresees_105 rfl ?_
      refine r_aload_n dX9_foresees_107 rfl ?_
      refine r_iload_n dX9_foresees_108 rfl ?_
      refine r_bipush (29) dX9_foresees_109 (by decide) ?_
      refine q_callV2 (cv_X9_of ml_X9_81) hW kc_723 (by decide) rfl ⟨rfl, rfl⟩ rfl (Nat.le_of_ble_eq_true rfl) dX9_foresees_111 (c_X9_of hW hm hp hx kn_29 (by omega)) (fun v_111 h_111 q_111 => ?_)
      obtain ⟨rfl, z9⟩ := q_111
      replace z9 := z9.symm
      subst z9
      rw [hO.2.2.2.2.1.1]
      refine r_icmp_ge 127 dX9_foresees_114 (by decide) (fun c_114 => ?_) (fun c_114 => ?_)
      · refine r_aload_n dX9_foresees_127 rfl ?_
        refine r_iload_n dX9_foresees_128 rfl ?_
        refine r_iconst (0) dX9_foresees_129 (by decide) ?_
        refine q_callV2 (cv_X9_back ml_X9_114) hW kc_723 (by decide) rfl ⟨rfl, rfl⟩ rfl (Nat.le_of_ble_eq_true rfl) dX9_foresees_130 (c_X9_back hW hm hp hO hx kn_0 (by omega)) (fun v_130 h_130 q_130 => ?_)
        obtain ⟨rfl, z9⟩ := q_130
        replace z9 := z9.symm
        subst z9
        refine r_iret dX9_foresees_133 rfl ⟨Nat.zero_le _, Nat.zero_le _⟩ ?_
        first
          | (rw [if_pos (i_lt.mp c_114)] at hF; rw [hF]; exact ⟨rfl, rfl⟩)
          | (rw [if_neg (Int32.not_lt.mpr c_114)] at hF; rw [hF]; exact ⟨rfl, rfl⟩)
      · refine r_aload_n dX9_foresees_117 rfl ?_
        refine r_iload_n dX9_foresees_118 rfl ?_
        refine r_iload dX9_foresees_119 rfl ?_
        refine q_callV2 (cv_X9_back ml_X9_114) hW kc_723 (by decide) rfl ⟨rfl, rfl⟩ rfl (Nat.le_of_ble_eq_true rfl) dX9_foresees_121 (c_X9_back hW hm hp hO hx rfl ((nI_ltI (by omega) (by omega)).mp (i_lt.mp c_114))) (fun v_121 h_121 q_121 => ?_)
        obtain ⟨rfl, z9⟩ := q_121
        replace z9 := z9.symm
        subst z9
        refine r_goto 133 dX9_foresees_124 (by decide) ?_
        refine r_iret dX9_foresees_133 rfl ⟨Nat.zero_le _, Nat.zero_le _⟩ ?_
        first
          | (rw [if_pos (i_lt.mp c_114)] at hF; rw [hF]; exact ⟨rfl, rfl⟩)
          | (rw [if_neg (Int32.not_lt.mpr c_114)] at hF; rw [hF]; exact ⟨rfl, rfl⟩)
    · refine r_iconst (0) dX9_foresees_45 (by decide) ?_
      refine r_aload_n dX9_foresees_46 rfl ?_
      refine r_iload_n dX9_foresees_47 rfl ?_
      refine r_iconst (0) dX9_foresees_48 (by decide) ?_
      refine q_callV2 (cv_X9_back ml_X9_114) hW kc_723 (by decide) rfl ⟨rfl, rfl⟩ rfl (Nat.le_of_ble_eq_true rfl) dX9_foresees_49 (c_X9_back hW hm hp hO hx kn_0 (by omega)) (fun v_49 h_49 q_49 => ?_)
      obtain ⟨rfl, z9⟩ := q_49
      replace z9 := z9.symm
      subst z9
      refine r_aload_n dX9_foresees_52 rfl ?_
      refine r_iload_n dX9_foresees_53 rfl ?_
      refine r_iconst (0) dX9_foresees_54 (by decide) ?_
      refine q_callV2 (cv_X9_back ml_X9_114) hW kc_723 (by decide) rfl ⟨rfl, rfl⟩ rfl (Nat.le_of_ble_eq_true rfl) dX9_foresees_55 (c_X9_back hW hm hp hO hx kn_0 (by omega)) (fun v_55 h_55 q_55 => ?_)
      obtain ⟨rfl, z9⟩ := q_55
      replace z9 := z9.symm
      subst z9
      refine r_aload_n dX9_foresees_58 rfl ?_
      refine r_iload_n dX9_foresees_59 rfl ?_
      refine r_iload_n dX9_foresees_60 rfl ?_
      refine r_iconst (1) dX9_foresees_61 (by decide) ?_
      refine r_isub dX9_foresees_62 ?_
      refine q_callV2 (cv_X9_back ml_X9_114) hW kc_723 (by decide) rfl ⟨rfl, rfl⟩ rfl (Nat.le_of_ble_eq_true rfl) dX9_foresees_63 (c_X9_back hW hm hp hO hx (nsub rfl kn_1 (by omega)) (by omega)) (fun v_63 h_63 q_63 => ?_)
      obtain ⟨rfl, z9⟩ := q_63
      replace z9 := z9.symm
      subst z9
      refine r_isub dX9_foresees_66 ?_
      refine r_iload_n dX9_foresees_67 rfl ?_
      refine r_imul dX9_foresees_68 ?_
      refine r_iconst (1) dX9_foresees_69 (by decide) ?_
      refine r_iload_n dX9_foresees_70 rfl ?_
      refine r_iconst (1) dX9_foresees_71 (by decide) ?_
      refine r_isub dX9_foresees_72 ?_
      refine q_max mm_X9_123 rfl (Nat.le_of_ble_eq_true rfl) dX9_foresees_73 ?_
      refine r_idiv dX9_foresees_76 imx1_ne ?_
      refine r_iadd dX9_foresees_77 ?_
      refine q_max mm_X9_123 rfl (Nat.le_of_ble_eq_true rfl) dX9_foresees_78 ?_
      refine r_iret dX9_foresees_81 rfl ⟨Nat.zero_le _, Nat.zero_le _⟩ ?_
      rw [foF_t (by first | exact c_42 | simpa using c_42)]; exact ⟨rfl, rfl⟩
  · refine r_aload_n dX9_foresees_24 rfl ?_
    refine r_iload_n dX9_foresees_25 rfl ?_
    refine q_callV1 (cv_X9_windowSum ml_X9_117) hW kc_723 (by decide) rfl ⟨rfl, rfl⟩ rfl (Nat.le_of_ble_eq_true rfl) dX9_foresees_26 (c_X9_windowSum hW hm hp hO hx) (fun v_26 h_26 q_26 => ?_)
    obtain ⟨rfl, z9⟩ := q_26
    replace z9 := z9.symm
    subst z9
    refine r_iload_n dX9_foresees_29 rfl ?_
    refine q_callS2 (cs_X9_up ml_X9_120) ⟨rfl, rfl⟩ rfl (Nat.le_of_ble_eq_true rfl) dX9_foresees_30 (c_X9_up (nI_ne0 yn0 (by omega))) (fun v_30 h_30 q_30 => ?_)
    obtain ⟨rfl, z9⟩ := q_30
    replace z9 := z9.symm
    subst z9
    refine r_iret dX9_foresees_33 rfl ⟨Nat.zero_le _, Nat.zero_le _⟩ ?_
    rw [foF_w (by first | exact c_21 | simpa using c_21), dUp_e rfl yn0 (by omega)]; exact ⟨rfl, rfl⟩

theorem metG_eq {f : Nat → Int32} {g : Nat → Int64} {t : Nat} : vp_updL (vp_updL (vp_updL (vp_updL (vp_updL g 0 (g 0 + (dmA f t 0 - lkF f t).toInt64)) 1 (g 1 + (lkF f t).toInt64)) 2 (g 2 + (f 14 * f 23 + f 15 * lkF f t).toInt64)) 4 (g 4 + (dmA f t 0).toInt64)) 5 (g 5 + (pwF f (nI t)).toInt64) = metG f g t := by
  funext k
  match k with
  | 0 => rfl
  | 1 => rfl
  | 2 => rfl
  | 3 => rfl
  | 4 => rfl
  | 5 => rfl
  | k + 6 =>
    rw [pk_uLn (by omega), pk_uLn (by omega), pk_uLn (by omega), pk_uLn (by omega), pk_uLn (by omega)]
    rfl
set_option maxRecDepth 100000 in
set_option maxHeartbeats 4000000 in
theorem c_X9_meets {l9 : Launch} {G : GC} {h : AH} {w : Nat → Int32} {v9 : Nat → Int64} {p : Nat} {f : Nat → Int32} {g : Nat → Int64} {t : Nat} {x : Int32} (hW : World h) (hm : PV h w v9 p f g) (hp : p < 4) (hO : PoOK f g t t) (hx : x = nI p) (h1 : w 1 = nI t) : PM l9 G mX9_meets NT NT [.ref 723, .int x] h (fun v h' => v = none ∧ eqx h h' SM ∧ PV h' w v9 p (erF (metF f t) t (metF f t (60 + t % 24))) (erG (metF f t) (metG f g t) t (metF f t (60 + t % 24)))) noX := by
  refine PM.of (by decide +kernel) rfl rfl (Nat.le_of_ble_eq_true rfl) (fun hst _ => ?_)
  have yc := hO.2.2.2.2.1.2.1
  have he : eqx h h SM := eqx.rf
  have ym := Nat.mod_lt t (show 0 < 24 by decide)
  have ym2 := Nat.mod_lt t (show 0 < 16 by decide)
  have y6 : nn (f 6) ≤ 8 := (hO.at 6).2.2
  refine r_aload_n dX9_meets_0 rfl ?_
  refine q_getR fl_X9_7 hW kc_723 rfl (kl_9_0 hW) (by decide) dX9_meets_1 ?_
  refine r_iconst (1) dX9_meets_4 (by decide) ?_
  refine q_wldPV hW hm kn_1 (by omega) dX9_meets_5 ?_
  rw [h1]
  refine r_istore_n (ls2 := [_, some _, _, _, _, _, _]) dX9_meets_6 (by decide) rfl ?_
  refine r_aload_n dX9_meets_7 rfl ?_
  refine r_iload_n dX9_meets_8 rfl ?_
  refine r_iload_n dX9_meets_9 rfl ?_
  refine q_callV2 (cv_X9_told ml_X9_126) hW kc_723 (by decide) rfl ⟨rfl, rfl⟩ rfl (Nat.le_of_ble_eq_true rfl) dX9_meets_10 (c_X9_told hW hm hp hO hx rfl (by omega)) (fun v_10 h_10 q_10 => ?_)
  obtain ⟨rfl, z9⟩ := q_10
  replace z9 := z9.symm
  subst z9
  refine r_aload_n dX9_meets_13 rfl ?_
  refine r_iload_n dX9_meets_14 rfl ?_
  refine r_bipush (20) dX9_meets_15 (by decide) ?_
  refine q_callV2 (cv_X9_of ml_X9_81) hW kc_723 (by decide) rfl ⟨rfl, rfl⟩ rfl (Nat.le_of_ble_eq_true rfl) dX9_meets_17 (c_X9_of hW hm hp hx kn_20 (by omega)) (fun v_17 h_17 q_17 => ?_)
  obtain ⟨rfl, z9⟩ := q_17
  replace z9 := z9.symm
  subst z9
  refine r_iadd dX9_meets_20 ?_
  rw [show ldA (lds f) t + f 20 = dmA f t 0 from by unfold dmA; rw [if_pos rfl]; rfl]
  refine r_istore_n (ls2 := [_, _, some _, _, _, _, _]) dX9_meets_21 (by decide) rfl ?_
  refine r_aload_n dX9_meets_22 rfl ?_
  refine r_iload_n dX9_meets_23 rfl ?_
  refine q_callV1 (cv_X9_power ml_X9_129) hW kc_723 (by decide) rfl ⟨rfl, rfl⟩ rfl (Nat.le_of_ble_eq_true rfl) dX9_meets_24 (c_X9_power hW hm hp hO hx) (fun v_24 h_24 q_24 => ?_)
  obtain ⟨rfl, z9⟩ := q_24
  replace z9 := z9.symm
  subst z9
  rw [h1]
  refine r_istore (ls2 := [_, _, _, some _, _, _, _]) dX9_meets_27 (by decide) rfl ?_
  refine r_iconst (0) dX9_meets_29 (by decide) ?_
  refine r_iload_n dX9_meets_30 rfl ?_
  refine r_iload dX9_meets_31 rfl ?_
  refine r_isub dX9_meets_33 ?_
  refine q_max mm_X9_123 rfl (Nat.le_of_ble_eq_true rfl) dX9_meets_34 ?_
  rw [show imx 0 (dmA f t 0 - pwF f (nI t)) = lkF f t from rfl]
  refine r_istore (ls2 := [_, _, _, _, some _, _, _]) dX9_meets_37 (by decide) rfl ?_
  refine r_aload_n dX9_meets_39 rfl ?_
  refine r_iload_n dX9_meets_40 rfl ?_
  refine r_bipush (20) dX9_meets_41 (by decide) ?_
  refine r_iconst (0) dX9_meets_43 (by decide) ?_
  refine q_callV3 (cv_X9_put ml_X9_64) hW kc_723 (by decide) rfl ⟨rfl, rfl⟩ rfl (Nat.le_of_ble_eq_true rfl) dX9_meets_44 (c_X9_put hW hm hp hx kn_20 (by omega)) (fun v_44 h_44 q_44 => ?_)
  obtain ⟨rfl, e_44, hm⟩ := q_44
  have hW := e_44.W hW
  have he := he.tr e_44
  refine r_aload_n dX9_meets_47 rfl ?_
  refine r_iload_n dX9_meets_48 rfl ?_
  refine r_bipush (60) dX9_meets_49 (by decide) ?_
  refine r_iload_n dX9_meets_51 rfl ?_
  refine r_bipush (24) dX9_meets_52 (by decide) ?_
  refine r_irem dX9_meets_54 (by decide) ?_
  refine r_iadd dX9_meets_55 ?_
  refine r_iload_n dX9_meets_56 rfl ?_
  refine q_callV3 (cv_X9_put ml_X9_64) hW kc_723 (by decide) rfl ⟨rfl, rfl⟩ rfl (Nat.le_of_ble_eq_true rfl) dX9_meets_57 (c_X9_put hW hm hp hx (nadd kn_60 (nrem rfl kn_24 (by omega) (by omega) (by omega))) (by omega)) (fun v_57 h_57 q_57 => ?_)
  obtain ⟨rfl, e_57, hm⟩ := q_57
  have hW := e_57.W hW
  have he := he.tr e_57
  refine r_aload_n dX9_meets_60 rfl ?_
  refine r_iload_n dX9_meets_61 rfl ?_
  refine r_bipush (29) dX9_meets_62 (by decide) ?_
  refine r_iconst (1) dX9_meets_64 (by decide) ?_
  refine q_callV3 (cv_X9_adds ml_X9_85) hW kc_723 (by decide) rfl ⟨rfl, rfl⟩ rfl (Nat.le_of_ble_eq_true rfl) dX9_meets_65 (c_X9_adds hW hm hp hx kn_29 (by omega)) (fun v_65 h_65 q_65 => ?_)
  obtain ⟨rfl, e_65, hm⟩ := q_65
  have hW := e_65.W hW
  have he := he.tr e_65
  replace hm : PV h_65 w v9 p (upd (upd (upd f 20 0) (60 + t % 24) (dmA f t 0)) 29 (f 29 + 1)) g := hm.eF (by rw [show (upd (upd f 20 0) (60 + t % 24) (dmA f t 0)) 29 = f 29 from by rw [pk_un (by omega), pk_un (by omega)]]) rfl
  refine r_aload_n dX9_meets_68 rfl ?_
  refine r_iload_n dX9_meets_69 rfl ?_
  refine r_bipush (25) dX9_meets_70 (by decide) ?_
  refine r_aload_n dX9_meets_72 rfl ?_
  refine r_iload_n dX9_meets_73 rfl ?_
  refine r_bipush (25) dX9_meets_74 (by decide) ?_
  refine q_callV2 (cv_X9_of ml_X9_81) hW kc_723 (by decide) rfl ⟨rfl, rfl⟩ rfl (Nat.le_of_ble_eq_true rfl) dX9_meets_76 (c_X9_of hW hm hp hx kn_25 (by omega)) (fun v_76 h_76 q_76 => ?_)
  obtain ⟨rfl, z9⟩ := q_76
  replace z9 := z9.symm
  subst z9
  rw [show (upd (upd (upd f 20 0) (60 + t % 24) (dmA f t 0)) 29 (f 29 + 1)) 25 = f 25 from by rw [pk_un (by omega), pk_un (by omega), pk_un (by omega)]]
  refine r_iload_n dX9_meets_79 rfl ?_
  refine q_max mm_X9_123 rfl (Nat.le_of_ble_eq_true rfl) dX9_meets_80 ?_
  refine q_callV3 (cv_X9_put ml_X9_64) hW kc_723 (by decide) rfl ⟨rfl, rfl⟩ rfl (Nat.le_of_ble_eq_true rfl) dX9_meets_83 (c_X9_put hW hm hp hx kn_25 (by omega)) (fun v_83 h_83 q_83 => ?_)
  obtain ⟨rfl, e_83, hm⟩ := q_83
  have hW := e_83.W hW
  have he := he.tr e_83
  have keyA : ∀ H : AH, World H → eqx h H SM → PV H w v9 p (metF f t) g → PW l9 G mX9_meets (mO mX9_meets) (fiM G mX9_meets NT (fun v h' => v = none ∧ eqx h h' SM ∧ PV h' w v9 p (erF (metF f t) t (metF f t (60 + t % 24))) (erG (metF f t) (metG f g t) t (metF f t (60 + t % 24)))) noX) NT 135 [some (.ref 723), some (.int x), some (.int (nI t)), some (.int (dmA f t 0)), some (.int (pwF f (nI t))), some (.int (lkF f t)), none] [] (0, 0) H := by
    intro H hW he hm
    rw [metF_s]
    obtain ⟨F, eF⟩ : ∃ F, F = metF f t := ⟨_, rfl⟩
    rw [← eF] at hm ⊢
    have z14 : F 14 = f 14 := by rw [eF]; exact metF_o (by omega)
    have z15 : F 15 = f 15 := by rw [eF]; exact metF_o (by omega)
    have z23 : F 23 = f 23 := by rw [eF]; exact metF_o (by omega)
    have z6 : F 6 = f 6 := by rw [eF]; exact metF_o (by omega)
    refine r_aload_n dX9_meets_135 rfl ?_
    refine q_getR fl_X9_25 hW kc_723 rfl (kl_9_5 hW) (by decide) dX9_meets_136 ?_
    refine r_bipush (6) dX9_meets_139 (by decide) ?_
    refine r_iload_n dX9_meets_141 rfl ?_
    refine r_imul dX9_meets_142 ?_
    refine r_iconst (0) dX9_meets_143 (by decide) ?_
    refine r_iadd dX9_meets_144 ?_
    refine r_dup2 dX9_meets_145 rfl rfl ?_
    refine q_vldPV hW hm (nadd (nmul kn_6 hx) kn_0) (by omega) dX9_meets_146 ?_
    refine r_iload_n dX9_meets_147 rfl ?_
    refine r_iload dX9_meets_148 rfl ?_
    refine r_isub dX9_meets_150 ?_
    refine r_i2l dX9_meets_151 ?_
    refine r_ladd dX9_meets_152 ?_
    refine q_vstPV hW hm (nadd (nmul kn_6 hx) kn_0) (by omega) dX9_meets_153 (fun h_153 hW hm e_153 => ?_)
    have he := he.tr e_153
    refine r_aload_n dX9_meets_154 rfl ?_
    refine q_getR fl_X9_25 hW kc_723 rfl (kl_9_5 hW) (by decide) dX9_meets_155 ?_
    refine r_bipush (6) dX9_meets_158 (by decide) ?_
    refine r_iload_n dX9_meets_160 rfl ?_
    refine r_imul dX9_meets_161 ?_
    refine r_iconst (1) dX9_meets_162 (by decide) ?_
    refine r_iadd dX9_meets_163 ?_
    refine r_dup2 dX9_meets_164 rfl rfl ?_
    refine q_vldPV hW hm (nadd (nmul kn_6 hx) kn_1) (by omega) dX9_meets_165 ?_
    refine r_iload dX9_meets_166 rfl ?_
    refine r_i2l dX9_meets_168 ?_
    refine r_ladd dX9_meets_169 ?_
    refine q_vstPV hW hm (nadd (nmul kn_6 hx) kn_1) (by omega) dX9_meets_170 (fun h_170 hW hm e_170 => ?_)
    have he := he.tr e_170
    refine r_aload_n dX9_meets_171 rfl ?_
    refine q_getR fl_X9_25 hW kc_723 rfl (kl_9_5 hW) (by decide) dX9_meets_172 ?_
    refine r_bipush (6) dX9_meets_175 (by decide) ?_
    refine r_iload_n dX9_meets_177 rfl ?_
    refine r_imul dX9_meets_178 ?_
    refine r_iconst (2) dX9_meets_179 (by decide) ?_
    refine r_iadd dX9_meets_180 ?_
    refine r_dup2 dX9_meets_181 rfl rfl ?_
    refine q_vldPV hW hm (nadd (nmul kn_6 hx) kn_2) (by omega) dX9_meets_182 ?_
    refine r_aload_n dX9_meets_183 rfl ?_
    refine r_iload_n dX9_meets_184 rfl ?_
    refine r_bipush (14) dX9_meets_185 (by decide) ?_
    refine q_callV2 (cv_X9_of ml_X9_81) hW kc_723 (by decide) rfl ⟨rfl, rfl⟩ rfl (Nat.le_of_ble_eq_true rfl) dX9_meets_187 (c_X9_of hW hm hp hx kn_14 (by omega)) (fun v_187 h_187 q_187 => ?_)
    obtain ⟨rfl, z9⟩ := q_187
    replace z9 := z9.symm
    subst z9
    rw [z14]
    refine r_aload_n dX9_meets_190 rfl ?_
    refine r_iload_n dX9_meets_191 rfl ?_
    refine r_bipush (23) dX9_meets_192 (by decide) ?_
    refine q_callV2 (cv_X9_of ml_X9_81) hW kc_723 (by decide) rfl ⟨rfl, rfl⟩ rfl (Nat.le_of_ble_eq_true rfl) dX9_meets_194 (c_X9_of hW hm hp hx kn_23 (by omega)) (fun v_194 h_194 q_194 => ?_)
    obtain ⟨rfl, z9⟩ := q_194
    replace z9 := z9.symm
    subst z9
    rw [z23]
    refine r_imul dX9_meets_197 ?_
    refine r_aload_n dX9_meets_198 rfl ?_
    refine r_iload_n dX9_meets_199 rfl ?_
    refine r_bipush (15) dX9_meets_200 (by decide) ?_
    refine q_callV2 (cv_X9_of ml_X9_81) hW kc_723 (by decide) rfl ⟨rfl, rfl⟩ rfl (Nat.le_of_ble_eq_true rfl) dX9_meets_202 (c_X9_of hW hm hp hx kn_15 (by omega)) (fun v_202 h_202 q_202 => ?_)
    obtain ⟨rfl, z9⟩ := q_202
    replace z9 := z9.symm
    subst z9
    rw [z15]
    refine r_iload dX9_meets_205 rfl ?_
    refine r_imul dX9_meets_207 ?_
    refine r_iadd dX9_meets_208 ?_
    refine r_i2l dX9_meets_209 ?_
    refine r_ladd dX9_meets_210 ?_
    refine q_vstPV hW hm (nadd (nmul kn_6 hx) kn_2) (by omega) dX9_meets_211 (fun h_211 hW hm e_211 => ?_)
    have he := he.tr e_211
    refine r_aload_n dX9_meets_212 rfl ?_
    refine q_getR fl_X9_25 hW kc_723 rfl (kl_9_5 hW) (by decide) dX9_meets_213 ?_
    refine r_bipush (6) dX9_meets_216 (by decide) ?_
    refine r_iload_n dX9_meets_218 rfl ?_
    refine r_imul dX9_meets_219 ?_
    refine r_iconst (4) dX9_meets_220 (by decide) ?_
    refine r_iadd dX9_meets_221 ?_
    refine r_dup2 dX9_meets_222 rfl rfl ?_
    refine q_vldPV hW hm (nadd (nmul kn_6 hx) kn_4) (by omega) dX9_meets_223 ?_
    refine r_iload_n dX9_meets_224 rfl ?_
    refine r_i2l dX9_meets_225 ?_
    refine r_ladd dX9_meets_226 ?_
    refine q_vstPV hW hm (nadd (nmul kn_6 hx) kn_4) (by omega) dX9_meets_227 (fun h_227 hW hm e_227 => ?_)
    have he := he.tr e_227
    refine r_aload_n dX9_meets_228 rfl ?_
    refine q_getR fl_X9_25 hW kc_723 rfl (kl_9_5 hW) (by decide) dX9_meets_229 ?_
    refine r_bipush (6) dX9_meets_232 (by decide) ?_
    refine r_iload_n dX9_meets_234 rfl ?_
    refine r_imul dX9_meets_235 ?_
    refine r_iconst (5) dX9_meets_236 (by decide) ?_
    refine r_iadd dX9_meets_237 ?_
    refine r_dup2 dX9_meets_238 rfl rfl ?_
    refine q_vldPV hW hm (nadd (nmul kn_6 hx) kn_5) (by omega) dX9_meets_239 ?_
    refine r_iload dX9_meets_240 rfl ?_
    refine r_i2l dX9_meets_242 ?_
    refine r_ladd dX9_meets_243 ?_
    refine q_vstPV hW hm (nadd (nmul kn_6 hx) kn_5) (by omega) dX9_meets_244 (fun h_244 hW hm e_244 => ?_)
    have he := he.tr e_244
    replace hm := hm.eF rfl (metG_eq (f := f) (g := g) (t := t)).symm
    refine r_iload_n dX9_meets_245 rfl ?_
    refine r_aload_n dX9_meets_246 rfl ?_
    refine r_iload_n dX9_meets_247 rfl ?_
    refine r_bipush (6) dX9_meets_248 (by decide) ?_
    refine q_callV2 (cv_X9_of ml_X9_81) hW kc_723 (by decide) rfl ⟨rfl, rfl⟩ rfl (Nat.le_of_ble_eq_true rfl) dX9_meets_250 (c_X9_of hW hm hp hx kn_6 (by omega)) (fun v_250 h_250 q_250 => ?_)
    obtain ⟨rfl, z9⟩ := q_250
    replace z9 := z9.symm
    subst z9
    rw [z6, (hO.at 6).1]
    refine r_icmp_lt 309 dX9_meets_253 (by decide) (fun c_253 => ?_) (fun c_253 => ?_)
    · refine r_vret dX9_meets_309 rfl ⟨Nat.zero_le _, Nat.zero_le _⟩ ?_
      first
        | (have hlt : t < nn (F 6) := by rw [z6]; exact (nI_ltI (by omega) (by omega)).mp c_253
           unfold erF erG
           rw [if_pos hlt, if_pos hlt]
           exact ⟨rfl, he, hm⟩)
        | (unfold erF erG
           rw [if_neg hge, if_neg hge]
           refine ⟨rfl, he, hm.eF rfl ?_⟩
           unfold iab
           first
             | rw [if_pos c_286]
             | rw [if_neg c_286, Int32.zero_sub])
    · have hge : ¬ t < nn (F 6) := fun q => absurd ((nI_ltI (by omega) (by omega)).mpr (z6 ▸ q)) c_253
      refine r_aload_n dX9_meets_256 rfl ?_
      refine r_iload_n dX9_meets_257 rfl ?_
      refine r_bipush (84) dX9_meets_258 (by decide) ?_
      refine r_iload_n dX9_meets_260 rfl ?_
      refine r_bipush (16) dX9_meets_261 (by decide) ?_
      refine r_irem dX9_meets_263 (by decide) ?_
      refine r_iadd dX9_meets_264 ?_
      refine q_callV2 (cv_X9_of ml_X9_81) hW kc_723 (by decide) rfl ⟨rfl, rfl⟩ rfl (Nat.le_of_ble_eq_true rfl) dX9_meets_265 (c_X9_of hW hm hp hx (nadd kn_84 (nrem rfl kn_16 (by omega) (by omega) (by omega))) (by omega)) (fun v_265 h_265 q_265 => ?_)
      obtain ⟨rfl, z9⟩ := q_265
      replace z9 := z9.symm
      subst z9
      refine r_iload_n dX9_meets_268 rfl ?_
      refine r_isub dX9_meets_269 ?_
      refine r_istore (ls2 := [_, _, _, _, _, some _, _]) dX9_meets_270 (by decide) rfl ?_
      refine r_aload_n dX9_meets_272 rfl ?_
      refine q_getR fl_X9_25 hW kc_723 rfl (kl_9_5 hW) (by decide) dX9_meets_273 ?_
      refine r_bipush (6) dX9_meets_276 (by decide) ?_
      refine r_iload_n dX9_meets_278 rfl ?_
      refine r_imul dX9_meets_279 ?_
      refine r_iconst (3) dX9_meets_280 (by decide) ?_
      refine r_iadd dX9_meets_281 ?_
      refine r_dup2 dX9_meets_282 rfl rfl ?_
      refine q_vldPV hW hm (nadd (nmul kn_6 hx) kn_3) (by omega) dX9_meets_283 ?_
      refine r_iload dX9_meets_284 rfl ?_
      refine r_if_ge 296 dX9_meets_286 (by decide) (fun c_286 => ?_) (fun c_286 => ?_)
      · refine r_iload dX9_meets_296 rfl ?_
        refine r_i2l dX9_meets_298 ?_
        refine r_ladd dX9_meets_299 ?_
        refine q_vstPV hW hm (nadd (nmul kn_6 hx) kn_3) (by omega) dX9_meets_300 (fun h_300 hW hm e_300 => ?_)
        have he := he.tr e_300
        refine r_aload_n dX9_meets_301 rfl ?_
        refine r_iload_n dX9_meets_302 rfl ?_
        refine r_bipush (28) dX9_meets_303 (by decide) ?_
        refine r_iconst (1) dX9_meets_305 (by decide) ?_
        refine q_callV3 (cv_X9_adds ml_X9_85) hW kc_723 (by decide) rfl ⟨rfl, rfl⟩ rfl (Nat.le_of_ble_eq_true rfl) dX9_meets_306 (c_X9_adds hW hm hp hx kn_28 (by omega)) (fun v_306 h_306 q_306 => ?_)
        obtain ⟨rfl, e_306, hm⟩ := q_306
        have hW := e_306.W hW
        have he := he.tr e_306
        refine r_vret dX9_meets_309 rfl ⟨Nat.zero_le _, Nat.zero_le _⟩ ?_
        first
          | (have hlt : t < nn (F 6) := by rw [z6]; exact (nI_ltI (by omega) (by omega)).mp c_253
             unfold erF erG
             rw [if_pos hlt, if_pos hlt]
             exact ⟨rfl, he, hm⟩)
          | (unfold erF erG
             rw [if_neg hge, if_neg hge]
             refine ⟨rfl, he, hm.eF rfl ?_⟩
             unfold iab
             first
               | rw [if_pos c_286]
               | rw [if_neg c_286, Int32.zero_sub])
      · refine r_iload dX9_meets_289 rfl ?_
        refine r_ineg dX9_meets_291 ?_
        refine r_i2l dX9_meets_292 ?_
        refine r_goto 299 dX9_meets_293 (by decide) ?_
        refine r_ladd dX9_meets_299 ?_
        refine q_vstPV hW hm (nadd (nmul kn_6 hx) kn_3) (by omega) dX9_meets_300 (fun h_300 hW hm e_300 => ?_)
        have he := he.tr e_300
        refine r_aload_n dX9_meets_301 rfl ?_
        refine r_iload_n dX9_meets_302 rfl ?_
        refine r_bipush (28) dX9_meets_303 (by decide) ?_
        refine r_iconst (1) dX9_meets_305 (by decide) ?_
        refine q_callV3 (cv_X9_adds ml_X9_85) hW kc_723 (by decide) rfl ⟨rfl, rfl⟩ rfl (Nat.le_of_ble_eq_true rfl) dX9_meets_306 (c_X9_adds hW hm hp hx kn_28 (by omega)) (fun v_306 h_306 q_306 => ?_)
        obtain ⟨rfl, e_306, hm⟩ := q_306
        have hW := e_306.W hW
        have he := he.tr e_306
        refine r_vret dX9_meets_309 rfl ⟨Nat.zero_le _, Nat.zero_le _⟩ ?_
        first
          | (have hlt : t < nn (F 6) := by rw [z6]; exact (nI_ltI (by omega) (by omega)).mp c_253
             unfold erF erG
             rw [if_pos hlt, if_pos hlt]
             exact ⟨rfl, he, hm⟩)
          | (unfold erF erG
             rw [if_neg hge, if_neg hge]
             refine ⟨rfl, he, hm.eF rfl ?_⟩
             unfold iab
             first
               | rw [if_pos c_286]
               | rw [if_neg c_286, Int32.zero_sub])
  
  have keyB : ∀ (H : AH) (z : Int32), World H → eqx h H SM → PV H w v9 p (upd (upd (upd (upd f 20 0) (60 + t % 24) (dmA f t 0)) 29 (f 29 + 1)) 25 (imx (f 25) (dmA f t 0))) g → z = (if 0 < lkF f t then f 26 + 1 else 0) → PW l9 G mX9_meets (mO mX9_meets) (fiM G mX9_meets NT (fun v h' => v = none ∧ eqx h h' SM ∧ PV h' w v9 p (erF (metF f t) t (metF f t (60 + t % 24))) (erG (metF f t) (metG f g t) t (metF f t (60 + t % 24)))) noX) NT 108 [some (.ref 723), some (.int x), some (.int (nI t)), some (.int (dmA f t 0)), some (.int (pwF f (nI t))), some (.int (lkF f t)), none] [.int z, .int 26, .int x, .ref 723] (0, 0) H := by
    intro H z hW he hm ez
    refine q_callV3 (cv_X9_put ml_X9_64) hW kc_723 (by decide) rfl ⟨rfl, rfl⟩ rfl (Nat.le_of_ble_eq_true rfl) dX9_meets_108 (c_X9_put hW hm hp hx kn_26 (by omega)) (fun v_108 h_108 q_108 => ?_)
    obtain ⟨rfl, e_108, hm⟩ := q_108
    have hW := e_108.W hW
    have he := he.tr e_108
    rw [ez] at hm
    refine r_aload_n dX9_meets_111 rfl ?_
    refine r_iload_n dX9_meets_112 rfl ?_
    refine r_bipush (27) dX9_meets_113 (by decide) ?_
    refine r_aload_n dX9_meets_115 rfl ?_
    refine r_iload_n dX9_meets_116 rfl ?_
    refine r_bipush (27) dX9_meets_117 (by decide) ?_
    refine q_callV2 (cv_X9_of ml_X9_81) hW kc_723 (by decide) rfl ⟨rfl, rfl⟩ rfl (Nat.le_of_ble_eq_true rfl) dX9_meets_119 (c_X9_of hW hm hp hx kn_27 (by omega)) (fun v_119 h_119 q_119 => ?_)
    obtain ⟨rfl, z9⟩ := q_119
    replace z9 := z9.symm
    subst z9
    rw [show (upd (upd (upd (upd (upd f 20 0) (60 + t % 24) (dmA f t 0)) 29 (f 29 + 1)) 25 (imx (f 25) (dmA f t 0))) 26 (if 0 < lkF f t then f 26 + 1 else 0)) 27 = f 27 from by rw [pk_un (by omega), pk_un (by omega), pk_un (by omega), pk_un (by omega), pk_un (by omega)]]
    refine r_aload_n dX9_meets_122 rfl ?_
    refine r_iload_n dX9_meets_123 rfl ?_
    refine r_bipush (26) dX9_meets_124 (by decide) ?_
    refine q_callV2 (cv_X9_of ml_X9_81) hW kc_723 (by decide) rfl ⟨rfl, rfl⟩ rfl (Nat.le_of_ble_eq_true rfl) dX9_meets_126 (c_X9_of hW hm hp hx kn_26 (by omega)) (fun v_126 h_126 q_126 => ?_)
    obtain ⟨rfl, z9⟩ := q_126
    replace z9 := z9.symm
    subst z9
    rw [show (upd (upd (upd (upd (upd f 20 0) (60 + t % 24) (dmA f t 0)) 29 (f 29 + 1)) 25 (imx (f 25) (dmA f t 0))) 26 (if 0 < lkF f t then f 26 + 1 else 0)) 26 = (if 0 < lkF f t then f 26 + 1 else 0) from pk_us]
    refine q_max mm_X9_123 rfl (Nat.le_of_ble_eq_true rfl) dX9_meets_129 ?_
    refine q_callV3 (cv_X9_put ml_X9_64) hW kc_723 (by decide) rfl ⟨rfl, rfl⟩ rfl (Nat.le_of_ble_eq_true rfl) dX9_meets_132 (c_X9_put hW hm hp hx kn_27 (by omega)) (fun v_132 h_132 q_132 => ?_)
    obtain ⟨rfl, e_132, hm⟩ := q_132
    have hW := e_132.W hW
    have he := he.tr e_132
    exact keyA _ hW he hm
  refine r_aload_n dX9_meets_86 rfl ?_
  refine r_iload_n dX9_meets_87 rfl ?_
  refine r_bipush (26) dX9_meets_88 (by decide) ?_
  refine r_iload dX9_meets_90 rfl ?_
  refine r_if_le 107 dX9_meets_92 (by decide) (fun c_92 => ?_) (fun c_92 => ?_)
  · refine r_iconst (0) dX9_meets_107 (by decide) ?_
    first
      | exact keyB _ _ hW he hm (if_neg c_92 |>.symm)
      | exact keyB _ _ hW he hm (if_pos (Int32.not_le.mp c_92)).symm
      | exact keyB _ _ hW he hm (if_neg (Int32.not_lt.mpr c_92)).symm
  · refine r_aload_n dX9_meets_95 rfl ?_
    refine r_iload_n dX9_meets_96 rfl ?_
    refine r_bipush (26) dX9_meets_97 (by decide) ?_
    refine q_callV2 (cv_X9_of ml_X9_81) hW kc_723 (by decide) rfl ⟨rfl, rfl⟩ rfl (Nat.le_of_ble_eq_true rfl) dX9_meets_99 (c_X9_of hW hm hp hx kn_26 (by omega)) (fun v_99 h_99 q_99 => ?_)
    obtain ⟨rfl, z9⟩ := q_99
    replace z9 := z9.symm
    subst z9
    rw [show (upd (upd (upd (upd f 20 0) (60 + t % 24) (dmA f t 0)) 29 (f 29 + 1)) 25 (imx (f 25) (dmA f t 0))) 26 = f 26 from by rw [pk_un (by omega), pk_un (by omega), pk_un (by omega), pk_un (by omega)]]
    refine r_iconst (1) dX9_meets_102 (by decide) ?_
    refine r_iadd dX9_meets_103 ?_
    refine r_goto 108 dX9_meets_104 (by decide) ?_
    first
      | exact keyB _ _ hW he hm (if_neg c_92 |>.symm)
      | exact keyB _ _ hW he hm (if_pos (Int32.not_le.mp c_92)).symm
      | exact keyB _ _ hW he hm (if_neg (Int32.not_lt.mpr c_92)).symm

set_option maxRecDepth 100000 in
set_option maxHeartbeats 4000000 in
theorem c_X9_looksAhead {l9 : Launch} {G : GC} {h : AH} {w : Nat → Int32} {v9 : Nat → Int64} {p : Nat} {f : Nat → Int32} {g : Nat → Int64} {t : Nat} {x : Int32} (hW : World h) (hm : PV h w v9 p f g) (hp : p < 4) (hO : PoOK f g (t + 1) t) (hx : x = nI p) (h1 : w 1 = nI t) : PM l9 G mX9_looksAhead NT NT [.ref 723, .int x] h (fun v h' => v = none ∧ eqx h h' SM ∧ PV h' w v9 p (looF f (t + 1) t) g) noX := by
  refine PM.of (by decide +kernel) rfl rfl (Nat.le_of_ble_eq_true rfl) (fun hst _ => ?_)
  have yc := hO.2.2.2.2.1.2.1
  have he : eqx h h SM := eqx.rf
  have y6 : nn (f 6) ≤ 8 := (hO.at 6).2.2
  obtain ⟨n2, a1, a2, a3⟩ := (hO.at 2).nat
  obtain ⟨n3, b1, b2, b3⟩ := (hO.at 3).nat
  have a1' : 1 ≤ n2 := a1
  have a2' : n2 ≤ 100 := a2
  have b1' : 10 ≤ n3 := b1
  have b2' : n3 ≤ 100 := b2
  have hz : f 3 * f 2 = nI (n3 * n2) := by rw [a3, b3, pk_mul]
  have hn1 : n3 * n2 ≤ 100 * 100 := Nat.mul_le_mul b2' a2'
  have hn0 : 0 < n3 * n2 := Nat.mul_pos (by omega) (by omega)
  have ym := Nat.mod_lt (t + nn (f 6)) (show 0 < 16 by decide)
  obtain ⟨F, eF⟩ : ∃ F, F = upd (upd f 18 (foF f (t + 1))) (84 + (t + nn (f 6)) % 16) (foF f (t + 1)) := ⟨_, rfl⟩
  have zF : ∀ k, k < 18 → F k = f k := fun k hk => by rw [eF, pk_un (by omega), pk_un (by omega)]
  refine r_aload_n dX9_looksAhead_0 rfl ?_
  refine r_iload_n dX9_looksAhead_1 rfl ?_
  refine q_callV1 (cv_X9_foresees ml_X9_132) hW kc_723 (by decide) rfl ⟨rfl, rfl⟩ rfl (Nat.le_of_ble_eq_true rfl) dX9_looksAhead_2 (c_X9_foresees hW hm hp hO hx (by omega)) (fun v_2 h_2 q_2 => ?_)
  obtain ⟨rfl, z9⟩ := q_2
  replace z9 := z9.symm
  subst z9
  refine r_istore_n (ls2 := [_, some _, _, _]) dX9_looksAhead_5 (by decide) rfl ?_
  refine r_aload_n dX9_looksAhead_6 rfl ?_
  refine r_iload_n dX9_looksAhead_7 rfl ?_
  refine r_bipush (18) dX9_looksAhead_8 (by decide) ?_
  refine r_iload_n dX9_looksAhead_10 rfl ?_
  refine q_callV3 (cv_X9_put ml_X9_64) hW kc_723 (by decide) rfl ⟨rfl, rfl⟩ rfl (Nat.le_of_ble_eq_true rfl) dX9_looksAhead_11 (c_X9_put hW hm hp hx kn_18 (by omega)) (fun v_11 h_11 q_11 => ?_)
  obtain ⟨rfl, e_11, hm⟩ := q_11
  have hW := e_11.W hW
  have he := he.tr e_11
  refine r_aload_n dX9_looksAhead_14 rfl ?_
  refine r_iload_n dX9_looksAhead_15 rfl ?_
  refine r_bipush (84) dX9_looksAhead_16 (by decide) ?_
  refine r_aload_n dX9_looksAhead_18 rfl ?_
  refine q_getR fl_X9_7 hW kc_723 rfl (kl_9_0 hW) (by decide) dX9_looksAhead_19 ?_
  refine r_iconst (1) dX9_looksAhead_22 (by decide) ?_
  refine q_wldPV hW hm kn_1 (by omega) dX9_looksAhead_23 ?_
  refine r_aload_n dX9_looksAhead_24 rfl ?_
  refine r_iload_n dX9_looksAhead_25 rfl ?_
  refine r_bipush (6) dX9_looksAhead_26 (by decide) ?_
  refine q_callV2 (cv_X9_of ml_X9_81) hW kc_723 (by decide) rfl ⟨rfl, rfl⟩ rfl (Nat.le_of_ble_eq_true rfl) dX9_looksAhead_28 (c_X9_of hW hm hp hx kn_6 (by omega)) (fun v_28 h_28 q_28 => ?_)
  obtain ⟨rfl, z9⟩ := q_28
  replace z9 := z9.symm
  subst z9
  refine r_iadd dX9_looksAhead_31 ?_
  refine r_bipush (16) dX9_looksAhead_32 (by decide) ?_
  refine r_irem dX9_looksAhead_34 (by decide) ?_
  refine r_iadd dX9_looksAhead_35 ?_
  refine r_iload_n dX9_looksAhead_36 rfl ?_
  refine q_callV3 (cv_X9_put ml_X9_64) hW kc_723 (by decide) rfl ⟨rfl, rfl⟩ rfl (Nat.le_of_ble_eq_true rfl) dX9_looksAhead_37 (c_X9_put hW hm hp hx (nadd kn_84 (nrem (nadd h1 ((pk_un (by decide)).trans (hO.at 6).1)) kn_16 (by omega) (by omega) (by omega))) (by omega)) (fun v_37 h_37 q_37 => ?_)
  obtain ⟨rfl, e_37, hm⟩ := q_37
  have hW := e_37.W hW
  have he := he.tr e_37
  rw [← eF] at hm
  refine r_bipush (100) dX9_looksAhead_40 (by decide) ?_
  refine r_iload_n dX9_looksAhead_42 rfl ?_
  refine r_imul dX9_looksAhead_43 ?_
  refine r_aload_n dX9_looksAhead_44 rfl ?_
  refine r_iload_n dX9_looksAhead_45 rfl ?_
  refine r_iconst (3) dX9_looksAhead_46 (by decide) ?_
  refine q_callV2 (cv_X9_of ml_X9_81) hW kc_723 (by decide) rfl ⟨rfl, rfl⟩ rfl (Nat.le_of_ble_eq_true rfl) dX9_looksAhead_47 (c_X9_of hW hm hp hx kn_3 (by omega)) (fun v_47 h_47 q_47 => ?_)
  obtain ⟨rfl, z9⟩ := q_47
  replace z9 := z9.symm
  subst z9
  rw [zF 3 (by decide)]
  refine r_aload_n dX9_looksAhead_50 rfl ?_
  refine r_iload_n dX9_looksAhead_51 rfl ?_
  refine r_iconst (2) dX9_looksAhead_52 (by decide) ?_
  refine q_callV2 (cv_X9_of ml_X9_81) hW kc_723 (by decide) rfl ⟨rfl, rfl⟩ rfl (Nat.le_of_ble_eq_true rfl) dX9_looksAhead_53 (c_X9_of hW hm hp hx kn_2 (by omega)) (fun v_53 h_53 q_53 => ?_)
  obtain ⟨rfl, z9⟩ := q_53
  replace z9 := z9.symm
  subst z9
  rw [zF 2 (by decide)]
  refine r_imul dX9_looksAhead_56 ?_
  refine q_callS2 (cs_X9_up ml_X9_120) ⟨rfl, rfl⟩ rfl (Nat.le_of_ble_eq_true rfl) dX9_looksAhead_57 (c_X9_up (by rw [hz]; exact nI_ne0 hn0 (by omega))) (fun v_57 h_57 q_57 => ?_)
  obtain ⟨rfl, z9⟩ := q_57
  replace z9 := z9.symm
  subst z9
  refine r_istore_n (ls2 := [_, _, some _, _]) dX9_looksAhead_60 (by decide) rfl ?_
  refine r_aload_n dX9_looksAhead_61 rfl ?_
  refine r_iload_n dX9_looksAhead_62 rfl ?_
  refine r_bipush (19) dX9_looksAhead_63 (by decide) ?_
  refine r_aload_n dX9_looksAhead_65 rfl ?_
  refine r_iload_n dX9_looksAhead_66 rfl ?_
  refine r_iconst (1) dX9_looksAhead_67 (by decide) ?_
  refine q_callV2 (cv_X9_of ml_X9_81) hW kc_723 (by decide) rfl ⟨rfl, rfl⟩ rfl (Nat.le_of_ble_eq_true rfl) dX9_looksAhead_68 (c_X9_of hW hm hp hx kn_1 (by omega)) (fun v_68 h_68 q_68 => ?_)
  obtain ⟨rfl, z9⟩ := q_68
  replace z9 := z9.symm
  subst z9
  rw [zF 1 (by decide)]
  refine r_aload_n dX9_looksAhead_71 rfl ?_
  refine r_iload_n dX9_looksAhead_72 rfl ?_
  refine r_iconst (0) dX9_looksAhead_73 (by decide) ?_
  refine q_callV2 (cv_X9_of ml_X9_81) hW kc_723 (by decide) rfl ⟨rfl, rfl⟩ rfl (Nat.le_of_ble_eq_true rfl) dX9_looksAhead_74 (c_X9_of hW hm hp hx kn_0 (by omega)) (fun v_74 h_74 q_74 => ?_)
  obtain ⟨rfl, z9⟩ := q_74
  replace z9 := z9.symm
  subst z9
  rw [zF 0 (by decide)]
  refine r_iload_n dX9_looksAhead_77 rfl ?_
  refine q_max mm_X9_123 rfl (Nat.le_of_ble_eq_true rfl) dX9_looksAhead_78 ?_
  refine q_min mm_X9_106 rfl (Nat.le_of_ble_eq_true rfl) dX9_looksAhead_81 ?_
  refine q_callV3 (cv_X9_put ml_X9_64) hW kc_723 (by decide) rfl ⟨rfl, rfl⟩ rfl (Nat.le_of_ble_eq_true rfl) dX9_looksAhead_84 (c_X9_put hW hm hp hx kn_19 (by omega)) (fun v_84 h_84 q_84 => ?_)
  obtain ⟨rfl, e_84, hm⟩ := q_84
  have hW := e_84.W hW
  have he := he.tr e_84
  refine r_vret dX9_looksAhead_87 rfl ⟨Nat.zero_le _, Nat.zero_le _⟩ ?_
  refine ⟨rfl, he, hm.eF ?_ rfl⟩
  rw [eF]
  unfold looF szF
  rw [dUp_e hz hn0 (by omega)]

set_option maxRecDepth 100000 in
set_option maxHeartbeats 4000000 in
theorem c_X9_decides {l9 : Launch} {G : GC} {h : AH} {w : Nat → Int32} {v9 : Nat → Int64} {p : Nat} {f : Nat → Int32} {g : Nat → Int64} {c u : Nat} {t : Nat} {x : Int32} (hW : World h) (hm : PV h w v9 p f g) (hp : p < 4) (hO : PoOK f g c u) (hx : x = nI p) (h1 : w 1 = nI t) (h19 : rg (f 19) 0 20) : PM l9 G mX9_decides NT NT [.ref 723, .int x] h (fun v h' => v = some (.int (nI (deF f t))) ∧ h' = h) noX := by
  refine PM.of (by decide +kernel) rfl rfl (Nat.le_of_ble_eq_true rfl) (fun hst _ => ?_)
  have y23 : nn (f 23) ≤ 20 := (hO.at 23).2.2
  have y19 : nn (f 19) ≤ 20 := h19.2.2
  obtain ⟨n16, k1, k2, k3⟩ := (hO.at 16).nat
  have k2' : n16 ≤ 1 := k2
  have e0 : f 16 = 0 ↔ n16 = 0 := by rw [k3]; exact nI_eq (b := 0) (by omega) (by decide)
  have e1 : f 16 = 1 ↔ n16 = 1 := by rw [k3]; exact nI_eq (b := 1) (by omega) (by decide)
  have z0 : f 19 - f 23 = 0 ↔ f 19 = f 23 := by
    rw [h19.1, (hO.at 23).1]
    rcases Nat.lt_or_ge (nn (f 19)) (nn (f 23)) with q | q
    · refine ⟨fun z => absurd z (fun z2 => ?_), fun z => absurd ((nI_eq (by omega) (by omega)).mp z) (by omega)⟩
      have := pk_sneg (a := nn (f 19)) (b := nn (f 23)) (by omega) q
      rw [z2] at this
      exact absurd this (by decide)
    · rw [pk_sub q, nI_eq (by omega) (by omega)]
      exact (nI_eq (b := 0) (by omega) (by decide)).trans (by omega)
  have zl : f 19 - f 23 ≤ 0 ↔ ¬ f 23 < f 19 := by
    rw [h19.1, (hO.at 23).1]
    rcases Nat.lt_or_ge (nn (f 19)) (nn (f 23)) with q | q
    · have := pk_sneg (a := nn (f 19)) (b := nn (f 23)) (by omega) q
      exact ⟨fun _ z => absurd ((nI_ltI (by omega) (by omega)).mp z) (by omega), fun _ => Int32.le_of_lt this⟩
    · rw [pk_sub q]
      rw [show (nI (nn (f 19) - nn (f 23)) ≤ 0 ↔ _) from nI_leI (b := 0) (by omega) (by decide), nI_ltI (by omega) (by omega)]
      omega
  refine r_aload_n dX9_decides_0 rfl ?_
  refine q_getR fl_X9_7 hW kc_723 rfl (kl_9_0 hW) (by decide) dX9_decides_1 ?_
  refine r_iconst (1) dX9_decides_4 (by decide) ?_
  refine q_wldPV hW hm kn_1 (by omega) dX9_decides_5 ?_
  rw [h1]
  refine r_istore_n (ls2 := [_, some _, _, _]) dX9_decides_6 (by decide) rfl ?_
  refine r_aload_n dX9_decides_7 rfl ?_
  refine r_iload_n dX9_decides_8 rfl ?_
  refine r_bipush (19) dX9_decides_9 (by decide) ?_
  refine q_callV2 (cv_X9_of ml_X9_81) hW kc_723 (by decide) rfl ⟨rfl, rfl⟩ rfl (Nat.le_of_ble_eq_true rfl) dX9_decides_11 (c_X9_of hW hm hp hx kn_19 (by omega)) (fun v_11 h_11 q_11 => ?_)
  obtain ⟨rfl, z9⟩ := q_11
  replace z9 := z9.symm
  subst z9
  refine r_aload_n dX9_decides_14 rfl ?_
  refine r_iload_n dX9_decides_15 rfl ?_
  refine r_bipush (23) dX9_decides_16 (by decide) ?_
  refine q_callV2 (cv_X9_of ml_X9_81) hW kc_723 (by decide) rfl ⟨rfl, rfl⟩ rfl (Nat.le_of_ble_eq_true rfl) dX9_decides_18 (c_X9_of hW hm hp hx kn_23 (by omega)) (fun v_18 h_18 q_18 => ?_)
  obtain ⟨rfl, z9⟩ := q_18
  replace z9 := z9.symm
  subst z9
  refine r_isub dX9_decides_21 ?_
  refine r_istore_n (ls2 := [_, _, some _, _]) dX9_decides_22 (by decide) rfl ?_
  refine r_aload_n dX9_decides_23 rfl ?_
  refine r_iload_n dX9_decides_24 rfl ?_
  refine r_bipush (16) dX9_decides_25 (by decide) ?_
  refine q_callV2 (cv_X9_of ml_X9_81) hW kc_723 (by decide) rfl ⟨rfl, rfl⟩ rfl (Nat.le_of_ble_eq_true rfl) dX9_decides_27 (c_X9_of hW hm hp hx kn_16 (by omega)) (fun v_27 h_27 q_27 => ?_)
  obtain ⟨rfl, z9⟩ := q_27
  replace z9 := z9.symm
  subst z9
  refine r_iconst (1) dX9_decides_30 (by decide) ?_
  refine r_icmp_ne 36 dX9_decides_31 (by decide) (fun c_31 => ?_) (fun c_31 => ?_)
  · refine r_iload_n dX9_decides_36 rfl ?_
    refine r_if_ne 42 dX9_decides_37 (by decide) (fun c_37 => ?_) (fun c_37 => ?_)
    · refine r_iload_n dX9_decides_42 rfl ?_
      refine r_if_le 71 dX9_decides_43 (by decide) (fun c_43 => ?_) (fun c_43 => ?_)
      · refine r_iload_n dX9_decides_71 rfl ?_
        refine r_aload_n dX9_decides_72 rfl ?_
        refine r_iload_n dX9_decides_73 rfl ?_
        refine r_bipush (22) dX9_decides_74 (by decide) ?_
        refine q_callV2 (cv_X9_of ml_X9_81) hW kc_723 (by decide) rfl ⟨rfl, rfl⟩ rfl (Nat.le_of_ble_eq_true rfl) dX9_decides_76 (c_X9_of hW hm hp hx kn_22 (by omega)) (fun v_76 h_76 q_76 => ?_)
        obtain ⟨rfl, z9⟩ := q_76
        replace z9 := z9.symm
        subst z9
        refine r_isub dX9_decides_79 ?_
        refine r_aload_n dX9_decides_80 rfl ?_
        refine r_iload_n dX9_decides_81 rfl ?_
        refine r_bipush (13) dX9_decides_82 (by decide) ?_
        refine q_callV2 (cv_X9_of ml_X9_81) hW kc_723 (by decide) rfl ⟨rfl, rfl⟩ rfl (Nat.le_of_ble_eq_true rfl) dX9_decides_84 (c_X9_of hW hm hp hx kn_13 (by omega)) (fun v_84 h_84 q_84 => ?_)
        obtain ⟨rfl, z9⟩ := q_84
        replace z9 := z9.symm
        subst z9
        refine r_icmp_ge 92 dX9_decides_87 (by decide) (fun c_87 => ?_) (fun c_87 => ?_)
        · refine r_aload_n dX9_decides_92 rfl ?_
          refine r_iload_n dX9_decides_93 rfl ?_
          refine q_callV1 (cv_X9_dropped ml_X9_135) hW kc_723 (by decide) rfl ⟨rfl, rfl⟩ rfl (Nat.le_of_ble_eq_true rfl) dX9_decides_94 (c_X9_dropped hW hm hp hO hx) (fun v_94 h_94 q_94 => ?_)
          obtain ⟨rfl, z9⟩ := q_94
          replace z9 := z9.symm
          subst z9
          refine r_iconst (-1) dX9_decides_97 (by decide) ?_
          refine r_icmp_ne 105 dX9_decides_98 (by decide) (fun c_98 => ?_) (fun c_98 => ?_)
          · refine r_iconst (1) dX9_decides_105 (by decide) ?_
            refine r_iret dX9_decides_106 rfl ⟨Nat.zero_le _, Nat.zero_le _⟩ ?_
            unfold deF
            first
              | (rw [if_neg (fun q => absurd (e0.mp q) (by rw [e1.mp (by first | exact c_31 | simpa using c_31)]; decide))]; exact ⟨rfl, rfl⟩)
              | (have n0 : f 16 = 0 := e0.mpr (by have : ¬ n16 = 1 := fun q => c_31 (e1.mpr q); omega)
                 rw [if_pos n0]
                 first
                   | (rw [if_pos (z0.mp (by first | exact c_37 | simpa using c_37))]; exact ⟨rfl, rfl⟩)
                   | (rw [if_neg (fun q => c_37 (z0.mpr q))]
                      first
                        | (rw [if_neg (zl.mp c_43)]
                           first
                             | (rw [if_pos (i_lt.mp c_87)]; exact ⟨rfl, rfl⟩)
                             | (rw [if_neg (Int32.not_lt.mpr c_87)]
                                first
                                  | (rw [(oI_m1 (o := ng (mbs f) (f 9) (mbs f).length) (fun k hk => by have := ng_lt hk; rw [mbs_len] at this; omega)).mp (by first | exact c_98 | simpa using c_98)]; exact ⟨rfl, rfl⟩)
                                  | (cases hq : ng (mbs f) (f 9) (mbs f).length with
                                     | none => rw [hq] at c_98; exact absurd rfl c_98
                                     | some k => exact ⟨rfl, rfl⟩)))
                        | (rw [if_pos (Decidable.not_not.mp (fun q => c_43 (zl.mpr q)))]
                           first
                             | (rw [if_pos (i_lt.mp c_62)]; exact ⟨rfl, rfl⟩)
                             | (rw [if_neg (Int32.not_lt.mpr c_62)]; exact ⟨rfl, rfl⟩))))
          · refine r_iconst (5) dX9_decides_101 (by decide) ?_
            refine r_goto 106 dX9_decides_102 (by decide) ?_
            refine r_iret dX9_decides_106 rfl ⟨Nat.zero_le _, Nat.zero_le _⟩ ?_
            unfold deF
            first
              | (rw [if_neg (fun q => absurd (e0.mp q) (by rw [e1.mp (by first | exact c_31 | simpa using c_31)]; decide))]; exact ⟨rfl, rfl⟩)
              | (have n0 : f 16 = 0 := e0.mpr (by have : ¬ n16 = 1 := fun q => c_31 (e1.mpr q); omega)
                 rw [if_pos n0]
                 first
                   | (rw [if_pos (z0.mp (by first | exact c_37 | simpa using c_37))]; exact ⟨rfl, rfl⟩)
                   | (rw [if_neg (fun q => c_37 (z0.mpr q))]
                      first
                        | (rw [if_neg (zl.mp c_43)]
                           first
                             | (rw [if_pos (i_lt.mp c_87)]; exact ⟨rfl, rfl⟩)
                             | (rw [if_neg (Int32.not_lt.mpr c_87)]
                                first
                                  | (rw [(oI_m1 (o := ng (mbs f) (f 9) (mbs f).length) (fun k hk => by have := ng_lt hk; rw [mbs_len] at this; omega)).mp (by first | exact c_98 | simpa using c_98)]; exact ⟨rfl, rfl⟩)
                                  | (cases hq : ng (mbs f) (f 9) (mbs f).length with
                                     | none => rw [hq] at c_98; exact absurd rfl c_98
                                     | some k => exact ⟨rfl, rfl⟩)))
                        | (rw [if_pos (Decidable.not_not.mp (fun q => c_43 (zl.mpr q)))]
                           first
                             | (rw [if_pos (i_lt.mp c_62)]; exact ⟨rfl, rfl⟩)
                             | (rw [if_neg (Int32.not_lt.mpr c_62)]; exact ⟨rfl, rfl⟩))))
        · refine r_iconst (4) dX9_decides_90 (by decide) ?_
          refine r_iret dX9_decides_91 rfl ⟨Nat.zero_le _, Nat.zero_le _⟩ ?_
          unfold deF
          first
            | (rw [if_neg (fun q => absurd (e0.mp q) (by rw [e1.mp (by first | exact c_31 | simpa using c_31)]; decide))]; exact ⟨rfl, rfl⟩)
            | (have n0 : f 16 = 0 := e0.mpr (by have : ¬ n16 = 1 := fun q => c_31 (e1.mpr q); omega)
               rw [if_pos n0]
               first
                 | (rw [if_pos (z0.mp (by first | exact c_37 | simpa using c_37))]; exact ⟨rfl, rfl⟩)
                 | (rw [if_neg (fun q => c_37 (z0.mpr q))]
                    first
                      | (rw [if_neg (zl.mp c_43)]
                         first
                           | (rw [if_pos (i_lt.mp c_87)]; exact ⟨rfl, rfl⟩)
                           | (rw [if_neg (Int32.not_lt.mpr c_87)]
                              first
                                | (rw [(oI_m1 (o := ng (mbs f) (f 9) (mbs f).length) (fun k hk => by have := ng_lt hk; rw [mbs_len] at this; omega)).mp (by first | exact c_98 | simpa using c_98)]; exact ⟨rfl, rfl⟩)
                                | (cases hq : ng (mbs f) (f 9) (mbs f).length with
                                   | none => rw [hq] at c_98; exact absurd rfl c_98
                                   | some k => exact ⟨rfl, rfl⟩)))
                      | (rw [if_pos (Decidable.not_not.mp (fun q => c_43 (zl.mpr q)))]
                         first
                           | (rw [if_pos (i_lt.mp c_62)]; exact ⟨rfl, rfl⟩)
                           | (rw [if_neg (Int32.not_lt.mpr c_62)]; exact ⟨rfl, rfl⟩))))
      · refine r_iload_n dX9_decides_46 rfl ?_
        refine r_aload_n dX9_decides_47 rfl ?_
        refine r_iload_n dX9_decides_48 rfl ?_
        refine r_bipush (21) dX9_decides_49 (by decide) ?_
        refine q_callV2 (cv_X9_of ml_X9_81) hW kc_723 (by decide) rfl ⟨rfl, rfl⟩ rfl (Nat.le_of_ble_eq_true rfl) dX9_decides_51 (c_X9_of hW hm hp hx kn_21 (by omega)) (fun v_51 h_51 q_51 => ?_)
        obtain ⟨rfl, z9⟩ := q_51
        replace z9 := z9.symm
        subst z9
        refine r_isub dX9_decides_54 ?_
        refine r_aload_n dX9_decides_55 rfl ?_
        refine r_iload_n dX9_decides_56 rfl ?_
        refine r_bipush (12) dX9_decides_57 (by decide) ?_
        refine q_callV2 (cv_X9_of ml_X9_81) hW kc_723 (by decide) rfl ⟨rfl, rfl⟩ rfl (Nat.le_of_ble_eq_true rfl) dX9_decides_59 (c_X9_of hW hm hp hx kn_12 (by omega)) (fun v_59 h_59 q_59 => ?_)
        obtain ⟨rfl, z9⟩ := q_59
        replace z9 := z9.symm
        subst z9
        refine r_icmp_ge 69 dX9_decides_62 (by decide) (fun c_62 => ?_) (fun c_62 => ?_)
        · refine r_iconst (0) dX9_decides_69 (by decide) ?_
          refine r_iret dX9_decides_70 rfl ⟨Nat.zero_le _, Nat.zero_le _⟩ ?_
          unfold deF
          first
            | (rw [if_neg (fun q => absurd (e0.mp q) (by rw [e1.mp (by first | exact c_31 | simpa using c_31)]; decide))]; exact ⟨rfl, rfl⟩)
            | (have n0 : f 16 = 0 := e0.mpr (by have : ¬ n16 = 1 := fun q => c_31 (e1.mpr q); omega)
               rw [if_pos n0]
               first
                 | (rw [if_pos (z0.mp (by first | exact c_37 | simpa using c_37))]; exact ⟨rfl, rfl⟩)
                 | (rw [if_neg (fun q => c_37 (z0.mpr q))]
                    first
                      | (rw [if_neg (zl.mp c_43)]
                         first
                           | (rw [if_pos (i_lt.mp c_87)]; exact ⟨rfl, rfl⟩)
                           | (rw [if_neg (Int32.not_lt.mpr c_87)]
                              first
                                | (rw [(oI_m1 (o := ng (mbs f) (f 9) (mbs f).length) (fun k hk => by have := ng_lt hk; rw [mbs_len] at this; omega)).mp (by first | exact c_98 | simpa using c_98)]; exact ⟨rfl, rfl⟩)
                                | (cases hq : ng (mbs f) (f 9) (mbs f).length with
                                   | none => rw [hq] at c_98; exact absurd rfl c_98
                                   | some k => exact ⟨rfl, rfl⟩)))
                      | (rw [if_pos (Decidable.not_not.mp (fun q => c_43 (zl.mpr q)))]
                         first
                           | (rw [if_pos (i_lt.mp c_62)]; exact ⟨rfl, rfl⟩)
                           | (rw [if_neg (Int32.not_lt.mpr c_62)]; exact ⟨rfl, rfl⟩))))
        · refine r_iconst (4) dX9_decides_65 (by decide) ?_
          refine r_goto 70 dX9_decides_66 (by decide) ?_
          refine r_iret dX9_decides_70 rfl ⟨Nat.zero_le _, Nat.zero_le _⟩ ?_
          unfold deF
          first
            | (rw [if_neg (fun q => absurd (e0.mp q) (by rw [e1.mp (by first | exact c_31 | simpa using c_31)]; decide))]; exact ⟨rfl, rfl⟩)
            | (have n0 : f 16 = 0 := e0.mpr (by have : ¬ n16 = 1 := fun q => c_31 (e1.mpr q); omega)
               rw [if_pos n0]
               first
                 | (rw [if_pos (z0.mp (by first | exact c_37 | simpa using c_37))]; exact ⟨rfl, rfl⟩)
                 | (rw [if_neg (fun q => c_37 (z0.mpr q))]
                    first
                      | (rw [if_neg (zl.mp c_43)]
                         first
                           | (rw [if_pos (i_lt.mp c_87)]; exact ⟨rfl, rfl⟩)
                           | (rw [if_neg (Int32.not_lt.mpr c_87)]
                              first
                                | (rw [(oI_m1 (o := ng (mbs f) (f 9) (mbs f).length) (fun k hk => by have := ng_lt hk; rw [mbs_len] at this; omega)).mp (by first | exact c_98 | simpa using c_98)]; exact ⟨rfl, rfl⟩)
                                | (cases hq : ng (mbs f) (f 9) (mbs f).length with
                                   | none => rw [hq] at c_98; exact absurd rfl c_98
                                   | some k => exact ⟨rfl, rfl⟩)))
                      | (rw [if_pos (Decidable.not_not.mp (fun q => c_43 (zl.mpr q)))]
                         first
                           | (rw [if_pos (i_lt.mp c_62)]; exact ⟨rfl, rfl⟩)
                           | (rw [if_neg (Int32.not_lt.mpr c_62)]; exact ⟨rfl, rfl⟩))))
    · refine r_iconst (2) dX9_decides_40 (by decide) ?_
      refine r_iret dX9_decides_41 rfl ⟨Nat.zero_le _, Nat.zero_le _⟩ ?_
      unfold deF
      first
        | (rw [if_neg (fun q => absurd (e0.mp q) (by rw [e1.mp (by first | exact c_31 | simpa using c_31)]; decide))]; exact ⟨rfl, rfl⟩)
        | (have n0 : f 16 = 0 := e0.mpr (by have : ¬ n16 = 1 := fun q => c_31 (e1.mpr q); omega)
           rw [if_pos n0]
           first
             | (rw [if_pos (z0.mp (by first | exact c_37 | simpa using c_37))]; exact ⟨rfl, rfl⟩)
             | (rw [if_neg (fun q => c_37 (z0.mpr q))]
                first
                  | (rw [if_neg (zl.mp c_43)]
                     first
                       | (rw [if_pos (i_lt.mp c_87)]; exact ⟨rfl, rfl⟩)
                       | (rw [if_neg (Int32.not_lt.mpr c_87)]
                          first
                            | (rw [(oI_m1 (o := ng (mbs f) (f 9) (mbs f).length) (fun k hk => by have := ng_lt hk; rw [mbs_len] at this; omega)).mp (by first | exact c_98 | simpa using c_98)]; exact ⟨rfl, rfl⟩)
                            | (cases hq : ng (mbs f) (f 9) (mbs f).length with
                               | none => rw [hq] at c_98; exact absurd rfl c_98
                               | some k => exact ⟨rfl, rfl⟩)))
                  | (rw [if_pos (Decidable.not_not.mp (fun q => c_43 (zl.mpr q)))]
                     first
                       | (rw [if_pos (i_lt.mp c_62)]; exact ⟨rfl, rfl⟩)
                       | (rw [if_neg (Int32.not_lt.mpr c_62)]; exact ⟨rfl, rfl⟩))))
  · refine r_iconst (3) dX9_decides_34 (by decide) ?_
    refine r_iret dX9_decides_35 rfl ⟨Nat.zero_le _, Nat.zero_le _⟩ ?_
    unfold deF
    first
      | (rw [if_neg (fun q => absurd (e0.mp q) (by rw [e1.mp (by first | exact c_31 | simpa using c_31)]; decide))]; exact ⟨rfl, rfl⟩)
      | (have n0 : f 16 = 0 := e0.mpr (by have : ¬ n16 = 1 := fun q => c_31 (e1.mpr q); omega)
         rw [if_pos n0]
         first
           | (rw [if_pos (z0.mp (by first | exact c_37 | simpa using c_37))]; exact ⟨rfl, rfl⟩)
           | (rw [if_neg (fun q => c_37 (z0.mpr q))]
              first
                | (rw [if_neg (zl.mp c_43)]
                   first
                     | (rw [if_pos (i_lt.mp c_87)]; exact ⟨rfl, rfl⟩)
                     | (rw [if_neg (Int32.not_lt.mpr c_87)]
                        first
                          | (rw [(oI_m1 (o := ng (mbs f) (f 9) (mbs f).length) (fun k hk => by have := ng_lt hk; rw [mbs_len] at this; omega)).mp (by first | exact c_98 | simpa using c_98)]; exact ⟨rfl, rfl⟩)
                          | (cases hq : ng (mbs f) (f 9) (mbs f).length with
                             | none => rw [hq] at c_98; exact absurd rfl c_98
                             | some k => exact ⟨rfl, rfl⟩)))
                | (rw [if_pos (Decidable.not_not.mp (fun q => c_43 (zl.mpr q)))]
                   first
                     | (rw [if_pos (i_lt.mp c_62)]; exact ⟨rfl, rfl⟩)
                     | (rw [if_neg (Int32.not_lt.mpr c_62)]; exact ⟨rfl, rfl⟩))))
-- the reference: members come and go, the acts of a tick, ticks
def W2 (q : Q4) : Nat → Int32 := upd (upd (qW q) 2 (nI (qX q))) 3 (nI (qE q))
def QV (h : AH) (v : Nat → Int64) (p : Nat) (q : Q4) (g : Nat → Int64) : Prop := PV h (W2 q) v p (qF q) g
theorem W2_2 (q : Q4) : W2 q 2 = nI (qX q) := (pk_un (by decide)).trans pk_us
theorem W2_3 (q : Q4) : W2 q 3 = nI (qE q) := pk_us
theorem W2_k {q : Q4} {k : Nat} (h2 : k ≠ 2) (h3 : k ≠ 3) : W2 q k = qW q k := (pk_un h3).trans (pk_un h2)
theorem evP_j {w w' : Nat → Int32} {n j : Nat} {a b c d : Int32} (h : w j = w' j) : evP w n a b c d j = evP w' n a b c d j := by
  unfold evP
  by_cases h1 : j = 7 + 4 * (n % 60)
  · rw [h1, pk_us, pk_us]
  · rw [pk_un h1, pk_un h1]
    by_cases h2 : j = 6 + 4 * (n % 60)
    · rw [h2, pk_us, pk_us]
    · rw [pk_un h2, pk_un h2]
      by_cases h3 : j = 5 + 4 * (n % 60)
      · rw [h3, pk_us, pk_us]
      · rw [pk_un h3, pk_un h3]
        by_cases h4 : j = 4 + 4 * (n % 60)
        · rw [h4, pk_us, pk_us]
        · rw [pk_un h4, pk_un h4]; exact h
theorem W2_com {p t : Nat} {r : Int32} {q : Q4} {w : Nat → Int32} (hw : w = upd (W2 q) 2 (W2 q 2 + 1)) (h1 : qW q 1 = nI t) : upd (evP w (qE q) (w 1) 0 (nI p) (W2 q 2)) 3 (w 3 + 1) = W2 (comQ p t r q) := by
  have e1 : w 1 = nI t := by rw [hw, pk_un (by decide), W2_k (by decide) (by decide)]; exact h1
  have e3 : w 3 = nI (qE q) := by rw [hw, pk_un (by decide)]; exact W2_3 q
  rw [e1, e3, W2_2, nI_1]
  funext j
  show _ = upd (upd (evP (qW q) (qE q) (nI t) 0 (nI p) (nI (qX q))) 2 (nI (qX q + 1))) 3 (nI (qE q + 1)) j
  by_cases h3 : j = 3
  · rw [h3, pk_us, pk_us]
  · rw [pk_un h3, pk_un h3]
    by_cases h2 : j = 2
    · subst h2
      rw [pk_us, evP_o (by omega), hw, pk_us, W2_2, nI_1]
    · rw [pk_un h2]
      exact evP_j (by rw [hw, pk_un h2, W2_k h2 h3])
theorem W2_go {p t k : Nat} {q : Q4} (h1 : qW q 1 = nI t) : upd (evP (W2 q) (qE q) (W2 q 1) 1 (nI p) (qF q (100 + 4 * k))) 3 (W2 q 3 + 1) = W2 (goQ p t k q) := by
  rw [W2_k (k := 1) (by decide) (by decide), h1, W2_3, nI_1]
  funext j
  show _ = upd (upd (evP (qW q) (qE q) (nI t) 1 (nI p) (qF q (100 + 4 * k))) 2 (nI (qX q))) 3 (nI (qE q + 1)) j
  by_cases h3 : j = 3
  · rw [h3, pk_us, pk_us]
  · rw [pk_un h3, pk_un h3]
    by_cases h2 : j = 2
    · subst h2
      rw [pk_us, evP_o (by omega), W2_2]
    · rw [pk_un h2]
      exact evP_j (W2_k h2 h3)
theorem QV.of {h : AH} {w : Nat → Int32} {v : Nat → Int64} {p X E : Nat} {f : Nat → Int32} {g : Nat → Int64} (hm : PV h w v p f g) (h2 : w 2 = nI X) (h3 : w 3 = nI E) : QV h v p (f, w, X, E) g := by
  have e : W2 (f, w, X, E) = w := by
    funext j
    by_cases e3 : j = 3
    · rw [e3, W2_3]; exact h3.symm
    · by_cases e2 : j = 2
      · rw [e2, W2_2]; exact h2.symm
      · exact W2_k e2 e3
  unfold QV
  rw [e]; exact hm
/-- the rows behind x shifted, as far as k -/
def sh4 (f : Nat → Int32) (x k : Nat) : Nat → Int32 := fun j => if 100 + 4 * x ≤ j ∧ j < 100 + k then f (j + 4) else f j
theorem sh4_0 {f : Nat → Int32} {x : Nat} : sh4 f x (4 * x) = f := by
  funext j; unfold sh4; rw [if_neg (by omega)]
theorem sh4_1 {f : Nat → Int32} {x k : Nat} (h : 4 * x ≤ k) : upd (sh4 f x k) (100 + k) (sh4 f x k (100 + k + 4)) = sh4 f x (k + 1) := by
  funext j
  by_cases e : j = 100 + k
  · rw [e, pk_us]
    unfold sh4
    rw [if_neg (by omega), if_pos (by omega)]
  · rw [pk_un e]
    unfold sh4
    by_cases q : 100 + 4 * x ≤ j ∧ j < 100 + k
    · rw [if_pos q, if_pos (by omega)]
    · rw [if_neg q, if_neg (by omega)]
theorem sh4_e {f : Nat → Int32} {x : Nat} : upd (sh4 f x (4 * (nn (f 23) - 1))) 23 (sh4 f x (4 * (nn (f 23) - 1)) 23 + (-1)) = goF f x := by
  funext j
  by_cases e : j = 23
  · rw [e, pk_us]
    unfold goF sh4
    rw [if_neg (by omega), if_pos rfl, Int32.sub_eq_add_neg]
  · rw [pk_un e]
    unfold goF sh4
    rw [if_neg e]
theorem joF_21 {f : Nat → Int32} {a b r x : Int32} {k : Nat} (hk : k = 21 ∨ k = 22) : joF (upd f k x) a b r = upd (joF f a b r) k x := by
  have e23 : upd f k x 23 = f 23 := pk_un (by omega)
  unfold joF
  rw [e23]
  funext j
  by_cases e : j = k
  · rw [e, pk_us]
    rw [pk_un (by omega), pk_un (by omega), pk_un (by omega), pk_un (by omega), pk_un (by omega), pk_us]
  · rw [pk_un e]
    by_cases h1 : j = 23
    · rw [h1, pk_us, pk_us]
    · rw [pk_un h1, pk_un h1]
      by_cases h2 : j = 103 + 4 * nn (f 23)
      · rw [h2, pk_us, pk_us]
      · rw [pk_un h2, pk_un h2]
        by_cases h3 : j = 102 + 4 * nn (f 23)
        · rw [h3, pk_us, pk_us]
        · rw [pk_un h3, pk_un h3]
          by_cases h4 : j = 101 + 4 * nn (f 23)
          · rw [h4, pk_us, pk_us]
          · rw [pk_un h4, pk_un h4]
            by_cases h5 : j = 100 + 4 * nn (f 23)
            · rw [h5, pk_us, pk_us]
            · rw [pk_un h5, pk_un h5, pk_un e]
theorem goF_22 {f : Nat → Int32} {x : Nat} {y : Int32} {k : Nat} (hk : k = 21 ∨ k = 22) : goF (upd f k y) x = upd (goF f x) k y := by
  have e23 : upd f k y 23 = f 23 := pk_un (by omega)
  funext j
  by_cases e : j = k
  · subst e
    rw [pk_us]
    unfold goF
    rw [if_neg (by omega), if_neg (by omega), pk_us]
  · rw [pk_un e]
    unfold goF
    rw [e23]
    split
    · rfl
    · split
      · rw [pk_un (by omega)]
      · rw [pk_un e]
def setF (q : Q4) (f : Nat → Int32) : Q4 := (f, qW q, qX q, qE q)
theorem gr_21 {p t n k : Nat} {r x : Int32} {q : Q4} (hk : k = 21 ∨ k = 22) : grS p t r n (setF q (upd (qF q) k x)) = setF (grS p t r n q) (upd (qF (grS p t r n q)) k x) := by
  induction n with
  | zero => rfl
  | succ n ih =>
    show comQ p t r (grS p t r n (setF q (upd (qF q) k x))) = _
    rw [ih]
    have e : ∀ q : Q4, comQ p t r (setF q (upd (qF q) k x)) = setF (comQ p t r q) (upd (qF (comQ p t r q)) k x) := fun q => by
      show (joF (upd (qF q) k x) _ _ _, _, _, _) = _
      rw [joF_21 hk]; rfl
    exact e _
theorem mbs_22 {f : Nat → Int32} {x : Int32} {k : Nat} (hk : k = 21 ∨ k = 22) : mbs (upd f k x) = mbs f := mbs_cg (pk_un (by omega)) (fun j _ => pk_un (by omega))
theorem nx_22 {q : Q4} {x : Int32} {k : Nat} (hk : k = 21 ∨ k = 22) : nxQ (setF q (upd (qF q) k x)) = nxQ q := by
  unfold nxQ
  show ng (mbs (upd (qF q) k x)) (upd (qF q) k x 9) (mbs (upd (qF q) k x)).length = _
  rw [mbs_22 hk, pk_un (by omega)]
theorem sh_22 {p t n k : Nat} {x : Int32} {q : Q4} (hk : k = 21 ∨ k = 22) : shS p t n (setF q (upd (qF q) k x)) = setF (shS p t n q) (upd (qF (shS p t n q)) k x) := by
  induction n with
  | zero => rfl
  | succ n ih =>
    show (match nxQ (shS p t n (setF q (upd (qF q) k x))) with | none => shS p t n (setF q (upd (qF q) k x)) | some j => goQ p t j (shS p t n (setF q (upd (qF q) k x)))) = _
    rw [ih, nx_22 hk]
    show _ = setF (match nxQ (shS p t n q) with | none => shS p t n q | some j => goQ p t j (shS p t n q)) (upd (qF (match nxQ (shS p t n q) with | none => shS p t n q | some j => goQ p t j (shS p t n q))) k x)
    cases nxQ (shS p t n q) with
    | none => rfl
    | some j =>
      have e : ∀ q : Q4, goQ p t j (setF q (upd (qF q) k x)) = setF (goQ p t j q) (upd (qF (goQ p t j q)) k x) := fun q => by
        show (goF (upd (qF q) k x) j, evP _ _ _ _ _ (upd (qF q) k x (100 + 4 * j)), _, _) = _
        rw [goF_22 hk, pk_un (by omega)]; rfl
      exact e _
def dcA (f : Nat → Int32) (t : Nat) : Nat → Int32 := upd (upd f 17 (nI (deF f t))) (30 + deF f t) (f (30 + deF f t) + 1)
theorem dcA_o {f : Nat → Int32} {t k : Nat} (h1 : k ≠ 17) (h2 : k < 30 ∨ 36 ≤ k) : dcA f t k = f k := by
  have := deF_lt f t
  unfold dcA
  rw [pk_un (by omega), pk_un h1]
theorem dec_0 {f : Nat → Int32} {t : Nat} (h : deF f t = 0) : decF f t = upd (upd (dcA f t) 21 (nI t)) 22 (nI t) := by
  funext k
  unfold decF dcA
  rw [h]
  by_cases e22 : k = 22
  · subst e22; rw [pk_us, if_neg (by decide), if_neg (by decide), if_neg (by decide), if_pos rfl, if_pos (by decide)]
  · rw [pk_un e22]
    by_cases e21 : k = 21
    · subst e21; rw [pk_us, if_neg (by decide), if_neg (by decide), if_pos rfl, if_pos rfl]
    · rw [pk_un e21]
      by_cases e17 : k = 17
      · subst e17; rw [if_pos rfl, pk_un (by decide), pk_us]
      · rw [if_neg e17]
        by_cases e30 : k = 30 + 0
        · subst e30; rw [if_pos rfl, pk_us]
        · rw [if_neg e30, if_neg e21, if_neg e22, pk_un e30, pk_un e17]
theorem dec_1 {f : Nat → Int32} {t : Nat} (h : deF f t = 1) : decF f t = upd (dcA f t) 22 (nI t) := by
  funext k
  unfold decF dcA
  rw [h]
  by_cases e22 : k = 22
  · subst e22; rw [pk_us, if_neg (by decide), if_neg (by decide), if_neg (by decide), if_pos rfl, if_pos (by decide)]
  · rw [pk_un e22]
    by_cases e17 : k = 17
    · subst e17; rw [if_pos rfl, pk_un (by decide), pk_us]
    · rw [if_neg e17]
      by_cases e30 : k = 30 + 1
      · subst e30; rw [if_pos rfl, pk_us]
      · rw [if_neg e30, pk_un e30, pk_un e17]
        by_cases e21 : k = 21
        · subst e21; rw [if_pos rfl, if_neg (by decide)]
        · rw [if_neg e21, if_neg e22]
theorem dec_2 {f : Nat → Int32} {t : Nat} (h : ¬ deF f t ≤ 1) : decF f t = dcA f t := by
  have h6 := deF_lt f t
  funext k
  unfold decF dcA
  by_cases e17 : k = 17
  · subst e17; rw [if_pos rfl, pk_un (by omega), pk_us]
  · rw [if_neg e17]
    by_cases e30 : k = 30 + deF f t
    · rw [if_pos e30, e30, pk_us]
    · rw [if_neg e30, pk_un e30, pk_un e17]
      by_cases e21 : k = 21
      · subst e21; rw [if_pos rfl, if_neg (by omega)]
      · rw [if_neg e21]
        by_cases e22 : k = 22
        · subst e22; rw [if_pos rfl, if_neg h]
        · rw [if_neg e22]
theorem deF_0 {f : Nat → Int32} {t : Nat} (h : deF f t = 0) : f 23 < f 19 := by
  unfold deF at h
  split at h
  · split at h
    · cases h
    · split at h
      · next z => exact z
      · split at h
        · cases h
        · cases hq : ng (mbs f) (f 9) (mbs f).length with
          | none => rw [hq] at h; cases h
          | some k => rw [hq] at h; cases h
  · cases h
theorem deF_1 {f : Nat → Int32} {t : Nat} (h : deF f t = 1) : f 19 ≠ f 23 ∧ ¬ f 23 < f 19 := by
  unfold deF at h
  split at h
  · split at h
    · cases h
    · next z1 =>
      split at h
      · split at h <;> cases h
      · next z => exact ⟨z1, z⟩
  · cases h
set_option maxRecDepth 100000 in
set_option maxHeartbeats 4000000 in
theorem c_X9_joins {l9 : Launch} {G : GC} {h : AH} {w : Nat → Int32} {v9 : Nat → Int64} {p : Nat} {f : Nat → Int32} {g : Nat → Int64} {n : Nat} {x y z : Int32} (hW : World h) (hm : PV h w v9 p f g) (hp : p < 4) (hx : x = nI p) (h23 : f 23 = nI n) (hn : n < 20) : PM l9 G mX9_joins NT NT [.ref 723, .int x, .int y, .int z] h (fun v h' => v = some (.int (w 2)) ∧ eqx h h' SM ∧ PV h' (upd w 2 (w 2 + 1)) v9 p (joF f (w 2) y z) g) noX := by
  refine PM.of (by decide +kernel) rfl rfl (Nat.le_of_ble_eq_true rfl) (fun hst _ => ?_)
  have he : eqx h h SM := eqx.rf
  have en : nn (f 23) = n := by rw [h23]; exact nn_I (by omega)
  refine r_bipush (100) dX9_joins_0 (by decide) ?_
  refine r_iconst (4) dX9_joins_2 (by decide) ?_
  refine r_aload_n dX9_joins_3 rfl ?_
  refine r_iload_n dX9_joins_4 rfl ?_
  refine r_bipush (23) dX9_joins_5 (by decide) ?_
  refine q_callV2 (cv_X9_of ml_X9_81) hW kc_723 (by decide) rfl ⟨rfl, rfl⟩ rfl (Nat.le_of_ble_eq_true rfl) dX9_joins_7 (c_X9_of hW hm hp hx kn_23 (by omega)) (fun v_7 h_7 q_7 => ?_)
  obtain ⟨rfl, z9⟩ := q_7
  replace z9 := z9.symm
  subst z9
  refine r_imul dX9_joins_10 ?_
  refine r_iadd dX9_joins_11 ?_
  refine r_istore (ls2 := [_, _, _, some _, _, _]) dX9_joins_12 (by decide) rfl ?_
  refine r_aload_n dX9_joins_14 rfl ?_
  refine q_getR fl_X9_7 hW kc_723 rfl (kl_9_0 hW) (by decide) dX9_joins_15 ?_
  refine r_iconst (2) dX9_joins_18 (by decide) ?_
  refine q_wldPV hW hm kn_2 (by omega) dX9_joins_19 ?_
  refine r_istore (ls2 := [_, _, _, _, some _, _]) dX9_joins_20 (by decide) rfl ?_
  refine r_aload_n dX9_joins_22 rfl ?_
  refine r_iload_n dX9_joins_23 rfl ?_
  refine r_iload dX9_joins_24 rfl ?_
  refine r_iconst (0) dX9_joins_26 (by decide) ?_
  refine r_iadd dX9_joins_27 ?_
  refine r_iload dX9_joins_28 rfl ?_
  refine q_callV3 (cv_X9_put ml_X9_64) hW kc_723 (by decide) rfl ⟨rfl, rfl⟩ rfl (Nat.le_of_ble_eq_true rfl) dX9_joins_30 (c_X9_put hW hm hp hx (nadd (nadd kn_100 (nmul kn_4 h23)) kn_0) (by omega)) (fun v_30 h_30 q_30 => ?_)
  obtain ⟨rfl, e_30, hm⟩ := q_30
  have hW := e_30.W hW
  have he := he.tr e_30
  refine r_aload_n dX9_joins_33 rfl ?_
  refine r_iload_n dX9_joins_34 rfl ?_
  refine r_iload dX9_joins_35 rfl ?_
  refine r_iconst (1) dX9_joins_37 (by decide) ?_
  refine r_iadd dX9_joins_38 ?_
  refine r_iload_n dX9_joins_39 rfl ?_
  refine q_callV3 (cv_X9_put ml_X9_64) hW kc_723 (by decide) rfl ⟨rfl, rfl⟩ rfl (Nat.le_of_ble_eq_true rfl) dX9_joins_40 (c_X9_put hW hm hp hx (nadd (nadd kn_100 (nmul kn_4 h23)) kn_1) (by omega)) (fun v_40 h_40 q_40 => ?_)
  obtain ⟨rfl, e_40, hm⟩ := q_40
  have hW := e_40.W hW
  have he := he.tr e_40
  refine r_aload_n dX9_joins_43 rfl ?_
  refine r_iload_n dX9_joins_44 rfl ?_
  refine r_iload dX9_joins_45 rfl ?_
  refine r_iconst (2) dX9_joins_47 (by decide) ?_
  refine r_iadd dX9_joins_48 ?_
  refine r_iload_n dX9_joins_49 rfl ?_
  refine q_callV3 (cv_X9_put ml_X9_64) hW kc_723 (by decide) rfl ⟨rfl, rfl⟩ rfl (Nat.le_of_ble_eq_true rfl) dX9_joins_50 (c_X9_put hW hm hp hx (nadd (nadd kn_100 (nmul kn_4 h23)) kn_2) (by omega)) (fun v_50 h_50 q_50 => ?_)
  obtain ⟨rfl, e_50, hm⟩ := q_50
  have hW := e_50.W hW
  have he := he.tr e_50
  refine r_aload_n dX9_joins_53 rfl ?_
  refine r_iload_n dX9_joins_54 rfl ?_
  refine r_iload dX9_joins_55 rfl ?_
  refine r_iconst (3) dX9_joins_57 (by decide) ?_
  refine r_iadd dX9_joins_58 ?_
  refine r_iconst (0) dX9_joins_59 (by decide) ?_
  refine q_callV3 (cv_X9_put ml_X9_64) hW kc_723 (by decide) rfl ⟨rfl, rfl⟩ rfl (Nat.le_of_ble_eq_true rfl) dX9_joins_60 (c_X9_put hW hm hp hx (nadd (nadd kn_100 (nmul kn_4 h23)) kn_3) (by omega)) (fun v_60 h_60 q_60 => ?_)
  obtain ⟨rfl, e_60, hm⟩ := q_60
  have hW := e_60.W hW
  have he := he.tr e_60
  refine r_aload_n dX9_joins_63 rfl ?_
  refine r_iload_n dX9_joins_64 rfl ?_
  refine r_bipush (23) dX9_joins_65 (by decide) ?_
  refine r_iconst (1) dX9_joins_67 (by decide) ?_
  refine q_callV3 (cv_X9_adds ml_X9_85) hW kc_723 (by decide) rfl ⟨rfl, rfl⟩ rfl (Nat.le_of_ble_eq_true rfl) dX9_joins_68 (c_X9_adds hW hm hp hx kn_23 (by omega)) (fun v_68 h_68 q_68 => ?_)
  obtain ⟨rfl, e_68, hm⟩ := q_68
  have hW := e_68.W hW
  have he := he.tr e_68
  refine r_aload_n dX9_joins_71 rfl ?_
  refine q_getR fl_X9_7 hW kc_723 rfl (kl_9_0 hW) (by decide) dX9_joins_72 ?_
  refine r_iconst (2) dX9_joins_75 (by decide) ?_
  refine r_dup2 dX9_joins_76 rfl rfl ?_
  refine q_wldPV hW hm kn_2 (by omega) dX9_joins_77 ?_
  refine r_iconst (1) dX9_joins_78 (by decide) ?_
  refine r_iadd dX9_joins_79 ?_
  refine q_wstPV hW hm kn_2 (by omega) dX9_joins_80 (fun h_80 hW hm e_80 => ?_)
  have he := he.tr e_80
  refine r_iload dX9_joins_81 rfl ?_
  refine r_iret dX9_joins_83 rfl ⟨Nat.zero_le _, Nat.zero_le _⟩ ?_
  refine ⟨rfl, he, hm.eF ?_ rfl⟩
  unfold joF
  rw [en, show 101 + 4 * n = 100 + 4 * (n) + 1 from by omega, show 102 + 4 * n = 100 + 4 * (n) + 2 from by omega, show 103 + 4 * n = 100 + 4 * (n) + 3 from by omega]
  congr 1
  rw [pk_un (by omega), pk_un (by omega), pk_un (by omega), pk_un (by omega)]

set_option maxRecDepth 100000 in
set_option maxHeartbeats 4000000 in
theorem c_X9_tells {l9 : Launch} {G : GC} {h : AH} {w : Nat → Int32} {v9 : Nat → Int64} {p : Nat} {f : Nat → Int32} {g : Nat → Int64} {E : Nat} {x y z : Int32} (hW : World h) (hm : PV h w v9 p f g) (h3 : w 3 = nI E) (hE : E < 2 ^ 31) : PM l9 G mX9_tells NT NT [.ref 723, .int x, .int y, .int z] h (fun v h' => v = none ∧ eqx h h' SM ∧ PV h' (upd (evP w E (w 1) x y z) 3 (w 3 + 1)) v9 p f g) noX := by
  refine PM.of (by decide +kernel) rfl rfl (Nat.le_of_ble_eq_true rfl) (fun hst _ => ?_)
  have he : eqx h h SM := eqx.rf
  have ym := Nat.mod_lt E (show 0 < 60 by decide)
  refine r_iconst (4) dX9_tells_0 (by decide) ?_
  refine r_iconst (4) dX9_tells_1 (by decide) ?_
  refine r_aload_n dX9_tells_2 rfl ?_
  refine q_getR fl_X9_7 hW kc_723 rfl (kl_9_0 hW) (by decide) dX9_tells_3 ?_
  refine r_iconst (3) dX9_tells_6 (by decide) ?_
  refine q_wldPV hW hm kn_3 (by omega) dX9_tells_7 ?_
  refine r_bipush (60) dX9_tells_8 (by decide) ?_
  refine r_irem dX9_tells_10 (by decide) ?_
  refine r_imul dX9_tells_11 ?_
  refine r_iadd dX9_tells_12 ?_
  refine r_istore (ls2 := [_, _, _, some _, _]) dX9_tells_13 (by decide) rfl ?_
  refine r_aload_n dX9_tells_15 rfl ?_
  refine q_getR fl_X9_7 hW kc_723 rfl (kl_9_0 hW) (by decide) dX9_tells_16 ?_
  refine r_iload dX9_tells_19 rfl ?_
  refine r_aload_n dX9_tells_21 rfl ?_
  refine q_getR fl_X9_7 hW kc_723 rfl (kl_9_0 hW) (by decide) dX9_tells_22 ?_
  refine r_iconst (1) dX9_tells_25 (by decide) ?_
  refine q_wldPV hW hm kn_1 (by omega) dX9_tells_26 ?_
  refine q_wstPV hW hm (nadd kn_4 (nmul kn_4 (nrem h3 kn_60 (by omega) (by omega) (by omega)))) (by omega) dX9_tells_27 (fun h_27 hW hm e_27 => ?_)
  have he := he.tr e_27
  refine r_aload_n dX9_tells_28 rfl ?_
  refine q_getR fl_X9_7 hW kc_723 rfl (kl_9_0 hW) (by decide) dX9_tells_29 ?_
  refine r_iload dX9_tells_32 rfl ?_
  refine r_iconst (1) dX9_tells_34 (by decide) ?_
  refine r_iadd dX9_tells_35 ?_
  refine r_iload_n dX9_tells_36 rfl ?_
  refine q_wstPV hW hm (nadd (nadd kn_4 (nmul kn_4 (nrem h3 kn_60 (by omega) (by omega) (by omega)))) kn_1) (by omega) dX9_tells_37 (fun h_37 hW hm e_37 => ?_)
  have he := he.tr e_37
  refine r_aload_n dX9_tells_38 rfl ?_
  refine q_getR fl_X9_7 hW kc_723 rfl (kl_9_0 hW) (by decide) dX9_tells_39 ?_
  refine r_iload dX9_tells_42 rfl ?_
  refine r_iconst (2) dX9_tells_44 (by decide) ?_
  refine r_iadd dX9_tells_45 ?_
  refine r_iload_n dX9_tells_46 rfl ?_
  refine q_wstPV hW hm (nadd (nadd kn_4 (nmul kn_4 (nrem h3 kn_60 (by omega) (by omega) (by omega)))) kn_2) (by omega) dX9_tells_47 (fun h_47 hW hm e_47 => ?_)
  have he := he.tr e_47
  refine r_aload_n dX9_tells_48 rfl ?_
  refine q_getR fl_X9_7 hW kc_723 rfl (kl_9_0 hW) (by decide) dX9_tells_49 ?_
  refine r_iload dX9_tells_52 rfl ?_
  refine r_iconst (3) dX9_tells_54 (by decide) ?_
  refine r_iadd dX9_tells_55 ?_
  refine r_iload_n dX9_tells_56 rfl ?_
  refine q_wstPV hW hm (nadd (nadd kn_4 (nmul kn_4 (nrem h3 kn_60 (by omega) (by omega) (by omega)))) kn_3) (by omega) dX9_tells_57 (fun h_57 hW hm e_57 => ?_)
  have he := he.tr e_57
  refine r_aload_n dX9_tells_58 rfl ?_
  refine q_getR fl_X9_7 hW kc_723 rfl (kl_9_0 hW) (by decide) dX9_tells_59 ?_
  refine r_iconst (3) dX9_tells_62 (by decide) ?_
  refine r_dup2 dX9_tells_63 rfl rfl ?_
  refine q_wldPV hW hm kn_3 (by omega) dX9_tells_64 ?_
  refine r_iconst (1) dX9_tells_65 (by decide) ?_
  refine r_iadd dX9_tells_66 ?_
  refine q_wstPV hW hm kn_3 (by omega) dX9_tells_67 (fun h_67 hW hm e_67 => ?_)
  have he := he.tr e_67
  refine r_vret dX9_tells_68 rfl ⟨Nat.zero_le _, Nat.zero_le _⟩ ?_
  refine ⟨rfl, he, ?_⟩
  unfold evP
  rw [show 5 + 4 * (E % 60) = 4 + 4 * (E % 60) + 1 from by omega, show 6 + 4 * (E % 60) = 4 + 4 * (E % 60) + 2 from by omega, show 7 + 4 * (E % 60) = 4 + 4 * (E % 60) + 3 from by omega]
  have e3 : (upd (upd (upd (upd w (4 + 4 * (E % 60)) (w 1)) (4 + 4 * (E % 60) + 1) x) (4 + 4 * (E % 60) + 2) y) (4 + 4 * (E % 60) + 3) z) 3 = w 3 := by
    rw [pk_un (by omega), pk_un (by omega), pk_un (by omega), pk_un (by omega)]
  rw [e3] at hm
  exact hm

set_option maxRecDepth 100000 in
set_option maxHeartbeats 4000000 in
theorem c_X9_comes {l9 : Launch} {G : GC} {h : AH} {v9 : Nat → Int64} {p t : Nat} {q : Q4} {g : Nat → Int64} {n : Nat} {x y : Int32} (hW : World h) (hq : QV h v9 p q g) (hp : p < 4) (h1 : qW q 1 = nI t) (hx : x = nI p) (h23 : qF q 23 = nI n) (hn : n < 20) (hE : qE q < 2 ^ 30) : PM l9 G mX9_comes NT NT [.ref 723, .int x, .int y] h (fun v h' => v = some (.int (nI (qX q))) ∧ eqx h h' SM ∧ QV h' v9 p (comQ p t y q) g) noX := by
  refine PM.of (by decide +kernel) rfl rfl (Nat.le_of_ble_eq_true rfl) (fun hst _ => ?_)
  have he : eqx h h SM := eqx.rf
  have hm : PV h (W2 q) v9 p (qF q) g := hq
  refine r_aload_n dX9_comes_0 rfl ?_
  refine r_iload_n dX9_comes_1 rfl ?_
  refine r_aload_n dX9_comes_2 rfl ?_
  refine q_getR fl_X9_7 hW kc_723 rfl (kl_9_0 hW) (by decide) dX9_comes_3 ?_
  refine r_iconst (1) dX9_comes_6 (by decide) ?_
  refine q_wldPV hW hm kn_1 (by omega) dX9_comes_7 ?_
  refine r_iload_n dX9_comes_8 rfl ?_
  refine q_callV3 (cv_X9_joins ml_X9_67) hW kc_723 (by decide) rfl ⟨rfl, rfl⟩ rfl (Nat.le_of_ble_eq_true rfl) dX9_comes_9 (c_X9_joins hW hm hp hx h23 hn) (fun v_9 h_9 q_9 => ?_)
  obtain ⟨rfl, e_9, hm⟩ := q_9
  have hW := e_9.W hW
  have he := he.tr e_9
  refine r_istore_n (ls2 := [_, _, some _, _]) dX9_comes_12 (by decide) rfl ?_
  obtain ⟨w9, ew⟩ : ∃ w9, w9 = upd (W2 q) 2 (W2 q 2 + 1) := ⟨_, rfl⟩
  rw [← ew] at hm
  have h39 : w9 3 = nI (qE q) := by rw [ew, pk_un (by decide)]; exact W2_3 q
  refine r_aload_n dX9_comes_13 rfl ?_
  refine r_iconst (0) dX9_comes_14 (by decide) ?_
  refine r_iload_n dX9_comes_15 rfl ?_
  refine r_iload_n dX9_comes_16 rfl ?_
  refine q_callV3 (cv_X9_tells ml_X9_88) hW kc_723 (by decide) rfl ⟨rfl, rfl⟩ rfl (Nat.le_of_ble_eq_true rfl) dX9_comes_17 (c_X9_tells hW hm h39 (by omega)) (fun v_17 h_17 q_17 => ?_)
  obtain ⟨rfl, e_17, hm⟩ := q_17
  have hW := e_17.W hW
  have he := he.tr e_17
  refine r_iload_n dX9_comes_20 rfl ?_
  refine r_iret dX9_comes_21 rfl ⟨Nat.zero_le _, Nat.zero_le _⟩ ?_
  refine ⟨some_int (W2_2 q), he, ?_⟩
  show PV _ (W2 (comQ p t y q)) _ _ (joF (qF q) (nI (qX q)) (nI t) y) _
  rw [hx, W2_com ew h1, W2_2, W2_k (by decide) (by decide), h1] at hm
  exact hm

set_option maxRecDepth 100000 in
set_option maxHeartbeats 4000000 in
theorem c_X9_goes {l9 : Launch} {G : GC} {h : AH} {v9 : Nat → Int64} {p t : Nat} {q : Q4} {g : Nat → Int64} {k : Nat} {x y : Int32} (hW : World h) (hq : QV h v9 p q g) (hp : p < 4) (h1 : qW q 1 = nI t) (hx : x = nI p) (hy : y = nI k) (h23 : rg (qF q 23) 0 20) (hk : k < nn (qF q 23)) (hE : qE q < 2 ^ 30) : PM l9 G mX9_goes NT NT [.ref 723, .int x, .int y] h (fun v h' => v = none ∧ eqx h h' SM ∧ QV h' v9 p (goQ p t k q) g) noX := by
  refine PM.of (by decide +kernel) rfl rfl (Nat.le_of_ble_eq_true rfl) (fun hst _ => ?_)
  have he : eqx h h SM := eqx.rf
  have y23 := h23.2.2
  have hm : PV h (W2 q) v9 p (qF q) g := hq
  obtain ⟨f, ef⟩ : ∃ f, f = qF q := ⟨_, rfl⟩
  rw [← ef] at hm h23 hk y23
  refine r_aload_n dX9_goes_0 rfl ?_
  refine r_iconst (1) dX9_goes_1 (by decide) ?_
  refine r_iload_n dX9_goes_2 rfl ?_
  refine r_aload_n dX9_goes_3 rfl ?_
  refine r_iload_n dX9_goes_4 rfl ?_
  refine r_bipush (100) dX9_goes_5 (by decide) ?_
  refine r_iconst (4) dX9_goes_7 (by decide) ?_
  refine r_iload_n dX9_goes_8 rfl ?_
  refine r_imul dX9_goes_9 ?_
  refine r_iadd dX9_goes_10 ?_
  refine q_callV2 (cv_X9_of ml_X9_81) hW kc_723 (by decide) rfl ⟨rfl, rfl⟩ rfl (Nat.le_of_ble_eq_true rfl) dX9_goes_11 (c_X9_of hW hm hp hx (nadd kn_100 (nmul kn_4 hy)) (by omega)) (fun v_11 h_11 q_11 => ?_)
  obtain ⟨rfl, z9⟩ := q_11
  replace z9 := z9.symm
  subst z9
  refine q_callV3 (cv_X9_tells ml_X9_88) hW kc_723 (by decide) rfl ⟨rfl, rfl⟩ rfl (Nat.le_of_ble_eq_true rfl) dX9_goes_14 (c_X9_tells hW hm (W2_3 q) (by omega)) (fun v_14 h_14 q_14 => ?_)
  obtain ⟨rfl, e_14, hm⟩ := q_14
  have hW := e_14.W hW
  have he := he.tr e_14
  have hm2 : PV h_14 (W2 (goQ p t k q)) v9 p f g := by
    rw [← W2_go h1, ← ef, ← hx]
    exact hm
  clear hm
  refine r_iconst (4) dX9_goes_17 (by decide) ?_
  refine r_iload_n dX9_goes_18 rfl ?_
  refine r_imul dX9_goes_19 ?_
  rw [show (4 : Int32) * y = nI (4 * k) from nmul (a := 4) rfl hy]
  refine r_istore_n (ls2 := [_, _, some _, _]) dX9_goes_20 (by decide) rfl ?_
  refine loopN (P := fun i => ∀ H : AH, 4 * k ≤ i → i ≤ 4 * (nn (f 23) - 1) → World H → eqx h H SM → PV H (W2 (goQ p t k q)) v9 p (sh4 f k i) g → PW l9 G mX9_goes _ _ NT 21 [some (.ref 723), some (.int x), some (.int y), some (.int (nI i))] [] (0, 0) H) (4 * (nn (f 23) - 1)) (fun i ih H hi0 hi hW he hm => ?_) (4 * k) h_14 (Nat.le_refl _) (by omega) hW he (by rw [sh4_0]; exact hm2)
  refine r_iload_n dX9_goes_21 rfl ?_
  refine r_iconst (4) dX9_goes_22 (by decide) ?_
  refine r_aload_n dX9_goes_23 rfl ?_
  refine r_iload_n dX9_goes_24 rfl ?_
  refine r_bipush (23) dX9_goes_25 (by decide) ?_
  refine q_callV2 (cv_X9_of ml_X9_81) hW kc_723 (by decide) rfl ⟨rfl, rfl⟩ rfl (Nat.le_of_ble_eq_true rfl) dX9_goes_27 (c_X9_of hW hm hp hx kn_23 (by omega)) (fun v_27 h_27 q_27 => ?_)
  obtain ⟨rfl, z9⟩ := q_27
  replace z9 := z9.symm
  subst z9
  rw [show sh4 f k i 23 = f 23 from by unfold sh4; rw [if_neg (by omega)]]
  refine r_iconst (1) dX9_goes_30 (by decide) ?_
  refine r_isub dX9_goes_31 ?_
  refine r_imul dX9_goes_32 ?_
  rw [show (4 : Int32) * (f 23 - 1) = nI (4 * (nn (f 23) - 1)) from nmul (a := 4) rfl (nsub (b := 1) h23.1 rfl (by omega))]
  refine r_icmp_ge 62 dX9_goes_33 (by decide) (fun c_33 => ?_) (fun c_33 => ?_)
  · have hge : 4 * (nn (f 23) - 1) = i := by have := (nI_leI (by omega) (by omega)).mp c_33; omega
    refine r_aload_n dX9_goes_62 rfl ?_
    refine r_iload_n dX9_goes_63 rfl ?_
    refine r_bipush (23) dX9_goes_64 (by decide) ?_
    refine r_iconst (-1) dX9_goes_66 (by decide) ?_
    refine q_callV3 (cv_X9_adds ml_X9_85) hW kc_723 (by decide) rfl ⟨rfl, rfl⟩ rfl (Nat.le_of_ble_eq_true rfl) dX9_goes_67 (c_X9_adds hW hm hp hx kn_23 (by omega)) (fun v_67 h_67 q_67 => ?_)
    obtain ⟨rfl, e_67, hm⟩ := q_67
    have hW := e_67.W hW
    have he := he.tr e_67
    refine r_vret dX9_goes_70 rfl ⟨Nat.zero_le _, Nat.zero_le _⟩ ?_
    refine ⟨rfl, he, ?_⟩
    show PV _ (W2 (goQ p t k q)) _ _ (goF (qF q) k) _
    rw [← hge, sh4_e] at hm
    rw [← ef]; exact hm
  · have hlt : i < 4 * (nn (f 23) - 1) := (nI_ltI (by omega) (by omega)).mp (i_lt.mp c_33)
    refine r_aload_n dX9_goes_36 rfl ?_
    refine r_iload_n dX9_goes_37 rfl ?_
    refine r_bipush (100) dX9_goes_38 (by decide) ?_
    refine r_iload_n dX9_goes_40 rfl ?_
    refine r_iadd dX9_goes_41 ?_
    refine r_aload_n dX9_goes_42 rfl ?_
    refine r_iload_n dX9_goes_43 rfl ?_
    refine r_bipush (100) dX9_goes_44 (by decide) ?_
    refine r_iload_n dX9_goes_46 rfl ?_
    refine r_iadd dX9_goes_47 ?_
    refine r_iconst (4) dX9_goes_48 (by decide) ?_
    refine r_iadd dX9_goes_49 ?_
    refine q_callV2 (cv_X9_of ml_X9_81) hW kc_723 (by decide) rfl ⟨rfl, rfl⟩ rfl (Nat.le_of_ble_eq_true rfl) dX9_goes_50 (c_X9_of hW hm hp hx (nadd (nadd kn_100 rfl) kn_4) (by omega)) (fun v_50 h_50 q_50 => ?_)
    obtain ⟨rfl, z9⟩ := q_50
    replace z9 := z9.symm
    subst z9
    refine q_callV3 (cv_X9_put ml_X9_64) hW kc_723 (by decide) rfl ⟨rfl, rfl⟩ rfl (Nat.le_of_ble_eq_true rfl) dX9_goes_53 (c_X9_put hW hm hp hx (nadd kn_100 rfl) (by omega)) (fun v_53 h_53 q_53 => ?_)
    obtain ⟨rfl, e_53, hm⟩ := q_53
    have hW := e_53.W hW
    have he := he.tr e_53
    refine r_iinc (1) (by decide) (ls2 := [_, _, some _, _]) dX9_goes_56 rfl (by decide) rfl ?_
    refine r_goto 21 dX9_goes_59 (by decide) ?_
    rw [nI_1]
    rw [sh4_1 hi0] at hm
    exact ih hlt _ (by omega) hlt hW he hm
-- the reference: the acts of a tick, ticks
theorem PoOK.cg3 {f f' : Nat → Int32} {g : Nat → Int64} {c t : Nat} (h : PoOK f g c t) (e : ∀ k, k < 17 ∨ k = 20 ∨ 22 < k ∧ k < 30 ∨ 36 ≤ k → f' k = f k) : PoOK f' g c t := by
  have y23 : nn (f 23) ≤ 20 := (h.at 23).2.2
  have y24 : nn (f 24) ≤ 24 := (h.at 24).2.2
  refine ⟨fun k hk => ?_, ⟨fun q => ?_, ?_⟩, fun k hk => ?_, fun j hj => ?_, ⟨?_, h.2.2.2.2.1.2⟩, fun j h1 h2 => ?_, fun u h1 h2 h3 => ?_, h.2.2.2.2.2.2.2⟩
  · have hb := bOk_lt hk
    rw [e _ (by omega)]; exact h.1 k hk
  · rw [e _ (by omega)] at q ⊢; exact h.2.1.1 q
  · rw [e _ (by omega), e _ (by omega)]; exact h.2.1.2
  · rw [e _ (by omega)] at hk
    rw [e _ (by omega)]; exact h.2.2.1 k hk
  · rw [e _ (by omega)] at hj
    rw [e _ (by omega)]; exact h.2.2.2.1 j hj
  · rw [e _ (by omega)]; exact h.2.2.2.2.1.1
  · rw [e _ (by omega)]; exact h.2.2.2.2.2.1 j h1 (by omega)
  · rw [e _ (by omega)] at h2 h3
    rw [e _ (by omega)]; exact h.2.2.2.2.2.2.1 u h1 h2 h3
theorem PoOK.dcA {f : Nat → Int32} {g : Nat → Int64} {c t u : Nat} (h : PoOK f g c t) : PoOK (dcA f u) g c t := h.cg3 (fun k hk => dcA_o (by omega) (by omega))
theorem QV.set {h : AH} {v : Nat → Int64} {p : Nat} {q : Q4} {f : Nat → Int32} {g : Nat → Int64} (hm : PV h (W2 q) v p f g) : QV h v p (setF q f) g := hm
/-- behind i comings in a tick -/
def acS (p t : Nat) (r : Int32) (q : Q4) (i : Nat) : Q4 := if i = 0 then q else setF (grS p t r i q) (upd (qF (grS p t r i q)) 21 (nI t))
theorem acS_1 {p t i : Nat} {r : Int32} {q : Q4} : setF (comQ p t r (acS p t r q i)) (upd (qF (comQ p t r (acS p t r q i))) 21 (nI t)) = acS p t r q (i + 1) := by
  have e : ∀ (q : Q4) (x : Int32), comQ p t r (setF q (upd (qF q) 21 x)) = setF (comQ p t r q) (upd (qF (comQ p t r q)) 21 x) := fun q x => by
    show (joF (upd (qF q) 21 x) _ _ _, _, _, _) = _
    rw [joF_21 (Or.inl rfl)]; rfl
  unfold acS
  rw [if_neg (Nat.succ_ne_zero i)]
  by_cases h : i = 0
  · rw [if_pos h, h]; rfl
  · rw [if_neg h, e]
    show setF (comQ p t r (grS p t r i q)) (upd (upd (qF (comQ p t r (grS p t r i q))) 21 (nI t)) 21 (nI t)) = _
    have e2 : ∀ (f : Nat → Int32) (x : Int32), upd (upd f 21 x) 21 x = upd f 21 x := fun f x => by
      funext j
      by_cases ej : j = 21
      · rw [ej, pk_us, pk_us]
      · rw [pk_un ej]
    rw [e2]; rfl
theorem acS_o {p t i k : Nat} {r : Int32} {q : Q4} (hk : k ≠ 21) : qF (acS p t r q i) k = qF (grS p t r i q) k := by
  unfold acS
  split
  · next h => rw [h]; rfl
  · exact pk_un hk
theorem acS_X {p t i : Nat} {r : Int32} {q : Q4} : qX (acS p t r q i) = qX (grS p t r i q) ∧ qE (acS p t r q i) = qE (grS p t r i q) ∧ qW (acS p t r q i) = qW (grS p t r i q) := by
  unfold acS
  split
  · next h => rw [h]; exact ⟨rfl, rfl, rfl⟩
  · exact ⟨rfl, rfl, rfl⟩
theorem acS_e {p t n : Nat} {r : Int32} {q : Q4} (hn : 0 < n) : setF (acS p t r q n) (upd (qF (acS p t r q n)) 22 (nI t)) = grS p t r n (setF q (upd (upd (qF q) 21 (nI t)) 22 (nI t))) := by
  have h1 : setF q (upd (upd (qF q) 21 (nI t)) 22 (nI t)) = setF (setF q (upd (qF q) 21 (nI t))) (upd (qF (setF q (upd (qF q) 21 (nI t)))) 22 (nI t)) := rfl
  rw [h1, gr_21 (Or.inr rfl), gr_21 (Or.inl rfl)]
  unfold acS
  rw [if_neg (by omega)]
def tkN : Nat → Row → Row
  | 0, r => r
  | n + 1, r => tickW (tkN n r)
theorem tkN_ok {m : Nat} {r : Row} (h : RoOK r.1 r.2 m) : ∀ n, 100 + 20 * (m + n) < 2 ^ 28 → RoOK (tkN n r).1 (tkN n r).2 (m + n)
  | 0, _ => h
  | n + 1, hm => tick_ok (tkN_ok h n (by omega)) (by omega)
set_option maxRecDepth 100000 in
set_option maxHeartbeats 4000000 in
theorem c_X9_acts {l9 : Launch} {G : GC} {h : AH} {w : Nat → Int32} {v9 : Nat → Int64} {p : Nat} {f : Nat → Int32} {g : Nat → Int64} {c u : Nat} {t X E : Nat} {x : Int32} (hW : World h) (hm : PV h w v9 p f g) (hp : p < 4) (hO : PoOK f g c u) (hx : x = nI p) (h1 : w 1 = nI t) (h2 : w 2 = nI X) (h3 : w 3 = nI E) (h19 : rg (f 19) 0 20) (hX : X < 2 ^ 29) (hE : E < 2 ^ 29) : PM l9 G mX9_acts NT NT [.ref 723, .int x] h (fun v h' => v = none ∧ eqx h h' SM ∧ QV h' v9 p (actQ p t f (decF f t, w, X, E)) g) noX := by
  refine PM.of (by decide +kernel) rfl rfl (Nat.le_of_ble_eq_true rfl) (fun hst _ => ?_)
  have he : eqx h h SM := eqx.rf
  have y6 := deF_lt f t
  have y23 : nn (f 23) ≤ 20 := (hO.at 23).2.2
  have y19 : nn (f 19) ≤ 20 := h19.2.2
  refine r_aload_n dX9_acts_0 rfl ?_
  refine r_iload_n dX9_acts_1 rfl ?_
  refine q_callV1 (cv_X9_decides ml_X9_138) hW kc_723 (by decide) rfl ⟨rfl, rfl⟩ rfl (Nat.le_of_ble_eq_true rfl) dX9_acts_2 (c_X9_decides hW hm hp hO hx h1 h19) (fun v_2 h_2 q_2 => ?_)
  obtain ⟨rfl, z9⟩ := q_2
  replace z9 := z9.symm
  subst z9
  refine r_istore_n (ls2 := [_, some _, _, _, _, _]) dX9_acts_5 (by decide) rfl ?_
  refine r_aload_n dX9_acts_6 rfl ?_
  refine r_iload_n dX9_acts_7 rfl ?_
  refine r_bipush (17) dX9_acts_8 (by decide) ?_
  refine r_iload_n dX9_acts_10 rfl ?_
  refine q_callV3 (cv_X9_put ml_X9_64) hW kc_723 (by decide) rfl ⟨rfl, rfl⟩ rfl (Nat.le_of_ble_eq_true rfl) dX9_acts_11 (c_X9_put hW hm hp hx kn_17 (by omega)) (fun v_11 h_11 q_11 => ?_)
  obtain ⟨rfl, e_11, hm⟩ := q_11
  have hW := e_11.W hW
  have he := he.tr e_11
  refine r_aload_n dX9_acts_14 rfl ?_
  refine r_iload_n dX9_acts_15 rfl ?_
  refine r_bipush (30) dX9_acts_16 (by decide) ?_
  refine r_iload_n dX9_acts_18 rfl ?_
  refine r_iadd dX9_acts_19 ?_
  refine r_iconst (1) dX9_acts_20 (by decide) ?_
  refine q_callV3 (cv_X9_adds ml_X9_85) hW kc_723 (by decide) rfl ⟨rfl, rfl⟩ rfl (Nat.le_of_ble_eq_true rfl) dX9_acts_21 (c_X9_adds (k := 30 + deF f t) hW hm hp hx (nadd (a := 30) rfl rfl) (by omega)) (fun v_21 h_21 q_21 => ?_)
  obtain ⟨rfl, e_21, hm⟩ := q_21
  have hW := e_21.W hW
  have he := he.tr e_21
  have hm0 : PV h_21 w v9 p (dcA f t) g := hm.eF (by unfold dcA; rw [pk_un (by omega)]) rfl
  clear hm
  refine r_iload_n dX9_acts_24 rfl ?_
  refine r_iconst (1) dX9_acts_25 (by decide) ?_
  refine r_icmp_le 30 dX9_acts_26 (by decide) (fun c_26 => ?_) (fun c_26 => ?_)
  · refine r_aload_n dX9_acts_30 rfl ?_
    refine r_iload_n dX9_acts_31 rfl ?_
    refine r_bipush (19) dX9_acts_32 (by decide) ?_
    refine q_callV2 (cv_X9_of ml_X9_81) hW kc_723 (by decide) rfl ⟨rfl, rfl⟩ rfl (Nat.le_of_ble_eq_true rfl) dX9_acts_34 (c_X9_of hW hm0 hp hx (k := 19) rfl (by decide)) (fun v_34 h_34 q_34 => ?_)
    obtain ⟨rfl, z9⟩ := q_34
    replace z9 := z9.symm
    subst z9
    rw [dcA_o (k := 19) (by decide) (by omega)]
    refine r_aload_n dX9_acts_37 rfl ?_
    refine r_iload_n dX9_acts_38 rfl ?_
    refine r_bipush (23) dX9_acts_39 (by decide) ?_
    refine q_callV2 (cv_X9_of ml_X9_81) hW kc_723 (by decide) rfl ⟨rfl, rfl⟩ rfl (Nat.le_of_ble_eq_true rfl) dX9_acts_41 (c_X9_of hW hm0 hp hx (k := 23) rfl (by decide)) (fun v_41 h_41 q_41 => ?_)
    obtain ⟨rfl, z9⟩ := q_41
    replace z9 := z9.symm
    subst z9
    rw [dcA_o (k := 23) (by decide) (by omega)]
    refine r_isub dX9_acts_44 ?_
    refine r_istore_n (ls2 := [_, _, some _, _, _, _]) dX9_acts_45 (by decide) rfl ?_
    have hde : deF f t = 0 ∨ deF f t = 1 := by have := (nI_leI (b := 1) (by omega) (by decide)).mp c_26; omega
    have hq0 : QV h_21 v9 p (dcA f t, w, X, E) g := QV.of hm0 h2 h3
    have hOA : PoOK (dcA f t) g c u := hO.dcA
    have z23 : dcA f t 23 = f 23 := dcA_o (by decide) (by omega)
    have z10 : dcA f t 10 = f 10 := dcA_o (by decide) (by omega)
    have z11 : dcA f t 11 = f 11 := dcA_o (by decide) (by omega)
    have z4 : dcA f t 4 = f 4 := dcA_o (by decide) (by omega)
    have y10 : nn (f 10) ≤ 5 := (hO.at 10).2.2
    have y10' : 1 ≤ nn (f 10) := (hO.at 10).2.1
    have y11 : nn (f 11) ≤ 5 := (hO.at 11).2.2
    have e10 : f 10 = nI (nn (f 10)) := (hO.at 10).1
    have e11 : f 11 = nI (nn (f 11)) := (hO.at 11).1
    rcases hde with hde | hde
    · have hlt := deF_0 hde
      have hlt2 : nn (f 23) < nn (f 19) := by
        rw [h19.1, (hO.at 23).1] at hlt
        exact (nI_ltI (by omega) (by omega)).mp hlt
      have hlk : f 19 - f 23 = nI (nn (f 19) - nn (f 23)) := nsub h19.1 (hO.at 23).1 (by omega)
      rw [hlk]
      have hgN : grN f ≤ nn (f 19) - nn (f 23) ∧ grN f ≤ nn (f 10) ∧ (grN f = nn (f 19) - nn (f 23) ∨ grN f = nn (f 10)) ∧ 0 < grN f := by unfold grN; omega
      have hfin : ∀ (H : AH) (w5 : Option Value), World H → eqx h H SM → QV H v9 p (acS p t (nI t + 1 + f 4) (dcA f t, w, X, E) (grN f)) g → PW l9 G mX9_acts (mO mX9_acts) (fiM G mX9_acts NT (fun v h' => v = none ∧ eqx h h' SM ∧ QV h' v9 p (actQ p t f (decF f t, w, X, E)) g) noX) NT 119 [some (.ref 723), some (.int x), some (.int (nI (deF f t))), some (.int (nI (nn (f 19) - nn (f 23)))), some (.int (nI (grN f))), w5] [] (0, 0) H := by
        intro H w5 hW he hq
        have hm : PV H (W2 (acS p t (nI t + 1 + f 4) (dcA f t, w, X, E) (grN f))) v9 p (qF (acS p t (nI t + 1 + f 4) (dcA f t, w, X, E) (grN f))) g := hq
        have h1' : W2 (acS p t (nI t + 1 + f 4) (dcA f t, w, X, E) (grN f)) 1 = nI t := by
          rw [W2_k (by decide) (by decide), acS_X.2.2]
          exact (gr_W (by omega)).trans h1
        refine r_iconst (0) dX9_acts_119 (by decide) ?_
        refine r_istore (ls2 := [_, _, _, some _, _, _]) dX9_acts_120 (by decide) rfl ?_
        refine r_iload dX9_acts_122 rfl ?_
        refine r_iload_n dX9_acts_124 rfl ?_
        refine r_ineg dX9_acts_125 ?_
        refine r_icmp_ge 166 dX9_acts_126 (by decide) (fun c_126 => ?_) (fun c_126 => ?_)
        · refine r_aload_n dX9_acts_166 rfl ?_
          refine r_iload_n dX9_acts_167 rfl ?_
          refine r_bipush (22) dX9_acts_168 (by decide) ?_
          refine r_aload_n dX9_acts_170 rfl ?_
          refine q_getR fl_X9_7 hW kc_723 rfl (kl_9_0 hW) (by decide) dX9_acts_171 ?_
          refine r_iconst (1) dX9_acts_174 (by decide) ?_
          refine q_wldPV hW hm kn_1 (by omega) dX9_acts_175 ?_
          rw [h1']
          refine q_callV3 (cv_X9_put ml_X9_64) hW kc_723 (by decide) rfl ⟨rfl, rfl⟩ rfl (Nat.le_of_ble_eq_true rfl) dX9_acts_176 (c_X9_put hW hm hp hx kn_22 (by omega)) (fun v_176 h_176 q_176 => ?_)
          obtain ⟨rfl, e_176, hm⟩ := q_176
          have hW := e_176.W hW
          have he := he.tr e_176
          refine r_vret dX9_acts_179 rfl ⟨Nat.zero_le _, Nat.zero_le _⟩ ?_
          refine ⟨rfl, he, ?_⟩
          unfold actQ
          rw [if_pos hde, dec_0 hde]
          have h5 := QV.set hm
          rw [acS_e hgN.2.2.2] at h5
          exact h5
        · exfalso
          have z : ¬ (-(nI (nn (f 19) - nn (f 23))) : Int32) ≤ 0 := c_126
          apply z
          rw [Int32.le_iff_toInt_le, Int32.toInt_neg]
          have := nI_toInt (n := nn (f 19) - nn (f 23)) (by omega)
          rw [this]
          rw [Int.bmod_eq_of_le (by omega) (by omega)]
          show _ ≤ (0 : Int)
          omega
    
      refine r_iconst (0) dX9_acts_46 (by decide) ?_
      refine r_istore (ls2 := [_, _, _, _, some _, _]) dX9_acts_47 (by decide) rfl ?_
      refine loopN (P := fun i => ∀ (H : AH) (w5 : Option Value), i ≤ grN f → World H → eqx h H SM → QV H v9 p (acS p t (nI t + 1 + f 4) (dcA f t, w, X, E) i) g → PW l9 G mX9_acts (mO mX9_acts) (fiM G mX9_acts NT (fun v h' => v = none ∧ eqx h h' SM ∧ QV h' v9 p (actQ p t f (decF f t, w, X, E)) g) noX) NT 49 [some (.ref 723), some (.int x), some (.int (nI (deF f t))), some (.int (nI (nn (f 19) - nn (f 23)))), some (.int (nI i)), w5] [] (0, 0) H) (grN f) (fun i ih H w5 hi hW he hq => ?_) 0 h_21 none (Nat.zero_le _) hW he hq0
      obtain ⟨S, eS⟩ : ∃ S, S = acS p t (nI t + 1 + f 4) (dcA f t, w, X, E) i := ⟨_, rfl⟩
      rw [← eS] at hq
      have hm : PV H (W2 S) v9 p (qF S) g := hq
      obtain ⟨i1, i2, i3, i4, i5⟩ := zr_ok (p := p) (t := t) (n := i) (r := nI t + 1 + f 4) (q := (dcA f t, w, X, E)) (g := g) (c := c) (u := u) hOA (by show nn (dcA f t 23) + i ≤ 20; rw [z23]; omega)
      have i2' : nn (qF (grS p t (nI t + 1 + f 4) i (dcA f t, w, X, E)) 23) = nn (f 23) + i := by rw [i2]; show nn (dcA f t 23) + i = _; rw [z23]
      have s23 : qF S 23 = nI (nn (f 23) + i) := by rw [eS, acS_o (by decide), ← i2']; exact (i1.at 23).1
      have s10 : qF S 10 = f 10 := by rw [eS, acS_o (by decide)]; exact (i5 10 (by omega)).trans z10
      have s4 : qF S 4 = f 4 := by rw [eS, acS_o (by decide)]; exact (i5 4 (by omega)).trans z4
      have s1 : qW S 1 = nI t := by rw [eS, acS_X.2.2]; exact (gr_W (by omega)).trans h1
      have sE : qE S = E + i := by rw [eS, acS_X.2.1]; exact i4
      have sX : qX S = X + i := by rw [eS, acS_X.1]; exact i3
      have hW1 : W2 S 1 = nI t := (W2_k (by decide) (by decide)).trans s1
      refine r_iload dX9_acts_49 rfl ?_
      refine r_iload_n dX9_acts_51 rfl ?_
      refine r_icmp_ge 119 dX9_acts_52 (by decide) (fun c_52 => ?_) (fun c_52 => ?_)
      · have hge : grN f = i := by
          first
            | (have := (nI_leI (by omega) (by omega)).mp c_52; omega)
            | (have := (nI_leI (by omega) (by omega)).mp c_64; omega)
        subst hge
        rw [eS] at hq
        exact hfin _ _ hW he hq
      · refine r_iload dX9_acts_55 rfl ?_
        refine r_aload_n dX9_acts_57 rfl ?_
        refine r_iload_n dX9_acts_58 rfl ?_
        refine r_bipush (10) dX9_acts_59 (by decide) ?_
        refine q_callV2 (cv_X9_of ml_X9_81) hW kc_723 (by decide) rfl ⟨rfl, rfl⟩ rfl (Nat.le_of_ble_eq_true rfl) dX9_acts_61 (c_X9_of hW hm hp hx kn_10 (by omega)) (fun v_61 h_61 q_61 => ?_)
        obtain ⟨rfl, z9⟩ := q_61
        replace z9 := z9.symm
        subst z9
        rw [s10, e10]
        refine r_icmp_ge 119 dX9_acts_64 (by decide) (fun c_64 => ?_) (fun c_64 => ?_)
        · have hge : grN f = i := by
            first
              | (have := (nI_leI (by omega) (by omega)).mp c_52; omega)
              | (have := (nI_leI (by omega) (by omega)).mp c_64; omega)
          subst hge
          rw [eS] at hq
          exact hfin _ _ hW he hq
        · have k1 := (nI_ltI (by omega) (by omega)).mp (i_lt.mp c_52)
          have k2 := (nI_ltI (by omega) (by omega)).mp (i_lt.mp c_64)
          refine r_aload_n dX9_acts_67 rfl ?_
          refine r_iload_n dX9_acts_68 rfl ?_
          refine r_aload_n dX9_acts_69 rfl ?_
          refine q_getR fl_X9_7 hW kc_723 rfl (kl_9_0 hW) (by decide) dX9_acts_70 ?_
          refine r_iconst (1) dX9_acts_73 (by decide) ?_
          refine q_wldPV hW hm kn_1 (by omega) dX9_acts_74 ?_
          rw [hW1]
          refine r_iconst (1) dX9_acts_75 (by decide) ?_
          refine r_iadd dX9_acts_76 ?_
          refine r_aload_n dX9_acts_77 rfl ?_
          refine r_iload_n dX9_acts_78 rfl ?_
          refine r_iconst (4) dX9_acts_79 (by decide) ?_
          refine q_callV2 (cv_X9_of ml_X9_81) hW kc_723 (by decide) rfl ⟨rfl, rfl⟩ rfl (Nat.le_of_ble_eq_true rfl) dX9_acts_80 (c_X9_of hW hm hp hx kn_4 (by omega)) (fun v_80 h_80 q_80 => ?_)
          obtain ⟨rfl, z9⟩ := q_80
          replace z9 := z9.symm
          subst z9
          rw [s4]
          refine r_iadd dX9_acts_83 ?_
          refine q_callV2 (cv_X9_comes ml_X9_141) hW kc_723 (by decide) rfl ⟨rfl, rfl⟩ rfl (Nat.le_of_ble_eq_true rfl) dX9_acts_84 (c_X9_comes hW hm hp s1 hx s23 (by omega) (by omega)) (fun v_84 h_84 q_84 => ?_)
          obtain ⟨rfl, e_84, hq⟩ := q_84
          have hW := e_84.W hW
          have he := he.tr e_84
          have hm : PV h_84 (W2 (comQ p t (nI t + 1 + f 4) S)) v9 p (qF (comQ p t (nI t + 1 + f 4) S)) g := hq
          refine r_istore (ls2 := [_, _, _, _, some _, _]) dX9_acts_87 (by decide) rfl ?_
          refine r_aload_n dX9_acts_89 rfl ?_
          refine r_iload_n dX9_acts_90 rfl ?_
          refine r_bipush (21) dX9_acts_91 (by decide) ?_
          refine r_iload dX9_acts_93 rfl ?_
          refine r_if_ge 104 dX9_acts_95 (by decide) (fun c_95 => ?_) (fun c_95 => ?_)
          · skip
            refine r_aload_n dX9_acts_104 rfl ?_
            refine q_getR fl_X9_7 hW kc_723 rfl (kl_9_0 hW) (by decide) dX9_acts_105 ?_
            refine r_iconst (1) dX9_acts_108 (by decide) ?_
            refine q_wldPV hW hm kn_1 (by omega) dX9_acts_109 ?_
            rw [show W2 (comQ p t (nI t + 1 + f 4) S) 1 = nI t from (W2_k (by decide) (by decide)).trans ((evP_o (by omega)).trans s1)]
            refine q_callV3 (cv_X9_put ml_X9_64) hW kc_723 (by decide) rfl ⟨rfl, rfl⟩ rfl (Nat.le_of_ble_eq_true rfl) dX9_acts_110 (c_X9_put hW hm hp hx kn_21 (by omega)) (fun v_110 h_110 q_110 => ?_)
            obtain ⟨rfl, e_110, hm⟩ := q_110
            have hW := e_110.W hW
            have he := he.tr e_110
            refine r_iinc (1) (by decide) (ls2 := [_, _, _, some _, _, _]) dX9_acts_113 rfl (by decide) rfl ?_
            refine r_goto 49 dX9_acts_116 (by decide) ?_
            rw [nI_1]
            have h5 := QV.set hm
            rw [eS, acS_1] at h5
            exact ih (by omega) _ _ (by omega) hW he h5
          · exact absurd (Int32.not_lt.mp (nI_pos (by omega))) c_95
    
    · obtain ⟨hne, hnl⟩ := deF_1 hde
      have hlt2 : nn (f 19) < nn (f 23) := by
        rw [h19.1, (hO.at 23).1] at hnl
        have h5 := (nI_leI (by omega) (by omega)).mp (Int32.not_lt.mp hnl)
        rcases Nat.lt_or_ge (nn (f 19)) (nn (f 23)) with z | z
        · exact z
        · exact absurd (by rw [h19.1, (hO.at 23).1]; congr 1; omega) hne
      have hng : -(f 19 - f 23) = nI (nn (f 23) - nn (f 19)) := by
        rw [Int32.neg_sub]
        exact nsub (hO.at 23).1 h19.1 (by omega)
      have hsN : shN f ≤ nn (f 23) - nn (f 19) ∧ shN f ≤ nn (f 11) ∧ (shN f = nn (f 23) - nn (f 19) ∨ shN f = nn (f 11)) := by unfold shN; omega
      have hle : f 19 - f 23 ≤ 0 := by
        have := pk_sneg (a := nn (f 19)) (b := nn (f 23)) (by omega) hlt2
        rw [← h19.1, ← (hO.at 23).1] at this
        exact Int32.le_of_lt this
      obtain ⟨L, eL⟩ : ∃ L, L = f 19 - f 23 := ⟨_, rfl⟩
      rw [← eL] at hng hle ⊢
      refine r_iconst (0) dX9_acts_46 (by decide) ?_
      refine r_istore (ls2 := [_, _, _, some _, _, _]) dX9_acts_47 (by decide) rfl ?_
      refine r_iload dX9_acts_49 rfl ?_
      refine r_iload_n dX9_acts_51 rfl ?_
      refine r_icmp_ge 119 dX9_acts_52 (by decide) (fun c_52 => ?_) (fun c_52 => ?_)
      · refine r_iconst (0) dX9_acts_119 (by decide) ?_
        refine r_istore (ls2 := [_, _, _, some _, _, _]) dX9_acts_120 (by decide) rfl ?_
        refine loopN (P := fun i => ∀ (H : AH), i ≤ shN f → World H → eqx h H SM → QV H v9 p (shS p t i (dcA f t, w, X, E)) g → PW l9 G mX9_acts (mO mX9_acts) (fiM G mX9_acts NT (fun v h' => v = none ∧ eqx h h' SM ∧ QV h' v9 p (actQ p t f (decF f t, w, X, E)) g) noX) NT 122 [some (.ref 723), some (.int x), some (.int (nI (deF f t))), some (.int L), some (.int (nI i)), none] [] (0, 0) H) (shN f) (fun i ih H hi hW he hq => ?_) 0 h_21 (Nat.zero_le _) hW he hq0
        obtain ⟨S, eS⟩ : ∃ S, S = shS p t i (dcA f t, w, X, E) := ⟨_, rfl⟩
        have hq9 := hq
        rw [← eS] at hq
        have hm : PV H (W2 S) v9 p (qF S) g := hq
        obtain ⟨i1, i2, i3, i4, i5⟩ := sh_ok (p := p) (t := t) (n := i) (q := (dcA f t, w, X, E)) (g := g) (c := c) (u := u) hOA
        rw [← eS] at i1 i2 i3 i4 i5
        have s11 : qF S 11 = f 11 := (i5 11 (by omega)).trans z11
        have s1 : qW S 1 = nI t := by rw [eS]; exact (sh_W (by omega)).trans h1
        have sE : qE S ≤ E + i := i4
        have s23 : nn (qF S 23) ≤ 20 := (i1.at 23).2.2
        have hO' := i1
        have hln : ∀ k, nxQ S = some k → k < nn (qF S 23) := fun k hk => nxQ_lt hk
        have hfin : shS p t (shN f) (dcA f t, w, X, E) = S → PW l9 G mX9_acts (mO mX9_acts) (fiM G mX9_acts NT (fun v h' => v = none ∧ eqx h h' SM ∧ QV h' v9 p (actQ p t f (decF f t, w, X, E)) g) noX) NT 166 [some (.ref 723), some (.int x), some (.int (nI (deF f t))), some (.int L), some (.int (nI i)), none] [] (0, 0) H := by
          intro hSe
          refine r_aload_n dX9_acts_166 rfl ?_
          refine r_iload_n dX9_acts_167 rfl ?_
          refine r_bipush (22) dX9_acts_168 (by decide) ?_
          refine r_aload_n dX9_acts_170 rfl ?_
          refine q_getR fl_X9_7 hW kc_723 rfl (kl_9_0 hW) (by decide) dX9_acts_171 ?_
          refine r_iconst (1) dX9_acts_174 (by decide) ?_
          refine q_wldPV hW hm kn_1 (by omega) dX9_acts_175 ?_
          rw [show W2 S 1 = nI t from (W2_k (by decide) (by decide)).trans s1]
          refine q_callV3 (cv_X9_put ml_X9_64) hW kc_723 (by decide) rfl ⟨rfl, rfl⟩ rfl (Nat.le_of_ble_eq_true rfl) dX9_acts_176 (c_X9_put hW hm hp hx kn_22 (by omega)) (fun v_176 h_176 q_176 => ?_)
          obtain ⟨rfl, e_176, hm⟩ := q_176
          have hW := e_176.W hW
          have he := he.tr e_176
          refine r_vret dX9_acts_179 rfl ⟨Nat.zero_le _, Nat.zero_le _⟩ ?_
          refine ⟨rfl, he, ?_⟩
          unfold actQ
          rw [if_neg (by omega), if_pos hde, dec_1 hde]
          have h5 := QV.set hm
          rw [← hSe, ← sh_22 (Or.inr rfl)] at h5
          exact h5
        
        refine r_iload dX9_acts_122 rfl ?_
        refine r_iload_n dX9_acts_124 rfl ?_
        refine r_ineg dX9_acts_125 ?_
        rw [hng]
        refine r_icmp_ge 166 dX9_acts_126 (by decide) (fun c_126 => ?_) (fun c_126 => ?_)
        · refine hfin ?_
          first
            | (have := (nI_leI (by omega) (by omega)).mp c_126
               rw [eS]; congr 1; omega)
            | (have := (nI_leI (by omega) (by omega)).mp c_138
               rw [eS]; congr 1; omega)
            | (have hno : nxQ S = none := (oI_m1 (fun k hk => by have := hln k hk; omega)).mp (by first | exact c_147 | simpa using c_147)
               rw [eS] at hno ⊢
               exact shS_stop hno (shN f) hi)
        · refine r_iload dX9_acts_129 rfl ?_
          refine r_aload_n dX9_acts_131 rfl ?_
          refine r_iload_n dX9_acts_132 rfl ?_
          refine r_bipush (11) dX9_acts_133 (by decide) ?_
          refine q_callV2 (cv_X9_of ml_X9_81) hW kc_723 (by decide) rfl ⟨rfl, rfl⟩ rfl (Nat.le_of_ble_eq_true rfl) dX9_acts_135 (c_X9_of hW hm hp hx kn_11 (by omega)) (fun v_135 h_135 q_135 => ?_)
          obtain ⟨rfl, z9⟩ := q_135
          replace z9 := z9.symm
          subst z9
          rw [s11, e11]
          refine r_icmp_ge 166 dX9_acts_138 (by decide) (fun c_138 => ?_) (fun c_138 => ?_)
          · refine hfin ?_
            first
              | (have := (nI_leI (by omega) (by omega)).mp c_126
                 rw [eS]; congr 1; omega)
              | (have := (nI_leI (by omega) (by omega)).mp c_138
                 rw [eS]; congr 1; omega)
              | (have hno : nxQ S = none := (oI_m1 (fun k hk => by have := hln k hk; omega)).mp (by first | exact c_147 | simpa using c_147)
                 rw [eS] at hno ⊢
                 exact shS_stop hno (shN f) hi)
          · refine r_aload_n dX9_acts_141 rfl ?_
            refine r_iload_n dX9_acts_142 rfl ?_
            refine q_callV1 (cv_X9_dropped ml_X9_135) hW kc_723 (by decide) rfl ⟨rfl, rfl⟩ rfl (Nat.le_of_ble_eq_true rfl) dX9_acts_143 (c_X9_dropped hW hm hp hO' hx) (fun v_143 h_143 q_143 => ?_)
            obtain ⟨rfl, z9⟩ := q_143
            replace z9 := z9.symm
            subst z9
            refine r_iconst (-1) dX9_acts_146 (by decide) ?_
            refine r_icmp_eq 166 dX9_acts_147 (by decide) (fun c_147 => ?_) (fun c_147 => ?_)
            · refine hfin ?_
              first
                | (have := (nI_leI (by omega) (by omega)).mp c_126
                   rw [eS]; congr 1; omega)
                | (have := (nI_leI (by omega) (by omega)).mp c_138
                   rw [eS]; congr 1; omega)
                | (have hno : nxQ S = none := (oI_m1 (fun k hk => by have := hln k hk; omega)).mp (by first | exact c_147 | simpa using c_147)
                   rw [eS] at hno ⊢
                   exact shS_stop hno (shN f) hi)
            · obtain ⟨k, hk9⟩ : ∃ k, nxQ S = some k := by
                cases hq8 : nxQ S with
                | none => unfold nxQ at hq8; rw [hq8] at c_147; exact absurd rfl c_147
                | some k => exact ⟨k, rfl⟩
              have hk7 := hln k hk9
              have hk8 : ng (mbs (qF S)) (qF S 9) (mbs (qF S)).length = some k := hk9
              refine r_aload_n dX9_acts_150 rfl ?_
              refine r_iload_n dX9_acts_151 rfl ?_
              refine r_aload_n dX9_acts_152 rfl ?_
              refine r_iload_n dX9_acts_153 rfl ?_
              refine q_callV1 (cv_X9_dropped ml_X9_135) hW kc_723 (by decide) rfl ⟨rfl, rfl⟩ rfl (Nat.le_of_ble_eq_true rfl) dX9_acts_154 (c_X9_dropped hW hm hp hO' hx) (fun v_154 h_154 q_154 => ?_)
              obtain ⟨rfl, z9⟩ := q_154
              replace z9 := z9.symm
              subst z9
              rw [hk8]
              refine q_callV2 (cv_X9_goes ml_X9_144) hW kc_723 (by decide) rfl ⟨rfl, rfl⟩ rfl (Nat.le_of_ble_eq_true rfl) dX9_acts_157 (c_X9_goes (k := k) hW hm hp s1 hx rfl (i1.at 23) hk7 (by omega)) (fun v_157 h_157 q_157 => ?_)
              obtain ⟨rfl, e_157, hq⟩ := q_157
              have hW := e_157.W hW
              have he := he.tr e_157
              refine r_iinc (1) (by decide) (ls2 := [_, _, _, some _, _, _]) dX9_acts_160 rfl (by decide) rfl ?_
              refine r_goto 122 dX9_acts_163 (by decide) ?_
              rw [nI_1]
              have k1 := (nI_ltI (by omega) (by omega)).mp (i_lt.mp c_126)
              have k2 := (nI_ltI (by omega) (by omega)).mp (i_lt.mp c_138)
              refine ih (by omega) _ (by omega) hW he ?_
              rw [shS_go (by rw [← eS]; exact hk9), ← eS]
              exact hq
      · exact absurd hle c_52
  · refine r_vret dX9_acts_29 rfl ⟨Nat.zero_le _, Nat.zero_le _⟩ ?_
    have h1' : ¬ deF f t ≤ 1 := fun q => c_26 ((nI_leI (b := 1) (by omega) (by decide)).mpr q)
    refine ⟨rfl, he, ?_⟩
    unfold actQ
    rw [if_neg (by omega), if_neg (by omega), dec_2 h1']
    exact QV.of hm0 h2 h3

set_option maxRecDepth 100000 in
set_option maxHeartbeats 4000000 in
theorem c_X9_tick {l9 : Launch} {G : GC} {h : AH} {r : Row} {m : Nat} (hW : World h) (hm : MW h r) (hO : RoOK r.1 r.2 m) (hb : 100 + 20 * (m + 1) < 2 ^ 28) : PM l9 G mX9_tick NT NT [.ref 723] h (fun v h' => v = none ∧ eqx h h' SM ∧ MW h' (tickW r)) noX := by
  refine PM.of (by decide +kernel) rfl rfl (Nat.le_of_ble_eq_true rfl) (fun hst _ => ?_)
  obtain ⟨np, n1, n2, n3⟩ := hO.1.1.nat
  obtain ⟨t, t1, t2, t3⟩ := hO.1.2.1.nat
  have en : nn (r.1 0) = np := by rw [n3]; exact nn_I (by omega)
  have et : nn (r.1 1) = t := by rw [t3]; exact nn_I (by omega)
  have inv := tk_inv hO et en hb
  refine r_iconst (0) dX9_tick_0 (by decide) ?_
  refine r_istore_n (ls2 := [some _, _]) dX9_tick_1 (by decide) rfl ?_
  refine loopN (P := fun i => ∀ H : AH, i ≤ np → World H → eqx h H SM → MW H (tkS t i r) → PW l9 G mX9_tick _ _ NT 2 [some (.ref 723), some (.int (nI i))] [] (0, 0) H) np (fun i ih H hi hW he hm => ?_) 0 h (Nat.zero_le _) hW eqx.rf hm
  obtain ⟨i1, i2, i3, i4, i5, i6⟩ := inv i hi
  obtain ⟨r9, er9⟩ : ∃ r9, r9 = tkS t i r := ⟨_, rfl⟩
  rw [← er9] at hm i1 i2 i3 i4 i5 i6
  refine r_iload_n dX9_tick_2 rfl ?_
  refine r_aload_n dX9_tick_3 rfl ?_
  refine q_getR fl_X9_7 hW kc_723 rfl (kl_9_0 hW) (by decide) dX9_tick_4 ?_
  refine r_iconst (0) dX9_tick_7 (by decide) ?_
  refine q_wldMW hW hm kn_0 (by omega) dX9_tick_8 ?_
  rw [i1, n3]
  refine r_icmp_ge 33 dX9_tick_9 (by decide) (fun c_9 => ?_) (fun c_9 => ?_)
  · have hge : np = i := by have := (nI_leI (by omega) (by omega)).mp c_9; omega
    rw [er9] at hm i2
    rw [← hge] at hm i2
    refine r_aload_n dX9_tick_33 rfl ?_
    refine q_getR fl_X9_7 hW kc_723 rfl (kl_9_0 hW) (by decide) dX9_tick_34 ?_
    refine r_iconst (1) dX9_tick_37 (by decide) ?_
    refine r_dup2 dX9_tick_38 rfl rfl ?_
    refine q_wldMW hW hm kn_1 (by omega) dX9_tick_39 ?_
    refine r_iconst (1) dX9_tick_40 (by decide) ?_
    rw [i2, t3]
    refine r_iadd dX9_tick_41 ?_
    rw [nI_1]
    refine q_wstMW hW hm kn_1 (by omega) dX9_tick_42 (fun h_42 hW hm e_42 => ?_)
    have he := he.tr e_42
    refine r_vret dX9_tick_43 rfl ⟨Nat.zero_le _, Nat.zero_le _⟩ ?_
    refine ⟨rfl, he, ?_⟩
    unfold tickW
    rw [et, en]
    exact hm
  · have hlt : i < np := (nI_ltI (by omega) (by omega)).mp (i_lt.mp c_9)
    have hp : i < 4 := by omega
    have h1 : r9.1 1 = nI t := i2.trans t3
    have h2 := i3.1
    have h3 := i4.1
    have b2 := i3.2.2
    have b3 := i4.2.2
    have hO1 : PoOK (getP r9.1 i) (getG r9.2 i) t t := by
      rw [(i6 i (Nat.le_refl i)).1, (i6 i (Nat.le_refl i)).2]
      have := hO.2 i (by omega)
      rwa [et] at this
    have hO2 := (hO1.met (by omega)).er (u := t) (d := metF (getP r9.1 i) t (60 + t % 24))
    have hO3 := hO1.pas (by omega)
    have h19 := pasF_19 hO1 (by omega)
    have hm := hm.pv i
    refine r_aload_n dX9_tick_12 rfl ?_
    refine r_iload_n dX9_tick_13 rfl ?_
    refine q_callV1 (cv_X9_meets ml_X9_148) hW kc_723 (by decide) rfl ⟨rfl, rfl⟩ rfl (Nat.le_of_ble_eq_true rfl) dX9_tick_14 (c_X9_meets hW hm hp hO1 rfl h1) (fun v_14 h_14 q_14 => ?_)
    obtain ⟨rfl, e_14, hm⟩ := q_14
    have hW := e_14.W hW
    have he := he.tr e_14
    refine r_aload_n dX9_tick_17 rfl ?_
    refine r_iload_n dX9_tick_18 rfl ?_
    refine q_callV1 (cv_X9_looksAhead ml_X9_152) hW kc_723 (by decide) rfl ⟨rfl, rfl⟩ rfl (Nat.le_of_ble_eq_true rfl) dX9_tick_19 (c_X9_looksAhead hW hm hp hO2 rfl h1) (fun v_19 h_19 q_19 => ?_)
    obtain ⟨rfl, e_19, hm⟩ := q_19
    have hW := e_19.W hW
    have he := he.tr e_19
    refine r_aload_n dX9_tick_22 rfl ?_
    refine r_iload_n dX9_tick_23 rfl ?_
    refine q_callV1 (cv_X9_acts ml_X9_155) hW kc_723 (by decide) rfl ⟨rfl, rfl⟩ rfl (Nat.le_of_ble_eq_true rfl) dX9_tick_24 (c_X9_acts hW hm hp hO3 rfl h1 h2 h3 h19 (by omega) (by omega)) (fun v_24 h_24 q_24 => ?_)
    obtain ⟨rfl, e_24, hm⟩ := q_24
    have hW := e_24.W hW
    have he := he.tr e_24
    refine r_iinc (1) (by decide) (ls2 := [some _, _]) dX9_tick_27 rfl (by decide) rfl ?_
    refine r_goto 2 dX9_tick_30 (by decide) ?_
    rw [nI_1]
    refine ih hlt _ hlt hW he ?_
    rw [er9] at hm
    exact hm

set_option maxRecDepth 100000 in
set_option maxHeartbeats 4000000 in
theorem c_X9_runs {l9 : Launch} {G : GC} {h : AH} {r : Row} {m n : Nat} {x : Int32} (hW : World h) (hm : MW h r) (hO : RoOK r.1 r.2 m) (hb : 100 + 20 * (m + n) < 2 ^ 28) (hx : x = nI n) : PM l9 G mX9_runs NT NT [.ref 723, .int x] h (fun v h' => v = some (.int ((tkN n r).1 3 - r.1 3)) ∧ eqx h h' SM ∧ MW h' (tkN n r)) noX := by
  refine PM.of (by decide +kernel) rfl rfl (Nat.le_of_ble_eq_true rfl) (fun hst _ => ?_)
  subst hx
  refine r_aload_n dX9_runs_0 rfl ?_
  refine q_getR fl_X9_7 hW kc_723 rfl (kl_9_0 hW) (by decide) dX9_runs_1 ?_
  refine r_iconst (3) dX9_runs_4 (by decide) ?_
  refine q_wldMW hW hm kn_3 (by omega) dX9_runs_5 ?_
  refine r_istore_n (ls2 := [_, some _, _, _]) dX9_runs_6 (by decide) rfl ?_
  refine r_iconst (0) dX9_runs_7 (by decide) ?_
  refine r_istore_n (ls2 := [_, _, some _, _]) dX9_runs_8 (by decide) rfl ?_
  refine loopN (P := fun i => ∀ H : AH, i ≤ n → World H → eqx h H SM → MW H (tkN i r) → PW l9 G mX9_runs _ _ NT 9 [some (.ref 723), some (.int (nI n)), some (.int (r.1 3)), some (.int (nI i))] [] (0, 0) H) n (fun i ih H hi hW he hm => ?_) 0 h (Nat.zero_le _) hW eqx.rf hm
  refine r_iload_n dX9_runs_9 rfl ?_
  refine r_iload_n dX9_runs_10 rfl ?_
  refine r_icmp_ge 24 dX9_runs_11 (by decide) (fun c_11 => ?_) (fun c_11 => ?_)
  · have hge : n = i := by have := (nI_leI (by omega) (by omega)).mp c_11; omega
    rw [← hge] at hm
    refine r_aload_n dX9_runs_24 rfl ?_
    refine q_getR fl_X9_7 hW kc_723 rfl (kl_9_0 hW) (by decide) dX9_runs_25 ?_
    refine r_iconst (3) dX9_runs_28 (by decide) ?_
    refine q_wldMW hW hm kn_3 (by omega) dX9_runs_29 ?_
    refine r_iload_n dX9_runs_30 rfl ?_
    refine r_isub dX9_runs_31 ?_
    refine r_iret dX9_runs_32 rfl ⟨Nat.zero_le _, Nat.zero_le _⟩ ?_
    exact ⟨rfl, he, hm⟩
  · have hlt : i < n := (nI_ltI (by omega) (by omega)).mp (i_lt.mp c_11)
    refine r_aload_n dX9_runs_14 rfl ?_
    refine q_callV0 (cv_X9_tick ml_X9_158) hW kc_723 (by decide) rfl ⟨rfl, rfl⟩ rfl (Nat.le_of_ble_eq_true rfl) dX9_runs_15 (c_X9_tick hW hm (tkN_ok hO i (by omega)) (by omega)) (fun v_15 h_15 q_15 => ?_)
    obtain ⟨rfl, e_15, hm⟩ := q_15
    have hW := e_15.W hW
    have he := he.tr e_15
    refine r_iinc (1) (by decide) (ls2 := [_, _, some _, _]) dX9_runs_18 rfl (by decide) rfl ?_
    refine r_goto 9 dX9_runs_21 (by decide) ?_
    rw [nI_1]
    exact ih hlt _ hlt hW he hm
-- the reference: copies of rows, small questions
def AW (h : AH) (i j : Nat) (r : Row) : Prop := (∀ k, k < 964 → aI h i k = r.1 k) ∧ ∀ k, k < 24 → aJ h j k = r.2 k
def PA (h : AH) (i : Nat) (r : Row) : Prop := (∀ k, k < 964 → aI h 728 (964 * i + k) = r.1 k) ∧ ∀ k, k < 24 → aJ h 733 (24 * i + k) = r.2 k
def r00 : Row := (fun _ => 0, fun _ => 0)
def PsR (h : AH) (L : List Row) : Prop := aI h 723 10 = nI L.length ∧ L.length ≤ 10 ∧ ∀ i, i < L.length → PA h i (L.getD i r00)
theorem AW.cgH {h h' : AH} {i j : Nat} {r : Row} {S : Nat → Prop} (hm : AW h i j r) (e : eqx h h' S) (h1 : ¬ S i) (h2 : ¬ S j) : AW h' i j r := by
  unfold AW; rw [e.I h1, e.J h2]; exact hm
theorem PA.cgH {h h' : AH} {i : Nat} {r : Row} {S : Nat → Prop} (hm : PA h i r) (e : eqx h h' S) (h1 : ¬ S 728) (h2 : ¬ S 733) : PA h' i r := by
  unfold PA; rw [e.I h1, e.J h2]; exact hm
theorem MW.s9 {h : AH} {r : Row} {k : Nat} {x : Int32} (hm : MW h r) : MW (sI h 723 k x) r := hm.cgH (eqx.rf.sI (S := fun i => i = 723) rfl) (by decide) (by decide)
theorem sI_2 {h : AH} {i k : Nat} {a b : Int32} : sI (sI h i k a) i k b = sI h i k b := by
  unfold sI cI
  refine Prod.ext ?_ rfl
  funext j
  show (if j = i then upd (aI (cI h i (upd (aI h i) k a)) i) k b else if j = i then _ else h.1 j) = if j = i then _ else h.1 j
  by_cases e : j = i
  · rw [if_pos e, if_pos e, cI_eq]
    funext t
    by_cases e2 : t = k
    · rw [e2, pk_us, pk_us]
    · rw [pk_un e2, pk_un e2, pk_un e2]
  · rw [if_neg e, if_neg e, if_neg e]
theorem i_nat {x : Int32} (h : 0 ≤ x) : x = nI x.toNatClampNeg := by
  have h1 : (0 : Int) ≤ x.toInt := by
    have := Int32.le_iff_toInt_le.mp h
    simpa using this
  have h2 := x.toInt_lt
  have h3 : x.toNatClampNeg = x.toInt.toNat := rfl
  apply Int32.toInt_inj.mp
  rw [nI_toInt (by omega), h3]
  omega
def okP (r : Row) (x : Int32) : Bool := decide (0 ≤ x ∧ x < r.1 0)
theorem okP_t {r : Row} {x : Int32} {m : Nat} (hO : RoOK r.1 r.2 m) (h : okP r x = true) : ∃ p, p < 4 ∧ p < nn (r.1 0) ∧ x = nI p := by
  have h1 := of_decide_eq_true h
  obtain ⟨n, n1, n2, n3⟩ := hO.1.1.nat
  have e := i_nat h1.1
  have h2 := h1.2
  rw [n3, e] at h2
  have hlt : x.toNatClampNeg < 2 ^ 31 := by
    have := x.toInt_lt
    unfold Int32.toNatClampNeg
    omega
  have h3 := (nI_ltI hlt (by omega)).mp h2
  refine ⟨x.toNatClampNeg, by omega, ?_, e⟩
  rw [n3, nn_I (by omega)]; exact h3
section WM
variable {l : Launch} {G : GC} {M : MD} {R : Room} {Fi : CX → State → Prop} {pc : Nat} {ls : List (Option Value)} {st : List Value} {cs : Nat × Nat} {h : AH} {r : Row}
theorem q_putM {k ix : Nat} {x : Int32} (hf : FL (mY M).cls ix 9 k) (hW : World h) (hm : MW h r) (ht : clY 9 k = .int) (hfi : (clT 9 k).2.2.2 = false) (hd : decode (mC M) pc = .ok (.putfield ix, 3)) (kk : MW (sI h 723 k x) r → PW l G M R Fi NT (pc + 3) ls st cs (sI h 723 k x)) : PW l G M R Fi NT pc ls (.int x :: .ref 723 :: st) cs h :=
  q_putI hf hW kc_723 ht hfi hd (kk hm.s9)
end WM
theorem inR0 {x b : Int32} {n : Nat} (hb : b = nI n) (hn : n < 2 ^ 30) : decide (0 ≤ x ∧ x ≤ b - 1) = decide (0 ≤ x ∧ x < b) := by
  have key : x ≤ b - 1 ↔ x < b := by
    rw [hb]
    have e : (nI n - 1).toInt = (n : Int) - 1 := pk_sub_toInt (a := n) (b := 1) hn (by decide)
    have e2 : (nI n).toInt = (n : Int) := nI_toInt (by omega)
    rw [Int32.le_iff_toInt_le, Int32.lt_iff_toInt_lt, e, e2]
    omega
  exact decide_eq_decide.mpr ⟨fun q => ⟨q.1, key.mp q.2⟩, fun q => ⟨q.1, key.mpr q.2⟩⟩
def cd1 (a : Bool) : Nat := if a then 0 else 1
def cd2 (a b : Bool) : Nat := if a then (if b then 0 else 2) else 1
def cd3 (a b c : Bool) : Nat := if a then (if b then (if c then 0 else 3) else 2) else 1
def cd4 (a b c d : Bool) : Nat := if a then (if b then (if c then (if d then 0 else 4) else 3) else 2) else 1
/-- which exception a method throws, by its code -/
def thr (L : List String) (c : Nat) (E : String) : Prop := c ≠ 0 ∧ L.getD (c - 1) "" = E
set_option maxRecDepth 100000 in
set_option maxHeartbeats 4000000 in
theorem c_X9_fails0 {l9 : Launch} {G : GC} {h : AH} {x : Int32} (hW : World h) : PM l9 G mX9_fails NT NT [.ref 723, .int 0, .int x] h (fun v h' => v = some (.int 0) ∧ h' = h) noX := by
  refine PM.of (by decide +kernel) rfl rfl (Nat.le_of_ble_eq_true rfl) (fun hst _ => ?_)
  refine r_iload_n dX9_fails_0 rfl ?_
  refine r_if_eq 9 dX9_fails_1 (by decide) (fun c_1 => ?_) (fun c_1 => ?_)
  · refine r_iload_n dX9_fails_9 rfl ?_
    refine r_zret dX9_fails_10 rfl (by decide) ⟨Nat.zero_le _, Nat.zero_le _⟩ ?_
    exact ⟨rfl, rfl⟩
  · first | exact absurd c_1 (by decide) | exact absurd (by decide) c_1

set_option maxRecDepth 100000 in
set_option maxHeartbeats 4000000 in
theorem c_X9_fails1 {l9 : Launch} {G : GC} {h : AH} {x : Int32} (hW : World h) : PM l9 G mX9_fails NT NT [.ref 723, .int 1, .int x] h (fun v h' => v = some (.int 1) ∧ h' = sI h 723 12 x) noX := by
  refine PM.of (by decide +kernel) rfl rfl (Nat.le_of_ble_eq_true rfl) (fun hst _ => ?_)
  refine r_iload_n dX9_fails_0 rfl ?_
  refine r_if_eq 9 dX9_fails_1 (by decide) (fun c_1 => ?_) (fun c_1 => ?_)
  · first | exact absurd c_1 (by decide) | exact absurd (by decide) c_1
  · refine r_aload_n dX9_fails_4 rfl ?_
    refine r_iload_n dX9_fails_5 rfl ?_
    refine q_putI fl_X9_61 hW kc_723 rfl rfl dX9_fails_6 ?_
    refine r_iload_n dX9_fails_9 rfl ?_
    refine r_zret dX9_fails_10 rfl (by decide) ⟨Nat.zero_le _, Nat.zero_le _⟩ ?_
    exact ⟨rfl, rfl⟩

set_option maxRecDepth 100000 in
set_option maxHeartbeats 4000000 in
theorem c_X9_noPool {l9 : Launch} {G : GC} {h : AH} {r : Row} {m : Nat} {x : Int32} (hW : World h) (hm : MW h r) (hO : RoOK r.1 r.2 m) : PM l9 G mX9_noPool NT NT [.ref 723, .int x] h (fun v h' => v = some (.int (bI (!okP r x))) ∧ h' = sI h 723 12 (nI (cd1 (okP r x)))) noX := by
  refine PM.of (by decide +kernel) rfl rfl (Nat.le_of_ble_eq_true rfl) (fun hst _ => ?_)
  refine r_aload_n dX9_noPool_0 rfl ?_
  refine r_iconst (0) dX9_noPool_1 (by decide) ?_
  refine q_putM fl_X9_61 hW hm rfl rfl dX9_noPool_2 (fun hm => ?_)
  refine r_aload_n dX9_noPool_5 rfl ?_
  refine r_iload_n dX9_noPool_6 rfl ?_
  refine r_iconst (0) dX9_noPool_7 (by decide) ?_
  refine r_aload_n dX9_noPool_8 rfl ?_
  refine q_getR fl_X9_7 hW kc_723 rfl (kl_9_0 hW) (by decide) dX9_noPool_9 ?_
  refine r_iconst (0) dX9_noPool_12 (by decide) ?_
  refine q_wldMW hW hm kn_0 (by omega) dX9_noPool_13 ?_
  refine r_iconst (1) dX9_noPool_14 (by decide) ?_
  refine r_isub dX9_noPool_15 ?_
  refine q_callS3 (cs_X9_inRange ml_X9_167) ⟨rfl, rfl⟩ rfl (Nat.le_of_ble_eq_true rfl) dX9_noPool_16 c_X9_inRange (fun v_16 h_16 q_16 => ?_)
  obtain ⟨rfl, z9⟩ := q_16
  replace z9 := z9.symm
  subst z9
  obtain ⟨n, n1, n2, n3⟩ := hO.1.1.nat
  rw [inR0 n3 (by omega)]
  have eK : decide (0 ≤ x ∧ x < r.1 0) = okP r x := rfl
  rw [eK]
  refine r_if_ne 26 dX9_noPool_19 (by decide) (fun c_19 => ?_) (fun c_19 => ?_)
  · refine r_iconst (0) dX9_noPool_26 (by decide) ?_
    refine r_iconst (1) dX9_noPool_27 (by decide) ?_
    refine q_callV2 (cv_X9_fails ml_X9_302) hW kc_723 (by decide) rfl ⟨rfl, rfl⟩ rfl (Nat.le_of_ble_eq_true rfl) dX9_noPool_28 (c_X9_fails0 hW) (fun v_28 h_28 q_28 => ?_)
    obtain ⟨rfl, z9⟩ := q_28
    replace z9 := z9.symm
    subst z9
    refine r_zret dX9_noPool_31 rfl (by decide) ⟨Nat.zero_le _, Nat.zero_le _⟩ ?_
    first
      | (have ko : okP r x = true := bI_1.mp c_19
         rw [ko]; exact ⟨rfl, rfl⟩)
      | (have ko : okP r x = false := bI_0.mp (by first | exact c_19 | simpa using c_19)
         rw [ko]; exact ⟨rfl, sI_2⟩)
  · refine r_iconst (1) dX9_noPool_22 (by decide) ?_
    refine r_goto 27 dX9_noPool_23 (by decide) ?_
    refine r_iconst (1) dX9_noPool_27 (by decide) ?_
    refine q_callV2 (cv_X9_fails ml_X9_302) hW kc_723 (by decide) rfl ⟨rfl, rfl⟩ rfl (Nat.le_of_ble_eq_true rfl) dX9_noPool_28 (c_X9_fails1 hW) (fun v_28 h_28 q_28 => ?_)
    obtain ⟨rfl, z9⟩ := q_28
    replace z9 := z9.symm
    subst z9
    replace hm := hm.s9 (k := 12) (x := 1)
    refine r_zret dX9_noPool_31 rfl (by decide) ⟨Nat.zero_le _, Nat.zero_le _⟩ ?_
    first
      | (have ko : okP r x = true := bI_1.mp c_19
         rw [ko]; exact ⟨rfl, rfl⟩)
      | (have ko : okP r x = false := bI_0.mp (by first | exact c_19 | simpa using c_19)
         rw [ko]; exact ⟨rfl, sI_2⟩)

set_option maxRecDepth 100000 in
set_option maxHeartbeats 4000000 in
theorem c_X9_thrown {l9 : Launch} {G : GC} {h : AH} (hW : World h) : PM l9 G mX9_thrown NT NT [.ref 723] h (fun v h' => v = some (.int (aI h 723 12)) ∧ h' = h) noX := by
  refine PM.of (by decide +kernel) rfl rfl (Nat.le_of_ble_eq_true rfl) (fun hst _ => ?_)
  refine r_aload_n dX9_thrown_0 rfl ?_
  refine q_getI fl_X9_61 hW kc_723 rfl dX9_thrown_1 ?_
  refine r_iret dX9_thrown_4 rfl ⟨Nat.zero_le _, Nat.zero_le _⟩ ?_
  exact ⟨rfl, rfl⟩

set_option maxRecDepth 100000 in
set_option maxHeartbeats 4000000 in
theorem c_X9_begins {l9 : Launch} {G : GC} {h : AH} {r : Row} (hW : World h) (hm : AW h 724 729 r) : PM l9 G mX9_begins NT NT [.ref 723] h (fun v h' => v = none ∧ eqx h h' (fun i => i = 726 ∨ i = 731) ∧ AW h' 726 731 r) noX := by
  refine PM.of (by decide +kernel) rfl rfl (Nat.le_of_ble_eq_true rfl) (fun hst _ => ?_)
  refine r_aload_n dX9_begins_0 rfl ?_
  refine q_getR fl_X9_7 hW kc_723 rfl (kl_9_0 hW) (by decide) dX9_begins_1 ?_
  refine r_iconst (0) dX9_begins_4 (by decide) ?_
  refine r_aload_n dX9_begins_5 rfl ?_
  refine q_getR fl_X9_16 hW kc_723 rfl (kl_9_2 hW) (by decide) dX9_begins_6 ?_
  refine r_iconst (0) dX9_begins_9 (by decide) ?_
  refine q_callS4 (cs_X9_copies ml_X9_74) ⟨rfl, rfl⟩ rfl (Nat.le_of_ble_eq_true rfl) dX9_begins_10 (c_X9_copies hW kc_724 kc_726 (Or.inl (by decide)) kn_0 kn_0 (by omega) (by omega) (by decide) (by decide)) (fun v_10 h_10 q_10 => ?_)
  obtain ⟨rfl, e_10, k_10, o_10⟩ := q_10
  have hW := e_10.W hW
  refine r_aload_n dX9_begins_13 rfl ?_
  refine q_getR fl_X9_25 hW kc_723 rfl (kl_9_5 hW) (by decide) dX9_begins_14 ?_
  refine r_iconst (0) dX9_begins_17 (by decide) ?_
  refine r_aload_n dX9_begins_18 rfl ?_
  refine q_getR fl_X9_32 hW kc_723 rfl (kl_9_7 hW) (by decide) dX9_begins_19 ?_
  refine r_iconst (0) dX9_begins_22 (by decide) ?_
  refine q_callS4 (cs_X9_copies_ ml_X9_78) ⟨rfl, rfl⟩ rfl (Nat.le_of_ble_eq_true rfl) dX9_begins_23 (c_X9_copies_ hW kc_729 kc_731 (Or.inl (by decide)) kn_0 kn_0 (by omega) (by omega) (by decide) (by decide)) (fun v_23 h_23 q_23 => ?_)
  obtain ⟨rfl, e_23, k_23, o_23⟩ := q_23
  have hW := e_23.W hW
  refine r_vret dX9_begins_26 rfl ⟨Nat.zero_le _, Nat.zero_le _⟩ ?_
  refine ⟨rfl, (e_10.wk (fun i zi => by unfold btw at *; omega)).tr (e_23.wk (fun i zi => by unfold btw at *; omega)), fun k hk => ?_, fun k hk => ?_⟩
  · rw [e_23.I (by unfold btw; omega)]
    have z := k_10 k hk
    rw [Nat.zero_add] at z
    exact z.trans (hm.1 k hk)
  · have z := k_23 k hk
    rw [Nat.zero_add, e_10.J (by unfold btw; omega)] at z
    exact z.trans (hm.2 k hk)

set_option maxRecDepth 100000 in
set_option maxHeartbeats 4000000 in
theorem c_X9_ends {l9 : Launch} {G : GC} {h : AH} {r : Row} (hW : World h) (hm : AW h 726 731 r) : PM l9 G mX9_ends NT NT [.ref 723] h (fun v h' => v = none ∧ eqx h h' (fun i => i = 724 ∨ i = 729) ∧ AW h' 724 729 r) noX := by
  refine PM.of (by decide +kernel) rfl rfl (Nat.le_of_ble_eq_true rfl) (fun hst _ => ?_)
  refine r_aload_n dX9_ends_0 rfl ?_
  refine q_getR fl_X9_16 hW kc_723 rfl (kl_9_2 hW) (by decide) dX9_ends_1 ?_
  refine r_iconst (0) dX9_ends_4 (by decide) ?_
  refine r_aload_n dX9_ends_5 rfl ?_
  refine q_getR fl_X9_7 hW kc_723 rfl (kl_9_0 hW) (by decide) dX9_ends_6 ?_
  refine r_iconst (0) dX9_ends_9 (by decide) ?_
  refine q_callS4 (cs_X9_copies ml_X9_74) ⟨rfl, rfl⟩ rfl (Nat.le_of_ble_eq_true rfl) dX9_ends_10 (c_X9_copies hW kc_726 kc_724 (Or.inl (by decide)) kn_0 kn_0 (by omega) (by omega) (by decide) (by decide)) (fun v_10 h_10 q_10 => ?_)
  obtain ⟨rfl, e_10, k_10, o_10⟩ := q_10
  have hW := e_10.W hW
  refine r_aload_n dX9_ends_13 rfl ?_
  refine q_getR fl_X9_32 hW kc_723 rfl (kl_9_7 hW) (by decide) dX9_ends_14 ?_
  refine r_iconst (0) dX9_ends_17 (by decide) ?_
  refine r_aload_n dX9_ends_18 rfl ?_
  refine q_getR fl_X9_25 hW kc_723 rfl (kl_9_5 hW) (by decide) dX9_ends_19 ?_
  refine r_iconst (0) dX9_ends_22 (by decide) ?_
  refine q_callS4 (cs_X9_copies_ ml_X9_78) ⟨rfl, rfl⟩ rfl (Nat.le_of_ble_eq_true rfl) dX9_ends_23 (c_X9_copies_ hW kc_731 kc_729 (Or.inl (by decide)) kn_0 kn_0 (by omega) (by omega) (by decide) (by decide)) (fun v_23 h_23 q_23 => ?_)
  obtain ⟨rfl, e_23, k_23, o_23⟩ := q_23
  have hW := e_23.W hW
  refine r_vret dX9_ends_26 rfl ⟨Nat.zero_le _, Nat.zero_le _⟩ ?_
  refine ⟨rfl, (e_10.wk (fun i zi => by unfold btw at *; omega)).tr (e_23.wk (fun i zi => by unfold btw at *; omega)), fun k hk => ?_, fun k hk => ?_⟩
  · rw [e_23.I (by unfold btw; omega)]
    have z := k_10 k hk
    rw [Nat.zero_add] at z
    exact z.trans (hm.1 k hk)
  · have z := k_23 k hk
    rw [Nat.zero_add, e_10.J (by unfold btw; omega)] at z
    exact z.trans (hm.2 k hk)

def pushL (L : List Row) (r : Row) : List Row := (if L.length = 10 then L.tail else L) ++ [r]
theorem pushL_len {L : List Row} {r : Row} (h : L.length ≤ 10) : (pushL L r).length = if L.length = 10 then 10 else L.length + 1 := by
  unfold pushL
  rw [List.length_append]
  split
  · next q => rw [List.length_tail, q]; rfl
  · rfl
theorem pushL_at {L : List Row} {r : Row} {i : Nat} (h : L.length ≤ 10) (hi : i < (pushL L r).length) : (pushL L r).getD i r00 = if i + 1 = (pushL L r).length then r else if L.length = 10 then L.getD (i + 1) r00 else L.getD i r00 := by
  have hl := pushL_len (r := r) h
  unfold pushL at hi hl ⊢
  rw [List.getD_eq_getElem?_getD]
  by_cases q : L.length = 10
  · rw [if_pos q] at hi hl ⊢
    rw [if_pos q] at hl
    rw [if_pos q, hl]
    have ht : L.tail.length = 9 := by rw [List.length_tail, q]
    by_cases e : i + 1 = 10
    · rw [if_pos e, List.getElem?_append_right (by omega), ht, show i - 9 = 0 from by omega]; rfl
    · rw [if_neg e, List.getElem?_append_left (by omega), List.getElem?_tail, List.getD_eq_getElem?_getD]
  · rw [if_neg q] at hi hl ⊢
    rw [if_neg q] at hl
    rw [if_neg q, hl]
    by_cases e : i + 1 = L.length + 1
    · rw [if_pos e, List.getElem?_append_right (by omega), show i - L.length = 0 from by omega]; rfl
    · rw [if_neg e, List.getElem?_append_left (by omega), List.getD_eq_getElem?_getD]
def RM : Nat → Prop := fun i => i = 723 ∨ i = 728 ∨ i = 733
theorem PA.set {h h' h'' : AH} {i a b : Nat} {r : Row} (e1 : eqx h h' (btw 728 728)) (e2 : eqx h' h'' (btw 733 733)) (hr1 : ∀ k, k < 964 → aI h' 728 (964 * i + k) = r.1 k) (hr2 : ∀ k, k < 24 → aJ h'' 733 (24 * i + k) = r.2 k) : PA h'' i r :=
  ⟨fun k hk => by rw [e2.I (by unfold btw; omega)]; exact hr1 k hk, hr2⟩
theorem PA.keep {h h' h'' : AH} {i j : Nat} {r : Row} (hp : PA h j r) (hij : j ≠ i) (e1 : eqx h h' (btw 728 728)) (e2 : eqx h' h'' (btw 733 733)) (h1 : ∀ k, k < 964 * i ∨ 964 * i + 964 ≤ k → aI h' 728 k = aI h 728 k) (h2 : ∀ k, k < 24 * i ∨ 24 * i + 24 ≤ k → aJ h'' 733 k = aJ h' 733 k) : PA h'' j r :=
  ⟨fun k hk => by rw [e2.I (by unfold btw; omega), h1 _ (by omega)]; exact hp.1 k hk, fun k hk => by rw [h2 _ (by omega), e1.J (by unfold btw; omega)]; exact hp.2 k hk⟩
set_option maxRecDepth 100000 in
set_option maxHeartbeats 4000000 in
theorem c_X9_remembers {l9 : Launch} {G : GC} {h : AH} {r : Row} {L : List Row} (hW : World h) (hm : MW h r) (hL : PsR h L) : PM l9 G mX9_remembers NT NT [.ref 723] h (fun v h' => v = none ∧ eqx h h' RM ∧ aI h' 723 = upd (aI h 723) 10 (nI (pushL L r).length) ∧ PsR h' (pushL L r)) noX := by
  refine PM.of (by decide +kernel) rfl rfl (Nat.le_of_ble_eq_true rfl) (fun hst _ => ?_)
  obtain ⟨l1, l2, l3⟩ := hL
  have hpl := pushL_len (r := r) l2
  refine r_aload_n dX9_remembers_0 rfl ?_
  refine q_getI fl_X9_71 hW kc_723 rfl dX9_remembers_1 ?_
  have key : ∀ (H : AH) (n : Nat) (w : Option Value), World H → eqx h H RM → n = (pushL L r).length - 1 → n < 10 → aI H 723 10 = nI n → (∀ k, k ≠ 10 → aI H 723 k = aI h 723 k) → (∀ i, i < n → PA H i ((pushL L r).getD i r00)) → PW l9 G mX9_remembers (mO mX9_remembers) (fiM G mX9_remembers NT (fun v h' => v = none ∧ eqx h h' RM ∧ aI h' 723 = upd (aI h 723) 10 (nI (pushL L r).length) ∧ PsR h' (pushL L r)) noX) NT 77 [some (.ref 723), w] [] (0, 0) H := by
    intro H n w hW he hn hn10 h10 hoth hP
    have hpos : 0 < (pushL L r).length := by rw [hpl]; split <;> omega
    have hmH : MW H r := hm.cgH he (by unfold RM; omega) (by unfold RM; omega)
    refine r_aload_n dX9_remembers_77 rfl ?_
    refine q_getR fl_X9_7 hW kc_723 rfl (kl_9_0 hW) (by decide) dX9_remembers_78 ?_
    refine r_iconst (0) dX9_remembers_81 (by decide) ?_
    refine r_aload_n dX9_remembers_82 rfl ?_
    refine q_getR fl_X9_22 hW kc_723 rfl (kl_9_4 hW) (by decide) dX9_remembers_83 ?_
    refine r_sipush (964) dX9_remembers_86 (by decide) ?_
    refine r_aload_n dX9_remembers_89 rfl ?_
    refine q_getI fl_X9_71 hW kc_723 rfl dX9_remembers_90 ?_
    rw [h10]
    refine r_imul dX9_remembers_93 ?_
    refine q_callS4 (cs_X9_copies ml_X9_74) ⟨rfl, rfl⟩ rfl (Nat.le_of_ble_eq_true rfl) dX9_remembers_94 (c_X9_copies hW kc_724 kc_728 (Or.inl (by decide)) kn_0 (nmul (a := 964) rfl rfl) (by omega) (by omega) (by decide) (by decide)) (fun v_94 h_94 q_94 => ?_)
    obtain ⟨rfl, e_94, k_94, o_94⟩ := q_94
    have hW := e_94.W hW
    refine r_aload_n dX9_remembers_97 rfl ?_
    refine q_getR fl_X9_25 hW kc_723 rfl (kl_9_5 hW) (by decide) dX9_remembers_98 ?_
    refine r_iconst (0) dX9_remembers_101 (by decide) ?_
    refine r_aload_n dX9_remembers_102 rfl ?_
    refine q_getR fl_X9_38 hW kc_723 rfl (kl_9_9 hW) (by decide) dX9_remembers_103 ?_
    refine r_bipush (24) dX9_remembers_106 (by decide) ?_
    refine r_aload_n dX9_remembers_108 rfl ?_
    refine q_getI fl_X9_71 hW kc_723 rfl dX9_remembers_109 ?_
    rw [show aI h_94 723 10 = nI n from by rw [e_94.I (by unfold btw; omega)]; exact h10]
    refine r_imul dX9_remembers_112 ?_
    refine q_callS4 (cs_X9_copies_ ml_X9_78) ⟨rfl, rfl⟩ rfl (Nat.le_of_ble_eq_true rfl) dX9_remembers_113 (c_X9_copies_ hW kc_729 kc_733 (Or.inl (by decide)) kn_0 (nmul (a := 24) rfl rfl) (by omega) (by omega) (by decide) (by decide)) (fun v_113 h_113 q_113 => ?_)
    obtain ⟨rfl, e_113, k_113, o_113⟩ := q_113
    have hW := e_113.W hW
    refine r_aload_n dX9_remembers_116 rfl ?_
    refine r_dup dX9_remembers_117 rfl ?_
    refine q_getI fl_X9_71 hW kc_723 rfl dX9_remembers_118 ?_
    rw [show aI h_113 723 10 = nI n from by rw [e_113.I (by unfold btw; omega), e_94.I (by unfold btw; omega)]; exact h10]
    refine r_iconst (1) dX9_remembers_121 (by decide) ?_
    refine r_iadd dX9_remembers_122 ?_
    rw [nI_1]
    refine q_putI fl_X9_71 hW kc_723 rfl rfl dX9_remembers_123 ?_
    refine r_vret dX9_remembers_126 rfl ⟨Nat.zero_le _, Nat.zero_le _⟩ ?_
    have h723 : aI h_113 723 = aI H 723 := by rw [e_113.I (by unfold btw; omega), e_94.I (by unfold btw; omega)]
    have eN : n + 1 = (pushL L r).length := by omega
    refine ⟨rfl, ?_, ?_, ?_, by rw [← eN]; omega, fun i hi => ?_⟩
    · refine eqx.sI ?_ (Or.inl rfl)
      exact he.tr ((e_94.wk (fun i zi => by unfold btw RM at *; omega)).tr (e_113.wk (fun i zi => by unfold btw RM at *; omega)))
    · rw [sI_r, h723]
      funext k
      by_cases e : k = 10
      · rw [e, pk_us, pk_us, eN]
      · rw [pk_un e, pk_un e]; exact hoth k e
    · rw [sI_s, eN]
    · have hx : PA h_113 i ((pushL L r).getD i r00) := by
        by_cases e : i = n
        · rw [pushL_at l2 hi, if_pos (by omega), e]
          refine PA.set (a := 0) (b := 0) e_94 e_113 (fun k hk => ?_) (fun k hk => ?_)
          · have z := k_94 k hk
            rw [Nat.zero_add] at z
            exact z.trans (hmH.1 k hk)
          · have z := k_113 k hk
            rw [Nat.zero_add, e_94.J (by unfold btw; omega)] at z
            exact z.trans (hmH.2 k hk)
        · exact (hP i (by omega)).keep (i := n) e e_94 e_113 o_94 o_113
      exact hx.cgH (eqx.rf.sI (S := fun i => i = 723) rfl) (by decide) (by decide)
  
  
  rw [l1]
  refine r_bipush (10) dX9_remembers_4 (by decide) ?_
  refine r_icmp_ne 77 dX9_remembers_6 (by decide) (fun c_6 => ?_) (fun c_6 => ?_)
  · first
      | (have hlt : L.length ≠ 10 := fun q => c_6 (by rw [q]; rfl)
         rw [if_neg hlt] at hpl
         refine key h L.length none hW eqx.rf (by omega) (by omega) l1 (fun _ _ => rfl) (fun i hi => ?_)
         rw [pushL_at l2 (by omega), if_neg (by omega), if_neg hlt]
         exact l3 i hi)
  · refine r_iconst (1) dX9_remembers_9 (by decide) ?_
    refine r_istore_n (ls2 := [some _, _]) dX9_remembers_10 (by decide) rfl ?_
    have h10 : L.length = 10 := (nI_eq (b := 10) (by omega) (by decide)).mp (by first | exact c_6 | simpa using c_6)
    rw [if_pos h10] at hpl
    refine loopN (P := fun i => ∀ H : AH, 1 ≤ i → i ≤ 10 → World H → eqx h H RM → aI H 723 = aI h 723 → (∀ j, j < 10 → PA H j (if j + 1 < i then L.getD (j + 1) r00 else L.getD j r00)) → PW l9 G mX9_remembers _ _ NT 11 [some (.ref 723), some (.int (nI i))] [] (0, 0) H) 10 (fun i ih H hi1 hi hW he h9 hP => ?_) 1 h (by decide) (by decide) hW eqx.rf rfl (fun j hj => by rw [if_neg (by omega)]; exact l3 j (by omega))
    refine r_iload_n dX9_remembers_11 rfl ?_
    refine r_bipush (10) dX9_remembers_12 (by decide) ?_
    refine r_icmp_ge 67 dX9_remembers_14 (by decide) (fun c_14 => ?_) (fun c_14 => ?_)
    · have hge : 10 = i := by have := (nI_leI (a := 10) (by omega) (by omega)).mp c_14; omega
      subst hge
      refine r_aload_n dX9_remembers_67 rfl ?_
      refine r_dup dX9_remembers_68 rfl ?_
      refine q_getI fl_X9_71 hW kc_723 rfl dX9_remembers_69 ?_
      refine r_iconst (1) dX9_remembers_72 (by decide) ?_
      rw [show aI H 723 10 = nI 10 from by rw [h9, l1, h10]]
      refine r_isub dX9_remembers_73 ?_
      refine q_putI fl_X9_71 hW kc_723 rfl rfl dX9_remembers_74 ?_
      have hs : eqx H (sI H 723 10 9) (fun i => i = 723) := eqx.rf.sI rfl
      refine key _ 9 _ (hs.W hW) (he.tr (hs.wk (fun i zi => Or.inl zi))) (by omega) (by decide) sI_s (fun k hk => by rw [sI_k hk, h9]) (fun j hj => ?_)
      have hr := hP j (by omega)
      rw [if_pos (by omega)] at hr
      rw [pushL_at l2 (by omega), if_neg (by omega), if_pos h10]
      exact hr.cgH hs (by decide) (by decide)
    · have hlt : i < 10 := (nI_ltI (b := 10) (by omega) (by omega)).mp (i_lt.mp c_14)
      refine r_aload_n dX9_remembers_17 rfl ?_
      refine q_getR fl_X9_22 hW kc_723 rfl (kl_9_4 hW) (by decide) dX9_remembers_18 ?_
      refine r_sipush (964) dX9_remembers_21 (by decide) ?_
      refine r_iload_n dX9_remembers_24 rfl ?_
      refine r_imul dX9_remembers_25 ?_
      refine r_aload_n dX9_remembers_26 rfl ?_
      refine q_getR fl_X9_22 hW kc_723 rfl (kl_9_4 hW) (by decide) dX9_remembers_27 ?_
      refine r_sipush (964) dX9_remembers_30 (by decide) ?_
      refine r_iload_n dX9_remembers_33 rfl ?_
      refine r_iconst (1) dX9_remembers_34 (by decide) ?_
      refine r_isub dX9_remembers_35 ?_
      refine r_imul dX9_remembers_36 ?_
      refine q_callS4 (cs_X9_copies ml_X9_74) ⟨rfl, rfl⟩ rfl (Nat.le_of_ble_eq_true rfl) dX9_remembers_37 (c_X9_copies hW kc_728 kc_728 (Or.inr (by omega)) (nmul kn_964 rfl) (nmul kn_964 (nsub rfl kn_1 (by omega))) (by omega) (by omega) (by decide) (by decide)) (fun v_37 h_37 q_37 => ?_)
      obtain ⟨rfl, e_37, k_37, o_37⟩ := q_37
      have hW := e_37.W hW
      refine r_aload_n dX9_remembers_40 rfl ?_
      refine q_getR fl_X9_38 hW kc_723 rfl (kl_9_9 hW) (by decide) dX9_remembers_41 ?_
      refine r_bipush (24) dX9_remembers_44 (by decide) ?_
      refine r_iload_n dX9_remembers_46 rfl ?_
      refine r_imul dX9_remembers_47 ?_
      refine r_aload_n dX9_remembers_48 rfl ?_
      refine q_getR fl_X9_38 hW kc_723 rfl (kl_9_9 hW) (by decide) dX9_remembers_49 ?_
      refine r_bipush (24) dX9_remembers_52 (by decide) ?_
      refine r_iload_n dX9_remembers_54 rfl ?_
      refine r_iconst (1) dX9_remembers_55 (by decide) ?_
      refine r_isub dX9_remembers_56 ?_
      refine r_imul dX9_remembers_57 ?_
      refine q_callS4 (cs_X9_copies_ ml_X9_78) ⟨rfl, rfl⟩ rfl (Nat.le_of_ble_eq_true rfl) dX9_remembers_58 (c_X9_copies_ hW kc_733 kc_733 (Or.inr (by omega)) (nmul kn_24 rfl) (nmul kn_24 (nsub rfl kn_1 (by omega))) (by omega) (by omega) (by decide) (by decide)) (fun v_58 h_58 q_58 => ?_)
      obtain ⟨rfl, e_58, k_58, o_58⟩ := q_58
      have hW := e_58.W hW
      refine r_iinc (1) (by decide) (ls2 := [some _, _]) dX9_remembers_61 rfl (by decide) rfl ?_
      refine r_goto 11 dX9_remembers_64 (by decide) ?_
      rw [nI_1]
      refine ih hlt _ (by omega) hlt hW ((he.tr (e_37.wk (fun i zi => by unfold btw RM at *; omega))).tr (e_58.wk (fun i zi => by unfold btw RM at *; omega))) (by rw [e_58.I (by unfold btw; omega), e_37.I (by unfold btw; omega)]; exact h9) (fun j hj => ?_)
      by_cases e : j = i - 1
      · rw [if_pos (by omega)]
        have hr := hP i hlt
        rw [if_neg (by omega)] at hr
        rw [e, show i - 1 + 1 = i from by omega]
        exact PA.set (a := 0) (b := 0) e_37 e_58 (fun k hk => (k_37 k hk).trans (hr.1 k hk)) (fun k hk => (k_58 k hk).trans (by rw [e_37.J (by unfold btw; omega)]; exact hr.2 k hk))
      · have hr := (hP j hj).keep (i := i - 1) e e_37 e_58 o_37 o_58
        by_cases q : j + 1 < i
        · rw [if_pos q] at hr; rw [if_pos (by omega)]; exact hr
        · rw [if_neg q] at hr; rw [if_neg (by omega)]; exact hr
-- the class: States are copied, cleared, get pools; what is found in them
theorem StR.po {h : AH} {b p : Nat} {w : Nat → Int32} {v : Nat → Int64} (hs : StR h b w v) (hp : p < nn (w 0)) : PoR h (b + 7 + 12 * p) (nn (w 1)) (nn (w 1)) (getP w p) (getG v p) := hs.2.2.2.2 p hp
def fl16 (w : Nat → Int32) : Prop := ∀ p, p < nn (w 0) → getP w p 16 = 0 ∨ getP w p 16 = 1
theorem RoOK.f16 {w : Nat → Int32} {v : Nat → Int64} {m : Nat} (hO : RoOK w v m) : fl16 w := fun p hp => by
  obtain ⟨n, n1, n2, n3⟩ := ((hO.2 p hp).at 16).nat
  have n2' : n ≤ 1 := n2
  rw [n3]
  obtain rfl | rfl : n = 0 ∨ n = 1 := by omega
  · exact Or.inl rfl
  · exact Or.inr rfl
set_option maxRecDepth 100000 in
set_option maxHeartbeats 4000000 in
theorem c_X6_copyFrom {l9 : Launch} {G : GC} {h : AH} {b : Nat} {b2 : Nat} {w : Nat → Int32} {v9 : Nat → Int64} (hW : World h) (hk : kd b 6) (hk2 : kd b2 6) (hne : b + 54 < b2 ∨ b2 + 54 < b) (hs : StR h b2 w v9) (h0 : rg (w 0) 0 4) (h16 : fl16 w) : PM l9 G mX6_copyFrom NT NT [.ref b, .ref b2] h (fun v h' => v = none ∧ eqx h h' (SB b) ∧ StR h' b w v9) noX := by
  refine PM.of (by decide +kernel) rfl rfl (Nat.le_of_ble_eq_true rfl) (fun hst _ => ?_)
  obtain ⟨np, n1, n2, n3⟩ := h0.nat
  have en : nn (w 0) = np := by rw [n3]; exact nn_I (by omega)
  refine r_aload_n dX6_copyFrom_0 rfl ?_
  refine r_aload_n dX6_copyFrom_1 rfl ?_
  refine q_getI fl_X6_25 hW hk2 rfl dX6_copyFrom_2 ?_
  refine q_putI fl_X6_25 hW hk rfl rfl dX6_copyFrom_5 ?_
  refine r_iconst (0) dX6_copyFrom_8 (by decide) ?_
  refine r_istore_n (ls2 := [_, some _, _]) dX6_copyFrom_9 (by decide) rfl ?_
  refine loopN (P := fun i => ∀ H : AH, i ≤ np → World H → eqx h H (SB b) → aI H b 1 = nI np → (∀ p, p < i → PoR H (b + 7 + 12 * p) (nn (w 1)) (nn (w 1)) (getP w p) (getG v9 p)) → PW l9 G mX6_copyFrom _ _ NT 10 [some (.ref b), some (.ref b2), some (.int (nI i))] [] (0, 0) H) np (fun i ih H hi hW he h1 hp => ?_) 0 _ (Nat.zero_le _) (wsI hW) (eqx.rf.sI (by unfold SB; omega)) (by rw [sI_s, hs.1]; exact n3) (fun p hp => absurd hp (Nat.not_lt_zero _))
  have hsH : StR H b2 w v9 := hs.eqx he (by omega) (fun j j1 j2 => by unfold SB; omega)
  refine r_iload_n dX6_copyFrom_10 rfl ?_
  refine r_aload_n dX6_copyFrom_11 rfl ?_
  refine q_getI fl_X6_25 hW hk rfl dX6_copyFrom_12 ?_
  rw [h1]
  refine r_icmp_ge 39 dX6_copyFrom_15 (by decide) (fun c_15 => ?_) (fun c_15 => ?_)
  · have hge : np = i := by have := (nI_leI (by omega) (by omega)).mp c_15; omega
    subst hge
    refine r_aload_n dX6_copyFrom_39 rfl ?_
    refine r_aload_n dX6_copyFrom_40 rfl ?_
    refine q_getI fl_X6_29 hW hk2 rfl dX6_copyFrom_41 ?_
    refine q_putI fl_X6_29 hW hk rfl rfl dX6_copyFrom_44 ?_
    refine r_aload_n dX6_copyFrom_47 rfl ?_
    refine r_aload_n dX6_copyFrom_48 rfl ?_
    refine q_getI fl_X6_32 hW hk2 rfl dX6_copyFrom_49 ?_
    refine q_putI fl_X6_32 hW hk rfl rfl dX6_copyFrom_52 ?_
    refine r_aload_n dX6_copyFrom_55 rfl ?_
    refine q_getR fl_X6_20 hW hk rfl (kl_6_4 hW hk) (Nat.succ_ne_zero _) dX6_copyFrom_56 ?_
    refine r_aload_n dX6_copyFrom_59 rfl ?_
    refine q_getR fl_X6_20 hW hk2 rfl (kl_6_4 hW hk2) (Nat.succ_ne_zero _) dX6_copyFrom_60 ?_
    have e0 : eqx H (sI (sI H b 2 (aI H b2 2)) b 3 (aI (sI H b 2 (aI H b2 2)) b2 3)) (fun i => i = b) := (eqx.rf.sI (S := fun i => i = b) rfl).sI rfl
    refine q_callV1 (cv_X0_copyFrom ml_X6_42) hW (kk_6_4 hk) (by decide) rfl ⟨rfl, rfl⟩ rfl (Nat.le_of_ble_eq_true rfl) dX6_copyFrom_63 (c_X0_copyFrom hW (kk_6_4 hk) (kk_6_4 hk2) (by omega) (hsH.2.2.2.1.eqx e0 (fun j j1 j2 q => by omega))) (fun v_63 h_63 q_63 => ?_)
    obtain ⟨rfl, e1, p1⟩ := q_63
    refine r_vret dX6_copyFrom_66 rfl ⟨Nat.zero_le _, Nat.zero_le _⟩ ?_
    have eb : aI h_63 b = upd (upd (aI H b) 2 (aI H b2 2)) 3 (aI H b2 3) := by
      rw [e1.I (by unfold btw; omega), sI_r, sI_r, sI_o (by omega)]
    refine ⟨rfl, (he.tr (e0.wk (fun j zj => by unfold SB; omega))).tr (e1.wk (fun j zj => by unfold SB btw at *; omega)), ?_, ?_, ?_, p1, fun p hp9 => ?_⟩
    · rw [eb, pk_un (by decide), pk_un (by decide), h1]; exact n3.symm
    · rw [eb, pk_un (by decide), pk_us]; exact hsH.2.1
    · rw [eb, pk_us]; exact hsH.2.2.1
    · exact ((hp p (by omega)).eqx e0 (fun j j1 j2 => by omega)).eqx e1 (fun j j1 j2 => by unfold btw; omega)
  · have hlt : i < np := (nI_ltI (by omega) (by omega)).mp (i_lt.mp c_15)
    have hi4 : i < 4 := by omega
    refine r_aload_n dX6_copyFrom_18 rfl ?_
    refine q_getR fl_X6_11 hW hk rfl (kl_6_0 hW hk) (Nat.succ_ne_zero _) dX6_copyFrom_19 ?_
    refine r_iload_n dX6_copyFrom_22 rfl ?_
    refine q_pald hW (kk_6_0 hk) rfl hi4 dX6_copyFrom_23 ?_
    refine r_aload_n dX6_copyFrom_24 rfl ?_
    refine q_getR fl_X6_11 hW hk2 rfl (kl_6_0 hW hk2) (Nat.succ_ne_zero _) dX6_copyFrom_25 ?_
    refine r_iload_n dX6_copyFrom_28 rfl ?_
    refine q_pald hW (kk_6_0 hk2) rfl hi4 dX6_copyFrom_29 ?_
    refine q_callV1 (cv_X3_copyFrom ml_X6_38) hW (kk_14 (kk_6_0 hk).1 hi4) (by decide) rfl ⟨rfl, rfl⟩ rfl (Nat.le_of_ble_eq_true rfl) dX6_copyFrom_30 (c_X3_copyFrom hW (kk_14 (kk_6_0 hk).1 hi4) (kk_14 (kk_6_0 hk2).1 hi4) (by omega) (hsH.po (by omega)) (h16 i (by omega))) (fun v_30 h_30 q_30 => ?_)
    obtain ⟨rfl, e1, p1⟩ := q_30
    have hW := e1.W hW
    refine r_iinc (1) (by decide) (ls2 := [_, some _, _]) dX6_copyFrom_33 rfl (by decide) rfl ?_
    refine r_goto 10 dX6_copyFrom_36 (by decide) ?_
    rw [nI_1]
    refine ih hlt _ hlt hW (he.tr (e1.wk (fun j zj => by unfold SB btw at *; omega))) (by rw [e1.I (by unfold btw; omega)]; exact h1) (fun p hp9 => ?_)
    by_cases e : p = i
    · rw [e]; exact p1
    · exact (hp p (by omega)).eqx e1 (fun j j1 j2 => by unfold btw; omega)

set_option maxRecDepth 100000 in
set_option maxHeartbeats 4000000 in
theorem c_X6_clear {l9 : Launch} {G : GC} {h : AH} {b : Nat} (hW : World h) (hk : kd b 6) : PM l9 G mX6_clear NT NT [.ref b] h (fun v h' => v = none ∧ eqx h h' (SB b) ∧ StR h' b (fun _ => 0) (fun _ => 0)) noX := by
  refine PM.of (by decide +kernel) rfl rfl (Nat.le_of_ble_eq_true rfl) (fun hst _ => ?_)
  refine r_aload_n dX6_clear_0 rfl ?_
  refine r_iconst (0) dX6_clear_1 (by decide) ?_
  refine q_putI fl_X6_25 hW hk rfl rfl dX6_clear_2 ?_
  refine r_aload_n dX6_clear_5 rfl ?_
  refine r_iconst (0) dX6_clear_6 (by decide) ?_
  refine q_putI fl_X6_29 hW hk rfl rfl dX6_clear_7 ?_
  refine r_aload_n dX6_clear_10 rfl ?_
  refine r_iconst (0) dX6_clear_11 (by decide) ?_
  refine q_putI fl_X6_32 hW hk rfl rfl dX6_clear_12 ?_
  refine r_aload_n dX6_clear_15 rfl ?_
  refine q_getR fl_X6_20 hW hk rfl (kl_6_4 hW hk) (Nat.succ_ne_zero _) dX6_clear_16 ?_
  refine r_iconst (0) dX6_clear_19 (by decide) ?_
  refine q_putI fl_X6_35 hW (kk_6_4 hk) rfl rfl dX6_clear_20 ?_
  refine r_vret dX6_clear_23 rfl ⟨Nat.zero_le _, Nat.zero_le _⟩ ?_
  refine ⟨rfl, ?_, ?_, ?_, ?_, ⟨?_, fun j j1 j2 => absurd j2 (Nat.not_lt_zero _)⟩, fun p hp => absurd hp (Nat.not_lt_zero _)⟩
  · repeat (first | exact eqx.rf | refine eqx.sI ?_ (by unfold SB; omega))
  · rw [sI_o (by omega), sI_k (by decide), sI_k (by decide), sI_s]
  · rw [sI_o (by omega), sI_k (by decide), sI_s]
  · rw [sI_o (by omega), sI_s]
  · rw [sI_s]; rfl

/-- the members that a new pool gets -/
def jnF : Nat → (Nat → Int32) → Nat → (Nat → Int32)
  | 0, f, _ => f
  | n + 1, f, x => joF (jnF n f x) (nI (x + n)) 0 0
/-- the row with one pool more -/
def apW (w : Nat → Int32) (a b c : Int32) : Nat → Int32 := setP (upd (upd w 0 (w 0 + 1)) 2 (nI (nn (w 2) + nn a))) (nn (w 0)) (jnF (nn a) (begF a b c) (nn (w 2)))
theorem jnF_ok {g : Nat → Int64} {c t : Nat} {f : Nat → Int32} {x : Nat} (hO : PoOK f g c t) (h0 : f 23 = 0) : ∀ n, n ≤ 20 → PoOK (jnF n f x) g c t ∧ jnF n f x 23 = nI n ∧ ∀ k, k < 23 ∨ 23 < k ∧ k < 100 → jnF n f x k = f k
  | 0, _ => ⟨hO, h0, fun _ _ => rfl⟩
  | n + 1, hn => by
    obtain ⟨i1, i2, i3⟩ := jnF_ok (x := x) hO h0 n (by omega)
    have e : nn (jnF n f x 23) = n := by rw [i2]; exact nn_I (by omega)
    refine ⟨i1.jo (by omega), ?_, fun k hk => (joF_o hk).trans (i3 k hk)⟩
    show joF (jnF n f x) (nI (x + n)) 0 0 23 = _
    unfold joF
    rw [pk_us, i2, nI_1]
theorem begF_ok {a b c : Int32} (ha : rg a 0 20) (hb : rg b 1 20) (hc : rg c 1 100) (hab : nn a ≤ nn b) : PoOK (begF a b c) (fun _ => 0) 0 0 := by
  have e24 : nn (begF a b c 24) = 0 := rfl
  have e23 : nn (begF a b c 23) = 0 := rfl
  refine ⟨fun k hk => ?_, ⟨fun q => absurd (show (0 : Int32) = 2 from q) (by decide), hab⟩, fun k hk => absurd hk (by rw [e23]; omega), fun j hj => absurd hj (by rw [e24]; omega), ⟨rfl, by decide, by decide⟩, fun j h1 h2 => absurd h2 (Nat.not_lt_zero _), fun u h1 h2 h3 => absurd h2 (by omega), rfl⟩
  have hlt := bOk_lt hk
  have r : ∀ n a b : Nat, a ≤ n → n ≤ b → b < 2 ^ 31 → rg (nI n) a b := fun n a b h1 h2 h3 => rg_I h1 h2 h3
  obtain ⟨h25, h17, h18, h19, h21, h22⟩ := hlt
  have h : k = 0 ∨ k = 1 ∨ k = 2 ∨ k = 3 ∨ k = 4 ∨ k = 5 ∨ k = 6 ∨ k = 7 ∨ k = 8 ∨ k = 9 ∨ k = 10 ∨ k = 11 ∨ k = 12 ∨ k = 13 ∨ k = 14 ∨ k = 15 ∨ k = 16 ∨ k = 20 ∨ k = 23 ∨ k = 24 := by omega
  rcases h with rfl | rfl | rfl | rfl | rfl | rfl | rfl | rfl | rfl | rfl | rfl | rfl | rfl | rfl | rfl | rfl | rfl | rfl | rfl | rfl
  · exact ha
  · exact hb
  · exact hc
  · exact r 70 10 100 (by decide) (by decide) (by decide)
  · exact r 2 0 9 (by decide) (by decide) (by decide)
  · exact r 4 1 8 (by decide) (by decide) (by decide)
  · exact r 2 1 8 (by decide) (by decide) (by decide)
  · exact r 0 0 2 (by decide) (by decide) (by decide)
  · exact r 0 0 24 (by decide) (by decide) (by decide)
  · exact r 0 0 2 (by decide) (by decide) (by decide)
  · exact r 1 1 5 (by decide) (by decide) (by decide)
  · exact r 1 1 5 (by decide) (by decide) (by decide)
  · exact r 3 0 30 (by decide) (by decide) (by decide)
  · exact r 5 0 30 (by decide) (by decide) (by decide)
  · exact r 1 0 99 (by decide) (by decide) (by decide)
  · exact r 1 0 99 (by decide) (by decide) (by decide)
  · exact r 0 0 1 (by decide) (by decide) (by decide)
  · exact r 0 0 999 (by decide) (by decide) (by decide)
  · exact r 0 0 20 (by decide) (by decide) (by decide)
  · exact r 0 0 24 (by decide) (by decide) (by decide)
set_option maxRecDepth 100000 in
set_option maxHeartbeats 4000000 in
theorem c_X6_addPool {l9 : Launch} {G : GC} {h : AH} {b : Nat} {w : Nat → Int32} {v9 : Nat → Int64} {x y z : Int32} (hW : World h) (hk : kd b 6) (hs : StR h b w v9) (hw0 : rg (w 0) 0 3) (hw1 : w 1 = 0) (hw2 : rg (w 2) 0 100) (hz : getG v9 (nn (w 0)) = fun _ => 0) (ha : rg x 0 20) (hb : rg y 1 20) (hc : rg z 1 100) (hab : nn x ≤ nn y) : PM l9 G mX6_addPool NT NT [.ref b, .int x, .int y, .int z] h (fun v h' => v = none ∧ eqx h h' (SB b) ∧ StR h' b (apW w x y z) v9) noX := by
  refine PM.of (by decide +kernel) rfl rfl (Nat.le_of_ble_eq_true rfl) (fun hst _ => ?_)
  obtain ⟨n, n1, n2, n3⟩ := hw0.nat
  obtain ⟨a, a1, a2, a3⟩ := ha.nat
  obtain ⟨m, m1, m2, m3⟩ := hw2.nat
  have en : nn (w 0) = n := by rw [n3]; exact nn_I (by omega)
  have ea : nn x = a := by rw [a3]; exact nn_I (by omega)
  have em : nn (w 2) = m := by rw [m3]; exact nn_I (by omega)
  have hn4 : n < 4 := by omega
  refine r_aload_n dX6_addPool_0 rfl ?_
  refine q_getI fl_X6_25 hW hk rfl dX6_addPool_1 ?_
  rw [hs.1, n3]
  refine r_iconst (4) dX6_addPool_4 (by decide) ?_
  refine r_icmp_lt 9 dX6_addPool_5 (by decide) (fun c_5 => ?_) (fun c_5 => ?_)
  · refine r_aload_n dX6_addPool_9 rfl ?_
    refine q_getR fl_X6_11 hW hk rfl (kl_6_0 hW hk) (Nat.succ_ne_zero _) dX6_addPool_10 ?_
    refine r_aload_n dX6_addPool_13 rfl ?_
    refine q_getI fl_X6_25 hW hk rfl dX6_addPool_14 ?_
    rw [hs.1, n3]
    refine q_pald hW (kk_6_0 hk) rfl hn4 dX6_addPool_17 ?_
    refine r_astore (ls2 := [_, _, _, some _, _, _]) dX6_addPool_18 (by decide) rfl ?_
    refine r_aload_n dX6_addPool_20 rfl ?_
    refine r_dup dX6_addPool_21 rfl ?_
    refine q_getI fl_X6_25 hW hk rfl dX6_addPool_22 ?_
    rw [hs.1, n3]
    refine r_iconst (1) dX6_addPool_25 (by decide) ?_
    refine r_iadd dX6_addPool_26 ?_
    rw [nI_1]
    refine q_putI fl_X6_25 hW hk rfl rfl dX6_addPool_27 ?_
    refine r_aload dX6_addPool_30 rfl ?_
    refine r_iload_n dX6_addPool_32 rfl ?_
    refine r_iload_n dX6_addPool_33 rfl ?_
    refine r_iload_n dX6_addPool_34 rfl ?_
    refine q_callV3 (cv_X3_begin ml_X6_45) hW (kk_14 (kk_6_0 hk).1 hn4) (by decide) rfl ⟨rfl, rfl⟩ rfl (Nat.le_of_ble_eq_true rfl) dX6_addPool_35 (c_X3_begin hW (kk_14 (kk_6_0 hk).1 hn4)) (fun v_35 h_35 q_35 => ?_)
    obtain ⟨rfl, e1, p1⟩ := q_35
    have hW := e1.W hW
    refine r_iconst (0) dX6_addPool_38 (by decide) ?_
    refine r_istore (ls2 := [_, _, _, _, some _, _]) dX6_addPool_39 (by decide) rfl ?_
    have e0 : eqx h (sI h b 1 (nI (n + 1))) (SB b) := eqx.rf.sI (by unfold SB; omega)
    have e35 : eqx h h_35 (SB b) := e0.tr (e1.wk (fun i zi => by unfold btw SB at *; omega))
    have hbO := begF_ok ha hb hc hab
    refine loopN (P := fun i => ∀ H : AH, i ≤ a → World H → eqx h H (SB b) → aI H b = upd (upd (aI h b) 1 (nI (n + 1))) 3 (nI (m + i)) → (∀ j, j < b + 7 + 12 * n ∨ b + 7 + 12 * n + 11 < j → j ≠ b → aI H j = aI h j ∧ aJ H j = aJ h j) → PoR H (b + 7 + 12 * n) 0 0 (jnF i (begF x y z) m) (fun _ => 0) → PW l9 G mX6_addPool _ _ NT 41 [some (.ref b), some (.int x), some (.int y), some (.int z), some (.ref (b + 1 + 6 + 12 * n)), some (.int (nI i))] [] (0, 0) H) a (fun i ih H hi hW he hb9 ho hp => ?_) 0 h_35 (Nat.zero_le _) hW e35 ?_ (fun j j1 j2 => ⟨by rw [e1.I (by unfold btw; omega), sI_o j2], by rw [e1.J (by unfold btw; omega)]; rfl⟩) p1
    rotate_left
    · rw [e1.I (by unfold btw; omega), sI_r]
      funext k
      by_cases e : k = 3
      · rw [e, pk_us, pk_un (by decide), hs.2.2.1, m3]; rfl
      · rw [pk_un e]
    obtain ⟨i1, i2, i3⟩ := jnF_ok (x := m) hbO rfl i (by omega)
    have zm := hp.2.1
    have el : (mbs (jnF i (begF x y z) m)).length = i := by rw [mbs_len, i2]; exact nn_I (by omega)
    refine r_iload dX6_addPool_41 rfl ?_
    refine r_iload_n dX6_addPool_43 rfl ?_
    refine r_icmp_ge 77 dX6_addPool_44 (by decide) (fun c_44 => ?_) (fun c_44 => ?_)
    · have hge : a = i := by
        have c9 := c_44
        rw [a3] at c9
        have := (nI_leI (by omega) (by omega)).mp c9
        omega
      subst hge
      refine r_vret dX6_addPool_77 rfl ⟨Nat.zero_le _, Nat.zero_le _⟩ ?_
      have hO9 : PoOK (jnF a (begF x y z) m) (fun _ => 0) 0 0 := i1
      have q0 : nn (apW w x y z 0) = n + 1 := by
        unfold apW
        rw [setP_lo (by decide), pk_un (by decide), pk_us, n3, nI_1]
        exact nn_I (by omega)
      have q1 : apW w x y z 1 = 0 := by
        unfold apW
        rw [setP_lo (by decide), pk_un (by decide), pk_un (by decide)]; exact hw1
      have q3 : apW w x y z 3 = w 3 := by
        unfold apW
        rw [setP_lo (by decide), pk_un (by decide), pk_un (by decide)]
      refine ⟨rfl, he, ?_, ?_, ?_, ?_, fun p hp9 => ?_⟩
      · rw [hb9, pk_un (by decide), pk_us]
        unfold apW
        rw [setP_lo (by decide), pk_un (by decide), pk_us, n3, nI_1]
      · rw [hb9, pk_un (by decide), pk_un (by decide), q1, hs.2.1]; exact hw1
      · rw [hb9, pk_us]
        unfold apW
        rw [setP_lo (by decide), pk_us, em, ea]
      · rw [q3]
        have hev := hs.2.2.2.1
        unfold EvW at hev ⊢
        rw [(ho (b + 2) (by omega) (by omega)).1, (ho (b + 2 + 1) (by omega) (by omega)).1, (ho (b + 2 + 2) (by omega) (by omega)).1, (ho (b + 2 + 3) (by omega) (by omega)).1, (ho (b + 2 + 4) (by omega) (by omega)).1]
        refine ⟨hev.1, fun j j1 j2 => ?_⟩
        have e9 : ∀ k, 4 ≤ k → k < 244 → apW w x y z k = w k := fun k k1 k2 => by
          unfold apW
          rw [setP_lo k2, pk_un (by omega), pk_un (by omega)]
        rw [e9 _ (by omega) (by omega), e9 _ (by omega) (by omega), e9 _ (by omega) (by omega), e9 _ (by omega) (by omega)]
        exact hev.2 j j1 j2
      · rw [q1]
        rw [q0] at hp9
        by_cases e : p = n
        · subst e
          have e1' : getP (apW w x y z) p = trP (jnF a (begF x y z) m) := by
            unfold apW
            rw [en, ea, em, getP_set]
          rw [e1', ← en, hz]
          rw [en]
          exact hp.cgF (hO9.at 23).2.2 (hO9.at 24).2.2 (fun k hk9 => trP_k hk9) (fun k hk9 => rfl)
        · have e1' : getP (apW w x y z) p = getP w p := by
            unfold apW
            rw [en, getP_ne e]
            exact getP_cg (fun k hk9 => by rw [pk_un (by omega), pk_un (by omega)])
          rw [e1']
          have h5 := hs.2.2.2.2 p (by omega)
          rw [hw1] at h5
          exact h5.cg (fun j j1 j2 => (ho j (by omega) (by omega)).1) (ho _ (by omega) (by omega)).2
    · have hlt : i < a := by
        have c9 := c_44
        rw [a3] at c9
        exact (nI_ltI (by omega) (by omega)).mp (i_lt.mp c9)
      refine r_aload dX6_addPool_47 rfl ?_
      refine q_getR fl_X6_49 hW (kk_14 (kk_6_0 hk).1 hn4) rfl (kl_3_1 hW (kk_14 (kk_6_0 hk).1 hn4)) (Nat.succ_ne_zero _) dX6_addPool_49 ?_
      refine r_aload_n dX6_addPool_52 rfl ?_
      refine q_getI fl_X6_32 hW hk rfl dX6_addPool_53 ?_
      rw [show aI H b 3 = nI (m + i) from by rw [hb9, pk_us]]
      refine r_iconst (0) dX6_addPool_56 (by decide) ?_
      refine r_iconst (0) dX6_addPool_57 (by decide) ?_
      refine q_callV3 (cv_X1_add ml_X6_53) hW (kk_3_1 (kk_14 (kk_6_0 hk).1 hn4)) (by decide) rfl ⟨rfl, rfl⟩ rfl (Nat.le_of_ble_eq_true rfl) dX6_addPool_58 (c_X1_add hW (kk_3_1 (kk_14 (kk_6_0 hk).1 hn4)) zm (by omega)) (fun v_58 h_58 q_58 => ?_)
      obtain ⟨rfl, e58, p58⟩ := q_58
      have hW := e58.W hW
      refine r_aload_n dX6_addPool_61 rfl ?_
      refine r_dup dX6_addPool_62 rfl ?_
      refine q_getI fl_X6_32 hW hk rfl dX6_addPool_63 ?_
      rw [show aI h_58 b 3 = nI (m + i) from by rw [e58.I (by unfold btw; omega), hb9, pk_us]]
      refine r_iconst (1) dX6_addPool_66 (by decide) ?_
      refine r_iadd dX6_addPool_67 ?_
      rw [nI_1]
      refine q_putI fl_X6_32 hW hk rfl rfl dX6_addPool_68 ?_
      refine r_iinc (1) (by decide) (ls2 := [_, _, _, _, some _, _]) dX6_addPool_71 rfl (by decide) rfl ?_
      refine r_goto 41 dX6_addPool_74 (by decide) ?_
      rw [nI_1]
      have es : eqx h_58 (sI h_58 b 3 (nI (m + i + 1))) (fun j => j = b) := eqx.rf.sI rfl
      have p2 : PoR h_58 (b + 7 + 12 * n) 0 0 (joF (jnF i (begF x y z) m) (nI (m + i)) 0 0) (fun _ => 0) := po_mem hp (i1.at 24).2.2 (e58.wk (fun j zj => by unfold btw at *; omega)) (by rw [mbs_joF ⟨(i1.at 23).1, Nat.zero_le _, by rw [i2, nn_I (by omega)]; omega⟩]; exact p58) (fun k hk9 => joF_o hk9)
      refine ih hlt _ hlt (es.W hW) ((he.tr (e58.wk (fun j zj => by unfold btw SB at *; omega))).tr (es.wk (fun j zj => by unfold SB; omega))) ?_ (fun j j1 j2 => ⟨by rw [sI_o j2, e58.I (by unfold btw; omega)]; exact (ho j j1 j2).1, by rw [sIJ, e58.J (by unfold btw; omega)]; exact (ho j j1 j2).2⟩) (p2.eqx es (fun j j1 j2 => by omega))
      rw [sI_r, e58.I (by unfold btw; omega), hb9]
      funext k
      by_cases e : k = 3
      · rw [e, pk_us, pk_us]; rfl
      · rw [pk_un e, pk_un e, pk_un e]
  · exact absurd ((nI_ltI (b := 4) (by omega) (by omega)).mpr hn4) c_5
-- the class: what is found in a State; events; the output
def smS (w : Nat → Int32) : Nat → Nat
  | 0 => 0
  | n + 1 => smS w n + nn (getP w n 23)
def plS (w : Nat → Int32) (x : Int32) (p : Nat) : Option Nat := fi (fun k => decide (getP w p (100 + 4 * k) = x)) (nn (getP w p 23))
def hmS (w : Nat → Int32) (x : Int32) (n : Nat) : Option Nat := fi (fun p => (plS w x p).isSome) n
theorem StR.sz {h : AH} {b p m : Nat} {w : Nat → Int32} {v : Nat → Int64} (hs : StR h b w v) (hO : RoOK w v m) (hp : p < nn (w 0)) : aI h (b + 7 + 12 * p + 3) 4 = nI (nn (getP w p 23)) ∧ nn (getP w p 23) ≤ 20 ∧ getP w p 23 = nI (nn (getP w p 23)) := by
  have h1 := (hs.po hp).2.1.1
  rw [mbs_len] at h1
  exact ⟨h1, ((hO.2 p hp).at 23).2.2, ((hO.2 p hp).at 23).1⟩
theorem StR.plc {h : AH} {b p m : Nat} {w : Nat → Int32} {v : Nat → Int64} {x : Int32} (hs : StR h b w v) (hO : RoOK w v m) (hp : p < nn (w 0)) : fi (fun k => decide (aI h (b + 7 + 12 * p + 3 + 1) k = x)) (nn (getP w p 23)) = plS w x p := by
  unfold plS
  refine fi_cg (fun k hk => ?_)
  have h1 := (hs.po hp).2.1.2.2 k (by rw [mbs_len]; exact hk)
  rw [h1.1, mbs_num hk]
theorem plS_lt {w : Nat → Int32} {x : Int32} {p k : Nat} (h : plS w x p = some k) : k < nn (getP w p 23) := (fi_lt h).1
theorem RoOK.np {w : Nat → Int32} {v : Nat → Int64} {m : Nat} (hO : RoOK w v m) : ∃ n, n ≤ 4 ∧ w 0 = nI n ∧ nn (w 0) = n := by
  obtain ⟨n, n1, n2, n3⟩ := hO.1.1.nat
  exact ⟨n, n2, n3, by rw [n3]; exact nn_I (by omega)⟩
theorem smS_le {w : Nat → Int32} {v : Nat → Int64} {m : Nat} (hO : RoOK w v m) : ∀ n, n ≤ nn (w 0) → smS w n ≤ 20 * n
  | 0, _ => Nat.le_refl _
  | n + 1, hn => by
    have := smS_le hO n (by omega)
    have h2 : nn (getP w n 23) ≤ 20 := ((hO.2 n (by omega)).at 23).2.2
    show smS w n + nn (getP w n 23) ≤ _
    omega
set_option maxRecDepth 100000 in
set_option maxHeartbeats 4000000 in
theorem c_X6_countMembers {l9 : Launch} {G : GC} {h : AH} {b : Nat} {w : Nat → Int32} {v9 : Nat → Int64} {m : Nat} (hW : World h) (hk : kd b 6) (hs : StR h b w v9) (hO : RoOK w v9 m) : PM l9 G mX6_countMembers NT NT [.ref b] h (fun v h' => v = some (.int (nI (smS w (nn (w 0))))) ∧ h' = h) noX := by
  refine PM.of (by decide +kernel) rfl rfl (Nat.le_of_ble_eq_true rfl) (fun hst _ => ?_)
  obtain ⟨np, n2, n3, en⟩ := hO.np
  rw [en]
  refine r_iconst (0) dX6_countMembers_0 (by decide) ?_
  refine r_istore_n (ls2 := [some _, _, _]) dX6_countMembers_1 (by decide) rfl ?_
  refine r_iconst (0) dX6_countMembers_2 (by decide) ?_
  refine r_istore_n (ls2 := [_, some _, _]) dX6_countMembers_3 (by decide) rfl ?_
  refine loopN (P := fun i => i ≤ np → PW l9 G mX6_countMembers _ _ NT 4 [some (.ref b), some (.int (nI (smS w i))), some (.int (nI i))] [] (0, 0) h) np (fun i ih hi => ?_) 0 (Nat.zero_le _)
  refine r_iload_n dX6_countMembers_4 rfl ?_
  refine r_aload_n dX6_countMembers_5 rfl ?_
  refine q_getI fl_X6_25 hW hk rfl dX6_countMembers_6 ?_
  rw [hs.1, n3]
  refine r_icmp_ge 33 dX6_countMembers_9 (by decide) (fun c_9 => ?_) (fun c_9 => ?_)
  · have hge : np = i := by have := (nI_leI (by omega) (by omega)).mp c_9; omega
    subst hge
    refine r_iload_n dX6_countMembers_33 rfl ?_
    refine r_iret dX6_countMembers_34 rfl ⟨Nat.zero_le _, Nat.zero_le _⟩ ?_
    exact ⟨rfl, rfl⟩
  · have hlt : i < np := (nI_ltI (by omega) (by omega)).mp (i_lt.mp c_9)
    have hi4 : i < 4 := by omega
    obtain ⟨z1, z2, z3⟩ := hs.sz hO (p := i) (by omega)
    refine r_iload_n dX6_countMembers_12 rfl ?_
    refine r_aload_n dX6_countMembers_13 rfl ?_
    refine q_getR fl_X6_11 hW hk rfl (kl_6_0 hW hk) (Nat.succ_ne_zero _) dX6_countMembers_14 ?_
    refine r_iload_n dX6_countMembers_17 rfl ?_
    refine q_pald hW (kk_6_0 hk) rfl hi4 dX6_countMembers_18 ?_
    refine q_getR fl_X6_49 hW (kk_14 (kk_6_0 hk).1 hi4) rfl (kl_3_1 hW (kk_14 (kk_6_0 hk).1 hi4)) (Nat.succ_ne_zero _) dX6_countMembers_19 ?_
    refine q_getI fl_X6_58 hW (kk_3_1 (kk_14 (kk_6_0 hk).1 hi4)) rfl dX6_countMembers_22 ?_
    rw [show aI h (b + 1 + 6 + 12 * i + 3) 4 = nI (nn (getP w i 23)) from z1]
    refine r_iadd dX6_countMembers_25 ?_
    rw [nI_add]
    refine r_istore_n (ls2 := [some _, _, _]) dX6_countMembers_26 (by decide) rfl ?_
    refine r_iinc (1) (by decide) (ls2 := [_, some _, _]) dX6_countMembers_27 rfl (by decide) rfl ?_
    refine r_goto 4 dX6_countMembers_30 (by decide) ?_
    rw [nI_1]
    exact ih hlt hlt

set_option maxRecDepth 100000 in
set_option maxHeartbeats 4000000 in
theorem c_X6_homeOf {l9 : Launch} {G : GC} {h : AH} {b : Nat} {w : Nat → Int32} {v9 : Nat → Int64} {m : Nat} {x : Int32} (hW : World h) (hk : kd b 6) (hs : StR h b w v9) (hO : RoOK w v9 m) : PM l9 G mX6_homeOf NT NT [.ref b, .int x] h (fun v h' => v = some (.int (oI (hmS w x (nn (w 0))))) ∧ h' = h) noX := by
  refine PM.of (by decide +kernel) rfl rfl (Nat.le_of_ble_eq_true rfl) (fun hst _ => ?_)
  obtain ⟨np, n2, n3, en⟩ := hO.np
  rw [en]
  refine r_iconst (0) dX6_homeOf_0 (by decide) ?_
  refine r_istore_n (ls2 := [_, some _, _]) dX6_homeOf_1 (by decide) rfl ?_
  refine loopN (P := fun i => i ≤ np → hmS w x i = none → PW l9 G mX6_homeOf _ _ NT 2 [some (.ref b), some (.int x), some (.int (nI i))] [] (0, 0) h) np (fun i ih hi hf => ?_) 0 (Nat.zero_le _) rfl
  refine r_iload_n dX6_homeOf_2 rfl ?_
  refine r_aload_n dX6_homeOf_3 rfl ?_
  refine q_getI fl_X6_25 hW hk rfl dX6_homeOf_4 ?_
  rw [hs.1, n3]
  refine r_icmp_ge 34 dX6_homeOf_7 (by decide) (fun c_7 => ?_) (fun c_7 => ?_)
  · have hge : np = i := by have := (nI_leI (by omega) (by omega)).mp c_7; omega
    subst hge
    refine r_iconst (-1) dX6_homeOf_34 (by decide) ?_
    refine r_iret dX6_homeOf_35 rfl ⟨Nat.zero_le _, Nat.zero_le _⟩ ?_
    rw [hf]; exact ⟨rfl, rfl⟩
  · have hlt : i < np := (nI_ltI (by omega) (by omega)).mp (i_lt.mp c_7)
    have hi4 : i < 4 := by omega
    obtain ⟨z1, z2, z3⟩ := hs.sz hO (p := i) (by omega)
    have zp := hs.plc (x := x) hO (p := i) (by omega)
    refine r_aload_n dX6_homeOf_10 rfl ?_
    refine q_getR fl_X6_11 hW hk rfl (kl_6_0 hW hk) (Nat.succ_ne_zero _) dX6_homeOf_11 ?_
    refine r_iload_n dX6_homeOf_14 rfl ?_
    refine q_pald hW (kk_6_0 hk) rfl hi4 dX6_homeOf_15 ?_
    refine q_getR fl_X6_49 hW (kk_14 (kk_6_0 hk).1 hi4) rfl (kl_3_1 hW (kk_14 (kk_6_0 hk).1 hi4)) (Nat.succ_ne_zero _) dX6_homeOf_16 ?_
    refine r_iload_n dX6_homeOf_19 rfl ?_
    refine q_callV1 (cv_X1_placeOf ml_X6_61) hW (kk_3_1 (kk_14 (kk_6_0 hk).1 hi4)) (by decide) rfl ⟨rfl, rfl⟩ rfl (Nat.le_of_ble_eq_true rfl) dX6_homeOf_20 (c_X1_placeOf hW (kk_3_1 (kk_14 (kk_6_0 hk).1 hi4)) z1 z2) (fun v_20 h_20 q_20 => ?_)
    obtain ⟨rfl, z9⟩ := q_20
    replace z9 := z9.symm
    subst z9
    rw [show fi (fun k => decide (aI h (b + 1 + 6 + 12 * i + 3 + 1) k = x)) (nn (getP w i 23)) = plS w x i from zp]
    refine r_if_lt 28 dX6_homeOf_23 (by decide) (fun c_23 => ?_) (fun c_23 => ?_)
    · have hy : (plS w x i).isSome = false := by
        cases hq : plS w x i with
        | none => rfl
        | some k =>
          rw [hq] at c_23
          have := plS_lt hq
          exact absurd c_23 (fun z => absurd z (nI_pos (n := k) (by omega)))
      refine r_iinc (1) (by decide) (ls2 := [_, some _, _]) dX6_homeOf_28 rfl (by decide) rfl ?_
      refine r_goto 2 dX6_homeOf_31 (by decide) ?_
      rw [nI_1]
      exact ih hlt hlt (fi_pass hf hy)
    · have hy : (plS w x i).isSome = true := by
        cases hq : plS w x i with
        | none => rw [hq] at c_23; exact absurd (show (-1 : Int32) < 0 by decide) c_23
        | some k => rfl
      refine r_iload_n dX6_homeOf_26 rfl ?_
      refine r_iret dX6_homeOf_27 rfl ⟨Nat.zero_le _, Nat.zero_le _⟩ ?_
      exact ⟨some_int (by unfold hmS; rw [fi_hit (P := fun p => (plS w x p).isSome) hf hy hlt]; rfl), rfl⟩

set_option maxRecDepth 100000 in
set_option maxHeartbeats 4000000 in
theorem c_X6_placeIn {l9 : Launch} {G : GC} {h : AH} {b : Nat} {w : Nat → Int32} {v9 : Nat → Int64} {m : Nat} {x : Int32} {o9 : Option Nat} (hW : World h) (hk : kd b 6) (hs : StR h b w v9) (hO : RoOK w v9 m) (ho : ∀ p, o9 = some p → p < nn (w 0)) : PM l9 G mX6_placeIn NT NT [.ref b, .int (oI o9), .int x] h (fun v h' => v = some (.int (oI (o9.bind (plS w x)))) ∧ h' = h) noX := by
  refine PM.of (by decide +kernel) rfl rfl (Nat.le_of_ble_eq_true rfl) (fun hst _ => ?_)
  cases o9 with
  | none =>
    show PW _ _ _ _ _ _ _ [some (.ref b), some (.int (-1)), some (.int x)] [] _ _
    refine r_iload_n dX6_placeIn_0 rfl ?_
    refine r_if_lt 12 dX6_placeIn_1 (by decide) (fun c_1 => ?_) (fun c_1 => ?_)
    · refine r_iconst (-1) dX6_placeIn_12 (by decide) ?_
      refine r_goto 29 dX6_placeIn_13 (by decide) ?_
      refine r_iret dX6_placeIn_29 rfl ⟨Nat.zero_le _, Nat.zero_le _⟩ ?_
      exact ⟨rfl, rfl⟩
    · exact absurd (show (-1 : Int32) < 0 by decide) c_1
  | some p =>
    obtain ⟨np, n2, n3, en⟩ := hO.np
    have hlt := ho p rfl
    have hi4 : p < 4 := by omega
    obtain ⟨z1, z2, z3⟩ := hs.sz hO (p := p) hlt
    have zp := hs.plc (x := x) hO (p := p) hlt
    show PW _ _ _ _ _ _ _ [some (.ref b), some (.int (nI p)), some (.int x)] [] _ _
    refine r_iload_n dX6_placeIn_0 rfl ?_
    refine r_if_lt 12 dX6_placeIn_1 (by decide) (fun c_1 => ?_) (fun c_1 => ?_)
    · exact absurd c_1 (nI_pos (by omega))
    · refine r_iload_n dX6_placeIn_4 rfl ?_
      refine r_aload_n dX6_placeIn_5 rfl ?_
      refine q_getI fl_X6_25 hW hk rfl dX6_placeIn_6 ?_
      rw [hs.1, n3]
      refine r_icmp_lt 16 dX6_placeIn_9 (by decide) (fun c_9 => ?_) (fun c_9 => ?_)
      · refine r_aload_n dX6_placeIn_16 rfl ?_
        refine q_getR fl_X6_11 hW hk rfl (kl_6_0 hW hk) (Nat.succ_ne_zero _) dX6_placeIn_17 ?_
        refine r_iload_n dX6_placeIn_20 rfl ?_
        refine q_pald hW (kk_6_0 hk) rfl hi4 dX6_placeIn_21 ?_
        refine q_getR fl_X6_49 hW (kk_14 (kk_6_0 hk).1 hi4) rfl (kl_3_1 hW (kk_14 (kk_6_0 hk).1 hi4)) (Nat.succ_ne_zero _) dX6_placeIn_22 ?_
        refine r_iload_n dX6_placeIn_25 rfl ?_
        refine q_callV1 (cv_X1_placeOf ml_X6_61) hW (kk_3_1 (kk_14 (kk_6_0 hk).1 hi4)) (by decide) rfl ⟨rfl, rfl⟩ rfl (Nat.le_of_ble_eq_true rfl) dX6_placeIn_26 (c_X1_placeOf hW (kk_3_1 (kk_14 (kk_6_0 hk).1 hi4)) z1 z2) (fun v_26 h_26 q_26 => ?_)
        obtain ⟨rfl, z9⟩ := q_26
        replace z9 := z9.symm
        subst z9
        refine r_iret dX6_placeIn_29 rfl ⟨Nat.zero_le _, Nat.zero_le _⟩ ?_
        exact ⟨some_int (congrArg oI zp), rfl⟩
      · exact absurd ((nI_ltI (by omega) (by omega)).mpr (by omega)) c_9

set_option maxRecDepth 100000 in
set_option maxHeartbeats 4000000 in
theorem c_X0_keptN {l9 : Launch} {G : GC} {h : AH} {o n : Nat} {w : Nat → Int32} (hW : World h) (hk : kd o 0) (hm : EvW h o w n) (hn : n < 2 ^ 31) : PM l9 G mX0_kept NT NT [.ref o] h (fun v h' => v = some (.int (nI (min 60 n))) ∧ h' = h) noX := by
  refine PM.of (by decide +kernel) rfl rfl (Nat.le_of_ble_eq_true rfl) (fun hst _ => ?_)
  refine r_bipush (60) dX0_kept_0 (by decide) ?_
  refine r_aload_n dX0_kept_2 rfl ?_
  refine q_getI fl_X0_30 hW hk rfl dX0_kept_3 ?_
  rw [hm.1]
  refine q_min mm_X0_40 rfl (Nat.le_of_ble_eq_true rfl) dX0_kept_6 ?_
  rw [show imn 60 (nI n) = nI (min 60 n) from imn_I (a := 60) (by decide) hn]
  refine r_iret dX0_kept_9 rfl ⟨Nat.zero_le _, Nat.zero_le _⟩ ?_
  exact ⟨rfl, rfl⟩

set_option maxRecDepth 100000 in
set_option maxHeartbeats 4000000 in
theorem c_X0_part {l9 : Launch} {G : GC} {h : AH} {o n bk9 k : Nat} {w : Nat → Int32} (hW : World h) (hk : kd o 0) (hm : EvW h o w n) (hn : n < 2 ^ 30) (hb : bk9 < n) (hb6 : bk9 < 60) (hk4 : k < 4) : PM l9 G mX0_part NT NT [.ref o, .int (nI bk9), .int (nI k)] h (fun v h' => v = some (.int (w (4 + 4 * ((n - 1 - bk9) % 60) + k))) ∧ h' = h) noX := by
  refine PM.of (by decide +kernel) rfl rfl (Nat.le_of_ble_eq_true rfl) (fun hst _ => ?_)
  have hev : aI h (o + 1) ((n - 1 - bk9) % 60) = w (4 + 4 * ((n - 1 - bk9) % 60)) ∧ aI h (o + 2) ((n - 1 - bk9) % 60) = w (5 + 4 * ((n - 1 - bk9) % 60)) ∧ aI h (o + 3) ((n - 1 - bk9) % 60) = w (6 + 4 * ((n - 1 - bk9) % 60)) ∧ aI h (o + 4) ((n - 1 - bk9) % 60) = w (7 + 4 * ((n - 1 - bk9) % 60)) := hm.2 _ (Nat.mod_lt _ (by decide)) (by have := Nat.mod_lt (n - 1 - bk9) (show 0 < 60 by decide); have := Nat.mod_le (n - 1 - bk9) 60; omega)
  rw [show 5 + 4 * ((n - 1 - bk9) % 60) = 4 + 4 * ((n - 1 - bk9) % 60) + 1 from by omega, show 6 + 4 * ((n - 1 - bk9) % 60) = 4 + 4 * ((n - 1 - bk9) % 60) + 2 from by omega, show 7 + 4 * ((n - 1 - bk9) % 60) = 4 + 4 * ((n - 1 - bk9) % 60) + 3 from by omega] at hev
  have hk9 : k = 0 ∨ k = 1 ∨ k = 2 ∨ k = 3 := by omega
  rcases hk9 with hk0 | hk0 | hk0 | hk0
  · subst hk0
    refine r_aload_n dX0_part_0 rfl ?_
    refine q_getI fl_X0_30 hW hk rfl dX0_part_1 ?_
    rw [hm.1]
    refine r_iconst (1) dX0_part_4 (by decide) ?_
    refine r_isub dX0_part_5 ?_
    refine r_iload_n dX0_part_6 rfl ?_
    refine r_isub dX0_part_7 ?_
    rw [show nI n - 1 - nI bk9 = nI (n - 1 - bk9) from by rw [nI_s1 (by omega), pk_sub (by omega)]]
    refine r_bipush (60) dX0_part_8 (by decide) ?_
    have ym := Nat.mod_lt (n - 1 - bk9) (show 0 < 60 by decide)
    obtain ⟨r1, r2, r3, r4⟩ := hev
    refine q_callS2 (cs_J9_floorMod_7cf53 ml_X0_34) ⟨rfl, rfl⟩ rfl (Nat.le_of_ble_eq_true rfl) dX0_part_10 (c_floorMod (b := 60) (by omega) (by decide) (by decide)) (fun v_10 h_10 q_10 => ?_)
    obtain ⟨rfl, z9⟩ := q_10
    replace z9 := z9.symm
    subst z9
    refine r_istore_n (ls2 := [_, _, some _, _]) dX0_part_13 (by decide) rfl ?_
    refine r_iload_n dX0_part_14 rfl ?_
    refine r_tabIn 40 dX0_part_15 (by decide) (by decide) rfl (by decide) ?_
    refine r_aload_n dX0_part_40 rfl ?_
    refine q_getR fl_X0_9 hW hk rfl (kl_0_0 hW hk) (Nat.succ_ne_zero _) dX0_part_41 ?_
    refine r_iload_n dX0_part_44 rfl ?_
    refine q_iald hW (kk_0_0 hk) (k := (n - 1 - bk9) % 60) rfl ym (by decide) dX0_part_45 ?_
    refine r_iret dX0_part_46 rfl ⟨Nat.zero_le _, Nat.zero_le _⟩ ?_
    exact ⟨some_int r1, rfl⟩
  · subst hk0
    refine r_aload_n dX0_part_0 rfl ?_
    refine q_getI fl_X0_30 hW hk rfl dX0_part_1 ?_
    rw [hm.1]
    refine r_iconst (1) dX0_part_4 (by decide) ?_
    refine r_isub dX0_part_5 ?_
    refine r_iload_n dX0_part_6 rfl ?_
    refine r_isub dX0_part_7 ?_
    rw [show nI n - 1 - nI bk9 = nI (n - 1 - bk9) from by rw [nI_s1 (by omega), pk_sub (by omega)]]
    refine r_bipush (60) dX0_part_8 (by decide) ?_
    have ym := Nat.mod_lt (n - 1 - bk9) (show 0 < 60 by decide)
    obtain ⟨r1, r2, r3, r4⟩ := hev
    refine q_callS2 (cs_J9_floorMod_7cf53 ml_X0_34) ⟨rfl, rfl⟩ rfl (Nat.le_of_ble_eq_true rfl) dX0_part_10 (c_floorMod (b := 60) (by omega) (by decide) (by decide)) (fun v_10 h_10 q_10 => ?_)
    obtain ⟨rfl, z9⟩ := q_10
    replace z9 := z9.symm
    subst z9
    refine r_istore_n (ls2 := [_, _, some _, _]) dX0_part_13 (by decide) rfl ?_
    refine r_iload_n dX0_part_14 rfl ?_
    refine r_tabIn 47 dX0_part_15 (by decide) (by decide) rfl (by decide) ?_
    refine r_aload_n dX0_part_47 rfl ?_
    refine q_getR fl_X0_15 hW hk rfl (kl_0_1 hW hk) (Nat.succ_ne_zero _) dX0_part_48 ?_
    refine r_iload_n dX0_part_51 rfl ?_
    refine q_iald hW (kk_0_1 hk) (k := (n - 1 - bk9) % 60) rfl ym (by decide) dX0_part_52 ?_
    refine r_iret dX0_part_53 rfl ⟨Nat.zero_le _, Nat.zero_le _⟩ ?_
    exact ⟨some_int r2, rfl⟩
  · subst hk0
    refine r_aload_n dX0_part_0 rfl ?_
    refine q_getI fl_X0_30 hW hk rfl dX0_part_1 ?_
    rw [hm.1]
    refine r_iconst (1) dX0_part_4 (by decide) ?_
    refine r_isub dX0_part_5 ?_
    refine r_iload_n dX0_part_6 rfl ?_
    refine r_isub dX0_part_7 ?_
    rw [show nI n - 1 - nI bk9 = nI (n - 1 - bk9) from by rw [nI_s1 (by omega), pk_sub (by omega)]]
    refine r_bipush (60) dX0_part_8 (by decide) ?_
    have ym := Nat.mod_lt (n - 1 - bk9) (show 0 < 60 by decide)
    obtain ⟨r1, r2, r3, r4⟩ := hev
    refine q_callS2 (cs_J9_floorMod_7cf53 ml_X0_34) ⟨rfl, rfl⟩ rfl (Nat.le_of_ble_eq_true rfl) dX0_part_10 (c_floorMod (b := 60) (by omega) (by decide) (by decide)) (fun v_10 h_10 q_10 => ?_)
    obtain ⟨rfl, z9⟩ := q_10
    replace z9 := z9.symm
    subst z9
    refine r_istore_n (ls2 := [_, _, some _, _]) dX0_part_13 (by decide) rfl ?_
    refine r_iload_n dX0_part_14 rfl ?_
    refine r_tabIn 54 dX0_part_15 (by decide) (by decide) rfl (by decide) ?_
    refine r_aload_n dX0_part_54 rfl ?_
    refine q_getR fl_X0_18 hW hk rfl (kl_0_2 hW hk) (Nat.succ_ne_zero _) dX0_part_55 ?_
    refine r_iload_n dX0_part_58 rfl ?_
    refine q_iald hW (kk_0_2 hk) (k := (n - 1 - bk9) % 60) rfl ym (by decide) dX0_part_59 ?_
    refine r_iret dX0_part_60 rfl ⟨Nat.zero_le _, Nat.zero_le _⟩ ?_
    exact ⟨some_int r3, rfl⟩
  · subst hk0
    refine r_aload_n dX0_part_0 rfl ?_
    refine q_getI fl_X0_30 hW hk rfl dX0_part_1 ?_
    rw [hm.1]
    refine r_iconst (1) dX0_part_4 (by decide) ?_
    refine r_isub dX0_part_5 ?_
    refine r_iload_n dX0_part_6 rfl ?_
    refine r_isub dX0_part_7 ?_
    rw [show nI n - 1 - nI bk9 = nI (n - 1 - bk9) from by rw [nI_s1 (by omega), pk_sub (by omega)]]
    refine r_bipush (60) dX0_part_8 (by decide) ?_
    have ym := Nat.mod_lt (n - 1 - bk9) (show 0 < 60 by decide)
    obtain ⟨r1, r2, r3, r4⟩ := hev
    refine q_callS2 (cs_J9_floorMod_7cf53 ml_X0_34) ⟨rfl, rfl⟩ rfl (Nat.le_of_ble_eq_true rfl) dX0_part_10 (c_floorMod (b := 60) (by omega) (by decide) (by decide)) (fun v_10 h_10 q_10 => ?_)
    obtain ⟨rfl, z9⟩ := q_10
    replace z9 := z9.symm
    subst z9
    refine r_istore_n (ls2 := [_, _, some _, _]) dX0_part_13 (by decide) rfl ?_
    refine r_iload_n dX0_part_14 rfl ?_
    refine r_tabOut 61 dX0_part_15 (by decide) (by decide) ?_
    refine r_aload_n dX0_part_61 rfl ?_
    refine q_getR fl_X0_21 hW hk rfl (kl_0_3 hW hk) (Nat.succ_ne_zero _) dX0_part_62 ?_
    refine r_iload_n dX0_part_65 rfl ?_
    refine q_iald hW (kk_0_3 hk) (k := (n - 1 - bk9) % 60) rfl ym (by decide) dX0_part_66 ?_
    refine r_iret dX0_part_67 rfl ⟨Nat.zero_le _, Nat.zero_le _⟩ ?_
    exact ⟨some_int r4, rfl⟩

/-- the output: its bytes and their number -/
def OuC (h : AH) (ob : Nat → Int32) (n : Nat) : Prop := aI h 5 1 = nI n ∧ n ≤ 300 ∧ ∀ i, i < n → aI h 6 i = ob i
def obA (ob : Nat → Int32) (n : Nat) (x : Int32) : Nat → Int32 := upd ob n x
/-- decimal digits -/
def dgt (x k : Nat) : Nat := 48 + x / 10 ^ k % 10
/-- the greatest power of ten that is not above it; 0 at least -/
def lgT (x : Nat) : Nat → Nat
  | 0 => 0
  | k + 1 => if 10 ^ (k + 1) ≤ x then k + 1 else lgT x k
def lg9 (x : Nat) : Nat := lgT x 9
def wrN (ob : Nat → Int32) (n x : Nat) : Nat → Nat → Int32
  | 0 => ob
  | k + 1 => upd (wrN ob n x k) (n + k) (nI (dgt x (lg9 x - k)))
theorem lgT_le (x : Nat) : ∀ k, lgT x k ≤ k ∧ (lgT x k = 0 ∨ 10 ^ (lgT x k) ≤ x) ∧ ∀ j, lgT x k < j → j ≤ k → x < 10 ^ j
  | 0 => ⟨Nat.le_refl _, Or.inl rfl, fun j h1 h2 => absurd h2 (by have : lgT x 0 = 0 := rfl; omega)⟩
  | k + 1 => by
    obtain ⟨i1, i2, i3⟩ := lgT_le x k
    show (if 10 ^ (k + 1) ≤ x then k + 1 else lgT x k) ≤ k + 1 ∧ ((if 10 ^ (k + 1) ≤ x then k + 1 else lgT x k) = 0 ∨ 10 ^ (if 10 ^ (k + 1) ≤ x then k + 1 else lgT x k) ≤ x) ∧ ∀ j, (if 10 ^ (k + 1) ≤ x then k + 1 else lgT x k) < j → j ≤ k + 1 → x < 10 ^ j
    by_cases q : 10 ^ (k + 1) ≤ x
    · rw [if_pos q]
      exact ⟨Nat.le_refl _, Or.inr q, fun j h1 h2 => absurd h2 (by omega)⟩
    · rw [if_neg q]
      refine ⟨by omega, i2, fun j h1 h2 => ?_⟩
      rcases Nat.lt_or_ge j (k + 1) with z | z
      · exact i3 j h1 (by omega)
      · rw [show j = k + 1 from by omega]; omega
theorem div10 (x k : Nat) : 10 ≤ x / 10 ^ k ↔ 10 ^ (k + 1) ≤ x := by
  rw [Nat.le_div_iff_mul_le (Nat.pow_pos (by decide)), Nat.pow_succ, Nat.mul_comm]
set_option maxRecDepth 100000 in
set_option maxHeartbeats 4000000 in
theorem c_X2_addByte {l9 : Launch} {G : GC} {h : AH} {ob : Nat → Int32} {n : Nat} {x : Int32} (hW : World h) (ho : OuC h ob n) (hn : n < 300) (hx : vp_nar .byte x.toInt8.toInt32 = x) : PM l9 G mX2_addByte NT NT [.ref 5, .int x] h (fun v h' => v = none ∧ eqx h h' (fun i => i = 5 ∨ i = 6) ∧ OuC h' (upd ob n x) (n + 1)) noX := by
  refine PM.of (by decide +kernel) rfl rfl (Nat.le_of_ble_eq_true rfl) (fun hst _ => ?_)
  refine r_aload_n dX2_addByte_0 rfl ?_
  refine q_getI fl_X2_15 hW kc_5 rfl dX2_addByte_1 ?_
  rw [ho.1]
  refine r_sipush (300) dX2_addByte_4 (by decide) ?_
  refine r_icmp_ge 31 dX2_addByte_7 (by decide) (fun c_7 => ?_) (fun c_7 => ?_)
  · exact absurd ((nI_leI (a := 300) (by decide) (by omega)).mp c_7) (by omega)
  · refine r_aload_n dX2_addByte_10 rfl ?_
    refine q_getR fl_X2_9 hW kc_5 rfl (kl_2_0 hW) (by decide) dX2_addByte_11 ?_
    refine r_aload_n dX2_addByte_14 rfl ?_
    refine q_getI fl_X2_15 hW kc_5 rfl dX2_addByte_15 ?_
    rw [ho.1]
    refine r_iload_n dX2_addByte_18 rfl ?_
    refine r_i2b dX2_addByte_19 ?_
    refine q_bast hW kc_6 (k := n) rfl (by omega) (by decide) dX2_addByte_20 ?_
    refine r_aload_n dX2_addByte_21 rfl ?_
    refine r_dup dX2_addByte_22 rfl ?_
    refine q_getI fl_X2_15 hW kc_5 rfl dX2_addByte_23 ?_
    rw [show aI (sI h 6 n (vp_nar .byte x.toInt8.toInt32)) 5 1 = nI n from by rw [sI_o (by decide)]; exact ho.1]
    refine r_iconst (1) dX2_addByte_26 (by decide) ?_
    refine r_iadd dX2_addByte_27 ?_
    rw [nI_1]
    refine q_putI fl_X2_15 hW kc_5 rfl rfl dX2_addByte_28 ?_
    refine r_vret dX2_addByte_31 rfl ⟨Nat.zero_le _, Nat.zero_le _⟩ ?_
    refine ⟨rfl, (eqx.rf.sI (Or.inr rfl)).sI (Or.inl rfl), sI_s, by omega, fun i hi => ?_⟩
    rw [sI_o (by decide), sI_r, hx]
    by_cases e : i = n
    · rw [e, pk_us, pk_us]
    · rw [pk_un e, pk_un e]; exact ho.2.2 i (by omega)
-- the class itself: calls that may throw, what must hold of arguments, remembering
abbrev eB : String := "java/lang/IndexOutOfBoundsException"
abbrev eA : String := "java/lang/IllegalArgumentException"
abbrev eS : String := "java/lang/IllegalStateException"
abbrev eN : String := "java/util/NoSuchElementException"
section QX
variable {l : Launch} {G : GC} {M : MD} {R : Room} {Fi : CX → State → Prop} {pc : Nat} {ls : List (Option Value)} {st : List Value} {cs : Nat × Nat} {h : AH} {K : Option Value → AH → Prop} {X : String → AH → Prop}

theorem q_callX0 {c i ix : Nat} {M2 : MD} (hlk : CV (mY M).cls ix M2 0) (hW : World h) (hk : kd i c) (hc : c < 10) (hcy : clR c = (mY M2).cls) (hrm : rmOK R cs M2 = true) (hst : (st.map fun v => v.category).sum ≤ 8) (hd : decode (mC M) pc = .ok (.invokevirtual ix, 3)) (hM : PM l G M2 NT NT (.ref i :: []) h K X) (kk : ∀ (v : Option Value) (h' : AH), K v h' → PW l G M R Fi NT (pc + 3) ls (v.toList ++ st) (cs.1 + (mO M2).cells, cs.2 + (mO M2).slots) h') (kx : ∀ (E : String) (h' : AH), X E h' → PX l G M R Fi NT pc ls st (cs.1 + (mO M2).cells, cs.2 + (mO M2).slots) E h') : PW l G M R Fi NT pc ls (.ref i :: st) cs h := r_callV [] hlk (hW.isK hk) hc hcy hrm hst (Or.inr ⟨rfl, rfl⟩) hd hM kk kx
theorem q_callXS0 {ix : Nat} {M2 : MD} (hlk : CSt (mY M).cls ix M2 0) (hrm : rmOK R cs M2 = true) (hst : (st.map fun v => v.category).sum ≤ 8) (hd : decode (mC M) pc = .ok (.invokestatic ix, 3)) (hM : PM l G M2 NT NT [] h K X) (kk : ∀ (v : Option Value) (h' : AH), K v h' → PW l G M R Fi NT (pc + 3) ls (v.toList ++ st) (cs.1 + (mO M2).cells, cs.2 + (mO M2).slots) h') (kx : ∀ (E : String) (h' : AH), X E h' → PX l G M R Fi NT pc ls st (cs.1 + (mO M2).cells, cs.2 + (mO M2).slots) E h') : PW l G M R Fi NT pc ls (st) cs h := r_callS [] hlk hrm hst (Or.inr ⟨rfl, rfl⟩) hd hM kk kx
theorem q_callX1 {c i ix : Nat} {a1 : Value} {M2 : MD} (hlk : CV (mY M).cls ix M2 1) (hW : World h) (hk : kd i c) (hc : c < 10) (hcy : clR c = (mY M2).cls) (hrm : rmOK R cs M2 = true) (hst : (st.map fun v => v.category).sum ≤ 8) (hd : decode (mC M) pc = .ok (.invokevirtual ix, 3)) (hM : PM l G M2 NT NT (.ref i :: [a1]) h K X) (kk : ∀ (v : Option Value) (h' : AH), K v h' → PW l G M R Fi NT (pc + 3) ls (v.toList ++ st) (cs.1 + (mO M2).cells, cs.2 + (mO M2).slots) h') (kx : ∀ (E : String) (h' : AH), X E h' → PX l G M R Fi NT pc ls st (cs.1 + (mO M2).cells, cs.2 + (mO M2).slots) E h') : PW l G M R Fi NT pc ls (a1 :: .ref i :: st) cs h := r_callV [a1] hlk (hW.isK hk) hc hcy hrm hst (Or.inr ⟨rfl, rfl⟩) hd hM kk kx
theorem q_callXS1 {ix : Nat} {a1 : Value} {M2 : MD} (hlk : CSt (mY M).cls ix M2 1) (hrm : rmOK R cs M2 = true) (hst : (st.map fun v => v.category).sum ≤ 8) (hd : decode (mC M) pc = .ok (.invokestatic ix, 3)) (hM : PM l G M2 NT NT [a1] h K X) (kk : ∀ (v : Option Value) (h' : AH), K v h' → PW l G M R Fi NT (pc + 3) ls (v.toList ++ st) (cs.1 + (mO M2).cells, cs.2 + (mO M2).slots) h') (kx : ∀ (E : String) (h' : AH), X E h' → PX l G M R Fi NT pc ls st (cs.1 + (mO M2).cells, cs.2 + (mO M2).slots) E h') : PW l G M R Fi NT pc ls (a1 :: st) cs h := r_callS [a1] hlk hrm hst (Or.inr ⟨rfl, rfl⟩) hd hM kk kx
theorem q_callX2 {c i ix : Nat} {a1 a2 : Value} {M2 : MD} (hlk : CV (mY M).cls ix M2 2) (hW : World h) (hk : kd i c) (hc : c < 10) (hcy : clR c = (mY M2).cls) (hrm : rmOK R cs M2 = true) (hst : (st.map fun v => v.category).sum ≤ 8) (hd : decode (mC M) pc = .ok (.invokevirtual ix, 3)) (hM : PM l G M2 NT NT (.ref i :: [a1, a2]) h K X) (kk : ∀ (v : Option Value) (h' : AH), K v h' → PW l G M R Fi NT (pc + 3) ls (v.toList ++ st) (cs.1 + (mO M2).cells, cs.2 + (mO M2).slots) h') (kx : ∀ (E : String) (h' : AH), X E h' → PX l G M R Fi NT pc ls st (cs.1 + (mO M2).cells, cs.2 + (mO M2).slots) E h') : PW l G M R Fi NT pc ls (a2 :: a1 :: .ref i :: st) cs h := r_callV [a1, a2] hlk (hW.isK hk) hc hcy hrm hst (Or.inr ⟨rfl, rfl⟩) hd hM kk kx
theorem q_callXS2 {ix : Nat} {a1 a2 : Value} {M2 : MD} (hlk : CSt (mY M).cls ix M2 2) (hrm : rmOK R cs M2 = true) (hst : (st.map fun v => v.category).sum ≤ 8) (hd : decode (mC M) pc = .ok (.invokestatic ix, 3)) (hM : PM l G M2 NT NT [a1, a2] h K X) (kk : ∀ (v : Option Value) (h' : AH), K v h' → PW l G M R Fi NT (pc + 3) ls (v.toList ++ st) (cs.1 + (mO M2).cells, cs.2 + (mO M2).slots) h') (kx : ∀ (E : String) (h' : AH), X E h' → PX l G M R Fi NT pc ls st (cs.1 + (mO M2).cells, cs.2 + (mO M2).slots) E h') : PW l G M R Fi NT pc ls (a2 :: a1 :: st) cs h := r_callS [a1, a2] hlk hrm hst (Or.inr ⟨rfl, rfl⟩) hd hM kk kx
theorem q_callX3 {c i ix : Nat} {a1 a2 a3 : Value} {M2 : MD} (hlk : CV (mY M).cls ix M2 3) (hW : World h) (hk : kd i c) (hc : c < 10) (hcy : clR c = (mY M2).cls) (hrm : rmOK R cs M2 = true) (hst : (st.map fun v => v.category).sum ≤ 8) (hd : decode (mC M) pc = .ok (.invokevirtual ix, 3)) (hM : PM l G M2 NT NT (.ref i :: [a1, a2, a3]) h K X) (kk : ∀ (v : Option Value) (h' : AH), K v h' → PW l G M R Fi NT (pc + 3) ls (v.toList ++ st) (cs.1 + (mO M2).cells, cs.2 + (mO M2).slots) h') (kx : ∀ (E : String) (h' : AH), X E h' → PX l G M R Fi NT pc ls st (cs.1 + (mO M2).cells, cs.2 + (mO M2).slots) E h') : PW l G M R Fi NT pc ls (a3 :: a2 :: a1 :: .ref i :: st) cs h := r_callV [a1, a2, a3] hlk (hW.isK hk) hc hcy hrm hst (Or.inr ⟨rfl, rfl⟩) hd hM kk kx
theorem q_callXS3 {ix : Nat} {a1 a2 a3 : Value} {M2 : MD} (hlk : CSt (mY M).cls ix M2 3) (hrm : rmOK R cs M2 = true) (hst : (st.map fun v => v.category).sum ≤ 8) (hd : decode (mC M) pc = .ok (.invokestatic ix, 3)) (hM : PM l G M2 NT NT [a1, a2, a3] h K X) (kk : ∀ (v : Option Value) (h' : AH), K v h' → PW l G M R Fi NT (pc + 3) ls (v.toList ++ st) (cs.1 + (mO M2).cells, cs.2 + (mO M2).slots) h') (kx : ∀ (E : String) (h' : AH), X E h' → PX l G M R Fi NT pc ls st (cs.1 + (mO M2).cells, cs.2 + (mO M2).slots) E h') : PW l G M R Fi NT pc ls (a3 :: a2 :: a1 :: st) cs h := r_callS [a1, a2, a3] hlk hrm hst (Or.inr ⟨rfl, rfl⟩) hd hM kk kx
theorem q_callX4 {c i ix : Nat} {a1 a2 a3 a4 : Value} {M2 : MD} (hlk : CV (mY M).cls ix M2 4) (hW : World h) (hk : kd i c) (hc : c < 10) (hcy : clR c = (mY M2).cls) (hrm : rmOK R cs M2 = true) (hst : (st.map fun v => v.category).sum ≤ 8) (hd : decode (mC M) pc = .ok (.invokevirtual ix, 3)) (hM : PM l G M2 NT NT (.ref i :: [a1, a2, a3, a4]) h K X) (kk : ∀ (v : Option Value) (h' : AH), K v h' → PW l G M R Fi NT (pc + 3) ls (v.toList ++ st) (cs.1 + (mO M2).cells, cs.2 + (mO M2).slots) h') (kx : ∀ (E : String) (h' : AH), X E h' → PX l G M R Fi NT pc ls st (cs.1 + (mO M2).cells, cs.2 + (mO M2).slots) E h') : PW l G M R Fi NT pc ls (a4 :: a3 :: a2 :: a1 :: .ref i :: st) cs h := r_callV [a1, a2, a3, a4] hlk (hW.isK hk) hc hcy hrm hst (Or.inr ⟨rfl, rfl⟩) hd hM kk kx
theorem q_callXS4 {ix : Nat} {a1 a2 a3 a4 : Value} {M2 : MD} (hlk : CSt (mY M).cls ix M2 4) (hrm : rmOK R cs M2 = true) (hst : (st.map fun v => v.category).sum ≤ 8) (hd : decode (mC M) pc = .ok (.invokestatic ix, 3)) (hM : PM l G M2 NT NT [a1, a2, a3, a4] h K X) (kk : ∀ (v : Option Value) (h' : AH), K v h' → PW l G M R Fi NT (pc + 3) ls (v.toList ++ st) (cs.1 + (mO M2).cells, cs.2 + (mO M2).slots) h') (kx : ∀ (E : String) (h' : AH), X E h' → PX l G M R Fi NT pc ls st (cs.1 + (mO M2).cells, cs.2 + (mO M2).slots) E h') : PW l G M R Fi NT pc ls (a4 :: a3 :: a2 :: a1 :: st) cs h := r_callS [a1, a2, a3, a4] hlk hrm hst (Or.inr ⟨rfl, rfl⟩) hd hM kk kx
theorem q_callX5 {c i ix : Nat} {a1 a2 a3 a4 a5 : Value} {M2 : MD} (hlk : CV (mY M).cls ix M2 5) (hW : World h) (hk : kd i c) (hc : c < 10) (hcy : clR c = (mY M2).cls) (hrm : rmOK R cs M2 = true) (hst : (st.map fun v => v.category).sum ≤ 8) (hd : decode (mC M) pc = .ok (.invokevirtual ix, 3)) (hM : PM l G M2 NT NT (.ref i :: [a1, a2, a3, a4, a5]) h K X) (kk : ∀ (v : Option Value) (h' : AH), K v h' → PW l G M R Fi NT (pc + 3) ls (v.toList ++ st) (cs.1 + (mO M2).cells, cs.2 + (mO M2).slots) h') (kx : ∀ (E : String) (h' : AH), X E h' → PX l G M R Fi NT pc ls st (cs.1 + (mO M2).cells, cs.2 + (mO M2).slots) E h') : PW l G M R Fi NT pc ls (a5 :: a4 :: a3 :: a2 :: a1 :: .ref i :: st) cs h := r_callV [a1, a2, a3, a4, a5] hlk (hW.isK hk) hc hcy hrm hst (Or.inr ⟨rfl, rfl⟩) hd hM kk kx
theorem q_callXS5 {ix : Nat} {a1 a2 a3 a4 a5 : Value} {M2 : MD} (hlk : CSt (mY M).cls ix M2 5) (hrm : rmOK R cs M2 = true) (hst : (st.map fun v => v.category).sum ≤ 8) (hd : decode (mC M) pc = .ok (.invokestatic ix, 3)) (hM : PM l G M2 NT NT [a1, a2, a3, a4, a5] h K X) (kk : ∀ (v : Option Value) (h' : AH), K v h' → PW l G M R Fi NT (pc + 3) ls (v.toList ++ st) (cs.1 + (mO M2).cells, cs.2 + (mO M2).slots) h') (kx : ∀ (E : String) (h' : AH), X E h' → PX l G M R Fi NT pc ls st (cs.1 + (mO M2).cells, cs.2 + (mO M2).slots) E h') : PW l G M R Fi NT pc ls (a5 :: a4 :: a3 :: a2 :: a1 :: st) cs h := r_callS [a1, a2, a3, a4, a5] hlk hrm hst (Or.inr ⟨rfl, rfl⟩) hd hM kk kx
end QX
theorem kd_po {p : Nat} (hp : p < 4) : kd (14 + 12 * p) 3 := kk_14 (i := 8) (kk_6_0 (i := 7) kc_7).1 hp
theorem kd_bf {p : Nat} (hp : p < 10) : kd (173 + 55 * p) 6 := by
  have h : ∀ q, q < 10 → wK (173 + 55 * q) = 6 := by decide +kernel
  exact ⟨h p hp, by omega, by have : NT = 738 := rfl; omega⟩
theorem wsR {h : AH} {k v : Nat} (hW : World h) : World (sR h 172 k v) := by
  obtain ⟨a1, a2, b0, b1, b3, b4, b6, b7, b14, p1, p5, m1⟩ := hW
  have key : ∀ i, i ≠ 172 → aR (sR h 172 k v) i = aR h i := fun i hi => if_neg hi
  have nk : ∀ i c, kd i c → c ≠ 15 → i ≠ 172 := fun i c hk hc e => hc (by rw [← hk.1, e]; decide +kernel)
  refine ⟨a1, a2, fun i hk => ?_, fun i hk => ?_, fun i hk => ?_, fun i hk => ?_, fun i hk => ?_, fun i hk => ?_, fun i hk => ?_, ?_, ?_, ?_⟩
  · have e := key i (nk i _ hk (by decide)); have z := b0 i hk
    show aR (sR h 172 k v) i 0 = _ ∧ aR (sR h 172 k v) i 1 = _ ∧ aR (sR h 172 k v) i 2 = _ ∧ aR (sR h 172 k v) i 3 = _
    rw [e]; exact z
  · have e := key i (nk i _ hk (by decide)); have z := b1 i hk
    show aR (sR h 172 k v) i 0 = _ ∧ aR (sR h 172 k v) i 1 = _ ∧ aR (sR h 172 k v) i 2 = _ ∧ aR (sR h 172 k v) i 3 = _
    rw [e]; exact z
  · have e := key i (nk i _ hk (by decide)); have z := b3 i hk
    show aR (sR h 172 k v) i 0 = _ ∧ aR (sR h 172 k v) i 1 = _ ∧ aR (sR h 172 k v) i 2 = _ ∧ aR (sR h 172 k v) i 3 = _ ∧ aR (sR h 172 k v) i 5 = _
    rw [e]; exact z
  · have e := key i (nk i _ hk (by decide)); have z := b4 i hk
    show aR (sR h 172 k v) i 16 = _
    rw [e]; exact z
  · have e := key i (nk i _ hk (by decide)); have z := b6 i hk
    show aR (sR h 172 k v) i 0 = _ ∧ aR (sR h 172 k v) i 4 = _
    rw [e]; exact z
  · have e := key i (nk i _ hk (by decide)); have z := b7 i hk
    show aR (sR h 172 k v) i 9 = _
    rw [e]; exact z
  · intro p hp
    have e := key i (nk i _ hk (by decide)); have z := b14 i hk p hp
    show aR (sR h 172 k v) i p = _
    rw [e]; exact z
  · have e := key 1 (by decide)
    show aR (sR h 172 k v) 1 0 = _ ∧ aR (sR h 172 k v) 1 4 = _ ∧ aR (sR h 172 k v) 1 5 = _ ∧ aR (sR h 172 k v) 1 6 = _ ∧ aR (sR h 172 k v) 1 7 = _ ∧ aR (sR h 172 k v) 1 8 = _ ∧ aR (sR h 172 k v) 1 10 = _
    rw [e]; exact p1
  · have e := key 5 (by decide)
    show aR (sR h 172 k v) 5 0 = _
    rw [e]; exact p5
  · have e := key 723 (by decide)
    show aR (sR h 172 k v) 723 0 = _ ∧ aR (sR h 172 k v) 723 1 = _ ∧ aR (sR h 172 k v) 723 2 = _ ∧ aR (sR h 172 k v) 723 3 = _ ∧ aR (sR h 172 k v) 723 4 = _ ∧ aR (sR h 172 k v) 723 5 = _ ∧ aR (sR h 172 k v) 723 6 = _ ∧ aR (sR h 172 k v) 723 7 = _ ∧ aR (sR h 172 k v) 723 8 = _ ∧ aR (sR h 172 k v) 723 9 = _ ∧ aR (sR h 172 k v) 723 13 = _ ∧ aR (sR h 172 k v) 723 24 = _ ∧ aR (sR h 172 k v) 723 28 = _
    rw [e]; exact m1
section QB
variable {l : Launch} {G : GC} {M : MD} {R : Room} {Fi : CX → State → Prop} {pc : Nat} {ls : List (Option Value)} {st : List Value} {cs : Nat × Nat} {h : AH}
theorem sR_at {i k v j : Nat} : aR (sR h i k v) i j = if j = k then v else aR h i j := by
  unfold sR
  rw [cR_eq]
  rfl
theorem q_sald {k r : Nat} {x : Int32} (hW : World h) (hx : x = nI k) (hk : k < 10) (hr2 : aR h 172 k = r) (h0 : r ≠ 0) (hd : decode (mC M) pc = .ok (.aaload, 1)) (kk : PW l G M R Fi NT (pc + 1) ls (.ref r :: st) cs h) : PW l G M R Fi NT pc ls (.int x :: .ref 172 :: st) cs h :=
  r_sald (hW.isA kc_172) (by rw [hx]; exact vp_in_nI hk (by decide)) (by rw [hx, nI_clamp (by omega)]; exact hr2) h0 hd kk
theorem q_sast {k v : Nat} {x : Int32} (hW : World h) (hx : x = nI k) (hk : k < 10) (hv : kd v 6) (hd : decode (mC M) pc = .ok (.aastore, 1)) (kk : World (sR h 172 k v) → PW l G M R Fi NT (pc + 1) ls st cs (sR h 172 k v)) : PW l G M R Fi NT pc ls (.ref v :: .int x :: .ref 172 :: st) cs h :=
  r_sast (hW.isA kc_172) (by rw [hx]; exact vp_in_nI hk (by decide)) (hW.isK hv) hd (by rw [hx, nI_clamp (by omega)]; exact kk (wsR hW))
end QB
/-- which State each place of 'before' has -/
def BfR (h : AH) (f : Nat → Nat) : Prop := (∀ i, i < 10 → aR h 172 i = 173 + 55 * f i ∧ f i < 10) ∧ ∀ i j, i < 10 → j < 10 → f i = f j → i = j
/-- the changes that can be undone -/
def PsC (h : AH) (L : List Row) : Prop := aI h 1 11 = nI L.length ∧ L.length ≤ 10 ∧ ∃ f, BfR h f ∧ ∀ i, i < L.length → StR h (173 + 55 * f i) (L.getD i r00).1 (L.getD i r00).2
def LsOK (L : List Row) (m : Nat) : Prop := ∀ i, i < L.length → RoOK (L.getD i r00).1 (L.getD i r00).2 m
theorem LsOK.push {L : List Row} {r : Row} {m : Nat} (h : LsOK L m) (hr : RoOK r.1 r.2 m) (hl : L.length ≤ 10) : LsOK (pushL L r) m := fun i hi => by
  have hp := pushL_len (r := r) hl
  rw [pushL_at hl hi]
  by_cases e : i + 1 = (pushL L r).length
  · rw [if_pos e]; exact hr
  · rw [if_neg e]
    by_cases q : L.length = 10
    · rw [if_pos q] at hp ⊢
      exact h (i + 1) (by omega)
    · rw [if_neg q] at hp ⊢
      exact h i (by omega)
/-- only objects of the class have changed -/
def CF (h h' : AH) : Prop := World h' ∧ (∀ i, 722 < i → aI h' i = aI h i ∧ aJ h' i = aJ h i) ∧ aD h' = aD h
theorem CF.rf {h : AH} (hW : World h) : CF h h := ⟨hW, fun _ _ => ⟨rfl, rfl⟩, rfl⟩
theorem CF.tr {h h' h'' : AH} (a : CF h h') (b : CF h' h'') : CF h h'' := ⟨b.1, fun i hi => ⟨(b.2.1 i hi).1.trans (a.2.1 i hi).1, (b.2.1 i hi).2.trans (a.2.1 i hi).2⟩, b.2.2.trans a.2.2⟩
theorem CF.of {h h' : AH} {S : Nat → Prop} (hW : World h) (e : eqx h h' S) (hS : ∀ i, 722 < i → ¬ S i) : CF h h' := ⟨e.W hW, fun i hi => e.2.2 i (hS i hi), e.2.1⟩
theorem StR.cgA {h h' : AH} {b : Nat} {w : Nat → Int32} {v : Nat → Int64} (hs : StR h b w v) (e : ∀ i, b ≤ i → (i ≤ b + 6 ∨ ∃ p, p < nn (w 0) ∧ i ≤ b + 7 + 12 * p + 11) → aI h' i = aI h i ∧ aJ h' i = aJ h i) : StR h' b w v := by
  obtain ⟨s1, s2, s3, s4, s5⟩ := hs
  refine ⟨by rw [(e b (by omega) (Or.inl (by omega))).1]; exact s1, by rw [(e b (by omega) (Or.inl (by omega))).1]; exact s2, by rw [(e b (by omega) (Or.inl (by omega))).1]; exact s3, ?_, fun p hp => (s5 p hp).cg (fun j j1 j2 => (e j (by omega) (Or.inr ⟨p, hp, by omega⟩)).1) (e _ (by omega) (Or.inr ⟨p, hp, by omega⟩)).2⟩
  unfold EvW at s4 ⊢
  rw [(e (b + 2) (by omega) (Or.inl (by omega))).1, (e (b + 2 + 1) (by omega) (Or.inl (by omega))).1, (e (b + 2 + 2) (by omega) (Or.inl (by omega))).1, (e (b + 2 + 3) (by omega) (Or.inl (by omega))).1, (e (b + 2 + 4) (by omega) (Or.inl (by omega))).1]
  exact s4
set_option maxRecDepth 100000 in
set_option maxHeartbeats 4000000 in
theorem c_X8_existingPool {l9 : Launch} {G : GC} {h : AH} {r : Row} {m : Nat} {x : Int32} (hW : World h) (hs : StR h 7 r.1 r.2) (hO : RoOK r.1 r.2 m) : PM l9 G mX8_existingPool NT NT [.ref 1, .int x] h (fun v h' => h' = h ∧ okP r x = true ∧ ∃ p, p < 4 ∧ p < nn (r.1 0) ∧ x = nI p ∧ v = some (.ref (14 + 12 * p))) (fun E h' => h' = h ∧ okP r x = false ∧ E = eB) := by
  refine PM.of (by decide +kernel) rfl rfl (Nat.le_of_ble_eq_true rfl) (fun hst _ => ?_)
  refine r_iload_n dX8_existingPool_0 rfl ?_
  refine r_if_lt 15 dX8_existingPool_1 (by decide) (fun c_1 => ?_) (fun c_1 => ?_)
  · refine r_throwW ths_385_387 rfl rfl (Nat.le_of_ble_eq_true rfl) dX8_existingPool_15 dX8_existingPool_18 dX8_existingPool_19 dX8_existingPool_22 dX8_existingPool_25 ?_
    first
      | exact ⟨rfl, decide_eq_false (fun q => absurd c_1 (Int32.not_lt.mpr q.1)), rfl⟩
      | exact ⟨rfl, decide_eq_false (fun q => c_12 (by rw [hs.1]; exact q.2)), rfl⟩
  · refine r_iload_n dX8_existingPool_4 rfl ?_
    refine r_aload_n dX8_existingPool_5 rfl ?_
    refine q_getR fl_X8_37 hW kc_1 rfl (kl_8_6 hW) (by decide) dX8_existingPool_6 ?_
    refine q_getI fl_X8_83 hW kc_7 rfl dX8_existingPool_9 ?_
    refine r_icmp_lt 26 dX8_existingPool_12 (by decide) (fun c_12 => ?_) (fun c_12 => ?_)
    · rw [hs.1] at c_12
      have hok : okP r x = true := decide_eq_true ⟨Int32.not_lt.mp c_1, c_12⟩
      obtain ⟨p, p1, p2, p3⟩ := okP_t hO hok
      subst p3
      refine r_aload_n dX8_existingPool_26 rfl ?_
      refine q_getR fl_X8_37 hW kc_1 rfl (kl_8_6 hW) (by decide) dX8_existingPool_27 ?_
      refine q_getR fl_X8_164 hW kc_7 rfl (kl_6_0 hW kc_7) (Nat.succ_ne_zero _) dX8_existingPool_30 ?_
      refine r_iload_n dX8_existingPool_33 rfl ?_
      refine q_pald hW (kk_6_0 kc_7) rfl p1 dX8_existingPool_34 ?_
      refine r_aret dX8_existingPool_35 rfl ⟨Nat.zero_le _, Nat.zero_le _⟩ ?_
      exact ⟨rfl, hok, p, p1, p2, rfl, rfl⟩
    · refine r_throwW ths_385_387 rfl rfl (Nat.le_of_ble_eq_true rfl) dX8_existingPool_15 dX8_existingPool_18 dX8_existingPool_19 dX8_existingPool_22 dX8_existingPool_25 ?_
      first
        | exact ⟨rfl, decide_eq_false (fun q => absurd c_1 (Int32.not_lt.mpr q.1)), rfl⟩
        | exact ⟨rfl, decide_eq_false (fun q => c_12 (by rw [hs.1]; exact q.2)), rfl⟩

set_option maxRecDepth 100000 in
set_option maxHeartbeats 4000000 in
theorem c_X8_requireRange {l9 : Launch} {G : GC} {h : AH} {x a b : Int32} : PM l9 G mX8_requireRange NT NT [.int x, .int a, .int b] h (fun v h' => h' = h ∧ (a ≤ x ∧ x ≤ b) ∧ v = none) (fun E h' => h' = h ∧ ¬ (a ≤ x ∧ x ≤ b) ∧ E = eA) := by
  refine PM.of (by decide +kernel) rfl rfl (Nat.le_of_ble_eq_true rfl) (fun hst _ => ?_)
  refine r_iload_n dX8_requireRange_0 rfl ?_
  refine r_iload_n dX8_requireRange_1 rfl ?_
  refine r_icmp_lt 10 dX8_requireRange_2 (by decide) (fun c_2 => ?_) (fun c_2 => ?_)
  · refine r_throwW ths_105_390 rfl rfl (Nat.le_of_ble_eq_true rfl) dX8_requireRange_10 dX8_requireRange_13 dX8_requireRange_14 dX8_requireRange_17 dX8_requireRange_20 ?_
    first
      | exact ⟨rfl, fun q => absurd c_2 (Int32.not_lt.mpr q.1), rfl⟩
      | exact ⟨rfl, fun q => c_7 q.2, rfl⟩
  · refine r_iload_n dX8_requireRange_5 rfl ?_
    refine r_iload_n dX8_requireRange_6 rfl ?_
    refine r_icmp_le 21 dX8_requireRange_7 (by decide) (fun c_7 => ?_) (fun c_7 => ?_)
    · refine r_vret dX8_requireRange_21 rfl ⟨Nat.zero_le _, Nat.zero_le _⟩ ?_
      exact ⟨rfl, ⟨Int32.not_lt.mp c_2, c_7⟩, rfl⟩
    · refine r_throwW ths_105_390 rfl rfl (Nat.le_of_ble_eq_true rfl) dX8_requireRange_10 dX8_requireRange_13 dX8_requireRange_14 dX8_requireRange_17 dX8_requireRange_20 ?_
      first
        | exact ⟨rfl, fun q => absurd c_2 (Int32.not_lt.mpr q.1), rfl⟩
        | exact ⟨rfl, fun q => c_7 q.2, rfl⟩

set_option maxRecDepth 100000 in
set_option maxHeartbeats 4000000 in
theorem c_X8_remember {l9 : Launch} {G : GC} {h : AH} {r : Row} {m : Nat} {L : List Row} (hW : World h) (hs : StR h 7 r.1 r.2) (hO : RoOK r.1 r.2 m) (hL : PsC h L) (hLO : LsOK L m) : PM l9 G mX8_remember NT NT [.ref 1] h (fun v h' => v = none ∧ CF h h' ∧ PsC h' (pushL L r) ∧ (∀ i, i ≠ 1 → i ≤ 172 → aI h' i = aI h i ∧ aJ h' i = aJ h i) ∧ (∀ k, k ≠ 11 → aI h' 1 k = aI h 1 k)) noX := by
  refine PM.of (by decide +kernel) rfl rfl (Nat.le_of_ble_eq_true rfl) (fun hst _ => ?_)
  obtain ⟨l1, l2, f, ⟨f1, f2⟩, l3⟩ := hL
  have hpl := pushL_len (r := r) l2
  have hPO := LsOK.push hLO hO l2
  refine r_aload_n dX8_remember_0 rfl ?_
  refine q_getI fl_X8_76 hW kc_1 rfl dX8_remember_1 ?_
  have key : ∀ (H : AH) (n : Nat) (f' : Nat → Nat) (w w2 : Option Value), CF h H → n = (pushL L r).length - 1 → n < 10 → aI H 1 11 = nI n → (∀ k, k ≠ 11 → aI H 1 k = aI h 1 k) → (∀ i, i ≠ 1 → i ≤ 722 → aI H i = aI h i ∧ aJ H i = aJ h i) → BfR H f' → (∀ i, i < n → StR H (173 + 55 * f' i) ((pushL L r).getD i r00).1 ((pushL L r).getD i r00).2) → PW l9 G mX8_remember (mO mX8_remember) (fiM G mX8_remember NT (fun v h' => v = none ∧ CF h h' ∧ PsC h' (pushL L r) ∧ (∀ i, i ≠ 1 → i ≤ 172 → aI h' i = aI h i ∧ aJ h' i = aJ h i) ∧ (∀ k, k ≠ 11 → aI h' 1 k = aI h 1 k)) noX) NT 58 [some (.ref 1), w, w2] [] (0, 0) H := by
    intro H n f' w w2 hcf hn hn10 h11 hoth hob hbf hP
    have hW := hcf.1
    have hpos : 0 < (pushL L r).length := by rw [hpl]; split <;> omega
    have e0 : ∀ i, 7 ≤ i → i ≤ 61 → aI H i = aI h i ∧ aJ H i = aJ h i := fun i i1 i2 => hob i (by omega) (by omega)
    have hsH : StR H 7 r.1 r.2 := by
      obtain ⟨s1, s2, s3, s4, s5⟩ := hs
      have h04 : nn (r.1 0) ≤ 4 := hO.1.1.2.2
      refine ⟨by rw [(e0 7 (by omega) (by omega)).1]; exact s1, by rw [(e0 7 (by omega) (by omega)).1]; exact s2, by rw [(e0 7 (by omega) (by omega)).1]; exact s3, ?_, fun p hp => (s5 p hp).cg (fun j j1 j2 => (e0 j (by omega) (by omega)).1) (e0 _ (by omega) (by omega)).2⟩
      unfold EvW at s4 ⊢
      rw [(e0 (7 + 2) (by omega) (by omega)).1, (e0 (7 + 2 + 1) (by omega) (by omega)).1, (e0 (7 + 2 + 2) (by omega) (by omega)).1, (e0 (7 + 2 + 3) (by omega) (by omega)).1, (e0 (7 + 2 + 4) (by omega) (by omega)).1]
      exact s4
    refine r_aload_n dX8_remember_58 rfl ?_
    refine q_getR fl_X8_47 hW kc_1 rfl (kl_8_10 hW) (by decide) dX8_remember_59 ?_
    refine r_aload_n dX8_remember_62 rfl ?_
    refine q_getI fl_X8_76 hW kc_1 rfl dX8_remember_63 ?_
    rw [h11]
    refine q_sald hW rfl hn10 (hbf.1 n hn10).1 (by omega) dX8_remember_66 ?_
    refine r_aload_n dX8_remember_67 rfl ?_
    refine q_getR fl_X8_37 hW kc_1 rfl (kl_8_6 hW) (by decide) dX8_remember_68 ?_
    refine q_callV1 (cv_X6_copyFrom ml_X8_72) hW (kd_bf (hbf.1 n hn10).2) (by decide) rfl ⟨rfl, rfl⟩ rfl (Nat.le_of_ble_eq_true rfl) dX8_remember_71 (c_X6_copyFrom hW (kd_bf (hbf.1 n hn10).2) kc_7 (by have := (hbf.1 n hn10).2; omega) hsH hO.1.1 hO.f16) (fun v_71 h_71 q_71 => ?_)
    obtain ⟨rfl, e1, s1⟩ := q_71
    have hW := e1.W hW
    refine r_aload_n dX8_remember_74 rfl ?_
    refine r_dup dX8_remember_75 rfl ?_
    refine q_getI fl_X8_76 hW kc_1 rfl dX8_remember_76 ?_
    rw [show aI h_71 1 11 = nI n from by rw [e1.I (by unfold SB; omega)]; exact h11]
    refine r_iconst (1) dX8_remember_79 (by decide) ?_
    refine r_iadd dX8_remember_80 ?_
    rw [nI_1]
    refine q_putI fl_X8_76 hW kc_1 rfl rfl dX8_remember_81 ?_
    refine r_vret dX8_remember_84 rfl ⟨Nat.zero_le _, Nat.zero_le _⟩ ?_
    have eN : n + 1 = (pushL L r).length := by omega
    have hb9 := (hbf.1 n hn10).2
    have es : eqx h_71 (sI h_71 1 11 (nI (n + 1))) (fun i => i = 1) := eqx.rf.sI rfl
    refine ⟨rfl, hcf.tr ((CF.of hcf.1 e1 (fun i hi => by unfold SB; omega)).tr (CF.of hW es (fun i hi => by omega))), ⟨by rw [sI_s, eN], by rw [← eN]; omega, f', ⟨fun i hi => ?_, hbf.2⟩, fun i hi => ?_⟩, fun i i1 i2 => ?_, fun k hk => ?_⟩
    · have := hbf.1 i hi
      rw [show aR (sI h_71 1 11 (nI (n + 1))) = aR h_71 from rfl, e1.R]; exact this
    · by_cases e : i = n
      · rw [e, pushL_at l2 (by omega), if_pos (by omega)]
        exact s1.eqx es hO.1.1.2.2 (fun j j1 j2 => by omega)
      · have hin : i < n := by omega
        have hd : f' i ≠ f' n := fun q => e (hbf.2 i n (by omega) hn10 q)
        have hi9 := (hbf.1 i (by omega)).2
        have h4i := (hPO i (by omega)).1.1.2.2
        exact ((hP i hin).eqx e1 h4i (fun j j1 j2 => by unfold SB; omega)).eqx es h4i (fun j j1 j2 => by omega)
    · rw [sI_o i1, sIJ, e1.I (by unfold SB; omega), e1.J (by unfold SB; omega)]; exact hob i i1 (by omega)
    · rw [sI_k hk, e1.I (by unfold SB; omega)]; exact hoth k hk
  
  
  rw [l1]
  refine r_bipush (10) dX8_remember_4 (by decide) ?_
  refine r_icmp_lt 58 dX8_remember_6 (by decide) (fun c_6 => ?_) (fun c_6 => ?_)
  · first
      | (have hlt : L.length ≠ 10 := fun q => absurd c_6 (by rw [q]; decide)
         rw [if_neg hlt] at hpl
         refine key h L.length f none none (CF.rf hW) (by omega) (by omega) l1 (fun _ _ => rfl) (fun _ _ _ => ⟨rfl, rfl⟩) ⟨f1, f2⟩ (fun i hi => ?_)
         rw [pushL_at l2 (by omega), if_neg (by omega), if_neg hlt]
         exact l3 i hi)
  · refine r_aload_n dX8_remember_9 rfl ?_
    refine q_getR fl_X8_47 hW kc_1 rfl (kl_8_10 hW) (by decide) dX8_remember_10 ?_
    refine r_iconst (0) dX8_remember_13 (by decide) ?_
    refine q_sald hW kn_0 (by decide) (f1 0 (by decide)).1 (by omega) dX8_remember_14 ?_
    refine r_astore_n (ls2 := [some _, _, _]) dX8_remember_15 (by decide) rfl ?_
    refine r_iconst (1) dX8_remember_16 (by decide) ?_
    refine r_istore_n (ls2 := [_, some _, _]) dX8_remember_17 (by decide) rfl ?_
    have h10 : L.length = 10 := by
      by_cases q : L.length < 10
      · exact absurd ((nI_ltI (b := 10) (by omega) (by omega)).mpr q) c_6
      · omega
    rw [if_pos h10] at hpl
    refine loopN (P := fun i => ∀ H : AH, 1 ≤ i → i ≤ 10 → World H → (∀ j, aI H j = aI h j ∧ aJ H j = aJ h j) → aD H = aD h → (∀ j, j < 10 → aR H 172 j = 173 + 55 * (if j + 1 < i then f (j + 1) else f j)) → PW l9 G mX8_remember _ _ NT 18 [some (.ref 1), some (.ref (173 + 55 * f 0)), some (.int (nI i))] [] (0, 0) H) 10 (fun i ih H hi1 hi hW ho hD hr => ?_) 1 h (by decide) (by decide) hW (fun _ => ⟨rfl, rfl⟩) rfl (fun j hj => by rw [if_neg (by omega)]; exact (f1 j hj).1)
    refine r_iload_n dX8_remember_18 rfl ?_
    refine r_bipush (10) dX8_remember_19 (by decide) ?_
    refine r_icmp_ge 44 dX8_remember_21 (by decide) (fun c_21 => ?_) (fun c_21 => ?_)
    · have hge : 10 = i := by have := (nI_leI (a := 10) (by omega) (by omega)).mp c_21; omega
      subst hge
      refine r_aload_n dX8_remember_44 rfl ?_
      refine q_getR fl_X8_47 hW kc_1 rfl (kl_8_10 hW) (by decide) dX8_remember_45 ?_
      refine r_bipush (9) dX8_remember_48 (by decide) ?_
      refine r_aload_n dX8_remember_50 rfl ?_
      refine q_sast hW kn_9 (by decide) (kd_bf (f1 0 (by decide)).2) dX8_remember_51 (fun hW => ?_)
      refine r_aload_n dX8_remember_52 rfl ?_
      refine r_bipush (9) dX8_remember_53 (by decide) ?_
      refine q_putI fl_X8_76 hW kc_1 rfl rfl dX8_remember_55 ?_
      have hbase : ∀ j, j < 10 → aR (sR H 172 9 (173 + 55 * f 0)) 172 j = 173 + 55 * (if j = 9 then f 0 else f (j + 1)) := fun j hj => by
        rw [sR_at]
        by_cases e : j = 9
        · rw [if_pos e, if_pos e]
        · rw [if_neg e, if_neg e, hr j hj, if_pos (by omega)]
      have es : eqx (sR H 172 9 (173 + 55 * f 0)) (sI (sR H 172 9 (173 + 55 * f 0)) 1 11 9) (fun i => i = 1) := eqx.rf.sI rfl
      refine key _ 9 (fun j => if j = 9 then f 0 else f (j + 1)) _ _ ⟨es.W hW, fun i hi => ⟨by rw [sI_o (by omega)]; exact (ho i).1, (ho i).2⟩, hD⟩ (by omega) (by decide) sI_s (fun k hk => by rw [sI_k hk]; exact congrFun (ho 1).1 k) (fun i i1 i2 => ⟨by rw [sI_o i1]; exact (ho i).1, (ho i).2⟩) ⟨fun i hi => ⟨?_, ?_⟩, fun i j hi hj q => ?_⟩ (fun i hi => ?_)
      · rw [show aR (sI (sR H 172 9 (173 + 55 * f 0)) 1 11 9) = aR (sR H 172 9 (173 + 55 * f 0)) from rfl]; exact hbase i hi
      · show (if i = 9 then f 0 else f (i + 1)) < 10
        split
        · exact (f1 0 (by decide)).2
        · exact (f1 (i + 1) (by omega)).2
      · dsimp only at q
        by_cases e1 : i = 9
        · by_cases e2 : j = 9
          · omega
          · rw [if_pos e1, if_neg e2] at q
            have := f2 _ _ (by decide) (by omega) q
            omega
        · by_cases e2 : j = 9
          · rw [if_neg e1, if_pos e2] at q
            have := f2 _ _ (by omega) (by decide) q
            omega
          · rw [if_neg e1, if_neg e2] at q
            have := f2 _ _ (by omega) (by omega) q
            omega
      · rw [pushL_at l2 (by omega), if_neg (by omega), if_pos h10, if_neg (by omega)]
        refine (l3 (i + 1) (by omega)).cgA (fun j j1 j2 => ⟨?_, (ho j).2⟩)
        rw [sI_o (by omega)]; exact (ho j).1
    · have hlt : i < 10 := (nI_ltI (b := 10) (by omega) (by omega)).mp (i_lt.mp c_21)
      have hri := hr i hlt
      rw [if_neg (by omega)] at hri
      refine r_aload_n dX8_remember_24 rfl ?_
      refine q_getR fl_X8_47 hW kc_1 rfl (kl_8_10 hW) (by decide) dX8_remember_25 ?_
      refine r_iload_n dX8_remember_28 rfl ?_
      refine r_iconst (1) dX8_remember_29 (by decide) ?_
      refine r_isub dX8_remember_30 ?_
      refine r_aload_n dX8_remember_31 rfl ?_
      refine q_getR fl_X8_47 hW kc_1 rfl (kl_8_10 hW) (by decide) dX8_remember_32 ?_
      refine r_iload_n dX8_remember_35 rfl ?_
      refine q_sald hW rfl hlt hri (by omega) dX8_remember_36 ?_
      refine q_sast hW (nsub (b := 1) rfl rfl (by omega)) (by omega) (kd_bf (f1 i hlt).2) dX8_remember_37 (fun hW => ?_)
      refine r_iinc (1) (by decide) (ls2 := [_, some _, _]) dX8_remember_38 rfl (by decide) rfl ?_
      refine r_goto 18 dX8_remember_41 (by decide) ?_
      rw [nI_1]
      refine ih hlt _ (by omega) hlt hW ho hD (fun j hj => ?_)
      rw [sR_at]
      by_cases e : j = i - 1
      · rw [if_pos e, if_pos (by omega), e, show i - 1 + 1 = i from by omega]
      · rw [if_neg e, hr j hj]
        by_cases q : j + 1 < i
        · rw [if_pos q, if_pos (by omega)]
        · rw [if_neg q, if_neg (by omega)]
