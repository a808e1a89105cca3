-- the class: errors with a policy, the best of some
theorem i64_ltne {x y : Int64} (h : ¬ x > y) (h2 : ¬ x = y) : x < y := by
  have h3 : x ≤ y := Int64.not_lt.mp h
  rw [Int64.lt_iff_toInt_lt]
  rw [Int64.le_iff_toInt_le] at h3
  have : ¬ x.toInt = y.toInt := fun q => h2 (Int64.toInt_inj.mp q)
  omega
def TQ (r : Row) (x : Int32) (f : Nat → Int32) (n : Nat) : Tr := trT (nn x) (nn (r.1 1)) n (stQ (T0 r (nn x)) f)
def bsF (cost : Nat → Int64) (val : Nat → Int32) : Nat → Int32 × Int64
  | 0 => (-1, 0)
  | n + 1 => if (bsF cost val n).1 = -1 ∨ cost n < (bsF cost val n).2 then (val n, cost n) else bsF cost val n
def coQ (r : Row) (x : Int32) (f : Nat → Int32) (n : Nat) : Int64 := (TQ r x f n).2 2 - gP r x 2
theorem tr_st' {h : AH} {p t : Nat} {s : Tr} {x : Int32} {k : Nat} (hi : TrI h p t s) (hk : k < 16) (h6 : k ≠ 6) (y24 : nn (qF s.1 24) ≤ 24) : TrI (sI h (62 + 7 + 12 * p + 1) k x) p t (stQ s (upd (qF s.1) k x)) := hi.st (eqx.rf.sI (by unfold btw; omega)) (hi.po.set hk h6 y24)
theorem lg_lt {x y : Int64} : lg_cmp x y < 0 ↔ x < y := by
  unfold lg_cmp
  split
  · next h => exact ⟨fun q => absurd q (by decide), fun q => absurd q (by rw [Int64.not_lt]; exact Int64.le_of_lt h)⟩
  · split
    · next h h2 => exact ⟨fun q => absurd q (by decide), fun q => absurd q (by rw [h2]; exact Int64.lt_irrefl)⟩
    · next h h2 => exact ⟨fun _ => i64_ltne h h2, fun _ => by decide⟩
theorem kn_35 : (35 : Int32) = nI 35 := rfl
theorem kn_40 : (40 : Int32) = nI 40 := rfl
theorem kn_50 : (50 : Int32) = nI 50 := rfl
theorem kn_80 : (80 : Int32) = nI 80 := rfl
theorem kn_90 : (90 : Int32) = nI 90 := rfl
theorem kn_110 : (110 : Int32) = nI 110 := rfl
set_option maxRecDepth 100000 in
set_option maxHeartbeats 1600000 in
theorem c_X8_errorsWith {l9 : Launch} {G : GC} {h : AH} {r : Row} {m : Nat} {x y z : Int32} (hW : World h) (hs : StR h 7 r.1 r.2) (hO : RoOK r.1 r.2 m) (hb : m + 300 < 2 ^ 23) : PM l9 G mX8_errorsWith NT NT [.ref 1, .int x, .int y, .int z] h (fun v h' => cd2 (okP r x) (rgB 0 2 y && rgB 1 300 z) = 0 ∧ v = some (.long ((TQ r x (tpS (fP r x) y) (nn z)).2 3 - gP r x 3)) ∧ eqx h h' (SB 62)) (fun E h' => thr [eB, eA] (cd2 (okP r x) (rgB 0 2 y && rgB 1 300 z)) E ∧ h' = h) := by
  refine PM.of (by decide +kernel) rfl rfl (Nat.le_of_ble_eq_true rfl) (fun hst _ => ?_)
  refine r_aload_n dX8_errorsWith_0 rfl ?_
  refine r_iload_n dX8_errorsWith_1 rfl ?_
  refine q_callX1 (cv_X8_existingPool ml_X8_112) hW kc_1 (by decide) rfl rfl (Nat.le_of_ble_eq_true rfl) dX8_errorsWith_2 (c_X8_existingPool hW hs hO) (fun v_2 h_2 q_2 => ?_) (fun E_2 h_2 q_2 => ?_)
  · obtain ⟨z9, ko, p0, p00, p01, -, rfl⟩ := q_2
    replace z9 := z9.symm
    subst z9
    refine r_pop dX8_errorsWith_5 rfl ?_
    refine r_iload_n dX8_errorsWith_6 rfl ?_
    refine r_iconst (0) dX8_errorsWith_7 (by decide) ?_
    refine r_iconst (2) dX8_errorsWith_8 (by decide) ?_
    refine q_callXS3 (cs_X8_requireRange ml_X8_116) rfl (Nat.le_of_ble_eq_true rfl) dX8_errorsWith_9 c_X8_requireRange (fun v_9 h_9 q_9 => ?_) (fun E_9 h_9 q_9 => ?_)
    · obtain ⟨z9, kr, rfl⟩ := q_9
      replace z9 := z9.symm
      subst z9
      have kr9 : rgB 0 2 y = true := decide_eq_true kr
      refine r_aload_n dX8_errorsWith_12 rfl ?_
      refine r_iload_n dX8_errorsWith_13 rfl ?_
      refine r_iload_n dX8_errorsWith_14 rfl ?_
      refine q_callX2 (cv_X8_startTrial ml_X8_345) hW kc_1 (by decide) rfl rfl (Nat.le_of_ble_eq_true rfl) dX8_errorsWith_15 (c_X8_startTrial hW hs hO) (fun v_15 h_15 q_15 => ?_) (fun E_15 h_15 q_15 => ?_)
      · obtain ⟨hcd, ⟨n, n1, n2, hy⟩, p, hp, p2, hx, rfl, e0, s0⟩ := q_15
        have hW := e0.W hW
        have ex : nn x = p := by rw [hx]; exact nn_I (by omega)
        have ey : nn z = n := by rw [hy]; exact nn_I (by omega)
        have hI0 : TrI h_15 p (nn (r.1 1)) (T0 r p) := tr_st s0 hO p2
        have hO0 : TrO (nn (r.1 1)) (T0 r p) := hO.2 p p2
        have hE3 := hO.1.2.2.2.2.2
        have hT1 := hO.1.2.1.2.2
        have hE0 : qE (T0 r p).1 < 2 ^ 28 := by show nn (r.1 3) < _; omega
        have ht0 : nn (r.1 1) < 2 ^ 27 := by omega
        have kz : rgB 1 300 z = true := by
          cases hz : rgB 1 300 z with
          | true => rfl
          | false => rw [ko, hz] at hcd; exact absurd hcd (by decide)
        have hOp := hO.2 p p2
        have hyr : rg y 0 2 := ⟨by obtain ⟨j, j1, j2, jy⟩ := rgB_t (a := 0) (b := 2) kr9 (by decide) (by decide); rw [jy, nn_I (by omega)], Nat.zero_le _, by obtain ⟨j, j1, j2, jy⟩ := rgB_t (a := 0) (b := 2) kr9 (by decide) (by decide); rw [jy, nn_I (by omega)]; exact j2⟩
        refine r_astore (ls2 := [_, _, _, some _, _, _, _]) dX8_errorsWith_18 (by decide) rfl ?_
        refine r_aload dX8_errorsWith_20 rfl ?_
        refine q_getR fl_X8_143 hW (kd_dr hp) rfl (kl_3_0 hW (kd_dr hp)) (Nat.succ_ne_zero _) dX8_errorsWith_22 ?_
        refine r_iload_n dX8_errorsWith_25 rfl ?_
        refine q_callV1 (cv_X4_tryPolicy ml_X8_365) hW (kk_3_0 (kd_dr hp)) (by decide) rfl ⟨rfl, rfl⟩ rfl (Nat.le_of_ble_eq_true rfl) dX8_errorsWith_26 (c_X4_tryPolicy hW (kk_3_0 (kd_dr hp)) hI0.po.1) (fun v_26 h_26 q_26 => ?_)
        obtain ⟨rfl, e9, s9⟩ := q_26
        have hW := e9.W hW
        have hI1 : TrI h_26 p (nn (r.1 1)) (stQ (T0 r p) (tpS (getP r.1 p) y)) := hI0.st (e9.wk (fun i q => by unfold btw at *; omega)) (po_stg hI0.po e9 s9 (fun k hk => tpS_k (by omega) (by omega)) (tpS_k (by decide) (by decide)))
        have hO1 : TrO (nn (r.1 1)) (stQ (T0 r p) (tpS (getP r.1 p) y)) := hOp.tp hyr
        have e8 : eqx h_15 h_26 (SB 62) := e9.wk (fun i q => by unfold btw at q; (try unfold SB); omega)
        refine r_aload dX8_errorsWith_29 rfl ?_
        refine q_getR fl_X8_208 hW (kd_dr hp) rfl (kl_3_2 hW (kd_dr hp)) (Nat.succ_ne_zero _) dX8_errorsWith_31 ?_
        refine q_getJ fl_X8_217 hW (kk_3_2 (kd_dr hp)) rfl dX8_errorsWith_34 ?_
        rw [show aJ h_26 (62 + 1 + 6 + 12 * p + 8) 4 = gP r x 3 from by unfold gP; rw [ex]; exact hI1.tl (by decide)]
        refine r_lstore (ls2 := [_, _, _, _, some _, _, none]) dX8_errorsWith_37 (by decide) rfl ?_
        refine r_aload_n dX8_errorsWith_39 rfl ?_
        refine r_iload_n dX8_errorsWith_40 rfl ?_
        refine r_iload_n dX8_errorsWith_41 rfl ?_
        refine q_callV2 (cv_X8_tryTicks ml_X8_349) hW kc_1 (by decide) rfl ⟨rfl, rfl⟩ rfl (Nat.le_of_ble_eq_true rfl) dX8_errorsWith_42 (c_X8_tryTicks hW hp hI1 hO1 hx hy n2 ht0 hE0) (fun v_42 h_42 q_42 => ?_)
        obtain ⟨rfl, e1, hI2⟩ := q_42
        have hW := e1.W hW
        refine r_aload dX8_errorsWith_45 rfl ?_
        refine q_getR fl_X8_208 hW (kd_dr hp) rfl (kl_3_2 hW (kd_dr hp)) (Nat.succ_ne_zero _) dX8_errorsWith_47 ?_
        refine q_getJ fl_X8_217 hW (kk_3_2 (kd_dr hp)) rfl dX8_errorsWith_50 ?_
        rw [show aJ h_42 (62 + 1 + 6 + 12 * p + 8) 4 = (TQ r x (tpS (fP r x) y) (nn z)).2 3 from by unfold TQ fP; rw [ex, ey]; exact hI2.tl (by decide)]
        refine r_lload dX8_errorsWith_53 rfl ?_
        refine r_lsub dX8_errorsWith_55 ?_
        refine r_lret dX8_errorsWith_56 rfl ⟨Nat.le_of_ble_eq_true rfl, Nat.le_of_ble_eq_true rfl⟩ ?_
        exact ⟨cd2_t ko (and_t kr9 kz), rfl, e0.tr (e8.tr e1)⟩
      · refine PX.out rfl ⟨Nat.le_of_ble_eq_true rfl, Nat.le_of_ble_eq_true rfl⟩ ?_
        obtain ⟨kx, rfl⟩ := q_15
        cases hz : rgB 1 300 z with
        | true => rw [ko, hz] at kx; exact absurd rfl kx.1
        | false =>
          rw [ko, hz] at kx
          exact ⟨by rw [ko, Bool.and_false]; exact kx, rfl⟩
    · refine PX.out rfl ⟨Nat.le_of_ble_eq_true rfl, Nat.le_of_ble_eq_true rfl⟩ ?_
      obtain ⟨rfl, kx, rfl⟩ := q_9
      exact ⟨thr_22 ko (and_f1 (decide_eq_false kx)), rfl⟩
  · refine PX.out rfl ⟨Nat.le_of_ble_eq_true rfl, Nat.le_of_ble_eq_true rfl⟩ ?_
    obtain ⟨rfl, kx, rfl⟩ := q_2
    exact ⟨thr_21 kx, rfl⟩
