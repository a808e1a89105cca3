-- the class: questions of one pool
theorem thr_1 {a : Bool} {e : String} {L : List String} (h : a = false) : thr (e :: L) (cd1 a) e := by rw [h]; exact ⟨(by decide : (1 : Nat) ≠ 0), rfl⟩
theorem thr_21 {a b : Bool} {e : String} {L : List String} (h : a = false) : thr (e :: L) (cd2 a b) e := by rw [h]; exact ⟨(by decide : (1 : Nat) ≠ 0), rfl⟩
theorem thr_22 {a b : Bool} {e e2 : String} {L : List String} (h : a = true) (h2 : b = false) : thr (e :: e2 :: L) (cd2 a b) e2 := by rw [h, h2]; exact ⟨by decide, rfl⟩
theorem cd1_t {a : Bool} (h : a = true) : cd1 a = 0 := by rw [h]; rfl
theorem cd2_t {a b : Bool} (h : a = true) (h2 : b = true) : cd2 a b = 0 := by rw [h, h2]; rfl
theorem lcmp0 {x : Int64} : lg_cmp x 0 = 0 ↔ x = 0 := by
  unfold lg_cmp
  split
  · next h => exact ⟨fun q => absurd q (by decide), fun q => by rw [q] at h; exact absurd h (by decide)⟩
  · split
    · next h => exact ⟨fun _ => h, fun _ => rfl⟩
    · next h => exact ⟨fun q => absurd q (by decide), fun q => absurd q h⟩
theorem some_long {x y : Int64} (h : x = y) : (some (Value.long x) : Option Value) = some (.long y) := by rw [h]
theorem some_double {x y : UInt64} (h : x = y) : (some (Value.double x) : Option Value) = some (.double y) := by rw [h]
theorem some_float {x y : UInt32} (h : x = y) : (some (Value.float x) : Option Value) = some (.float y) := by rw [h]
def fP (r : Row) (x : Int32) : Nat → Int32 := getP r.1 (nn x)
def gP (r : Row) (x : Int32) : Nat → Int64 := getG r.2 (nn x)
def tP (r : Row) : Nat := nn (r.1 1)
def mErr (f : Nat → Int32) (g : Nat → Int64) : UInt64 := if f 28 = 0 then 0 else FP.ddiv (FP.l2d (g 3)) (FP.i2d (f 28))
def nxD (f : Nat → Int32) : Int32 := match ng (mbs f) (f 9) (mbs f).length with | none => -1 | some k => f (100 + 4 * k)
def clL (f : Nat → Int32) (t z : Int32) : Int32 := imx 0 ((if z = 0 then f 22 + f 13 else f 21 + f 12) - t)
def msS (g : Nat → Int64) : UInt32 := if g 0 + g 1 = 0 then 0 else FP.fdiv (FP.l2f (g 1)) (FP.l2f (g 0 + g 1))
def usD (g : Nat → Int64) : UInt64 := if g 5 = 0 then 0 else FP.ddiv (FP.l2d (g 0)) (FP.l2d (g 5))
def mAge (f : Nat → Int32) (t : Int32) : UInt64 := if f 23 = 0 then 0 else FP.ddiv (FP.l2d (sAge (mbs f) t (mbs f).length)) (FP.i2d (f 23))
set_option maxRecDepth 100000 in
set_option maxHeartbeats 4000000 in
theorem c_X8_measure {l9 : Launch} {G : GC} {h : AH} {r : Row} {m : Nat} {x : Int32} (hW : World h) (hs : StR h 7 r.1 r.2) (hO : RoOK r.1 r.2 m) : PM l9 G mX8_measure NT NT [.ref 1, .int x] h (fun v h' => cd1 (okP r x) = 0 ∧ v = some (.int (mzF (fP r x) (tP r) (r.1 1))) ∧ h' = h) (fun E h' => thr [eB] (cd1 (okP r x)) E ∧ h' = h) := by
  refine PM.of (by decide +kernel) rfl rfl (Nat.le_of_ble_eq_true rfl) (fun hst _ => ?_)
  refine r_aload_n dX8_measure_0 rfl ?_
  refine r_iload_n dX8_measure_1 rfl ?_
  refine q_callX1 (cv_X8_existingPool ml_X8_112) hW kc_1 (by decide) rfl rfl (Nat.le_of_ble_eq_true rfl) dX8_measure_2 (c_X8_existingPool hW hs hO) (fun v_2 h_2 q_2 => ?_) (fun E_2 h_2 q_2 => ?_)
  · obtain ⟨z9, ko, p, p1, p2, rfl, rfl⟩ := q_2
    replace z9 := z9.symm
    subst z9
    have ex : nn (nI p) = p := nn_I (by omega)
    have hOp := hO.2 p p2
    have hpo : PoR h (14 + 12 * p) (nn (r.1 1)) (nn (r.1 1)) (getP r.1 p) (getG r.2 p) := hs.po p2
    have hpo9 := hpo
    obtain ⟨zs, zm, zt, ⟨zd, zc⟩, zf, z20, z18, z19, z17, z21, z22, z16⟩ := hpo
    have zd0 : DemR h (14 + 12 * p) (nn (r.1 1)) (getP r.1 p) := ⟨zd, zc⟩
    have yc := hOp.2.2.2.2.1.2.1
    refine r_aload_n dX8_measure_5 rfl ?_
    refine q_getR fl_X8_37 hW kc_1 rfl (kl_8_6 hW) (by decide) dX8_measure_6 ?_
    refine q_getI fl_X8_86 hW kc_7 rfl dX8_measure_9 ?_
    rw [hs.2.1]
    refine q_callV1 (cv_X3_percentUsed ml_X8_199) hW (kd_po p1) (by decide) rfl ⟨rfl, rfl⟩ rfl (Nat.le_of_ble_eq_true rfl) dX8_measure_12 (c_X3_percentUsed hW (kd_po p1) hpo9 hOp) (fun v_12 h_12 q_12 => ?_)
    obtain ⟨rfl, z9⟩ := q_12
    replace z9 := z9.symm
    subst z9
    refine r_iret dX8_measure_15 rfl ⟨Nat.le_of_ble_eq_true rfl, Nat.le_of_ble_eq_true rfl⟩ ?_
    refine ⟨cd1_t ko, ?_, rfl⟩
    try unfold fP
    try unfold gP
    try unfold tP
    rw [ex]
    all_goals rfl
  · refine PX.out rfl ⟨Nat.le_of_ble_eq_true rfl, Nat.le_of_ble_eq_true rfl⟩ ?_
    obtain ⟨rfl, kx, rfl⟩ := q_2
    exact ⟨thr_1 kx, rfl⟩

set_option maxRecDepth 100000 in
set_option maxHeartbeats 4000000 in
theorem c_X8_forecast {l9 : Launch} {G : GC} {h : AH} {r : Row} {m : Nat} {x : Int32} (hW : World h) (hs : StR h 7 r.1 r.2) (hO : RoOK r.1 r.2 m) : PM l9 G mX8_forecast NT NT [.ref 1, .int x] h (fun v h' => cd1 (okP r x) = 0 ∧ v = some (.int ((fP r x) 18)) ∧ h' = h) (fun E h' => thr [eB] (cd1 (okP r x)) E ∧ h' = h) := by
  refine PM.of (by decide +kernel) rfl rfl (Nat.le_of_ble_eq_true rfl) (fun hst _ => ?_)
  refine r_aload_n dX8_forecast_0 rfl ?_
  refine r_iload_n dX8_forecast_1 rfl ?_
  refine q_callX1 (cv_X8_existingPool ml_X8_112) hW kc_1 (by decide) rfl rfl (Nat.le_of_ble_eq_true rfl) dX8_forecast_2 (c_X8_existingPool hW hs hO) (fun v_2 h_2 q_2 => ?_) (fun E_2 h_2 q_2 => ?_)
  · obtain ⟨z9, ko, p, p1, p2, rfl, rfl⟩ := q_2
    replace z9 := z9.symm
    subst z9
    have ex : nn (nI p) = p := nn_I (by omega)
    have hOp := hO.2 p p2
    have hpo : PoR h (14 + 12 * p) (nn (r.1 1)) (nn (r.1 1)) (getP r.1 p) (getG r.2 p) := hs.po p2
    have hpo9 := hpo
    obtain ⟨zs, zm, zt, ⟨zd, zc⟩, zf, z20, z18, z19, z17, z21, z22, z16⟩ := hpo
    have zd0 : DemR h (14 + 12 * p) (nn (r.1 1)) (getP r.1 p) := ⟨zd, zc⟩
    have yc := hOp.2.2.2.2.1.2.1
    refine q_getI fl_X8_202 hW (kd_po p1) rfl dX8_forecast_5 ?_
    rw [z18]
    refine r_iret dX8_forecast_8 rfl ⟨Nat.le_of_ble_eq_true rfl, Nat.le_of_ble_eq_true rfl⟩ ?_
    refine ⟨cd1_t ko, ?_, rfl⟩
    try unfold fP
    try unfold gP
    try unfold tP
    rw [ex]
    all_goals rfl
  · refine PX.out rfl ⟨Nat.le_of_ble_eq_true rfl, Nat.le_of_ble_eq_true rfl⟩ ?_
    obtain ⟨rfl, kx, rfl⟩ := q_2
    exact ⟨thr_1 kx, rfl⟩

set_option maxRecDepth 100000 in
set_option maxHeartbeats 4000000 in
theorem c_X8_wanted {l9 : Launch} {G : GC} {h : AH} {r : Row} {m : Nat} {x : Int32} (hW : World h) (hs : StR h 7 r.1 r.2) (hO : RoOK r.1 r.2 m) : PM l9 G mX8_wanted NT NT [.ref 1, .int x] h (fun v h' => cd1 (okP r x) = 0 ∧ v = some (.int ((fP r x) 19)) ∧ h' = h) (fun E h' => thr [eB] (cd1 (okP r x)) E ∧ h' = h) := by
  refine PM.of (by decide +kernel) rfl rfl (Nat.le_of_ble_eq_true rfl) (fun hst _ => ?_)
  refine r_aload_n dX8_wanted_0 rfl ?_
  refine r_iload_n dX8_wanted_1 rfl ?_
  refine q_callX1 (cv_X8_existingPool ml_X8_112) hW kc_1 (by decide) rfl rfl (Nat.le_of_ble_eq_true rfl) dX8_wanted_2 (c_X8_existingPool hW hs hO) (fun v_2 h_2 q_2 => ?_) (fun E_2 h_2 q_2 => ?_)
  · obtain ⟨z9, ko, p, p1, p2, rfl, rfl⟩ := q_2
    replace z9 := z9.symm
    subst z9
    have ex : nn (nI p) = p := nn_I (by omega)
    have hOp := hO.2 p p2
    have hpo : PoR h (14 + 12 * p) (nn (r.1 1)) (nn (r.1 1)) (getP r.1 p) (getG r.2 p) := hs.po p2
    have hpo9 := hpo
    obtain ⟨zs, zm, zt, ⟨zd, zc⟩, zf, z20, z18, z19, z17, z21, z22, z16⟩ := hpo
    have zd0 : DemR h (14 + 12 * p) (nn (r.1 1)) (getP r.1 p) := ⟨zd, zc⟩
    have yc := hOp.2.2.2.2.1.2.1
    refine q_getI fl_X8_205 hW (kd_po p1) rfl dX8_wanted_5 ?_
    rw [z19]
    refine r_iret dX8_wanted_8 rfl ⟨Nat.le_of_ble_eq_true rfl, Nat.le_of_ble_eq_true rfl⟩ ?_
    refine ⟨cd1_t ko, ?_, rfl⟩
    try unfold fP
    try unfold gP
    try unfold tP
    rw [ex]
    all_goals rfl
  · refine PX.out rfl ⟨Nat.le_of_ble_eq_true rfl, Nat.le_of_ble_eq_true rfl⟩ ?_
    obtain ⟨rfl, kx, rfl⟩ := q_2
    exact ⟨thr_1 kx, rfl⟩

theorem some_i {x y : Int32} (h : x = y) : (some (Value.int x) : Option Value) = some (.int y) := by rw [h]
set_option maxRecDepth 100000 in
set_option maxHeartbeats 4000000 in
theorem c_X8_meanError {l9 : Launch} {G : GC} {h : AH} {r : Row} {m : Nat} {x : Int32} (hW : World h) (hs : StR h 7 r.1 r.2) (hO : RoOK r.1 r.2 m) : PM l9 G mX8_meanError NT NT [.ref 1, .int x] h (fun v h' => cd1 (okP r x) = 0 ∧ v = some (.double (mErr (fP r x) (gP r x))) ∧ h' = h) (fun E h' => thr [eB] (cd1 (okP r x)) E ∧ h' = h) := by
  refine PM.of (by decide +kernel) rfl rfl (Nat.le_of_ble_eq_true rfl) (fun hst _ => ?_)
  refine r_aload_n dX8_meanError_0 rfl ?_
  refine r_iload_n dX8_meanError_1 rfl ?_
  refine q_callX1 (cv_X8_existingPool ml_X8_112) hW kc_1 (by decide) rfl rfl (Nat.le_of_ble_eq_true rfl) dX8_meanError_2 (c_X8_existingPool hW hs hO) (fun v_2 h_2 q_2 => ?_) (fun E_2 h_2 q_2 => ?_)
  · obtain ⟨z9, ko, p, p1, p2, rfl, rfl⟩ := q_2
    replace z9 := z9.symm
    subst z9
    have ex : nn (nI p) = p := nn_I (by omega)
    have hOp := hO.2 p p2
    have hpo : PoR h (14 + 12 * p) (nn (r.1 1)) (nn (r.1 1)) (getP r.1 p) (getG r.2 p) := hs.po p2
    have hpo9 := hpo
    obtain ⟨zs, zm, zt, ⟨zd, zc⟩, zf, z20, z18, z19, z17, z21, z22, z16⟩ := hpo
    have zd0 : DemR h (14 + 12 * p) (nn (r.1 1)) (getP r.1 p) := ⟨zd, zc⟩
    have yc := hOp.2.2.2.2.1.2.1
    refine q_getR fl_X8_208 hW (kd_po p1) rfl (kl_3_2 hW (kd_po p1)) (Nat.succ_ne_zero _) dX8_meanError_5 ?_
    refine r_astore_n (ls2 := [_, some _, _]) dX8_meanError_8 (by decide) rfl ?_
    refine r_aload_n dX8_meanError_9 rfl ?_
    refine q_getI fl_X8_212 hW (kk_3_2 (kd_po p1)) rfl dX8_meanError_10 ?_
    rw [show aI h (14 + 12 * p + 8) 5 = getP r.1 p 28 from zt.2.1 5 (by decide) (by decide)]
    refine r_if_ne 18 dX8_meanError_13 (by decide) (fun c_13 => ?_) (fun c_13 => ?_)
    · refine r_aload_n dX8_meanError_18 rfl ?_
      refine q_getJ fl_X8_217 hW (kk_3_2 (kd_po p1)) rfl dX8_meanError_19 ?_
      rw [show aJ h (14 + 12 * p + 8) 4 = getG r.2 p 3 from zt.1 4 (by decide)]
      refine r_l2d dX8_meanError_22 ?_
      refine r_aload_n dX8_meanError_23 rfl ?_
      refine q_getI fl_X8_212 hW (kk_3_2 (kd_po p1)) rfl dX8_meanError_24 ?_
      rw [show aI h (14 + 12 * p + 8) 5 = getP r.1 p 28 from zt.2.1 5 (by decide) (by decide)]
      refine r_i2d dX8_meanError_27 ?_
      refine r_ddiv dX8_meanError_28 (n64_dli c_13) ?_
      refine r_dret dX8_meanError_29 rfl ⟨Nat.le_of_ble_eq_true rfl, Nat.le_of_ble_eq_true rfl⟩ ?_
      refine ⟨cd1_t ko, ?_, rfl⟩
      try unfold fP
      try unfold gP
      try unfold tP
      rw [ex]
      unfold mErr
      first
        | rw [if_pos c_13]
        | rw [if_neg c_13]
      all_goals rfl
    · refine r_dconst0 dX8_meanError_16 ?_
      refine r_dret dX8_meanError_17 rfl ⟨Nat.le_of_ble_eq_true rfl, Nat.le_of_ble_eq_true rfl⟩ ?_
      refine ⟨cd1_t ko, ?_, rfl⟩
      try unfold fP
      try unfold gP
      try unfold tP
      rw [ex]
      unfold mErr
      first
        | rw [if_pos c_13]
        | rw [if_neg c_13]
      all_goals rfl
  · refine PX.out rfl ⟨Nat.le_of_ble_eq_true rfl, Nat.le_of_ble_eq_true rfl⟩ ?_
    obtain ⟨rfl, kx, rfl⟩ := q_2
    exact ⟨thr_1 kx, rfl⟩

set_option maxRecDepth 100000 in
set_option maxHeartbeats 4000000 in
theorem c_X8_nextDropped {l9 : Launch} {G : GC} {h : AH} {r : Row} {m : Nat} {x : Int32} (hW : World h) (hs : StR h 7 r.1 r.2) (hO : RoOK r.1 r.2 m) : PM l9 G mX8_nextDropped NT NT [.ref 1, .int x] h (fun v h' => cd1 (okP r x) = 0 ∧ v = some (.int (nxD (fP r x))) ∧ h' = h) (fun E h' => thr [eB] (cd1 (okP r x)) E ∧ h' = h) := by
  refine PM.of (by decide +kernel) rfl rfl (Nat.le_of_ble_eq_true rfl) (fun hst _ => ?_)
  refine r_aload_n dX8_nextDropped_0 rfl ?_
  refine r_iload_n dX8_nextDropped_1 rfl ?_
  refine q_callX1 (cv_X8_existingPool ml_X8_112) hW kc_1 (by decide) rfl rfl (Nat.le_of_ble_eq_true rfl) dX8_nextDropped_2 (c_X8_existingPool hW hs hO) (fun v_2 h_2 q_2 => ?_) (fun E_2 h_2 q_2 => ?_)
  · obtain ⟨z9, ko, p, p1, p2, rfl, rfl⟩ := q_2
    replace z9 := z9.symm
    subst z9
    have ex : nn (nI p) = p := nn_I (by omega)
    have hOp := hO.2 p p2
    have hpo : PoR h (14 + 12 * p) (nn (r.1 1)) (nn (r.1 1)) (getP r.1 p) (getG r.2 p) := hs.po p2
    have hpo9 := hpo
    obtain ⟨zs, zm, zt, ⟨zd, zc⟩, zf, z20, z18, z19, z17, z21, z22, z16⟩ := hpo
    have zd0 : DemR h (14 + 12 * p) (nn (r.1 1)) (getP r.1 p) := ⟨zd, zc⟩
    have yc := hOp.2.2.2.2.1.2.1
    refine r_astore_n (ls2 := [_, some _, _, _]) dX8_nextDropped_5 (by decide) rfl ?_
    refine r_aload_n dX8_nextDropped_6 rfl ?_
    refine q_getR fl_X8_119 hW (kd_po p1) rfl (kl_3_1 hW (kd_po p1)) (Nat.succ_ne_zero _) dX8_nextDropped_7 ?_
    refine r_aload_n dX8_nextDropped_10 rfl ?_
    refine q_getR fl_X8_143 hW (kd_po p1) rfl (kl_3_0 hW (kd_po p1)) (Nat.succ_ne_zero _) dX8_nextDropped_11 ?_
    refine q_getI fl_X8_221 hW (kk_3_0 (kd_po p1)) rfl dX8_nextDropped_14 ?_
    rw [show aI h (14 + 12 * p + 1) 9 = getP r.1 p 9 from zs.1 9 (by decide)]
    refine q_callV1 (cv_X1_nextToGo ml_X8_224) hW (kk_3_1 (kd_po p1)) (by decide) rfl ⟨rfl, rfl⟩ rfl (Nat.le_of_ble_eq_true rfl) dX8_nextDropped_17 (c_X1_nextToGo hW (kk_3_1 (kd_po p1)) zm) (fun v_17 h_17 q_17 => ?_)
    obtain ⟨rfl, z9⟩ := q_17
    replace z9 := z9.symm
    subst z9
    refine r_istore_n (ls2 := [_, _, some _, _]) dX8_nextDropped_20 (by decide) rfl ?_
    have y23 : nn (getP r.1 p 23) ≤ 20 := (hOp.at 23).2.2
    have hl := mbs_len (getP r.1 p)
    refine r_iload_n dX8_nextDropped_21 rfl ?_
    refine r_if_ge 29 dX8_nextDropped_22 (by decide) (fun c_22 => ?_) (fun c_22 => ?_)
    · obtain ⟨k, hk9⟩ : ∃ k, ng (mbs (getP r.1 p)) (getP r.1 p 9) (mbs (getP r.1 p)).length = some k := by
        cases hq : ng (mbs (getP r.1 p)) (getP r.1 p 9) (mbs (getP r.1 p)).length with
        | none => rw [hq] at c_22; exact absurd c_22 (by decide)
        | some k => exact ⟨k, rfl⟩
      have hk8 := ng_lt hk9
      rw [hk9]
      refine r_aload_n dX8_nextDropped_29 rfl ?_
      refine q_getR fl_X8_119 hW (kd_po p1) rfl (kl_3_1 hW (kd_po p1)) (Nat.succ_ne_zero _) dX8_nextDropped_30 ?_
      refine q_getR fl_X8_185 hW (kk_3_1 (kd_po p1)) rfl (kl_1_0 hW (kk_3_1 (kd_po p1))) (Nat.succ_ne_zero _) dX8_nextDropped_33 ?_
      refine r_iload_n dX8_nextDropped_36 rfl ?_
      refine q_iald hW (kk_1_0 (kk_3_1 (kd_po p1))) (k := k) rfl (by omega) (by decide) dX8_nextDropped_37 ?_
      refine r_iret dX8_nextDropped_38 rfl ⟨Nat.le_of_ble_eq_true rfl, Nat.le_of_ble_eq_true rfl⟩ ?_
      refine ⟨cd1_t ko, ?_, rfl⟩
      try unfold fP
      try unfold gP
      try unfold tP
      rw [ex]
      unfold nxD
      first
        | (rw [hk9]
           exact some_int (((zm.2.2 k (by omega)).1).trans (mbs_num (by omega))))
        | (cases hq : ng (mbs (getP r.1 p)) (getP r.1 p 9) (mbs (getP r.1 p)).length with
           | none => rfl
           | some k =>
             have := ng_lt hq
             rw [hq] at c_22
             exact absurd c_22 (fun z => z (Int32.not_lt.mp (nI_pos (n := k) (by omega)))))
      all_goals rfl
    · refine r_iconst (-1) dX8_nextDropped_25 (by decide) ?_
      refine r_goto 38 dX8_nextDropped_26 (by decide) ?_
      refine r_iret dX8_nextDropped_38 rfl ⟨Nat.le_of_ble_eq_true rfl, Nat.le_of_ble_eq_true rfl⟩ ?_
      refine ⟨cd1_t ko, ?_, rfl⟩
      try unfold fP
      try unfold gP
      try unfold tP
      rw [ex]
      unfold nxD
      first
        | (rw [hk9]
           exact some_int (((zm.2.2 k (by omega)).1).trans (mbs_num (by omega))))
        | (cases hq : ng (mbs (getP r.1 p)) (getP r.1 p 9) (mbs (getP r.1 p)).length with
           | none => rfl
           | some k =>
             have := ng_lt hq
             rw [hq] at c_22
             exact absurd c_22 (fun z => z (Int32.not_lt.mp (nI_pos (n := k) (by omega)))))
      all_goals rfl
  · refine PX.out rfl ⟨Nat.le_of_ble_eq_true rfl, Nat.le_of_ble_eq_true rfl⟩ ?_
    obtain ⟨rfl, kx, rfl⟩ := q_2
    exact ⟨thr_1 kx, rfl⟩

set_option maxRecDepth 100000 in
set_option maxHeartbeats 4000000 in
theorem c_X8_coolLeft {l9 : Launch} {G : GC} {h : AH} {r : Row} {m : Nat} {x : Int32} {z : Int32} (hW : World h) (hs : StR h 7 r.1 r.2) (hO : RoOK r.1 r.2 m) : PM l9 G mX8_coolLeft NT NT [.ref 1, .int x, .int z] h (fun v h' => cd1 (okP r x) = 0 ∧ v = some (.int (clL (fP r x) (r.1 1) z)) ∧ h' = h) (fun E h' => thr [eB] (cd1 (okP r x)) E ∧ h' = h) := by
  refine PM.of (by decide +kernel) rfl rfl (Nat.le_of_ble_eq_true rfl) (fun hst _ => ?_)
  refine r_aload_n dX8_coolLeft_0 rfl ?_
  refine r_iload_n dX8_coolLeft_1 rfl ?_
  refine q_callX1 (cv_X8_existingPool ml_X8_112) hW kc_1 (by decide) rfl rfl (Nat.le_of_ble_eq_true rfl) dX8_coolLeft_2 (c_X8_existingPool hW hs hO) (fun v_2 h_2 q_2 => ?_) (fun E_2 h_2 q_2 => ?_)
  · obtain ⟨z9, ko, p, p1, p2, rfl, rfl⟩ := q_2
    replace z9 := z9.symm
    subst z9
    have ex : nn (nI p) = p := nn_I (by omega)
    have hOp := hO.2 p p2
    have hpo : PoR h (14 + 12 * p) (nn (r.1 1)) (nn (r.1 1)) (getP r.1 p) (getG r.2 p) := hs.po p2
    have hpo9 := hpo
    obtain ⟨zs, zm, zt, ⟨zd, zc⟩, zf, z20, z18, z19, z17, z21, z22, z16⟩ := hpo
    have zd0 : DemR h (14 + 12 * p) (nn (r.1 1)) (getP r.1 p) := ⟨zd, zc⟩
    have yc := hOp.2.2.2.2.1.2.1
    refine r_astore_n (ls2 := [_, _, some _, _, _]) dX8_coolLeft_5 (by decide) rfl ?_
    refine r_iload_n dX8_coolLeft_6 rfl ?_
    refine r_if_eq 25 dX8_coolLeft_7 (by decide) (fun c_7 => ?_) (fun c_7 => ?_)
    · refine r_aload_n dX8_coolLeft_25 rfl ?_
      refine q_getI fl_X8_233 hW (kd_po p1) rfl dX8_coolLeft_26 ?_
      refine r_aload_n dX8_coolLeft_29 rfl ?_
      refine q_getR fl_X8_143 hW (kd_po p1) rfl (kl_3_0 hW (kd_po p1)) (Nat.succ_ne_zero _) dX8_coolLeft_30 ?_
      refine q_getI fl_X8_236 hW (kk_3_0 (kd_po p1)) rfl dX8_coolLeft_33 ?_
      rw [z22, show aI h (14 + 12 * p + 1) 13 = getP r.1 p 13 from zs.1 13 (by decide)]
      refine r_iadd dX8_coolLeft_36 ?_
      refine r_istore (ls2 := [_, _, _, some _, _]) dX8_coolLeft_37 (by decide) rfl ?_
      refine r_iconst (0) dX8_coolLeft_39 (by decide) ?_
      refine r_iload dX8_coolLeft_40 rfl ?_
      refine r_aload_n dX8_coolLeft_42 rfl ?_
      refine q_getR fl_X8_37 hW kc_1 rfl (kl_8_6 hW) (by decide) dX8_coolLeft_43 ?_
      refine q_getI fl_X8_86 hW kc_7 rfl dX8_coolLeft_46 ?_
      rw [hs.2.1]
      refine r_isub dX8_coolLeft_49 ?_
      refine q_max mm_X8_239 rfl (Nat.le_of_ble_eq_true rfl) dX8_coolLeft_50 ?_
      refine r_iret dX8_coolLeft_53 rfl ⟨Nat.le_of_ble_eq_true rfl, Nat.le_of_ble_eq_true rfl⟩ ?_
      refine ⟨cd1_t ko, ?_, rfl⟩
      try unfold fP
      try unfold gP
      try unfold tP
      rw [ex]
      unfold clL
      first
        | rw [if_pos c_7]
        | rw [if_neg c_7]
      all_goals rfl
    · refine r_aload_n dX8_coolLeft_10 rfl ?_
      refine q_getI fl_X8_227 hW (kd_po p1) rfl dX8_coolLeft_11 ?_
      refine r_aload_n dX8_coolLeft_14 rfl ?_
      refine q_getR fl_X8_143 hW (kd_po p1) rfl (kl_3_0 hW (kd_po p1)) (Nat.succ_ne_zero _) dX8_coolLeft_15 ?_
      refine q_getI fl_X8_230 hW (kk_3_0 (kd_po p1)) rfl dX8_coolLeft_18 ?_
      rw [z21, show aI h (14 + 12 * p + 1) 12 = getP r.1 p 12 from zs.1 12 (by decide)]
      refine r_iadd dX8_coolLeft_21 ?_
      refine r_goto 37 dX8_coolLeft_22 (by decide) ?_
      refine r_istore (ls2 := [_, _, _, some _, _]) dX8_coolLeft_37 (by decide) rfl ?_
      refine r_iconst (0) dX8_coolLeft_39 (by decide) ?_
      refine r_iload dX8_coolLeft_40 rfl ?_
      refine r_aload_n dX8_coolLeft_42 rfl ?_
      refine q_getR fl_X8_37 hW kc_1 rfl (kl_8_6 hW) (by decide) dX8_coolLeft_43 ?_
      refine q_getI fl_X8_86 hW kc_7 rfl dX8_coolLeft_46 ?_
      rw [hs.2.1]
      refine r_isub dX8_coolLeft_49 ?_
      refine q_max mm_X8_239 rfl (Nat.le_of_ble_eq_true rfl) dX8_coolLeft_50 ?_
      refine r_iret dX8_coolLeft_53 rfl ⟨Nat.le_of_ble_eq_true rfl, Nat.le_of_ble_eq_true rfl⟩ ?_
      refine ⟨cd1_t ko, ?_, rfl⟩
      try unfold fP
      try unfold gP
      try unfold tP
      rw [ex]
      unfold clL
      first
        | rw [if_pos c_7]
        | rw [if_neg c_7]
      all_goals rfl
  · refine PX.out rfl ⟨Nat.le_of_ble_eq_true rfl, Nat.le_of_ble_eq_true rfl⟩ ?_
    obtain ⟨rfl, kx, rfl⟩ := q_2
    exact ⟨thr_1 kx, rfl⟩

set_option maxRecDepth 100000 in
set_option maxHeartbeats 4000000 in
theorem c_X8_served {l9 : Launch} {G : GC} {h : AH} {r : Row} {m : Nat} {x : Int32} (hW : World h) (hs : StR h 7 r.1 r.2) (hO : RoOK r.1 r.2 m) : PM l9 G mX8_served NT NT [.ref 1, .int x] h (fun v h' => cd1 (okP r x) = 0 ∧ v = some (.long ((gP r x) 0)) ∧ h' = h) (fun E h' => thr [eB] (cd1 (okP r x)) E ∧ h' = h) := by
  refine PM.of (by decide +kernel) rfl rfl (Nat.le_of_ble_eq_true rfl) (fun hst _ => ?_)
  refine r_aload_n dX8_served_0 rfl ?_
  refine r_iload_n dX8_served_1 rfl ?_
  refine q_callX1 (cv_X8_existingPool ml_X8_112) hW kc_1 (by decide) rfl rfl (Nat.le_of_ble_eq_true rfl) dX8_served_2 (c_X8_existingPool hW hs hO) (fun v_2 h_2 q_2 => ?_) (fun E_2 h_2 q_2 => ?_)
  · obtain ⟨z9, ko, p, p1, p2, rfl, rfl⟩ := q_2
    replace z9 := z9.symm
    subst z9
    have ex : nn (nI p) = p := nn_I (by omega)
    have hOp := hO.2 p p2
    have hpo : PoR h (14 + 12 * p) (nn (r.1 1)) (nn (r.1 1)) (getP r.1 p) (getG r.2 p) := hs.po p2
    have hpo9 := hpo
    obtain ⟨zs, zm, zt, ⟨zd, zc⟩, zf, z20, z18, z19, z17, z21, z22, z16⟩ := hpo
    have zd0 : DemR h (14 + 12 * p) (nn (r.1 1)) (getP r.1 p) := ⟨zd, zc⟩
    have yc := hOp.2.2.2.2.1.2.1
    refine q_getR fl_X8_208 hW (kd_po p1) rfl (kl_3_2 hW (kd_po p1)) (Nat.succ_ne_zero _) dX8_served_5 ?_
    refine q_getJ fl_X8_244 hW (kk_3_2 (kd_po p1)) rfl dX8_served_8 ?_
    rw [show aJ h (14 + 12 * p + 8) 0 = getG r.2 p 0 from zt.1 0 (by decide)]
    refine r_lret dX8_served_11 rfl ⟨Nat.le_of_ble_eq_true rfl, Nat.le_of_ble_eq_true rfl⟩ ?_
    refine ⟨cd1_t ko, ?_, rfl⟩
    try unfold fP
    try unfold gP
    try unfold tP
    rw [ex]
    all_goals rfl
  · refine PX.out rfl ⟨Nat.le_of_ble_eq_true rfl, Nat.le_of_ble_eq_true rfl⟩ ?_
    obtain ⟨rfl, kx, rfl⟩ := q_2
    exact ⟨thr_1 kx, rfl⟩

set_option maxRecDepth 100000 in
set_option maxHeartbeats 4000000 in
theorem c_X8_missed {l9 : Launch} {G : GC} {h : AH} {r : Row} {m : Nat} {x : Int32} (hW : World h) (hs : StR h 7 r.1 r.2) (hO : RoOK r.1 r.2 m) : PM l9 G mX8_missed NT NT [.ref 1, .int x] h (fun v h' => cd1 (okP r x) = 0 ∧ v = some (.long ((gP r x) 1)) ∧ h' = h) (fun E h' => thr [eB] (cd1 (okP r x)) E ∧ h' = h) := by
  refine PM.of (by decide +kernel) rfl rfl (Nat.le_of_ble_eq_true rfl) (fun hst _ => ?_)
  refine r_aload_n dX8_missed_0 rfl ?_
  refine r_iload_n dX8_missed_1 rfl ?_
  refine q_callX1 (cv_X8_existingPool ml_X8_112) hW kc_1 (by decide) rfl rfl (Nat.le_of_ble_eq_true rfl) dX8_missed_2 (c_X8_existingPool hW hs hO) (fun v_2 h_2 q_2 => ?_) (fun E_2 h_2 q_2 => ?_)
  · obtain ⟨z9, ko, p, p1, p2, rfl, rfl⟩ := q_2
    replace z9 := z9.symm
    subst z9
    have ex : nn (nI p) = p := nn_I (by omega)
    have hOp := hO.2 p p2
    have hpo : PoR h (14 + 12 * p) (nn (r.1 1)) (nn (r.1 1)) (getP r.1 p) (getG r.2 p) := hs.po p2
    have hpo9 := hpo
    obtain ⟨zs, zm, zt, ⟨zd, zc⟩, zf, z20, z18, z19, z17, z21, z22, z16⟩ := hpo
    have zd0 : DemR h (14 + 12 * p) (nn (r.1 1)) (getP r.1 p) := ⟨zd, zc⟩
    have yc := hOp.2.2.2.2.1.2.1
    refine q_getR fl_X8_208 hW (kd_po p1) rfl (kl_3_2 hW (kd_po p1)) (Nat.succ_ne_zero _) dX8_missed_5 ?_
    refine q_getJ fl_X8_247 hW (kk_3_2 (kd_po p1)) rfl dX8_missed_8 ?_
    rw [show aJ h (14 + 12 * p + 8) 1 = getG r.2 p 1 from zt.1 1 (by decide)]
    refine r_lret dX8_missed_11 rfl ⟨Nat.le_of_ble_eq_true rfl, Nat.le_of_ble_eq_true rfl⟩ ?_
    refine ⟨cd1_t ko, ?_, rfl⟩
    try unfold fP
    try unfold gP
    try unfold tP
    rw [ex]
    all_goals rfl
  · refine PX.out rfl ⟨Nat.le_of_ble_eq_true rfl, Nat.le_of_ble_eq_true rfl⟩ ?_
    obtain ⟨rfl, kx, rfl⟩ := q_2
    exact ⟨thr_1 kx, rfl⟩

set_option maxRecDepth 100000 in
set_option maxHeartbeats 4000000 in
theorem c_X8_cost {l9 : Launch} {G : GC} {h : AH} {r : Row} {m : Nat} {x : Int32} (hW : World h) (hs : StR h 7 r.1 r.2) (hO : RoOK r.1 r.2 m) : PM l9 G mX8_cost NT NT [.ref 1, .int x] h (fun v h' => cd1 (okP r x) = 0 ∧ v = some (.long ((gP r x) 2)) ∧ h' = h) (fun E h' => thr [eB] (cd1 (okP r x)) E ∧ h' = h) := by
  refine PM.of (by decide +kernel) rfl rfl (Nat.le_of_ble_eq_true rfl) (fun hst _ => ?_)
  refine r_aload_n dX8_cost_0 rfl ?_
  refine r_iload_n dX8_cost_1 rfl ?_
  refine q_callX1 (cv_X8_existingPool ml_X8_112) hW kc_1 (by decide) rfl rfl (Nat.le_of_ble_eq_true rfl) dX8_cost_2 (c_X8_existingPool hW hs hO) (fun v_2 h_2 q_2 => ?_) (fun E_2 h_2 q_2 => ?_)
  · obtain ⟨z9, ko, p, p1, p2, rfl, rfl⟩ := q_2
    replace z9 := z9.symm
    subst z9
    have ex : nn (nI p) = p := nn_I (by omega)
    have hOp := hO.2 p p2
    have hpo : PoR h (14 + 12 * p) (nn (r.1 1)) (nn (r.1 1)) (getP r.1 p) (getG r.2 p) := hs.po p2
    have hpo9 := hpo
    obtain ⟨zs, zm, zt, ⟨zd, zc⟩, zf, z20, z18, z19, z17, z21, z22, z16⟩ := hpo
    have zd0 : DemR h (14 + 12 * p) (nn (r.1 1)) (getP r.1 p) := ⟨zd, zc⟩
    have yc := hOp.2.2.2.2.1.2.1
    refine q_getR fl_X8_208 hW (kd_po p1) rfl (kl_3_2 hW (kd_po p1)) (Nat.succ_ne_zero _) dX8_cost_5 ?_
    refine q_getJ fl_X8_250 hW (kk_3_2 (kd_po p1)) rfl dX8_cost_8 ?_
    rw [show aJ h (14 + 12 * p + 8) 2 = getG r.2 p 2 from zt.1 2 (by decide)]
    refine r_lret dX8_cost_11 rfl ⟨Nat.le_of_ble_eq_true rfl, Nat.le_of_ble_eq_true rfl⟩ ?_
    refine ⟨cd1_t ko, ?_, rfl⟩
    try unfold fP
    try unfold gP
    try unfold tP
    rw [ex]
    all_goals rfl
  · refine PX.out rfl ⟨Nat.le_of_ble_eq_true rfl, Nat.le_of_ble_eq_true rfl⟩ ?_
    obtain ⟨rfl, kx, rfl⟩ := q_2
    exact ⟨thr_1 kx, rfl⟩

set_option maxRecDepth 100000 in
set_option maxHeartbeats 4000000 in
theorem c_X8_missedShare {l9 : Launch} {G : GC} {h : AH} {r : Row} {m : Nat} {x : Int32} (hW : World h) (hs : StR h 7 r.1 r.2) (hO : RoOK r.1 r.2 m) : PM l9 G mX8_missedShare NT NT [.ref 1, .int x] h (fun v h' => cd1 (okP r x) = 0 ∧ v = some (.float (msS (gP r x))) ∧ h' = h) (fun E h' => thr [eB] (cd1 (okP r x)) E ∧ h' = h) := by
  refine PM.of (by decide +kernel) rfl rfl (Nat.le_of_ble_eq_true rfl) (fun hst _ => ?_)
  refine r_aload_n dX8_missedShare_0 rfl ?_
  refine r_iload_n dX8_missedShare_1 rfl ?_
  refine q_callX1 (cv_X8_existingPool ml_X8_112) hW kc_1 (by decide) rfl rfl (Nat.le_of_ble_eq_true rfl) dX8_missedShare_2 (c_X8_existingPool hW hs hO) (fun v_2 h_2 q_2 => ?_) (fun E_2 h_2 q_2 => ?_)
  · obtain ⟨z9, ko, p, p1, p2, rfl, rfl⟩ := q_2
    replace z9 := z9.symm
    subst z9
    have ex : nn (nI p) = p := nn_I (by omega)
    have hOp := hO.2 p p2
    have hpo : PoR h (14 + 12 * p) (nn (r.1 1)) (nn (r.1 1)) (getP r.1 p) (getG r.2 p) := hs.po p2
    have hpo9 := hpo
    obtain ⟨zs, zm, zt, ⟨zd, zc⟩, zf, z20, z18, z19, z17, z21, z22, z16⟩ := hpo
    have zd0 : DemR h (14 + 12 * p) (nn (r.1 1)) (getP r.1 p) := ⟨zd, zc⟩
    have yc := hOp.2.2.2.2.1.2.1
    refine q_getR fl_X8_208 hW (kd_po p1) rfl (kl_3_2 hW (kd_po p1)) (Nat.succ_ne_zero _) dX8_missedShare_5 ?_
    refine r_astore_n (ls2 := [_, some _, _, _, _]) dX8_missedShare_8 (by decide) rfl ?_
    refine r_aload_n dX8_missedShare_9 rfl ?_
    refine q_getJ fl_X8_244 hW (kk_3_2 (kd_po p1)) rfl dX8_missedShare_10 ?_
    rw [show aJ h (14 + 12 * p + 8) 0 = getG r.2 p 0 from zt.1 0 (by decide)]
    refine r_aload_n dX8_missedShare_13 rfl ?_
    refine q_getJ fl_X8_247 hW (kk_3_2 (kd_po p1)) rfl dX8_missedShare_14 ?_
    rw [show aJ h (14 + 12 * p + 8) 1 = getG r.2 p 1 from zt.1 1 (by decide)]
    refine r_ladd dX8_missedShare_17 ?_
    refine r_lstore_n (ls2 := [_, _, some _, _, none]) dX8_missedShare_18 (by decide) rfl ?_
    refine r_lload_n dX8_missedShare_19 rfl ?_
    refine r_lconst (0) dX8_missedShare_20 (by decide) ?_
    refine r_lcmp dX8_missedShare_21 ?_
    have e9 := lcmp0 (x := getG r.2 p 0 + getG r.2 p 1)
    refine r_if_ne 27 dX8_missedShare_22 (by decide) (fun c_22 => ?_) (fun c_22 => ?_)
    · refine r_aload_n dX8_missedShare_27 rfl ?_
      refine q_getJ fl_X8_247 hW (kk_3_2 (kd_po p1)) rfl dX8_missedShare_28 ?_
      rw [show aJ h (14 + 12 * p + 8) 1 = getG r.2 p 1 from zt.1 1 (by decide)]
      refine r_l2f dX8_missedShare_31 ?_
      refine r_lload_n dX8_missedShare_32 rfl ?_
      refine r_l2f dX8_missedShare_33 ?_
      refine r_fdiv dX8_missedShare_34 (n32_fll (fun q => c_22 (e9.mpr q))) ?_
      refine r_fret dX8_missedShare_35 rfl ⟨Nat.le_of_ble_eq_true rfl, Nat.le_of_ble_eq_true rfl⟩ ?_
      refine ⟨cd1_t ko, ?_, rfl⟩
      try unfold fP
      try unfold gP
      try unfold tP
      rw [ex]
      unfold msS
      first
        | rw [if_pos (e9.mp c_22)]
        | rw [if_neg (fun q => c_22 (e9.mpr q))]
      all_goals rfl
    · refine r_fconst0 dX8_missedShare_25 ?_
      refine r_fret dX8_missedShare_26 rfl ⟨Nat.le_of_ble_eq_true rfl, Nat.le_of_ble_eq_true rfl⟩ ?_
      refine ⟨cd1_t ko, ?_, rfl⟩
      try unfold fP
      try unfold gP
      try unfold tP
      rw [ex]
      unfold msS
      first
        | rw [if_pos (e9.mp c_22)]
        | rw [if_neg (fun q => c_22 (e9.mpr q))]
      all_goals rfl
  · refine PX.out rfl ⟨Nat.le_of_ble_eq_true rfl, Nat.le_of_ble_eq_true rfl⟩ ?_
    obtain ⟨rfl, kx, rfl⟩ := q_2
    exact ⟨thr_1 kx, rfl⟩

set_option maxRecDepth 100000 in
set_option maxHeartbeats 4000000 in
theorem c_X8_used {l9 : Launch} {G : GC} {h : AH} {r : Row} {m : Nat} {x : Int32} (hW : World h) (hs : StR h 7 r.1 r.2) (hO : RoOK r.1 r.2 m) : PM l9 G mX8_used NT NT [.ref 1, .int x] h (fun v h' => cd1 (okP r x) = 0 ∧ v = some (.double (usD (gP r x))) ∧ h' = h) (fun E h' => thr [eB] (cd1 (okP r x)) E ∧ h' = h) := by
  refine PM.of (by decide +kernel) rfl rfl (Nat.le_of_ble_eq_true rfl) (fun hst _ => ?_)
  refine r_aload_n dX8_used_0 rfl ?_
  refine r_iload_n dX8_used_1 rfl ?_
  refine q_callX1 (cv_X8_existingPool ml_X8_112) hW kc_1 (by decide) rfl rfl (Nat.le_of_ble_eq_true rfl) dX8_used_2 (c_X8_existingPool hW hs hO) (fun v_2 h_2 q_2 => ?_) (fun E_2 h_2 q_2 => ?_)
  · obtain ⟨z9, ko, p, p1, p2, rfl, rfl⟩ := q_2
    replace z9 := z9.symm
    subst z9
    have ex : nn (nI p) = p := nn_I (by omega)
    have hOp := hO.2 p p2
    have hpo : PoR h (14 + 12 * p) (nn (r.1 1)) (nn (r.1 1)) (getP r.1 p) (getG r.2 p) := hs.po p2
    have hpo9 := hpo
    obtain ⟨zs, zm, zt, ⟨zd, zc⟩, zf, z20, z18, z19, z17, z21, z22, z16⟩ := hpo
    have zd0 : DemR h (14 + 12 * p) (nn (r.1 1)) (getP r.1 p) := ⟨zd, zc⟩
    have yc := hOp.2.2.2.2.1.2.1
    refine q_getR fl_X8_208 hW (kd_po p1) rfl (kl_3_2 hW (kd_po p1)) (Nat.succ_ne_zero _) dX8_used_5 ?_
    refine r_astore_n (ls2 := [_, some _, _]) dX8_used_8 (by decide) rfl ?_
    refine r_aload_n dX8_used_9 rfl ?_
    refine q_getJ fl_X8_253 hW (kk_3_2 (kd_po p1)) rfl dX8_used_10 ?_
    rw [show aJ h (14 + 12 * p + 8) 3 = getG r.2 p 5 from zt.1 3 (by decide)]
    refine r_lconst (0) dX8_used_13 (by decide) ?_
    refine r_lcmp dX8_used_14 ?_
    have e9 := lcmp0 (x := getG r.2 p 5)
    refine r_if_ne 20 dX8_used_15 (by decide) (fun c_15 => ?_) (fun c_15 => ?_)
    · refine r_aload_n dX8_used_20 rfl ?_
      refine q_getJ fl_X8_244 hW (kk_3_2 (kd_po p1)) rfl dX8_used_21 ?_
      rw [show aJ h (14 + 12 * p + 8) 0 = getG r.2 p 0 from zt.1 0 (by decide)]
      refine r_l2d dX8_used_24 ?_
      refine r_aload_n dX8_used_25 rfl ?_
      refine q_getJ fl_X8_253 hW (kk_3_2 (kd_po p1)) rfl dX8_used_26 ?_
      rw [show aJ h (14 + 12 * p + 8) 3 = getG r.2 p 5 from zt.1 3 (by decide)]
      refine r_l2d dX8_used_29 ?_
      refine r_ddiv dX8_used_30 (n64_dll (fun q => c_15 (e9.mpr q))) ?_
      refine r_dret dX8_used_31 rfl ⟨Nat.le_of_ble_eq_true rfl, Nat.le_of_ble_eq_true rfl⟩ ?_
      refine ⟨cd1_t ko, ?_, rfl⟩
      try unfold fP
      try unfold gP
      try unfold tP
      rw [ex]
      unfold usD
      first
        | rw [if_pos (e9.mp c_15)]
        | rw [if_neg (fun q => c_15 (e9.mpr q))]
      all_goals rfl
    · refine r_dconst0 dX8_used_18 ?_
      refine r_dret dX8_used_19 rfl ⟨Nat.le_of_ble_eq_true rfl, Nat.le_of_ble_eq_true rfl⟩ ?_
      refine ⟨cd1_t ko, ?_, rfl⟩
      try unfold fP
      try unfold gP
      try unfold tP
      rw [ex]
      unfold usD
      first
        | rw [if_pos (e9.mp c_15)]
        | rw [if_neg (fun q => c_15 (e9.mpr q))]
      all_goals rfl
  · refine PX.out rfl ⟨Nat.le_of_ble_eq_true rfl, Nat.le_of_ble_eq_true rfl⟩ ?_
    obtain ⟨rfl, kx, rfl⟩ := q_2
    exact ⟨thr_1 kx, rfl⟩

set_option maxRecDepth 100000 in
set_option maxHeartbeats 4000000 in
theorem c_X8_peak {l9 : Launch} {G : GC} {h : AH} {r : Row} {m : Nat} {x : Int32} (hW : World h) (hs : StR h 7 r.1 r.2) (hO : RoOK r.1 r.2 m) : PM l9 G mX8_peak NT NT [.ref 1, .int x] h (fun v h' => cd1 (okP r x) = 0 ∧ v = some (.int ((fP r x) 25)) ∧ h' = h) (fun E h' => thr [eB] (cd1 (okP r x)) E ∧ h' = h) := by
  refine PM.of (by decide +kernel) rfl rfl (Nat.le_of_ble_eq_true rfl) (fun hst _ => ?_)
  refine r_aload_n dX8_peak_0 rfl ?_
  refine r_iload_n dX8_peak_1 rfl ?_
  refine q_callX1 (cv_X8_existingPool ml_X8_112) hW kc_1 (by decide) rfl rfl (Nat.le_of_ble_eq_true rfl) dX8_peak_2 (c_X8_existingPool hW hs hO) (fun v_2 h_2 q_2 => ?_) (fun E_2 h_2 q_2 => ?_)
  · obtain ⟨z9, ko, p, p1, p2, rfl, rfl⟩ := q_2
    replace z9 := z9.symm
    subst z9
    have ex : nn (nI p) = p := nn_I (by omega)
    have hOp := hO.2 p p2
    have hpo : PoR h (14 + 12 * p) (nn (r.1 1)) (nn (r.1 1)) (getP r.1 p) (getG r.2 p) := hs.po p2
    have hpo9 := hpo
    obtain ⟨zs, zm, zt, ⟨zd, zc⟩, zf, z20, z18, z19, z17, z21, z22, z16⟩ := hpo
    have zd0 : DemR h (14 + 12 * p) (nn (r.1 1)) (getP r.1 p) := ⟨zd, zc⟩
    have yc := hOp.2.2.2.2.1.2.1
    refine q_getR fl_X8_208 hW (kd_po p1) rfl (kl_3_2 hW (kd_po p1)) (Nat.succ_ne_zero _) dX8_peak_5 ?_
    refine q_getI fl_X8_256 hW (kk_3_2 (kd_po p1)) rfl dX8_peak_8 ?_
    rw [show aI h (14 + 12 * p + 8) 6 = getP r.1 p 25 from zt.2.1 6 (by decide) (by decide)]
    refine r_iret dX8_peak_11 rfl ⟨Nat.le_of_ble_eq_true rfl, Nat.le_of_ble_eq_true rfl⟩ ?_
    refine ⟨cd1_t ko, ?_, rfl⟩
    try unfold fP
    try unfold gP
    try unfold tP
    rw [ex]
    all_goals rfl
  · refine PX.out rfl ⟨Nat.le_of_ble_eq_true rfl, Nat.le_of_ble_eq_true rfl⟩ ?_
    obtain ⟨rfl, kx, rfl⟩ := q_2
    exact ⟨thr_1 kx, rfl⟩

set_option maxRecDepth 100000 in
set_option maxHeartbeats 4000000 in
theorem c_X8_longestMiss {l9 : Launch} {G : GC} {h : AH} {r : Row} {m : Nat} {x : Int32} (hW : World h) (hs : StR h 7 r.1 r.2) (hO : RoOK r.1 r.2 m) : PM l9 G mX8_longestMiss NT NT [.ref 1, .int x] h (fun v h' => cd1 (okP r x) = 0 ∧ v = some (.int ((fP r x) 27)) ∧ h' = h) (fun E h' => thr [eB] (cd1 (okP r x)) E ∧ h' = h) := by
  refine PM.of (by decide +kernel) rfl rfl (Nat.le_of_ble_eq_true rfl) (fun hst _ => ?_)
  refine r_aload_n dX8_longestMiss_0 rfl ?_
  refine r_iload_n dX8_longestMiss_1 rfl ?_
  refine q_callX1 (cv_X8_existingPool ml_X8_112) hW kc_1 (by decide) rfl rfl (Nat.le_of_ble_eq_true rfl) dX8_longestMiss_2 (c_X8_existingPool hW hs hO) (fun v_2 h_2 q_2 => ?_) (fun E_2 h_2 q_2 => ?_)
  · obtain ⟨z9, ko, p, p1, p2, rfl, rfl⟩ := q_2
    replace z9 := z9.symm
    subst z9
    have ex : nn (nI p) = p := nn_I (by omega)
    have hOp := hO.2 p p2
    have hpo : PoR h (14 + 12 * p) (nn (r.1 1)) (nn (r.1 1)) (getP r.1 p) (getG r.2 p) := hs.po p2
    have hpo9 := hpo
    obtain ⟨zs, zm, zt, ⟨zd, zc⟩, zf, z20, z18, z19, z17, z21, z22, z16⟩ := hpo
    have zd0 : DemR h (14 + 12 * p) (nn (r.1 1)) (getP r.1 p) := ⟨zd, zc⟩
    have yc := hOp.2.2.2.2.1.2.1
    refine q_getR fl_X8_208 hW (kd_po p1) rfl (kl_3_2 hW (kd_po p1)) (Nat.succ_ne_zero _) dX8_longestMiss_5 ?_
    refine q_getI fl_X8_270 hW (kk_3_2 (kd_po p1)) rfl dX8_longestMiss_8 ?_
    rw [show aI h (14 + 12 * p + 8) 8 = getP r.1 p 27 from zt.2.1 8 (by decide) (by decide)]
    refine r_iret dX8_longestMiss_11 rfl ⟨Nat.le_of_ble_eq_true rfl, Nat.le_of_ble_eq_true rfl⟩ ?_
    refine ⟨cd1_t ko, ?_, rfl⟩
    try unfold fP
    try unfold gP
    try unfold tP
    rw [ex]
    all_goals rfl
  · refine PX.out rfl ⟨Nat.le_of_ble_eq_true rfl, Nat.le_of_ble_eq_true rfl⟩ ?_
    obtain ⟨rfl, kx, rfl⟩ := q_2
    exact ⟨thr_1 kx, rfl⟩

set_option maxRecDepth 100000 in
set_option maxHeartbeats 4000000 in
theorem c_X8_headroom {l9 : Launch} {G : GC} {h : AH} {r : Row} {m : Nat} {x : Int32} (hW : World h) (hs : StR h 7 r.1 r.2) (hO : RoOK r.1 r.2 m) : PM l9 G mX8_headroom NT NT [.ref 1, .int x] h (fun v h' => cd1 (okP r x) = 0 ∧ v = some (.int (pwF (fP r x) (r.1 1) - bkz (fP r x) (tP r) 0)) ∧ h' = h) (fun E h' => thr [eB] (cd1 (okP r x)) E ∧ h' = h) := by
  refine PM.of (by decide +kernel) rfl rfl (Nat.le_of_ble_eq_true rfl) (fun hst _ => ?_)
  refine r_aload_n dX8_headroom_0 rfl ?_
  refine r_iload_n dX8_headroom_1 rfl ?_
  refine q_callX1 (cv_X8_existingPool ml_X8_112) hW kc_1 (by decide) rfl rfl (Nat.le_of_ble_eq_true rfl) dX8_headroom_2 (c_X8_existingPool hW hs hO) (fun v_2 h_2 q_2 => ?_) (fun E_2 h_2 q_2 => ?_)
  · obtain ⟨z9, ko, p, p1, p2, rfl, rfl⟩ := q_2
    replace z9 := z9.symm
    subst z9
    have ex : nn (nI p) = p := nn_I (by omega)
    have hOp := hO.2 p p2
    have hpo : PoR h (14 + 12 * p) (nn (r.1 1)) (nn (r.1 1)) (getP r.1 p) (getG r.2 p) := hs.po p2
    have hpo9 := hpo
    obtain ⟨zs, zm, zt, ⟨zd, zc⟩, zf, z20, z18, z19, z17, z21, z22, z16⟩ := hpo
    have zd0 : DemR h (14 + 12 * p) (nn (r.1 1)) (getP r.1 p) := ⟨zd, zc⟩
    have yc := hOp.2.2.2.2.1.2.1
    refine r_astore_n (ls2 := [_, some _, _]) dX8_headroom_5 (by decide) rfl ?_
    refine r_aload_n dX8_headroom_6 rfl ?_
    refine r_aload_n dX8_headroom_7 rfl ?_
    refine q_getR fl_X8_37 hW kc_1 rfl (kl_8_6 hW) (by decide) dX8_headroom_8 ?_
    refine q_getI fl_X8_86 hW kc_7 rfl dX8_headroom_11 ?_
    rw [hs.2.1]
    refine q_callV1 (cv_X3_powerAt ml_X8_273) hW (kd_po p1) (by decide) rfl ⟨rfl, rfl⟩ rfl (Nat.le_of_ble_eq_true rfl) dX8_headroom_14 (c_X3_powerAt hW (kd_po p1) zs zm) (fun v_14 h_14 q_14 => ?_)
    obtain ⟨rfl, z9⟩ := q_14
    replace z9 := z9.symm
    subst z9
    refine r_aload_n dX8_headroom_17 rfl ?_
    refine r_iconst (0) dX8_headroom_18 (by decide) ?_
    refine q_callV1 (cv_X3_demandBack ml_X8_193) hW (kd_po p1) (by decide) rfl ⟨rfl, rfl⟩ rfl (Nat.le_of_ble_eq_true rfl) dX8_headroom_19 (c_X3_demandBack (m := 0) hW (kd_po p1) zd0 (by omega) (by decide)) (fun v_19 h_19 q_19 => ?_)
    obtain ⟨rfl, z9⟩ := q_19
    replace z9 := z9.symm
    subst z9
    refine r_isub dX8_headroom_22 ?_
    refine r_iret dX8_headroom_23 rfl ⟨Nat.le_of_ble_eq_true rfl, Nat.le_of_ble_eq_true rfl⟩ ?_
    refine ⟨cd1_t ko, ?_, rfl⟩
    try unfold fP
    try unfold gP
    try unfold tP
    rw [ex]
    all_goals rfl
  · refine PX.out rfl ⟨Nat.le_of_ble_eq_true rfl, Nat.le_of_ble_eq_true rfl⟩ ?_
    obtain ⟨rfl, kx, rfl⟩ := q_2
    exact ⟨thr_1 kx, rfl⟩

set_option maxRecDepth 100000 in
set_option maxHeartbeats 4000000 in
theorem c_X8_meanAge {l9 : Launch} {G : GC} {h : AH} {r : Row} {m : Nat} {x : Int32} (hW : World h) (hs : StR h 7 r.1 r.2) (hO : RoOK r.1 r.2 m) : PM l9 G mX8_meanAge NT NT [.ref 1, .int x] h (fun v h' => cd1 (okP r x) = 0 ∧ v = some (.double (mAge (fP r x) (r.1 1))) ∧ h' = h) (fun E h' => thr [eB] (cd1 (okP r x)) E ∧ h' = h) := by
  refine PM.of (by decide +kernel) rfl rfl (Nat.le_of_ble_eq_true rfl) (fun hst _ => ?_)
  refine r_aload_n dX8_meanAge_0 rfl ?_
  refine r_iload_n dX8_meanAge_1 rfl ?_
  refine q_callX1 (cv_X8_existingPool ml_X8_112) hW kc_1 (by decide) rfl rfl (Nat.le_of_ble_eq_true rfl) dX8_meanAge_2 (c_X8_existingPool hW hs hO) (fun v_2 h_2 q_2 => ?_) (fun E_2 h_2 q_2 => ?_)
  · obtain ⟨z9, ko, p, p1, p2, rfl, rfl⟩ := q_2
    replace z9 := z9.symm
    subst z9
    have ex : nn (nI p) = p := nn_I (by omega)
    have hOp := hO.2 p p2
    have hpo : PoR h (14 + 12 * p) (nn (r.1 1)) (nn (r.1 1)) (getP r.1 p) (getG r.2 p) := hs.po p2
    have hpo9 := hpo
    obtain ⟨zs, zm, zt, ⟨zd, zc⟩, zf, z20, z18, z19, z17, z21, z22, z16⟩ := hpo
    have zd0 : DemR h (14 + 12 * p) (nn (r.1 1)) (getP r.1 p) := ⟨zd, zc⟩
    have yc := hOp.2.2.2.2.1.2.1
    refine q_getR fl_X8_119 hW (kd_po p1) rfl (kl_3_1 hW (kd_po p1)) (Nat.succ_ne_zero _) dX8_meanAge_5 ?_
    refine r_astore_n (ls2 := [_, some _, _]) dX8_meanAge_8 (by decide) rfl ?_
    refine r_aload_n dX8_meanAge_9 rfl ?_
    refine q_getI fl_X8_125 hW (kk_3_1 (kd_po p1)) rfl dX8_meanAge_10 ?_
    have el : aI h (14 + 12 * p + 3) 4 = getP r.1 p 23 := by rw [zm.1, mbs_len]; exact (hOp.at 23).1.symm
    rw [el]
    refine r_if_ne 18 dX8_meanAge_13 (by decide) (fun c_13 => ?_) (fun c_13 => ?_)
    · refine r_aload_n dX8_meanAge_18 rfl ?_
      refine r_aload_n dX8_meanAge_19 rfl ?_
      refine q_getR fl_X8_37 hW kc_1 rfl (kl_8_6 hW) (by decide) dX8_meanAge_20 ?_
      refine q_getI fl_X8_86 hW kc_7 rfl dX8_meanAge_23 ?_
      rw [hs.2.1]
      refine q_callV1 (cv_X1_sumOfAges ml_X8_279) hW (kk_3_1 (kd_po p1)) (by decide) rfl ⟨rfl, rfl⟩ rfl (Nat.le_of_ble_eq_true rfl) dX8_meanAge_26 (c_X1_sumOfAges hW (kk_3_1 (kd_po p1)) zm) (fun v_26 h_26 q_26 => ?_)
      obtain ⟨rfl, z9⟩ := q_26
      replace z9 := z9.symm
      subst z9
      refine r_l2d dX8_meanAge_29 ?_
      refine r_aload_n dX8_meanAge_30 rfl ?_
      refine q_getI fl_X8_125 hW (kk_3_1 (kd_po p1)) rfl dX8_meanAge_31 ?_
      rw [el]
      refine r_i2d dX8_meanAge_34 ?_
      refine r_ddiv dX8_meanAge_35 (n64_dli c_13) ?_
      refine r_dret dX8_meanAge_36 rfl ⟨Nat.le_of_ble_eq_true rfl, Nat.le_of_ble_eq_true rfl⟩ ?_
      refine ⟨cd1_t ko, ?_, rfl⟩
      try unfold fP
      try unfold gP
      try unfold tP
      rw [ex]
      unfold mAge
      first
        | rw [if_pos c_13]
        | rw [if_neg c_13]
      all_goals rfl
    · refine r_dconst0 dX8_meanAge_16 ?_
      refine r_dret dX8_meanAge_17 rfl ⟨Nat.le_of_ble_eq_true rfl, Nat.le_of_ble_eq_true rfl⟩ ?_
      refine ⟨cd1_t ko, ?_, rfl⟩
      try unfold fP
      try unfold gP
      try unfold tP
      rw [ex]
      unfold mAge
      first
        | rw [if_pos c_13]
        | rw [if_neg c_13]
      all_goals rfl
  · refine PX.out rfl ⟨Nat.le_of_ble_eq_true rfl, Nat.le_of_ble_eq_true rfl⟩ ?_
    obtain ⟨rfl, kx, rfl⟩ := q_2
    exact ⟨thr_1 kx, rfl⟩

set_option maxRecDepth 100000 in
set_option maxHeartbeats 4000000 in
theorem c_X8_bestPeriod {l9 : Launch} {G : GC} {h : AH} {r : Row} {m : Nat} {x : Int32} (hW : World h) (hs : StR h 7 r.1 r.2) (hO : RoOK r.1 r.2 m) : PM l9 G mX8_bestPeriod NT NT [.ref 1, .int x] h (fun v h' => cd1 (okP r x) = 0 ∧ v = some (.int (oI (bpS (fP r x) (tP r) 25))) ∧ h' = h) (fun E h' => thr [eB] (cd1 (okP r x)) E ∧ h' = h) := by
  refine PM.of (by decide +kernel) rfl rfl (Nat.le_of_ble_eq_true rfl) (fun hst _ => ?_)
  refine r_aload_n dX8_bestPeriod_0 rfl ?_
  refine r_iload_n dX8_bestPeriod_1 rfl ?_
  refine q_callX1 (cv_X8_existingPool ml_X8_112) hW kc_1 (by decide) rfl rfl (Nat.le_of_ble_eq_true rfl) dX8_bestPeriod_2 (c_X8_existingPool hW hs hO) (fun v_2 h_2 q_2 => ?_) (fun E_2 h_2 q_2 => ?_)
  · obtain ⟨z9, ko, p, p1, p2, rfl, rfl⟩ := q_2
    replace z9 := z9.symm
    subst z9
    have ex : nn (nI p) = p := nn_I (by omega)
    have hOp := hO.2 p p2
    have hpo : PoR h (14 + 12 * p) (nn (r.1 1)) (nn (r.1 1)) (getP r.1 p) (getG r.2 p) := hs.po p2
    have hpo9 := hpo
    obtain ⟨zs, zm, zt, ⟨zd, zc⟩, zf, z20, z18, z19, z17, z21, z22, z16⟩ := hpo
    have zd0 : DemR h (14 + 12 * p) (nn (r.1 1)) (getP r.1 p) := ⟨zd, zc⟩
    have yc := hOp.2.2.2.2.1.2.1
    refine q_callV0 (cv_X3_periodThatRepeatsBest ml_X8_276) hW (kd_po p1) (by decide) rfl ⟨rfl, rfl⟩ rfl (Nat.le_of_ble_eq_true rfl) dX8_bestPeriod_5 (c_X3_periodThatRepeatsBest hW (kd_po p1) zd0 (by omega)) (fun v_5 h_5 q_5 => ?_)
    obtain ⟨rfl, z9⟩ := q_5
    replace z9 := z9.symm
    subst z9
    refine r_iret dX8_bestPeriod_8 rfl ⟨Nat.le_of_ble_eq_true rfl, Nat.le_of_ble_eq_true rfl⟩ ?_
    refine ⟨cd1_t ko, ?_, rfl⟩
    try unfold fP
    try unfold gP
    try unfold tP
    rw [ex]
    all_goals rfl
  · refine PX.out rfl ⟨Nat.le_of_ble_eq_true rfl, Nat.le_of_ble_eq_true rfl⟩ ?_
    obtain ⟨rfl, kx, rfl⟩ := q_2
    exact ⟨thr_1 kx, rfl⟩

set_option maxRecDepth 100000 in
set_option maxHeartbeats 4000000 in
theorem c_X8_median {l9 : Launch} {G : GC} {h : AH} {r : Row} {m : Nat} {x : Int32} (hW : World h) (hs : StR h 7 r.1 r.2) (hO : RoOK r.1 r.2 m) : PM l9 G mX8_median NT NT [.ref 1, .int x] h (fun v h' => cd1 (okP r x) = 0 ∧ v = some (.int (mdF (fP r x) (tP r))) ∧ h' = h) (fun E h' => thr [eB] (cd1 (okP r x)) E ∧ h' = h) := by
  refine PM.of (by decide +kernel) rfl rfl (Nat.le_of_ble_eq_true rfl) (fun hst _ => ?_)
  refine r_aload_n dX8_median_0 rfl ?_
  refine r_iload_n dX8_median_1 rfl ?_
  refine q_callX1 (cv_X8_existingPool ml_X8_112) hW kc_1 (by decide) rfl rfl (Nat.le_of_ble_eq_true rfl) dX8_median_2 (c_X8_existingPool hW hs hO) (fun v_2 h_2 q_2 => ?_) (fun E_2 h_2 q_2 => ?_)
  · obtain ⟨z9, ko, p, p1, p2, rfl, rfl⟩ := q_2
    replace z9 := z9.symm
    subst z9
    have ex : nn (nI p) = p := nn_I (by omega)
    have hOp := hO.2 p p2
    have hpo : PoR h (14 + 12 * p) (nn (r.1 1)) (nn (r.1 1)) (getP r.1 p) (getG r.2 p) := hs.po p2
    have hpo9 := hpo
    obtain ⟨zs, zm, zt, ⟨zd, zc⟩, zf, z20, z18, z19, z17, z21, z22, z16⟩ := hpo
    have zd0 : DemR h (14 + 12 * p) (nn (r.1 1)) (getP r.1 p) := ⟨zd, zc⟩
    have yc := hOp.2.2.2.2.1.2.1
    refine q_callV0 (cv_X3_middleDemand ml_X8_283) hW (kd_po p1) (by decide) rfl ⟨rfl, rfl⟩ rfl (Nat.le_of_ble_eq_true rfl) dX8_median_5 (c_X3_middleDemand hW (kd_po p1) zd0 (by omega)) (fun v_5 h_5 q_5 => ?_)
    obtain ⟨rfl, z9⟩ := q_5
    replace z9 := z9.symm
    subst z9
    refine r_iret dX8_median_8 rfl ⟨Nat.le_of_ble_eq_true rfl, Nat.le_of_ble_eq_true rfl⟩ ?_
    refine ⟨cd1_t ko, ?_, rfl⟩
    try unfold fP
    try unfold gP
    try unfold tP
    rw [ex]
    all_goals rfl
  · refine PX.out rfl ⟨Nat.le_of_ble_eq_true rfl, Nat.le_of_ble_eq_true rfl⟩ ?_
    obtain ⟨rfl, kx, rfl⟩ := q_2
    exact ⟨thr_1 kx, rfl⟩

set_option maxRecDepth 100000 in
set_option maxHeartbeats 4000000 in
theorem c_X8_demandsWithin {l9 : Launch} {G : GC} {h : AH} {r : Row} {m : Nat} {x : Int32} {y z : Int32} (hW : World h) (hs : StR h 7 r.1 r.2) (hO : RoOK r.1 r.2 m) : PM l9 G mX8_demandsWithin NT NT [.ref 1, .int x, .int y, .int z] h (fun v h' => cd1 (okP r x) = 0 ∧ v = some (.int (nI (cdN (fP r x) (tP r) y z))) ∧ h' = h) (fun E h' => thr [eB] (cd1 (okP r x)) E ∧ h' = h) := by
  refine PM.of (by decide +kernel) rfl rfl (Nat.le_of_ble_eq_true rfl) (fun hst _ => ?_)
  refine r_aload_n dX8_demandsWithin_0 rfl ?_
  refine r_iload_n dX8_demandsWithin_1 rfl ?_
  refine q_callX1 (cv_X8_existingPool ml_X8_112) hW kc_1 (by decide) rfl rfl (Nat.le_of_ble_eq_true rfl) dX8_demandsWithin_2 (c_X8_existingPool hW hs hO) (fun v_2 h_2 q_2 => ?_) (fun E_2 h_2 q_2 => ?_)
  · obtain ⟨z9, ko, p, p1, p2, rfl, rfl⟩ := q_2
    replace z9 := z9.symm
    subst z9
    have ex : nn (nI p) = p := nn_I (by omega)
    have hOp := hO.2 p p2
    have hpo : PoR h (14 + 12 * p) (nn (r.1 1)) (nn (r.1 1)) (getP r.1 p) (getG r.2 p) := hs.po p2
    have hpo9 := hpo
    obtain ⟨zs, zm, zt, ⟨zd, zc⟩, zf, z20, z18, z19, z17, z21, z22, z16⟩ := hpo
    have zd0 : DemR h (14 + 12 * p) (nn (r.1 1)) (getP r.1 p) := ⟨zd, zc⟩
    have yc := hOp.2.2.2.2.1.2.1
    refine r_iload_n dX8_demandsWithin_5 rfl ?_
    refine r_iload_n dX8_demandsWithin_6 rfl ?_
    refine q_callV2 (cv_X3_countDemands ml_X8_286) hW (kd_po p1) (by decide) rfl ⟨rfl, rfl⟩ rfl (Nat.le_of_ble_eq_true rfl) dX8_demandsWithin_7 (c_X3_countDemands hW (kd_po p1) zd0 (by omega)) (fun v_7 h_7 q_7 => ?_)
    obtain ⟨rfl, z9⟩ := q_7
    replace z9 := z9.symm
    subst z9
    refine r_iret dX8_demandsWithin_10 rfl ⟨Nat.le_of_ble_eq_true rfl, Nat.le_of_ble_eq_true rfl⟩ ?_
    refine ⟨cd1_t ko, ?_, rfl⟩
    try unfold fP
    try unfold gP
    try unfold tP
    rw [ex]
    all_goals rfl
  · refine PX.out rfl ⟨Nat.le_of_ble_eq_true rfl, Nat.le_of_ble_eq_true rfl⟩ ?_
    obtain ⟨rfl, kx, rfl⟩ := q_2
    exact ⟨thr_1 kx, rfl⟩

def rgB (lo hi x : Int32) : Bool := decide (lo ≤ x ∧ x ≤ hi)
theorem rgB_t {x : Int32} {a b : Nat} (h : rgB (nI a) (nI b) x = true) (hb : b < 2 ^ 31) (ha : a < 2 ^ 31) : ∃ k, a ≤ k ∧ k ≤ b ∧ x = nI k := by
  obtain ⟨h1, h2⟩ := of_decide_eq_true h
  have h0 : (0 : Int32) ≤ x := by
    rw [Int32.le_iff_toInt_le] at h1 ⊢
    have := nI_toInt ha
    show (0 : Int) ≤ _
    omega
  have e := i_nat h0
  rw [e] at h1 h2
  have hlt : x.toNatClampNeg < 2 ^ 31 := by
    have := x.toInt_lt
    unfold Int32.toNatClampNeg
    omega
  exact ⟨x.toNatClampNeg, (nI_leI ha hlt).mp h1, (nI_leI hlt hb).mp h2, e⟩
set_option maxRecDepth 100000 in
set_option maxHeartbeats 4000000 in
theorem c_X8_planned {l9 : Launch} {G : GC} {h : AH} {r : Row} {m : Nat} {x y : Int32} (hW : World h) (hs : StR h 7 r.1 r.2) (hO : RoOK r.1 r.2 m) : PM l9 G mX8_planned NT NT [.ref 1, .int x, .int y] h (fun v h' => cd2 (okP r x) (rgB 0 999 y) = 0 ∧ v = some (.int (dmA (fP r x) (tP r) (nn y))) ∧ h' = h) (fun E h' => thr [eB, eA] (cd2 (okP r x) (rgB 0 999 y)) E ∧ h' = h) := by
  refine PM.of (by decide +kernel) rfl rfl (Nat.le_of_ble_eq_true rfl) (fun hst _ => ?_)
  refine r_aload_n dX8_planned_0 rfl ?_
  refine r_iload_n dX8_planned_1 rfl ?_
  refine q_callX1 (cv_X8_existingPool ml_X8_112) hW kc_1 (by decide) rfl rfl (Nat.le_of_ble_eq_true rfl) dX8_planned_2 (c_X8_existingPool hW hs hO) (fun v_2 h_2 q_2 => ?_) (fun E_2 h_2 q_2 => ?_)
  · obtain ⟨z9, ko, p, p1, p2, rfl, rfl⟩ := q_2
    replace z9 := z9.symm
    subst z9
    have ex : nn (nI p) = p := nn_I (by omega)
    have hOp := hO.2 p p2
    have hpo : PoR h (14 + 12 * p) (nn (r.1 1)) (nn (r.1 1)) (getP r.1 p) (getG r.2 p) := hs.po p2
    have hpo9 := hpo
    obtain ⟨zs, zm, zt, ⟨zd, zc⟩, zf, z20, z18, z19, z17, z21, z22, z16⟩ := hpo
    have zd0 : DemR h (14 + 12 * p) (nn (r.1 1)) (getP r.1 p) := ⟨zd, zc⟩
    have yc := hOp.2.2.2.2.1.2.1
    refine r_astore_n (ls2 := [_, _, some _, _]) dX8_planned_5 (by decide) rfl ?_
    refine r_iload_n dX8_planned_6 rfl ?_
    refine r_iconst (0) dX8_planned_7 (by decide) ?_
    refine r_sipush (999) dX8_planned_8 (by decide) ?_
    refine q_callXS3 (cs_X8_requireRange ml_X8_116) rfl (Nat.le_of_ble_eq_true rfl) dX8_planned_11 c_X8_requireRange (fun v_11 h_11 q_11 => ?_) (fun E_11 h_11 q_11 => ?_)
    · obtain ⟨z9, kr, rfl⟩ := q_11
      replace z9 := z9.symm
      subst z9
      have kr9 : rgB 0 999 y = true := decide_eq_true kr
      obtain ⟨k, k1, k2, rfl⟩ := rgB_t (a := 0) (b := 999) kr9 (by decide) (by decide)
      have ek : nn (nI k) = k := nn_I (by omega)
      refine r_aload_n dX8_planned_14 rfl ?_
      refine r_aload_n dX8_planned_15 rfl ?_
      refine q_getR fl_X8_37 hW kc_1 rfl (kl_8_6 hW) (by decide) dX8_planned_16 ?_
      skip
      refine q_getI fl_X8_86 hW kc_7 rfl dX8_planned_19 ?_
      rw [hs.2.1, show r.1 1 = nI (nn (r.1 1)) from hO.1.2.1.1]
      refine r_iload_n dX8_planned_22 rfl ?_
      refine q_callV2 (cv_X3_demandAhead ml_X8_196) hW (kd_po p1) (by decide) rfl ⟨rfl, rfl⟩ rfl (Nat.le_of_ble_eq_true rfl) dX8_planned_23 (c_X3_demandAhead hW (kd_po p1) zs z20 (by omega)) (fun v_23 h_23 q_23 => ?_)
      obtain ⟨rfl, z9⟩ := q_23
      replace z9 := z9.symm
      subst z9
      refine r_iret dX8_planned_26 rfl ⟨Nat.le_of_ble_eq_true rfl, Nat.le_of_ble_eq_true rfl⟩ ?_
      refine ⟨cd2_t ko kr9, ?_, rfl⟩
      try unfold fP
      try unfold gP
      try unfold tP
      rw [ex]
      rw [ek]
      all_goals rfl
    · refine PX.out rfl ⟨Nat.le_of_ble_eq_true rfl, Nat.le_of_ble_eq_true rfl⟩ ?_
      obtain ⟨rfl, kx, rfl⟩ := q_11
      exact ⟨thr_22 ko (decide_eq_false kx), rfl⟩
  · refine PX.out rfl ⟨Nat.le_of_ble_eq_true rfl, Nat.le_of_ble_eq_true rfl⟩ ?_
    obtain ⟨rfl, kx, rfl⟩ := q_2
    exact ⟨thr_21 kx, rfl⟩

set_option maxRecDepth 100000 in
set_option maxHeartbeats 4000000 in
theorem c_X8_decisions {l9 : Launch} {G : GC} {h : AH} {r : Row} {m : Nat} {x y : Int32} (hW : World h) (hs : StR h 7 r.1 r.2) (hO : RoOK r.1 r.2 m) : PM l9 G mX8_decisions NT NT [.ref 1, .int x, .int y] h (fun v h' => cd2 (okP r x) (rgB 0 5 y) = 0 ∧ v = some (.int ((fP r x) (30 + nn y))) ∧ h' = h) (fun E h' => thr [eB, eA] (cd2 (okP r x) (rgB 0 5 y)) E ∧ h' = h) := by
  refine PM.of (by decide +kernel) rfl rfl (Nat.le_of_ble_eq_true rfl) (fun hst _ => ?_)
  refine r_aload_n dX8_decisions_0 rfl ?_
  refine r_iload_n dX8_decisions_1 rfl ?_
  refine q_callX1 (cv_X8_existingPool ml_X8_112) hW kc_1 (by decide) rfl rfl (Nat.le_of_ble_eq_true rfl) dX8_decisions_2 (c_X8_existingPool hW hs hO) (fun v_2 h_2 q_2 => ?_) (fun E_2 h_2 q_2 => ?_)
  · obtain ⟨z9, ko, p, p1, p2, rfl, rfl⟩ := q_2
    replace z9 := z9.symm
    subst z9
    have ex : nn (nI p) = p := nn_I (by omega)
    have hOp := hO.2 p p2
    have hpo : PoR h (14 + 12 * p) (nn (r.1 1)) (nn (r.1 1)) (getP r.1 p) (getG r.2 p) := hs.po p2
    have hpo9 := hpo
    obtain ⟨zs, zm, zt, ⟨zd, zc⟩, zf, z20, z18, z19, z17, z21, z22, z16⟩ := hpo
    have zd0 : DemR h (14 + 12 * p) (nn (r.1 1)) (getP r.1 p) := ⟨zd, zc⟩
    have yc := hOp.2.2.2.2.1.2.1
    refine r_astore_n (ls2 := [_, _, some _, _]) dX8_decisions_5 (by decide) rfl ?_
    refine r_iload_n dX8_decisions_6 rfl ?_
    refine r_iconst (0) dX8_decisions_7 (by decide) ?_
    refine r_iconst (5) dX8_decisions_8 (by decide) ?_
    refine q_callXS3 (cs_X8_requireRange ml_X8_116) rfl (Nat.le_of_ble_eq_true rfl) dX8_decisions_9 c_X8_requireRange (fun v_9 h_9 q_9 => ?_) (fun E_9 h_9 q_9 => ?_)
    · obtain ⟨z9, kr, rfl⟩ := q_9
      replace z9 := z9.symm
      subst z9
      have kr9 : rgB 0 5 y = true := decide_eq_true kr
      obtain ⟨k, k1, k2, rfl⟩ := rgB_t (a := 0) (b := 5) kr9 (by decide) (by decide)
      have ek : nn (nI k) = k := nn_I (by omega)
      refine r_aload_n dX8_decisions_12 rfl ?_
      refine q_getR fl_X8_208 hW (kd_po p1) rfl (kl_3_2 hW (kd_po p1)) (Nat.succ_ne_zero _) dX8_decisions_13 ?_
      refine q_getR fl_X8_259 hW (kk_3_2 (kd_po p1)) rfl (kl_7_9 hW (kk_3_2 (kd_po p1))) (Nat.succ_ne_zero _) dX8_decisions_16 ?_
      refine r_iload_n dX8_decisions_19 rfl ?_
      refine q_iald hW (kk_7_9 (kk_3_2 (kd_po p1))) (k := k) rfl (by omega) (by decide) dX8_decisions_20 ?_
      refine r_iret dX8_decisions_21 rfl ⟨Nat.le_of_ble_eq_true rfl, Nat.le_of_ble_eq_true rfl⟩ ?_
      refine ⟨cd2_t ko kr9, ?_, rfl⟩
      try unfold fP
      try unfold gP
      try unfold tP
      rw [ex]
      rw [ek]
      exact some_int (zt.2.2 k (by omega))
      all_goals rfl
    · refine PX.out rfl ⟨Nat.le_of_ble_eq_true rfl, Nat.le_of_ble_eq_true rfl⟩ ?_
      obtain ⟨rfl, kx, rfl⟩ := q_9
      exact ⟨thr_22 ko (decide_eq_false kx), rfl⟩
  · refine PX.out rfl ⟨Nat.le_of_ble_eq_true rfl, Nat.le_of_ble_eq_true rfl⟩ ?_
    obtain ⟨rfl, kx, rfl⟩ := q_2
    exact ⟨thr_21 kx, rfl⟩
