-- the class: the futures
theorem po_stg {h h' : AH} {o c t : Nat} {f f' : Nat → Int32} {g : Nat → Int64} (hp : PoR h o c t f g) (he : eqx h h' (btw (o + 1) (o + 1))) (hs : SetR h' (o + 1) f' (lds f)) (e : ∀ k, 16 ≤ k → f' k = f k) (e6 : f' 6 = f 6) : PoR h' o c t f' g := by
  obtain ⟨zs, zm, zt, ⟨zd, zc⟩, zf, z20, z18, z19, z17, z21, z22, z16⟩ := hp
  have hm : mbs f' = mbs f := mbs_cg (e 23 (by decide)) (fun k hk => e _ (by omega))
  have hl : lds f' = lds f := lds_cg (e 24 (by decide)) (fun k hk => e _ (by omega))
  have hI : ∀ i, i < o + 1 ∨ o + 1 < i → aI h' i = aI h i := fun i h1 => he.I (by unfold btw; omega)
  refine ⟨by rw [hl]; exact hs, ?_, ?_, ⟨fun j h1 h2 => ?_, ?_⟩, fun u h1 h2 => ?_, ?_, ?_, ?_, ?_, ?_, ?_, ?_⟩
  · rw [hm]; exact zm.cg (hI _ (by omega)) (hI _ (by omega)) (hI _ (by omega)) (hI _ (by omega)) (hI _ (by omega))
  · refine TalR.cg2 (zt.eqx he (by unfold btw; omega) (by unfold btw; omega)) (fun j => ?_) (fun j hj => e _ (by omega))
    unfold tIF
    split
    · exact e _ (by decide)
    · exact e _ (by decide)
    · exact e _ (by decide)
    · exact e _ (by decide)
    · rfl
  · rw [hI _ (by omega), e _ (by omega)]; exact zd j h1 h2
  · rw [hI _ (by omega)]; exact zc
  · rw [e6] at h2 ⊢
    rw [hI _ (by omega), e _ (by omega)]
    exact zf u h1 h2
  all_goals (rw [hI _ (by omega), e _ (by omega)]; assumption)
def stQ (s : Tr) (f : Nat → Int32) : Tr := ((f, s.1.2), s.2)
theorem TrI.st {h h' : AH} {p t : Nat} {s : Tr} {f : Nat → Int32} (hi : TrI h p t s) (e : eqx h h' (btw (62 + 7 + 12 * p) (62 + 7 + 12 * p + 11))) (hp : PoR h' (62 + 7 + 12 * p) t t f s.2) : TrI h' p t (stQ s f) :=
  ⟨(congrFun (e.I (by unfold btw; omega)) 2).trans hi.1, (congrFun (e.I (by unfold btw; omega)) 3).trans hi.2.1, hi.2.2.1.eqx e (fun i h1 h2 => by unfold btw; omega), hp⟩
theorem tpS_k {f : Nat → Int32} {y : Int32} {k : Nat} (h : k ≠ 7) (h2 : k ≠ 8) : tpS f y k = f k := by
  unfold tpS
  rw [pk_un h]
  split
  · split
    · rfl
    · exact pk_un h2
  · exact pk_un h2
theorem tpS_7 {f : Nat → Int32} {y : Int32} : tpS f y 7 = y := by unfold tpS; exact pk_us
theorem tpS_8 {f : Nat → Int32} {y : Int32} : tpS f y 8 = if y = 2 then (if f 7 = 2 then f 8 else 24) else 0 := by
  unfold tpS
  rw [pk_un (by decide)]
  split
  · split
    · rfl
    · exact pk_us
  · exact pk_us
theorem PoOK.tp {f : Nat → Int32} {g : Nat → Int64} {c t : Nat} {y : Int32} (h : PoOK f g c t) (hy : rg y 0 2) : PoOK (tpS f y) g c t := by
  have h8 : rg (tpS f y 8) 0 24 := by
    rw [tpS_8]
    split
    · split
      · exact h.at 8
      · exact rg_I (k := 24) (by decide) (by decide) (by decide)
    · exact rg_I (k := 0) (by decide) (by decide) (by decide)
  refine h.st (fun j hj => tpS_k (by omega) (by omega)) (tpS_k (by decide) (by decide)) (fun k hk => ?_) ?_ ?_
  · by_cases e7 : k = 7
    · subst e7; rw [tpS_7]; exact hy
    · by_cases e8 : k = 8
      · subst e8; exact h8
      · rw [tpS_k e7 e8]; exact h.1 k hk
  · rw [tpS_7, tpS_8]
    intro q
    rw [if_pos q]
    split
    · next z => exact h.2.1.1 z
    · decide
  · rw [tpS_k (by decide) (by decide), tpS_k (by decide) (by decide)]; exact h.2.1.2
set_option maxRecDepth 100000 in
set_option maxHeartbeats 800000 in
theorem c_X8_sizeIn {l9 : Launch} {G : GC} {h : AH} {r : Row} {m : Nat} {x y : Int32} (hW : World h) (hs : StR h 7 r.1 r.2) (hO : RoOK r.1 r.2 m) (hb : m + 300 < 2 ^ 23) : PM l9 G mX8_sizeIn NT NT [.ref 1, .int x, .int y] h (fun v h' => cd2 (okP r x) (rgB 1 300 y) = 0 ∧ v = some (.int (qF (TN r x (nn y)).1 23)) ∧ eqx h h' (SB 62)) (fun E h' => thr [eB, eA] (cd2 (okP r x) (rgB 1 300 y)) E ∧ h' = h) := by
  refine PM.of (by decide +kernel) rfl rfl (Nat.le_of_ble_eq_true rfl) (fun hst _ => ?_)
  refine r_aload_n dX8_sizeIn_0 rfl ?_
  refine r_iload_n dX8_sizeIn_1 rfl ?_
  refine r_iload_n dX8_sizeIn_2 rfl ?_
  refine q_callX2 (cv_X8_startTrial ml_X8_345) hW kc_1 (by decide) rfl rfl (Nat.le_of_ble_eq_true rfl) dX8_sizeIn_3 (c_X8_startTrial hW hs hO) (fun v_3 h_3 q_3 => ?_) (fun E_3 h_3 q_3 => ?_)
  · obtain ⟨hcd, ⟨n, n1, n2, hy⟩, p, hp, p2, hx, rfl, e0, s0⟩ := q_3
    have hW := e0.W hW
    have ex : nn x = p := by rw [hx]; exact nn_I (by omega)
    have ey : nn y = n := by rw [hy]; exact nn_I (by omega)
    have hI0 : TrI h_3 p (nn (r.1 1)) (T0 r p) := tr_st s0 hO p2
    have hO0 : TrO (nn (r.1 1)) (T0 r p) := hO.2 p p2
    have hE3 := hO.1.2.2.2.2.2
    have hT1 := hO.1.2.1.2.2
    have hE0 : qE (T0 r p).1 < 2 ^ 28 := by show nn (r.1 3) < _; omega
    have ht0 : nn (r.1 1) < 2 ^ 27 := by omega
    refine r_astore_n (ls2 := [_, _, some _, _]) dX8_sizeIn_6 (by decide) rfl ?_
    refine r_aload_n dX8_sizeIn_7 rfl ?_
    refine r_iload_n dX8_sizeIn_8 rfl ?_
    refine r_iload_n dX8_sizeIn_9 rfl ?_
    refine q_callV2 (cv_X8_tryTicks ml_X8_349) hW kc_1 (by decide) rfl ⟨rfl, rfl⟩ rfl (Nat.le_of_ble_eq_true rfl) dX8_sizeIn_10 (c_X8_tryTicks hW hp hI0 hO0 hx hy n2 ht0 hE0) (fun v_10 h_10 q_10 => ?_)
    obtain ⟨rfl, e1, hI1⟩ := q_10
    have hW := e1.W hW
    obtain ⟨hO1, hE1⟩ := trT_ok (p := p) hO0 n (by omega)
    refine r_aload_n dX8_sizeIn_13 rfl ?_
    refine q_getR fl_X8_119 hW (kd_dr hp) rfl (kl_3_1 hW (kd_dr hp)) (Nat.succ_ne_zero _) dX8_sizeIn_14 ?_
    refine q_getI fl_X8_125 hW (kk_3_1 (kd_dr hp)) rfl dX8_sizeIn_17 ?_
    rw [show aI h_10 (62 + 1 + 6 + 12 * p + 3) 4 = qF (trT p (nn (r.1 1)) n (T0 r p)).1 23 from hI1.sz hO1]
    refine r_iret dX8_sizeIn_20 rfl ⟨Nat.le_of_ble_eq_true rfl, Nat.le_of_ble_eq_true rfl⟩ ?_
    refine ⟨hcd, ?_, e0.tr e1⟩
    unfold TN
    rw [ex, ey]
  · refine PX.out rfl ⟨Nat.le_of_ble_eq_true rfl, Nat.le_of_ble_eq_true rfl⟩ ?_
    obtain ⟨kx, rfl⟩ := q_3
    exact ⟨kx, rfl⟩

set_option maxRecDepth 100000 in
set_option maxHeartbeats 800000 in
theorem c_X8_missedIn {l9 : Launch} {G : GC} {h : AH} {r : Row} {m : Nat} {x y : Int32} (hW : World h) (hs : StR h 7 r.1 r.2) (hO : RoOK r.1 r.2 m) (hb : m + 300 < 2 ^ 23) : PM l9 G mX8_missedIn NT NT [.ref 1, .int x, .int y] h (fun v h' => cd2 (okP r x) (rgB 1 300 y) = 0 ∧ v = some (.long ((TN r x (nn y)).2 1 - gP r x 1)) ∧ eqx h h' (SB 62)) (fun E h' => thr [eB, eA] (cd2 (okP r x) (rgB 1 300 y)) E ∧ h' = h) := by
  refine PM.of (by decide +kernel) rfl rfl (Nat.le_of_ble_eq_true rfl) (fun hst _ => ?_)
  refine r_aload_n dX8_missedIn_0 rfl ?_
  refine r_iload_n dX8_missedIn_1 rfl ?_
  refine r_iload_n dX8_missedIn_2 rfl ?_
  refine q_callX2 (cv_X8_startTrial ml_X8_345) hW kc_1 (by decide) rfl rfl (Nat.le_of_ble_eq_true rfl) dX8_missedIn_3 (c_X8_startTrial hW hs hO) (fun v_3 h_3 q_3 => ?_) (fun E_3 h_3 q_3 => ?_)
  · obtain ⟨hcd, ⟨n, n1, n2, hy⟩, p, hp, p2, hx, rfl, e0, s0⟩ := q_3
    have hW := e0.W hW
    have ex : nn x = p := by rw [hx]; exact nn_I (by omega)
    have ey : nn y = n := by rw [hy]; exact nn_I (by omega)
    have hI0 : TrI h_3 p (nn (r.1 1)) (T0 r p) := tr_st s0 hO p2
    have hO0 : TrO (nn (r.1 1)) (T0 r p) := hO.2 p p2
    have hE3 := hO.1.2.2.2.2.2
    have hT1 := hO.1.2.1.2.2
    have hE0 : qE (T0 r p).1 < 2 ^ 28 := by show nn (r.1 3) < _; omega
    have ht0 : nn (r.1 1) < 2 ^ 27 := by omega
    refine r_astore_n (ls2 := [_, _, some _, _, _, _]) dX8_missedIn_6 (by decide) rfl ?_
    refine r_aload_n dX8_missedIn_7 rfl ?_
    refine q_getR fl_X8_208 hW (kd_dr hp) rfl (kl_3_2 hW (kd_dr hp)) (Nat.succ_ne_zero _) dX8_missedIn_8 ?_
    refine q_getJ fl_X8_247 hW (kk_3_2 (kd_dr hp)) rfl dX8_missedIn_11 ?_
    rw [show aJ h_3 (62 + 1 + 6 + 12 * p + 8) 1 = gP r x 1 from by unfold gP; rw [ex]; exact hI0.tl (by decide)]
    refine r_lstore (ls2 := [_, _, _, some _, _, none]) dX8_missedIn_14 (by decide) rfl ?_
    refine r_aload_n dX8_missedIn_16 rfl ?_
    refine r_iload_n dX8_missedIn_17 rfl ?_
    refine r_iload_n dX8_missedIn_18 rfl ?_
    refine q_callV2 (cv_X8_tryTicks ml_X8_349) hW kc_1 (by decide) rfl ⟨rfl, rfl⟩ rfl (Nat.le_of_ble_eq_true rfl) dX8_missedIn_19 (c_X8_tryTicks hW hp hI0 hO0 hx hy n2 ht0 hE0) (fun v_19 h_19 q_19 => ?_)
    obtain ⟨rfl, e1, hI1⟩ := q_19
    have hW := e1.W hW
    obtain ⟨hO1, hE1⟩ := trT_ok (p := p) hO0 n (by omega)
    refine r_aload_n dX8_missedIn_22 rfl ?_
    refine q_getR fl_X8_208 hW (kd_dr hp) rfl (kl_3_2 hW (kd_dr hp)) (Nat.succ_ne_zero _) dX8_missedIn_23 ?_
    refine q_getJ fl_X8_247 hW (kk_3_2 (kd_dr hp)) rfl dX8_missedIn_26 ?_
    rw [show aJ h_19 (62 + 1 + 6 + 12 * p + 8) 1 = (trT p (nn (r.1 1)) n (T0 r p)).2 1 from hI1.tl (by decide)]
    refine r_lload dX8_missedIn_29 rfl ?_
    refine r_lsub dX8_missedIn_31 ?_
    refine r_lret dX8_missedIn_32 rfl ⟨Nat.le_of_ble_eq_true rfl, Nat.le_of_ble_eq_true rfl⟩ ?_
    refine ⟨hcd, ?_, e0.tr e1⟩
    unfold TN
    rw [ex, ey]
  · refine PX.out rfl ⟨Nat.le_of_ble_eq_true rfl, Nat.le_of_ble_eq_true rfl⟩ ?_
    obtain ⟨kx, rfl⟩ := q_3
    exact ⟨kx, rfl⟩

set_option maxRecDepth 100000 in
set_option maxHeartbeats 800000 in
theorem c_X8_costIn {l9 : Launch} {G : GC} {h : AH} {r : Row} {m : Nat} {x y : Int32} (hW : World h) (hs : StR h 7 r.1 r.2) (hO : RoOK r.1 r.2 m) (hb : m + 300 < 2 ^ 23) : PM l9 G mX8_costIn NT NT [.ref 1, .int x, .int y] h (fun v h' => cd2 (okP r x) (rgB 1 300 y) = 0 ∧ v = some (.long ((TN r x (nn y)).2 2 - gP r x 2)) ∧ eqx h h' (SB 62)) (fun E h' => thr [eB, eA] (cd2 (okP r x) (rgB 1 300 y)) E ∧ h' = h) := by
  refine PM.of (by decide +kernel) rfl rfl (Nat.le_of_ble_eq_true rfl) (fun hst _ => ?_)
  refine r_aload_n dX8_costIn_0 rfl ?_
  refine r_aload_n dX8_costIn_1 rfl ?_
  refine r_iload_n dX8_costIn_2 rfl ?_
  refine r_iload_n dX8_costIn_3 rfl ?_
  refine q_callX2 (cv_X8_startTrial ml_X8_345) hW kc_1 (by decide) rfl rfl (Nat.le_of_ble_eq_true rfl) dX8_costIn_4 (c_X8_startTrial hW hs hO) (fun v_4 h_4 q_4 => ?_) (fun E_4 h_4 q_4 => ?_)
  · obtain ⟨hcd, ⟨n, n1, n2, hy⟩, p, hp, p2, hx, rfl, e0, s0⟩ := q_4
    have hW := e0.W hW
    have ex : nn x = p := by rw [hx]; exact nn_I (by omega)
    have ey : nn y = n := by rw [hy]; exact nn_I (by omega)
    have hI0 : TrI h_4 p (nn (r.1 1)) (T0 r p) := tr_st s0 hO p2
    have hO0 : TrO (nn (r.1 1)) (T0 r p) := hO.2 p p2
    have hE3 := hO.1.2.2.2.2.2
    have hT1 := hO.1.2.1.2.2
    have hE0 : qE (T0 r p).1 < 2 ^ 28 := by show nn (r.1 3) < _; omega
    have ht0 : nn (r.1 1) < 2 ^ 27 := by omega
    refine r_iload_n dX8_costIn_7 rfl ?_
    refine r_iload_n dX8_costIn_8 rfl ?_
    refine q_callV3 (cv_X8_tryCost ml_X8_352) hW kc_1 (by decide) rfl ⟨rfl, rfl⟩ rfl (Nat.le_of_ble_eq_true rfl) dX8_costIn_9 (c_X8_tryCost hW hp hI0 hO0 hx hy n2 ht0 hE0) (fun v_9 h_9 q_9 => ?_)
    obtain ⟨rfl, e1, hI1⟩ := q_9
    refine r_lret dX8_costIn_12 rfl ⟨Nat.le_of_ble_eq_true rfl, Nat.le_of_ble_eq_true rfl⟩ ?_
    refine ⟨hcd, ?_, e0.tr e1⟩
    unfold TN gP
    rw [ex, ey]
    rfl
  · refine PX.out rfl ⟨Nat.le_of_ble_eq_true rfl, Nat.le_of_ble_eq_true rfl⟩ ?_
    obtain ⟨kx, rfl⟩ := q_4
    exact ⟨kx, rfl⟩

set_option maxRecDepth 100000 in
set_option maxHeartbeats 800000 in
theorem c_X8_changesIn {l9 : Launch} {G : GC} {h : AH} {r : Row} {m : Nat} {x y : Int32} (hW : World h) (hs : StR h 7 r.1 r.2) (hO : RoOK r.1 r.2 m) (hb : m + 300 < 2 ^ 23) : PM l9 G mX8_changesIn NT NT [.ref 1, .int x, .int y] h (fun v h' => cd2 (okP r x) (rgB 1 300 y) = 0 ∧ v = some (.int (nI (qE (TN r x (nn y)).1) - r.1 3)) ∧ eqx h h' (SB 62)) (fun E h' => thr [eB, eA] (cd2 (okP r x) (rgB 1 300 y)) E ∧ h' = h) := by
  refine PM.of (by decide +kernel) rfl rfl (Nat.le_of_ble_eq_true rfl) (fun hst _ => ?_)
  refine r_aload_n dX8_changesIn_0 rfl ?_
  refine r_iload_n dX8_changesIn_1 rfl ?_
  refine r_iload_n dX8_changesIn_2 rfl ?_
  refine q_callX2 (cv_X8_startTrial ml_X8_345) hW kc_1 (by decide) rfl rfl (Nat.le_of_ble_eq_true rfl) dX8_changesIn_3 (c_X8_startTrial hW hs hO) (fun v_3 h_3 q_3 => ?_) (fun E_3 h_3 q_3 => ?_)
  · obtain ⟨hcd, ⟨n, n1, n2, hy⟩, p, hp, p2, hx, rfl, e0, s0⟩ := q_3
    have hW := e0.W hW
    have ex : nn x = p := by rw [hx]; exact nn_I (by omega)
    have ey : nn y = n := by rw [hy]; exact nn_I (by omega)
    have hI0 : TrI h_3 p (nn (r.1 1)) (T0 r p) := tr_st s0 hO p2
    have hO0 : TrO (nn (r.1 1)) (T0 r p) := hO.2 p p2
    have hE3 := hO.1.2.2.2.2.2
    have hT1 := hO.1.2.1.2.2
    have hE0 : qE (T0 r p).1 < 2 ^ 28 := by show nn (r.1 3) < _; omega
    have ht0 : nn (r.1 1) < 2 ^ 27 := by omega
    refine r_pop dX8_changesIn_6 rfl ?_
    refine r_aload_n dX8_changesIn_7 rfl ?_
    refine q_getR fl_X8_41 hW kc_1 rfl (kl_8_7 hW) (by decide) dX8_changesIn_8 ?_
    refine q_getR fl_X8_96 hW kc_62 rfl (kl_6_4 hW kc_62) (Nat.succ_ne_zero _) dX8_changesIn_11 ?_
    refine q_getI fl_X8_100 hW (kk_6_4 kc_62) rfl dX8_changesIn_14 ?_
    rw [show aI h_3 (62 + 2) 4 = r.1 3 from hI0.ev.trans hO.1.2.2.2.1.symm]
    refine r_istore_n (ls2 := [_, _, some _, _]) dX8_changesIn_17 (by decide) rfl ?_
    refine r_aload_n dX8_changesIn_18 rfl ?_
    refine r_iload_n dX8_changesIn_19 rfl ?_
    refine r_iload_n dX8_changesIn_20 rfl ?_
    refine q_callV2 (cv_X8_tryTicks ml_X8_349) hW kc_1 (by decide) rfl ⟨rfl, rfl⟩ rfl (Nat.le_of_ble_eq_true rfl) dX8_changesIn_21 (c_X8_tryTicks hW hp hI0 hO0 hx hy n2 ht0 hE0) (fun v_21 h_21 q_21 => ?_)
    obtain ⟨rfl, e1, hI1⟩ := q_21
    have hW := e1.W hW
    obtain ⟨hO1, hE1⟩ := trT_ok (p := p) hO0 n (by omega)
    refine r_aload_n dX8_changesIn_24 rfl ?_
    refine q_getR fl_X8_41 hW kc_1 rfl (kl_8_7 hW) (by decide) dX8_changesIn_25 ?_
    refine q_getR fl_X8_96 hW kc_62 rfl (kl_6_4 hW kc_62) (Nat.succ_ne_zero _) dX8_changesIn_28 ?_
    refine q_getI fl_X8_100 hW (kk_6_4 kc_62) rfl dX8_changesIn_31 ?_
    rw [show aI h_21 (62 + 2) 4 = nI (qE (trT p (nn (r.1 1)) n (T0 r p)).1) from hI1.ev]
    refine r_iload_n dX8_changesIn_34 rfl ?_
    refine r_isub dX8_changesIn_35 ?_
    refine r_iret dX8_changesIn_36 rfl ⟨Nat.le_of_ble_eq_true rfl, Nat.le_of_ble_eq_true rfl⟩ ?_
    refine ⟨hcd, ?_, e0.tr e1⟩
    unfold TN
    rw [ex, ey]
  · refine PX.out rfl ⟨Nat.le_of_ble_eq_true rfl, Nat.le_of_ble_eq_true rfl⟩ ?_
    obtain ⟨kx, rfl⟩ := q_3
    exact ⟨kx, rfl⟩

def msB (r : Row) (x : Int32) (k : Nat) : Bool := decide (gP r x 1 < (TN r x (k + 1)).2 1)
def stB (r : Row) (x : Int32) (k : Nat) : Bool := decide (qF (TN r x (k + 1)).1 17 = 2)
theorem c_X8_tryTickX {l9 : Launch} {G : GC} {h : AH} {p t : Nat} {s : Tr} {x : Int32} (hW : World h) (hp : p < 4) (hi : TrI h p t s) (hO : TrO t s) (ht : t < 2 ^ 28) (hE : qE s.1 < 2 ^ 29) (hx : x = nI p) : PM l9 G mX8_tryTick NT NT [.ref 1, .int x] h (fun v h' => v = none ∧ eqx h h' (SB 62) ∧ TrI h' p (t + 1) (tk1 p t s)) noX := by
  subst hx
  exact c_X8_tryTick hW hp hi hO ht hE
/-- the first tick of those at most n, counted from one, at which ..; -1 where there is none -/
def f1A (o : Option Nat) : Int32 := match o with
  | some k => nI (k + 1)
  | none => -1
theorem lg_gt {x y : Int64} : 0 < lg_cmp x y ↔ y < x := by
  unfold lg_cmp
  split
  · next h => exact ⟨fun _ => h, fun _ => by decide⟩
  · split
    · next h _ => exact ⟨fun q => absurd q (by decide), fun q => absurd q h⟩
    · next h _ => exact ⟨fun q => absurd q (by decide), fun q => absurd q h⟩
set_option maxRecDepth 100000 in
set_option maxHeartbeats 800000 in
theorem c_X8_missesIn {l9 : Launch} {G : GC} {h : AH} {r : Row} {m : Nat} {x y : Int32} (hW : World h) (hs : StR h 7 r.1 r.2) (hO : RoOK r.1 r.2 m) (hb : m + 300 < 2 ^ 23) : PM l9 G mX8_missesIn NT NT [.ref 1, .int x, .int y] h (fun v h' => cd2 (okP r x) (rgB 1 300 y) = 0 ∧ v = some (.int (f1A (fi (msB r x) (nn y)))) ∧ eqx h h' (SB 62)) (fun E h' => thr [eB, eA] (cd2 (okP r x) (rgB 1 300 y)) E ∧ h' = h) := by
  refine PM.of (by decide +kernel) rfl rfl (Nat.le_of_ble_eq_true rfl) (fun hst _ => ?_)
  refine r_aload_n dX8_missesIn_0 rfl ?_
  refine r_iload_n dX8_missesIn_1 rfl ?_
  refine r_iload_n dX8_missesIn_2 rfl ?_
  refine q_callX2 (cv_X8_startTrial ml_X8_345) hW kc_1 (by decide) rfl rfl (Nat.le_of_ble_eq_true rfl) dX8_missesIn_3 (c_X8_startTrial hW hs hO) (fun v_3 h_3 q_3 => ?_) (fun E_3 h_3 q_3 => ?_)
  · obtain ⟨hcd, ⟨n, n1, n2, hy⟩, p, hp, p2, hx, rfl, e0, s0⟩ := q_3
    have hW := e0.W hW
    have ex : nn x = p := by rw [hx]; exact nn_I (by omega)
    have ey : nn y = n := by rw [hy]; exact nn_I (by omega)
    have hI0 : TrI h_3 p (nn (r.1 1)) (T0 r p) := tr_st s0 hO p2
    have hO0 : TrO (nn (r.1 1)) (T0 r p) := hO.2 p p2
    have hE3 := hO.1.2.2.2.2.2
    have hT1 := hO.1.2.1.2.2
    have hE0 : qE (T0 r p).1 < 2 ^ 28 := by show nn (r.1 3) < _; omega
    have ht0 : nn (r.1 1) < 2 ^ 27 := by omega
    refine r_astore_n (ls2 := [_, _, some _, _, _, _, _]) dX8_missesIn_6 (by decide) rfl ?_
    refine r_aload_n dX8_missesIn_7 rfl ?_
    refine q_getR fl_X8_208 hW (kd_dr hp) rfl (kl_3_2 hW (kd_dr hp)) (Nat.succ_ne_zero _) dX8_missesIn_8 ?_
    refine q_getJ fl_X8_247 hW (kk_3_2 (kd_dr hp)) rfl dX8_missesIn_11 ?_
    rw [show aJ h_3 (62 + 1 + 6 + 12 * p + 8) 1 = gP r x 1 from by unfold gP; rw [ex]; exact hI0.tl (by decide)]
    refine r_lstore (ls2 := [_, _, _, some _, _, none, _]) dX8_missesIn_14 (by decide) rfl ?_
    refine r_iconst (1) dX8_missesIn_16 (by decide) ?_
    refine r_istore (ls2 := [_, _, _, _, _, none, _]) dX8_missesIn_17 (by decide) rfl ?_
    refine loopN (P := fun i => ∀ (H : AH), i ≤ n → World H → eqx h H (SB 62) → TrI H p (nn (r.1 1) + i) (trT p (nn (r.1 1)) i (T0 r p)) → fi (msB r x) i = none → PW l9 G mX8_missesIn _ _ NT 19 [some (.ref 1), some (.int x), some (.int y), some (.ref (62 + 1 + 6 + 12 * p)), some (.long (gP r x 1)), none, some (.int (nI (i + 1)))] [] _ H) n (fun i ih H hin hW he hI hf => ?_) 0 _ (Nat.zero_le _) hW e0 hI0 rfl
    obtain ⟨o1, o2⟩ := trT_ok (p := p) hO0 i (by omega)
    refine r_iload dX8_missesIn_19 rfl ?_
    refine r_iload_n dX8_missesIn_21 rfl ?_
    refine r_icmp_gt 52 dX8_missesIn_22 (by decide) (fun c_22 => ?_) (fun c_22 => ?_)
    · have hge : n = i := by
        have c9 := c_22
        rw [hy] at c9
        have := (nI_ltI (a := n) (b := i + 1) (by omega) (by omega)).mp c9
        omega
      subst hge
      refine r_iconst (-1) dX8_missesIn_52 (by decide) ?_
      refine r_iret dX8_missesIn_53 rfl ⟨Nat.le_of_ble_eq_true rfl, Nat.le_of_ble_eq_true rfl⟩ ?_
      refine ⟨hcd, ?_, he⟩
      rw [ey, hf]
      rfl
    · have hlt : i < n := by
        have c9 := c_22
        rw [hy] at c9
        have := (not_congr (nI_ltI (a := n) (b := i + 1) (by omega) (by omega))).mp c9
        omega
      refine r_aload_n dX8_missesIn_25 rfl ?_
      refine r_iload_n dX8_missesIn_26 rfl ?_
      refine q_callV1 (cv_X8_tryTick ml_X8_356) hW kc_1 (by decide) rfl ⟨rfl, rfl⟩ rfl (Nat.le_of_ble_eq_true rfl) dX8_missesIn_27 (c_X8_tryTickX hW hp hI o1 (by omega) (by omega) hx) (fun v_27 h_27 q_27 => ?_)
      obtain ⟨rfl, e1, hI2⟩ := q_27
      have hW := e1.W hW
      have hI2' : TrI h_27 p (nn (r.1 1) + (i + 1)) (trT p (nn (r.1 1)) (i + 1) (T0 r p)) := by rw [trT_s]; exact hI2
      obtain ⟨o3, o4⟩ := trT_ok (p := p) hO0 (i + 1) (by omega)
      refine r_aload_n dX8_missesIn_30 rfl ?_
      refine q_getR fl_X8_208 hW (kd_dr hp) rfl (kl_3_2 hW (kd_dr hp)) (Nat.succ_ne_zero _) dX8_missesIn_31 ?_
      refine q_getJ fl_X8_247 hW (kk_3_2 (kd_dr hp)) rfl dX8_missesIn_34 ?_
      rw [show aJ h_27 (62 + 1 + 6 + 12 * p + 8) 1 = (trT p (nn (r.1 1)) (i + 1) (T0 r p)).2 1 from hI2'.tl (by decide)]
      have eT : (TN r x (i + 1)).2 1 = (trT p (nn (r.1 1)) (i + 1) (T0 r p)).2 1 := by unfold TN; rw [ex]
      have hlg := lg_gt (x := (trT p (nn (r.1 1)) (i + 1) (T0 r p)).2 1) (y := gP r x 1)
      refine r_lload dX8_missesIn_37 rfl ?_
      refine r_lcmp dX8_missesIn_39 ?_
      refine r_if_le 46 dX8_missesIn_40 (by decide) (fun c_40 => ?_) (fun c_40 => ?_)
      · refine r_iinc (1) (by decide) (ls2 := [_, _, _, _, _, none, _]) dX8_missesIn_46 rfl (by decide) rfl ?_
        refine r_goto 19 dX8_missesIn_49 (by decide) ?_
        rw [nI_1]
        exact ih hlt _ hlt hW (he.tr e1) hI2' (fi_pass hf (by unfold msB; rw [eT]; exact decide_eq_false (fun q => absurd (hlg.mpr q) (Int32.not_lt.mpr c_40))))
      · refine r_iload dX8_missesIn_43 rfl ?_
        refine r_iret dX8_missesIn_45 rfl ⟨Nat.le_of_ble_eq_true rfl, Nat.le_of_ble_eq_true rfl⟩ ?_
        refine ⟨hcd, ?_, he.tr e1⟩
        rw [ey, fi_hit hf (show msB r x i = true by unfold msB; rw [eT]; exact decide_eq_true (hlg.mp (Int32.not_le.mp c_40))) hlt]
        rfl
  · refine PX.out rfl ⟨Nat.le_of_ble_eq_true rfl, Nat.le_of_ble_eq_true rfl⟩ ?_
    obtain ⟨kx, rfl⟩ := q_3
    exact ⟨kx, rfl⟩

set_option maxRecDepth 100000 in
set_option maxHeartbeats 800000 in
theorem c_X8_settlesIn {l9 : Launch} {G : GC} {h : AH} {r : Row} {m : Nat} {x y : Int32} (hW : World h) (hs : StR h 7 r.1 r.2) (hO : RoOK r.1 r.2 m) (hb : m + 300 < 2 ^ 23) : PM l9 G mX8_settlesIn NT NT [.ref 1, .int x, .int y] h (fun v h' => cd2 (okP r x) (rgB 1 300 y) = 0 ∧ v = some (.int (f1A (fi (stB r x) (nn y)))) ∧ eqx h h' (SB 62)) (fun E h' => thr [eB, eA] (cd2 (okP r x) (rgB 1 300 y)) E ∧ h' = h) := by
  refine PM.of (by decide +kernel) rfl rfl (Nat.le_of_ble_eq_true rfl) (fun hst _ => ?_)
  refine r_aload_n dX8_settlesIn_0 rfl ?_
  refine r_iload_n dX8_settlesIn_1 rfl ?_
  refine r_iload_n dX8_settlesIn_2 rfl ?_
  refine q_callX2 (cv_X8_startTrial ml_X8_345) hW kc_1 (by decide) rfl rfl (Nat.le_of_ble_eq_true rfl) dX8_settlesIn_3 (c_X8_startTrial hW hs hO) (fun v_3 h_3 q_3 => ?_) (fun E_3 h_3 q_3 => ?_)
  · obtain ⟨hcd, ⟨n, n1, n2, hy⟩, p, hp, p2, hx, rfl, e0, s0⟩ := q_3
    have hW := e0.W hW
    have ex : nn x = p := by rw [hx]; exact nn_I (by omega)
    have ey : nn y = n := by rw [hy]; exact nn_I (by omega)
    have hI0 : TrI h_3 p (nn (r.1 1)) (T0 r p) := tr_st s0 hO p2
    have hO0 : TrO (nn (r.1 1)) (T0 r p) := hO.2 p p2
    have hE3 := hO.1.2.2.2.2.2
    have hT1 := hO.1.2.1.2.2
    have hE0 : qE (T0 r p).1 < 2 ^ 28 := by show nn (r.1 3) < _; omega
    have ht0 : nn (r.1 1) < 2 ^ 27 := by omega
    refine r_astore_n (ls2 := [_, _, some _, _, _]) dX8_settlesIn_6 (by decide) rfl ?_
    refine r_iconst (1) dX8_settlesIn_7 (by decide) ?_
    refine r_istore (ls2 := [_, _, _, some _, _]) dX8_settlesIn_8 (by decide) rfl ?_
    refine loopN (P := fun i => ∀ (H : AH), i ≤ n → World H → eqx h H (SB 62) → TrI H p (nn (r.1 1) + i) (trT p (nn (r.1 1)) i (T0 r p)) → fi (stB r x) i = none → PW l9 G mX8_settlesIn _ _ NT 10 [some (.ref 1), some (.int x), some (.int y), some (.ref (62 + 1 + 6 + 12 * p)), some (.int (nI (i + 1)))] [] _ H) n (fun i ih H hin hW he hI hf => ?_) 0 _ (Nat.zero_le _) hW e0 hI0 rfl
    obtain ⟨o1, o2⟩ := trT_ok (p := p) hO0 i (by omega)
    refine r_iload dX8_settlesIn_10 rfl ?_
    refine r_iload_n dX8_settlesIn_12 rfl ?_
    refine r_icmp_gt 38 dX8_settlesIn_13 (by decide) (fun c_13 => ?_) (fun c_13 => ?_)
    · have hge : n = i := by
        have c9 := c_13
        rw [hy] at c9
        have := (nI_ltI (a := n) (b := i + 1) (by omega) (by omega)).mp c9
        omega
      subst hge
      refine r_iconst (-1) dX8_settlesIn_38 (by decide) ?_
      refine r_iret dX8_settlesIn_39 rfl ⟨Nat.le_of_ble_eq_true rfl, Nat.le_of_ble_eq_true rfl⟩ ?_
      refine ⟨hcd, ?_, he⟩
      rw [ey, hf]
      rfl
    · have hlt : i < n := by
        have c9 := c_13
        rw [hy] at c9
        have := (not_congr (nI_ltI (a := n) (b := i + 1) (by omega) (by omega))).mp c9
        omega
      refine r_aload_n dX8_settlesIn_16 rfl ?_
      refine r_iload_n dX8_settlesIn_17 rfl ?_
      refine q_callV1 (cv_X8_tryTick ml_X8_356) hW kc_1 (by decide) rfl ⟨rfl, rfl⟩ rfl (Nat.le_of_ble_eq_true rfl) dX8_settlesIn_18 (c_X8_tryTickX hW hp hI o1 (by omega) (by omega) hx) (fun v_18 h_18 q_18 => ?_)
      obtain ⟨rfl, e1, hI2⟩ := q_18
      have hW := e1.W hW
      have hI2' : TrI h_18 p (nn (r.1 1) + (i + 1)) (trT p (nn (r.1 1)) (i + 1) (T0 r p)) := by rw [trT_s]; exact hI2
      obtain ⟨o3, o4⟩ := trT_ok (p := p) hO0 (i + 1) (by omega)
      refine r_aload_n dX8_settlesIn_21 rfl ?_
      refine q_getI fl_X8_140 hW (kd_dr hp) rfl dX8_settlesIn_22 ?_
      rw [show aI h_18 (62 + 1 + 6 + 12 * p) 9 = qF (trT p (nn (r.1 1)) (i + 1) (T0 r p)).1 17 from hI2'.po.2.2.2.2.2.2.2.2.1]
      have eT : (TN r x (i + 1)).1 = (trT p (nn (r.1 1)) (i + 1) (T0 r p)).1 := by unfold TN; rw [ex]
      refine r_iconst (2) dX8_settlesIn_25 (by decide) ?_
      refine r_icmp_ne 32 dX8_settlesIn_26 (by decide) (fun c_26 => ?_) (fun c_26 => ?_)
      · refine r_iinc (1) (by decide) (ls2 := [_, _, _, some _, _]) dX8_settlesIn_32 rfl (by decide) rfl ?_
        refine r_goto 10 dX8_settlesIn_35 (by decide) ?_
        rw [nI_1]
        exact ih hlt _ hlt hW (he.tr e1) hI2' (fi_pass hf (by unfold stB; rw [eT]; exact decide_eq_false c_26))
      · refine r_iload dX8_settlesIn_29 rfl ?_
        refine r_iret dX8_settlesIn_31 rfl ⟨Nat.le_of_ble_eq_true rfl, Nat.le_of_ble_eq_true rfl⟩ ?_
        refine ⟨hcd, ?_, he.tr e1⟩
        rw [ey, fi_hit hf (show stB r x i = true by unfold stB; rw [eT]; exact decide_eq_true c_26) hlt]
        rfl
  · refine PX.out rfl ⟨Nat.le_of_ble_eq_true rfl, Nat.le_of_ble_eq_true rfl⟩ ?_
    obtain ⟨kx, rfl⟩ := q_3
    exact ⟨kx, rfl⟩

def gtS (r : Row) (x : Int32) : Nat → Int32
  | 0 => 0
  | n + 1 => imx (gtS r x n) (qF (TN r x (n + 1)).1 23)
set_option maxRecDepth 100000 in
set_option maxHeartbeats 800000 in
theorem c_X8_greatestIn {l9 : Launch} {G : GC} {h : AH} {r : Row} {m : Nat} {x y : Int32} (hW : World h) (hs : StR h 7 r.1 r.2) (hO : RoOK r.1 r.2 m) (hb : m + 300 < 2 ^ 23) : PM l9 G mX8_greatestIn NT NT [.ref 1, .int x, .int y] h (fun v h' => cd2 (okP r x) (rgB 1 300 y) = 0 ∧ v = some (.int (gtS r x (nn y))) ∧ eqx h h' (SB 62)) (fun E h' => thr [eB, eA] (cd2 (okP r x) (rgB 1 300 y)) E ∧ h' = h) := by
  refine PM.of (by decide +kernel) rfl rfl (Nat.le_of_ble_eq_true rfl) (fun hst _ => ?_)
  refine r_aload_n dX8_greatestIn_0 rfl ?_
  refine r_iload_n dX8_greatestIn_1 rfl ?_
  refine r_iload_n dX8_greatestIn_2 rfl ?_
  refine q_callX2 (cv_X8_startTrial ml_X8_345) hW kc_1 (by decide) rfl rfl (Nat.le_of_ble_eq_true rfl) dX8_greatestIn_3 (c_X8_startTrial hW hs hO) (fun v_3 h_3 q_3 => ?_) (fun E_3 h_3 q_3 => ?_)
  · obtain ⟨hcd, ⟨n, n1, n2, hy⟩, p, hp, p2, hx, rfl, e0, s0⟩ := q_3
    have hW := e0.W hW
    have ex : nn x = p := by rw [hx]; exact nn_I (by omega)
    have ey : nn y = n := by rw [hy]; exact nn_I (by omega)
    have hI0 : TrI h_3 p (nn (r.1 1)) (T0 r p) := tr_st s0 hO p2
    have hO0 : TrO (nn (r.1 1)) (T0 r p) := hO.2 p p2
    have hE3 := hO.1.2.2.2.2.2
    have hT1 := hO.1.2.1.2.2
    have hE0 : qE (T0 r p).1 < 2 ^ 28 := by show nn (r.1 3) < _; omega
    have ht0 : nn (r.1 1) < 2 ^ 27 := by omega
    refine r_astore_n (ls2 := [_, _, some _, _, _, _]) dX8_greatestIn_6 (by decide) rfl ?_
    refine r_iconst (0) dX8_greatestIn_7 (by decide) ?_
    refine r_istore (ls2 := [_, _, _, some _, _, _]) dX8_greatestIn_8 (by decide) rfl ?_
    refine r_iconst (1) dX8_greatestIn_10 (by decide) ?_
    refine r_istore (ls2 := [_, _, _, _, some _, _]) dX8_greatestIn_11 (by decide) rfl ?_
    refine loopN (P := fun i => ∀ (H : AH), i ≤ n → World H → eqx h H (SB 62) → TrI H p (nn (r.1 1) + i) (trT p (nn (r.1 1)) i (T0 r p)) → True → PW l9 G mX8_greatestIn _ _ NT 13 [some (.ref 1), some (.int x), some (.int y), some (.ref (62 + 1 + 6 + 12 * p)), some (.int (gtS r x i)), some (.int (nI (i + 1)))] [] _ H) n (fun i ih H hin hW he hI hf => ?_) 0 _ (Nat.zero_le _) hW e0 hI0 trivial
    obtain ⟨o1, o2⟩ := trT_ok (p := p) hO0 i (by omega)
    refine r_iload dX8_greatestIn_13 rfl ?_
    refine r_iload_n dX8_greatestIn_15 rfl ?_
    refine r_icmp_gt 44 dX8_greatestIn_16 (by decide) (fun c_16 => ?_) (fun c_16 => ?_)
    · have hge : n = i := by
        have c9 := c_16
        rw [hy] at c9
        have := (nI_ltI (a := n) (b := i + 1) (by omega) (by omega)).mp c9
        omega
      subst hge
      refine r_iload dX8_greatestIn_44 rfl ?_
      refine r_iret dX8_greatestIn_46 rfl ⟨Nat.le_of_ble_eq_true rfl, Nat.le_of_ble_eq_true rfl⟩ ?_
      refine ⟨hcd, ?_, he⟩
      rw [ey]
    · have hlt : i < n := by
        have c9 := c_16
        rw [hy] at c9
        have := (not_congr (nI_ltI (a := n) (b := i + 1) (by omega) (by omega))).mp c9
        omega
      refine r_aload_n dX8_greatestIn_19 rfl ?_
      refine r_iload_n dX8_greatestIn_20 rfl ?_
      refine q_callV1 (cv_X8_tryTick ml_X8_356) hW kc_1 (by decide) rfl ⟨rfl, rfl⟩ rfl (Nat.le_of_ble_eq_true rfl) dX8_greatestIn_21 (c_X8_tryTickX hW hp hI o1 (by omega) (by omega) hx) (fun v_21 h_21 q_21 => ?_)
      obtain ⟨rfl, e1, hI2⟩ := q_21
      have hW := e1.W hW
      have hI2' : TrI h_21 p (nn (r.1 1) + (i + 1)) (trT p (nn (r.1 1)) (i + 1) (T0 r p)) := by rw [trT_s]; exact hI2
      obtain ⟨o3, o4⟩ := trT_ok (p := p) hO0 (i + 1) (by omega)
      refine r_iload dX8_greatestIn_24 rfl ?_
      refine r_aload_n dX8_greatestIn_26 rfl ?_
      refine q_getR fl_X8_119 hW (kd_dr hp) rfl (kl_3_1 hW (kd_dr hp)) (Nat.succ_ne_zero _) dX8_greatestIn_27 ?_
      refine q_getI fl_X8_125 hW (kk_3_1 (kd_dr hp)) rfl dX8_greatestIn_30 ?_
      rw [show aI h_21 (62 + 1 + 6 + 12 * p + 3) 4 = qF (TN r x (i + 1)).1 23 from (hI2'.sz o3).trans (by unfold TN; rw [ex])]
      refine q_max mm_X8_239 rfl (Nat.le_of_ble_eq_true rfl) dX8_greatestIn_33 ?_
      refine r_istore (ls2 := [_, _, _, some _, _, _]) dX8_greatestIn_36 (by decide) rfl ?_
      refine r_iinc (1) (by decide) (ls2 := [_, _, _, _, some _, _]) dX8_greatestIn_38 rfl (by decide) rfl ?_
      refine r_goto 13 dX8_greatestIn_41 (by decide) ?_
      rw [nI_1]
      exact ih hlt _ hlt hW (he.tr e1) hI2' trivial
  · refine PX.out rfl ⟨Nat.le_of_ble_eq_true rfl, Nat.le_of_ble_eq_true rfl⟩ ?_
    obtain ⟨kx, rfl⟩ := q_3
    exact ⟨kx, rfl⟩
