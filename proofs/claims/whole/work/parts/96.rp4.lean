-- the reference's reader: sets, startsOnce, one, two numbers
def stC (m : Nat) (ts : Nat → Bool) (j : Nat) : Nat := if m = 0 then 1 else if ts j = true then 3 else 0
def stE2 (b : Nat → Int32) (n m : Nat) (ts : Nat → Bool) (j p : Nat) (e : ER) : ER := if stC m ts j = 0 then e else (stC m ts j, tS b n p)
/-- what reading a statement up to its semicolon comes to -/
def Rsl (h h' : AH) (v : Option Value) (b : Nat → Int32) (n : Nat) (w : Nat → Int32) (u : Nat) (E : ER) (f' : Nat → Int32) (ts' : Nat → Bool) : Prop :=
  v = some (.int (bI (decide (E.1 = 0)))) ∧ eqx h h' SRp ∧ OthF h h' ∧ (E.1 = 0 → RpS h' b n E.2 ∧ PV h' w ZG u f' (getG ZG u) ∧ TbD (aI h' 723 23) ts') ∧ (E.1 ≠ 0 → FlS h' E)
theorem Rsl.bad {h h' : AH} {b : Nat → Int32} {n : Nat} {w : Nat → Int32} {u : Nat} {E : ER} {f' : Nat → Int32} {ts' : Nat → Bool} (e : eqx h h' SRp) (o : OthF h h') (h1 : E.1 ≠ 0) (hF : FlS h' E) : Rsl h h' (some (.int 0)) b n w u E f' ts' :=
  ⟨by rw [decide_eq_false h1]; rfl, e, o, fun q => absurd q h1, fun _ => hF⟩
theorem Rsl.good {h h' : AH} {b : Nat → Int32} {n q : Nat} {w : Nat → Int32} {u : Nat} {f' : Nat → Int32} {ts' : Nat → Bool} (e : eqx h h' SRp) (o : OthF h h') (hr : RpS h' b n q) (hm : PV h' w ZG u f' (getG ZG u)) (hT : TbD (aI h' 723 23) ts') : Rsl h h' (some (.int 1)) b n w u (0, q) f' ts' :=
  ⟨rfl, e, o, fun _ => ⟨hr, hm, hT⟩, fun q => absurd rfl q⟩
theorem tsU {ts : Nat → Bool} {j : Nat} {m : Int32} (hT : TbD m ts) (hj : 1 ≤ j ∧ j ≤ 10) : TbD (m ||| ((1 : Int32) <<< (nI (j - 1) &&& 31))) (fun i => ts i || decide (i = j)) := fun i h1 h2 => by
  rw [bi_or _ (by omega), hT i h1 h2, show decide (i - 1 = j - 1) = decide (i = j) from decide_eq_decide.mpr (by omega)]
theorem nm_0 {b : Nat → Int32} {n q : Nat} {lo hi : Int32} (h : nmC b n q lo hi = 0) : nmS b n (0, q) lo hi = (0, tE b n q) ∧ vlS b n (0, q) lo hi = tV b n q := ⟨by unfold nmS; rw [if_pos rfl, if_pos h], by unfold vlS; rw [if_pos ⟨rfl, h⟩]⟩
theorem nm_1 {b : Nat → Int32} {n q : Nat} {lo hi : Int32} (h : nmC b n q lo hi ≠ 0) : nmS b n (0, q) lo hi = (nmC b n q lo hi, tS b n q) := by unfold nmS; rw [if_pos rfl, if_neg h]
theorem nm_s {b : Nat → Int32} {n : Nat} {e : ER} {lo hi : Int32} (h : e.1 ≠ 0) : nmS b n e lo hi = e := by unfold nmS; exact if_neg h
set_option maxRecDepth 100000 in
set_option maxHeartbeats 1600000 in
theorem c_X9_sets {l9 : Launch} {G : GC} {h : AH} {w : Nat → Int32} {u : Nat} {f : Nat → Int32} {k : Nat} {x y : Int32} (hW : World h) (hm : PV h w ZG u f (getG ZG u)) (hu : u < 4) (h0 : w 0 = nI (u + 1)) (hx : x = nI k) (hk : k < 180) : PM l9 G mX9_sets NT NT [.ref 723, .int x, .int y] h (fun v h' => v = none ∧ eqx h h' SM ∧ PV h' w ZG u (upd f k y) (getG ZG u)) noX := by
  refine PM.of (by decide +kernel) rfl rfl (Nat.le_of_ble_eq_true rfl) (fun hst _ => ?_)
  have h01 : w 0 - 1 = nI u := by rw [h0, nI_s1 (by omega), Nat.add_sub_cancel]
  refine r_aload_n dX9_sets_0 rfl ?_
  refine r_aload_n dX9_sets_1 rfl ?_
  refine q_getR fl_X9_7 hW kc_723 rfl (kl_9_0 hW) (by decide) dX9_sets_2 ?_
  refine r_iconst (0) dX9_sets_5 (by decide) ?_
  refine q_wldPV hW hm kn_0 (by omega) dX9_sets_6 ?_
  refine r_iconst (1) dX9_sets_7 (by decide) ?_
  refine r_isub dX9_sets_8 ?_
  refine r_iload_n dX9_sets_9 rfl ?_
  refine r_iload_n dX9_sets_10 rfl ?_
  refine q_callV3 (cv_X9_put ml_X9_64) hW kc_723 (by decide) rfl ⟨rfl, rfl⟩ rfl (Nat.le_of_ble_eq_true rfl) dX9_sets_11 (c_X9_put hW hm hu h01 hx hk) (fun v_11 h_11 q_11 => ?_)
  obtain ⟨rfl, eP, hm⟩ := q_11
  refine r_vret dX9_sets_14 rfl ⟨Nat.zero_le _, Nat.zero_le _⟩ ?_
  exact ⟨rfl, eP, hm⟩

set_option maxRecDepth 100000 in
set_option maxHeartbeats 1600000 in
theorem c_X9_startsOnce {l9 : Launch} {G : GC} {h : AH} {b : Nat → Int32} {n : Nat} {w : Nat → Int32} {u : Nat} {f : Nat → Int32} {p m j : Nat} {ts : Nat → Bool} {x : Int32} (hW : World h) (hr : RpS h b n p) (hm : PV h w ZG u f (getG ZG u)) (hu : u < 4) (h0 : w 0 = nI m) (hm4 : m ≤ 4) (hT : 0 < m → TbD (aI h 723 23) ts) (hj : 1 ≤ j ∧ j ≤ 10) (hx : x = (1 : Int32) <<< (nI (j - 1) &&& 31)) : PM l9 G mX9_startsOnce NT NT [.ref 723, .int x] h (fun v h' => v = some (.int (bI (decide (stC m ts j = 0)))) ∧ eqx h h' S9 ∧ OthF h h' ∧ (stC m ts j = 0 → RpS h' b n (tE b n p) ∧ TbD (aI h' 723 23) (fun i => ts i || decide (i = j))) ∧ (stC m ts j ≠ 0 → FlS h' (stC m ts j, tS b n p))) noX := by
  refine PM.of (by decide +kernel) rfl rfl (Nat.le_of_ble_eq_true rfl) (fun hst _ => ?_)
  refine r_aload_n dX9_startsOnce_0 rfl ?_
  refine q_getR fl_X9_7 hW kc_723 rfl (kl_9_0 hW) (by decide) dX9_startsOnce_1 ?_
  refine r_iconst (0) dX9_startsOnce_4 (by decide) ?_
  refine q_wldPV hW hm kn_0 (by omega) dX9_startsOnce_5 ?_
  rw [h0]
  refine r_if_ne 15 dX9_startsOnce_6 (by decide) (fun c_6 => ?_) (fun c_6 => ?_)
  · have hm0 : 0 < m := by
      have : m ≠ 0 := fun q => c_6 (by rw [q]; rfl)
      omega
    refine r_aload_n dX9_startsOnce_15 rfl ?_
    refine q_getI fl_X9_214 hW kc_723 rfl dX9_startsOnce_16 ?_
    refine r_iload_n dX9_startsOnce_19 rfl ?_
    refine r_iand dX9_startsOnce_20 ?_
    refine r_if_eq 30 dX9_startsOnce_21 (by decide) (fun c_21 => ?_) (fun c_21 => ?_)
    · refine r_aload_n dX9_startsOnce_30 rfl ?_
      refine r_dup dX9_startsOnce_31 rfl ?_
      refine q_getI fl_X9_214 hW kc_723 rfl dX9_startsOnce_32 ?_
      refine r_iload_n dX9_startsOnce_35 rfl ?_
      refine r_ior dX9_startsOnce_36 ?_
      refine q_putI fl_X9_214 hW kc_723 rfl rfl dX9_startsOnce_37 ?_
      have e3 : eqx h (sI h 723 23 (aI h 723 23 ||| x)) S9 := (eqx.rf (S := S9)).sI rfl
      have hr3 : RpS (sI h 723 23 (aI h 723 23 ||| x)) b n p := hr.cg e3 (by decide) (fun k k1 k2 => sI_k (by omega)) (sI_k (by decide))
      refine r_aload_n dX9_startsOnce_40 rfl ?_
      refine q_callV0 (cv_X9_advanceToken ml_X9_208) hW kc_723 (by decide) rfl ⟨rfl, rfl⟩ rfl (Nat.le_of_ble_eq_true rfl) dX9_startsOnce_41 (c_X9_advanceToken (e3.W hW) hr3.1 hr3.2.1.2.2.1 (tE_le hr3.2.2.2.2)) (fun v_41 h_41 q_41 => ?_)
      obtain ⟨rfl, eA, lA, fA⟩ := q_41
      refine r_iconst (1) dX9_startsOnce_44 (by decide) ?_
      refine r_zret dX9_startsOnce_45 rfl (by decide) ⟨Nat.zero_le _, Nat.zero_le _⟩ ?_
      have hC : stC m ts j = 0 := by
        unfold stC
        rw [if_neg (by omega)]
        refine if_neg (fun q => ?_)
        rw [hx] at c_21
        have z := (bi_and _ (by omega)).mp c_21
        rw [hT hm0 j hj.1 hj.2, q] at z
        exact absurd z (by decide)
      rw [hC]
      refine ⟨rfl, e3.tr eA, fun k hk => by rw [fA k (by omega) (by omega) (by omega) (by omega), sI_k (by omega)], fun _ => ⟨⟨hr3.1.cg eA (by decide) (fA 14 (by decide) (by decide) (by decide) (by decide)), lA, (fA 17 (by decide) (by decide) (by decide) (by decide)).trans hr3.2.2.1, (fA 18 (by decide) (by decide) (by decide) (by decide)).trans hr3.2.2.2.1, tE_le hr3.2.2.2.2⟩, ?_⟩, fun q => absurd rfl q⟩
      rw [fA 23 (by decide) (by decide) (by decide) (by decide), sI_s, hx]
      exact tsU (hT hm0) hj
    · refine r_aload_n dX9_startsOnce_24 rfl ?_
      refine r_iconst (3) dX9_startsOnce_25 (by decide) ?_
      refine q_callV1 (cv_X9_failsAt ml_X9_204) hW kc_723 (by decide) rfl ⟨rfl, rfl⟩ rfl (Nat.le_of_ble_eq_true rfl) dX9_startsOnce_26 (c_X9_failsAt (c := 3) hW kn_3 hr.2.2.1 hr.2.1.1) (fun v_26 h_26 q_26 => ?_)
      obtain ⟨rfl, eF, f17, f18, fF⟩ := q_26
      refine r_zret dX9_startsOnce_29 rfl (by decide) ⟨Nat.zero_le _, Nat.zero_le _⟩ ?_
      have hC : stC m ts j = 3 := by
        unfold stC
        rw [if_neg (by omega)]
        refine if_pos ?_
        rw [hx] at c_21
        rw [← hT hm0 j hj.1 hj.2]
        cases z : bg (aI h 723 23) (j - 1) with
        | true => rfl
        | false => exact absurd ((bi_and _ (by omega)).mpr z) c_21
      rw [hC]
      exact ⟨rfl, eF, fun k hk => fF k (by omega) (by omega), fun q => absurd q (by decide), fun _ => ⟨f17, f18⟩⟩
  · refine r_aload_n dX9_startsOnce_9 rfl ?_
    refine r_iconst (1) dX9_startsOnce_10 (by decide) ?_
    refine q_callV1 (cv_X9_failsAt ml_X9_204) hW kc_723 (by decide) rfl ⟨rfl, rfl⟩ rfl (Nat.le_of_ble_eq_true rfl) dX9_startsOnce_11 (c_X9_failsAt (c := 1) hW kn_1 hr.2.2.1 hr.2.1.1) (fun v_11 h_11 q_11 => ?_)
    obtain ⟨rfl, eF, f17, f18, fF⟩ := q_11
    refine r_zret dX9_startsOnce_14 rfl (by decide) ⟨Nat.zero_le _, Nat.zero_le _⟩ ?_
    have hC : stC m ts j = 1 := by
      unfold stC
      exact if_pos ((nI_eqI (a := m) (b := 0) (by omega) (by decide)).mp c_6)
    rw [hC]
    exact ⟨rfl, eF, fun k hk => fF k (by omega) (by omega), fun q => absurd q (by decide), fun _ => ⟨f17, f18⟩⟩

set_option maxRecDepth 100000 in
set_option maxHeartbeats 1600000 in
theorem c_X9_readOne {l9 : Launch} {G : GC} {h : AH} {b : Nat → Int32} {n : Nat} {w : Nat → Int32} {u : Nat} {f : Nat → Int32} {p m j k : Nat} {ts : Nat → Bool} {x y lo hi9 : Int32} (hW : World h) (hr : RpS h b n p) (hm : PV h w ZG u f (getG ZG u)) (hu : u < 4) (h0 : w 0 = nI m) (hm4 : m ≤ 4) (hT : 0 < m → TbD (aI h 723 23) ts) (hj : 1 ≤ j ∧ j ≤ 10) (hx : x = (1 : Int32) <<< (nI (j - 1) &&& 31)) (hmu : 0 < m → m = u + 1) (hy : y = nI k) (hk : k < 180) : PM l9 G mX9_readOne NT NT [.ref 723, .int x, .int y, .int lo, .int hi9] h (fun v h' => Rsl h h' v b n w u (stE2 b n m ts j p (nmS b n (0, tE b n p) lo hi9)) (onF b n (0, tE b n p) lo hi9 k f) (fun i => ts i || decide (i = j))) noX := by
  refine PM.of (by decide +kernel) rfl rfl (Nat.le_of_ble_eq_true rfl) (fun hst _ => ?_)
  refine r_aload_n dX9_readOne_0 rfl ?_
  refine r_iload_n dX9_readOne_1 rfl ?_
  refine q_callV1 (cv_X9_startsOnce ml_X9_217) hW kc_723 (by decide) rfl ⟨rfl, rfl⟩ rfl (Nat.le_of_ble_eq_true rfl) dX9_readOne_2 (c_X9_startsOnce hW hr hm hu h0 hm4 hT hj hx) (fun v_2 h_2 q_2 => ?_)
  obtain ⟨rfl, eS, oS, gS, bS⟩ := q_2
  have hW := eS.W hW
  refine r_if_eq 19 dX9_readOne_5 (by decide) (fun c_5 => ?_) (fun c_5 => ?_)
  · refine r_iconst (0) dX9_readOne_19 (by decide) ?_
    refine r_zret dX9_readOne_20 rfl (by decide) ⟨Nat.zero_le _, Nat.zero_le _⟩ ?_
    first
      | (have hC : stC m ts j ≠ 0 := of_decide_eq_false (bI_0.mp c_5)
         have hE : stE2 b n m ts j p (nmS b n (0, tE b n p) lo hi9) = (stC m ts j, tS b n p) := by unfold stE2; rw [if_neg hC]
         rw [hE]
         exact Rsl.bad (eS.wk (fun i q => SRp9 q)) oS hC (bS hC))
      | (have hN : nmC b n (tE b n p) lo hi9 ≠ 0 := of_decide_eq_false (bI_0.mp c_16)
         have hE : stE2 b n m ts j p (nmS b n (0, tE b n p) lo hi9) = (nmC b n (tE b n p) lo hi9, tS b n (tE b n p)) := by unfold stE2; rw [if_pos hC0, nm_1 hN]
         rw [hE]
         exact Rsl.bad ((eS.wk (fun i q => SRp9 q)).tr (eK.wk (fun i q => by unfold SRp; omega))) (oS.tr oK) hN (bK hN))
  · have hC0 : stC m ts j = 0 := of_decide_eq_true (bI_1.mp c_5)
    obtain ⟨hr1, hT1⟩ := gS hC0
    have hm := hm.cgS eS (by decide) (by decide)
    refine r_aload_n dX9_readOne_8 rfl ?_
    refine r_iconst (0) dX9_readOne_9 (by decide) ?_
    refine r_iload_n dX9_readOne_10 rfl ?_
    refine r_iload dX9_readOne_11 rfl ?_
    refine q_callV3 (cv_X9_takes ml_X9_211) hW kc_723 (by decide) rfl ⟨rfl, rfl⟩ rfl (Nat.le_of_ble_eq_true rfl) dX9_readOne_13 (c_X9_takes hW hr1 kn_0 (by decide)) (fun v_13 h_13 q_13 => ?_)
    obtain ⟨rfl, eK, oK, tK, gK, bK⟩ := q_13
    have hW := eK.W hW
    refine r_if_ne 21 dX9_readOne_16 (by decide) (fun c_16 => ?_) (fun c_16 => ?_)
    · have hN : nmC b n (tE b n p) lo hi9 = 0 := of_decide_eq_true (bI_1.mp c_16)
      obtain ⟨g5, hr2⟩ := gK hN
      have hm := hm.cgS eK (by decide) (by decide)
      have hm0 : 0 < m := by
        have : m ≠ 0 := fun q => absurd hC0 (by unfold stC; rw [if_pos q]; decide)
        omega
      refine r_aload_n dX9_readOne_21 rfl ?_
      refine r_iload_n dX9_readOne_22 rfl ?_
      refine r_aload_n dX9_readOne_23 rfl ?_
      refine q_getR fl_X9_48 hW kc_723 rfl (kl_9_24 hW) (by decide) dX9_readOne_24 ?_
      refine r_iconst (0) dX9_readOne_27 (by decide) ?_
      refine q_iald hW kc_735 kn_0 (by decide) (by decide) dX9_readOne_28 ?_
      rw [show aI h_13 735 0 = tV b n (tE b n p) from by rw [g5, pk_us]]
      refine q_callV2 (cv_X9_sets ml_X9_220) hW kc_723 (by decide) rfl ⟨rfl, rfl⟩ rfl (Nat.le_of_ble_eq_true rfl) dX9_readOne_29 (c_X9_sets hW hm hu (by rw [h0, hmu hm0]) hy hk) (fun v_29 h_29 q_29 => ?_)
      obtain ⟨rfl, eP, hm⟩ := q_29
      refine r_iconst (1) dX9_readOne_32 (by decide) ?_
      refine r_zret dX9_readOne_33 rfl (by decide) ⟨Nat.zero_le _, Nat.zero_le _⟩ ?_
      have hE : stE2 b n m ts j p (nmS b n (0, tE b n p) lo hi9) = (0, tE b n (tE b n p)) := by unfold stE2; rw [if_pos hC0, (nm_0 hN).1]
      have hFf : onF b n (0, tE b n p) lo hi9 k f = upd f k (tV b n (tE b n p)) := by unfold onF; rw [(nm_0 hN).2]
      rw [hE, hFf]
      refine Rsl.good (((eS.wk (fun i q => SRp9 q)).tr (eK.wk (fun i q => by unfold SRp; omega))).tr (eP.wk (fun i q => SRpM q))) ((oS.tr oK).tr (OthF.of eP (by unfold SM; omega))) (hr2.cg eP (by unfold SM; omega) (fun k _ _ => by rw [eP.I (by unfold SM; omega)]) (by rw [eP.I (by unfold SM; omega)])) hm ?_
      rw [eP.I (by unfold SM; omega), tK]
      exact hT1
    · refine r_iconst (0) dX9_readOne_19 (by decide) ?_
      refine r_zret dX9_readOne_20 rfl (by decide) ⟨Nat.zero_le _, Nat.zero_le _⟩ ?_
      first
        | (have hC : stC m ts j ≠ 0 := of_decide_eq_false (bI_0.mp c_5)
           have hE : stE2 b n m ts j p (nmS b n (0, tE b n p) lo hi9) = (stC m ts j, tS b n p) := by unfold stE2; rw [if_neg hC]
           rw [hE]
           exact Rsl.bad (eS.wk (fun i q => SRp9 q)) oS hC (bS hC))
        | (have hN : nmC b n (tE b n p) lo hi9 ≠ 0 := of_decide_eq_false (bI_0.mp c_16)
           have hE : stE2 b n m ts j p (nmS b n (0, tE b n p) lo hi9) = (nmC b n (tE b n p) lo hi9, tS b n (tE b n p)) := by unfold stE2; rw [if_pos hC0, nm_1 hN]
           rw [hE]
           exact Rsl.bad ((eS.wk (fun i q => SRp9 q)).tr (eK.wk (fun i q => by unfold SRp; omega))) (oS.tr oK) hN (bK hN))

set_option maxRecDepth 100000 in
set_option maxHeartbeats 1600000 in
theorem c_X9_readTwo {l9 : Launch} {G : GC} {h : AH} {b : Nat → Int32} {n : Nat} {w : Nat → Int32} {u : Nat} {f : Nat → Int32} {p m j k : Nat} {ts : Nat → Bool} {x y lo hi9 : Int32} (hW : World h) (hr : RpS h b n p) (hm : PV h w ZG u f (getG ZG u)) (hu : u < 4) (h0 : w 0 = nI m) (hm4 : m ≤ 4) (hT : 0 < m → TbD (aI h 723 23) ts) (hj : 1 ≤ j ∧ j ≤ 10) (hx : x = (1 : Int32) <<< (nI (j - 1) &&& 31)) (hmu : 0 < m → m = u + 1) (hy : y = nI k) (hk : k + 1 < 180) : PM l9 G mX9_readTwo NT NT [.ref 723, .int x, .int y, .int lo, .int hi9] h (fun v h' => Rsl h h' v b n w u (stE2 b n m ts j p (twE b n (0, tE b n p) lo hi9)) (twF b n (0, tE b n p) lo hi9 k f) (fun i => ts i || decide (i = j))) noX := by
  refine PM.of (by decide +kernel) rfl rfl (Nat.le_of_ble_eq_true rfl) (fun hst _ => ?_)
  refine r_aload_n dX9_readTwo_0 rfl ?_
  refine r_iload_n dX9_readTwo_1 rfl ?_
  refine q_callV1 (cv_X9_startsOnce ml_X9_217) hW kc_723 (by decide) rfl ⟨rfl, rfl⟩ rfl (Nat.le_of_ble_eq_true rfl) dX9_readTwo_2 (c_X9_startsOnce hW hr hm hu h0 hm4 hT hj hx) (fun v_2 h_2 q_2 => ?_)
  obtain ⟨rfl, eS, oS, gS, bS⟩ := q_2
  have hW := eS.W hW
  refine r_if_eq 30 dX9_readTwo_5 (by decide) (fun c_5 => ?_) (fun c_5 => ?_)
  · refine r_iconst (0) dX9_readTwo_30 (by decide) ?_
    refine r_zret dX9_readTwo_31 rfl (by decide) ⟨Nat.zero_le _, Nat.zero_le _⟩ ?_
    first
      | (have hC : stC m ts j ≠ 0 := of_decide_eq_false (bI_0.mp c_5)
         have hE : stE2 b n m ts j p (twE b n (0, tE b n p) lo hi9) = (stC m ts j, tS b n p) := by unfold stE2; rw [if_neg hC]
         rw [hE]
         exact Rsl.bad (eS.wk (fun i q => SRp9 q)) oS hC (bS hC))
      | (have hN : nmC b n (tE b n p) lo hi9 ≠ 0 := of_decide_eq_false (bI_0.mp c_16)
         have hE : stE2 b n m ts j p (twE b n (0, tE b n p) lo hi9) = (nmC b n (tE b n p) lo hi9, tS b n (tE b n p)) := by unfold stE2 twE; rw [if_pos hC0, nm_1 hN]; exact nm_s hN
         rw [hE]
         exact Rsl.bad ((eS.wk (fun i q => SRp9 q)).tr (eK.wk (fun i q => by unfold SRp; omega))) (oS.tr oK) hN (bK hN))
      | (have hN2 : nmC b n (tE b n (tE b n p)) lo hi9 ≠ 0 := of_decide_eq_false (bI_0.mp c_27)
         have hE : stE2 b n m ts j p (twE b n (0, tE b n p) lo hi9) = (nmC b n (tE b n (tE b n p)) lo hi9, tS b n (tE b n (tE b n p))) := by unfold stE2 twE; rw [if_pos hC0, (nm_0 hN).1, nm_1 hN2]
         rw [hE]
         exact Rsl.bad (((eS.wk (fun i q => SRp9 q)).tr (eK.wk (fun i q => by unfold SRp; omega))).tr (eK2.wk (fun i q => by unfold SRp; omega))) ((oS.tr oK).tr oK2) hN2 (bK2 hN2))
  · have hC0 : stC m ts j = 0 := of_decide_eq_true (bI_1.mp c_5)
    obtain ⟨hr1, hT1⟩ := gS hC0
    have hm := hm.cgS eS (by decide) (by decide)
    refine r_aload_n dX9_readTwo_8 rfl ?_
    refine r_iconst (0) dX9_readTwo_9 (by decide) ?_
    refine r_iload_n dX9_readTwo_10 rfl ?_
    refine r_iload dX9_readTwo_11 rfl ?_
    refine q_callV3 (cv_X9_takes ml_X9_211) hW kc_723 (by decide) rfl ⟨rfl, rfl⟩ rfl (Nat.le_of_ble_eq_true rfl) dX9_readTwo_13 (c_X9_takes hW hr1 kn_0 (by decide)) (fun v_13 h_13 q_13 => ?_)
    obtain ⟨rfl, eK, oK, tK, gK, bK⟩ := q_13
    have hW := eK.W hW
    refine r_if_eq 30 dX9_readTwo_16 (by decide) (fun c_16 => ?_) (fun c_16 => ?_)
    · refine r_iconst (0) dX9_readTwo_30 (by decide) ?_
      refine r_zret dX9_readTwo_31 rfl (by decide) ⟨Nat.zero_le _, Nat.zero_le _⟩ ?_
      first
        | (have hC : stC m ts j ≠ 0 := of_decide_eq_false (bI_0.mp c_5)
           have hE : stE2 b n m ts j p (twE b n (0, tE b n p) lo hi9) = (stC m ts j, tS b n p) := by unfold stE2; rw [if_neg hC]
           rw [hE]
           exact Rsl.bad (eS.wk (fun i q => SRp9 q)) oS hC (bS hC))
        | (have hN : nmC b n (tE b n p) lo hi9 ≠ 0 := of_decide_eq_false (bI_0.mp c_16)
           have hE : stE2 b n m ts j p (twE b n (0, tE b n p) lo hi9) = (nmC b n (tE b n p) lo hi9, tS b n (tE b n p)) := by unfold stE2 twE; rw [if_pos hC0, nm_1 hN]; exact nm_s hN
           rw [hE]
           exact Rsl.bad ((eS.wk (fun i q => SRp9 q)).tr (eK.wk (fun i q => by unfold SRp; omega))) (oS.tr oK) hN (bK hN))
        | (have hN2 : nmC b n (tE b n (tE b n p)) lo hi9 ≠ 0 := of_decide_eq_false (bI_0.mp c_27)
           have hE : stE2 b n m ts j p (twE b n (0, tE b n p) lo hi9) = (nmC b n (tE b n (tE b n p)) lo hi9, tS b n (tE b n (tE b n p))) := by unfold stE2 twE; rw [if_pos hC0, (nm_0 hN).1, nm_1 hN2]
           rw [hE]
           exact Rsl.bad (((eS.wk (fun i q => SRp9 q)).tr (eK.wk (fun i q => by unfold SRp; omega))).tr (eK2.wk (fun i q => by unfold SRp; omega))) ((oS.tr oK).tr oK2) hN2 (bK2 hN2))
    · have hN : nmC b n (tE b n p) lo hi9 = 0 := of_decide_eq_true (bI_1.mp c_16)
      obtain ⟨g5, hr2⟩ := gK hN
      have hm := hm.cgS eK (by decide) (by decide)
      have hm0 : 0 < m := by
        have : m ≠ 0 := fun q => absurd hC0 (by unfold stC; rw [if_pos q]; decide)
        omega
      refine r_aload_n dX9_readTwo_19 rfl ?_
      refine r_iconst (1) dX9_readTwo_20 (by decide) ?_
      refine r_iload_n dX9_readTwo_21 rfl ?_
      refine r_iload dX9_readTwo_22 rfl ?_
      refine q_callV3 (cv_X9_takes ml_X9_211) hW kc_723 (by decide) rfl ⟨rfl, rfl⟩ rfl (Nat.le_of_ble_eq_true rfl) dX9_readTwo_24 (c_X9_takes hW hr2 kn_1 (by decide)) (fun v_24 h_24 q_24 => ?_)
      obtain ⟨rfl, eK2, oK2, tK2, gK2, bK2⟩ := q_24
      have hW := eK2.W hW
      refine r_if_ne 32 dX9_readTwo_27 (by decide) (fun c_27 => ?_) (fun c_27 => ?_)
      · have hN2 : nmC b n (tE b n (tE b n p)) lo hi9 = 0 := of_decide_eq_true (bI_1.mp c_27)
        obtain ⟨g6, hr3⟩ := gK2 hN2
        have hm := hm.cgS eK2 (by decide) (by decide)
        refine r_aload_n dX9_readTwo_32 rfl ?_
        refine r_iload_n dX9_readTwo_33 rfl ?_
        refine r_aload_n dX9_readTwo_34 rfl ?_
        refine q_getR fl_X9_48 hW kc_723 rfl (kl_9_24 hW) (by decide) dX9_readTwo_35 ?_
        refine r_iconst (0) dX9_readTwo_38 (by decide) ?_
        refine q_iald hW kc_735 kn_0 (by decide) (by decide) dX9_readTwo_39 ?_
        rw [show aI h_24 735 0 = tV b n (tE b n p) from by rw [g6, pk_un (by decide), g5, pk_us]]
        refine q_callV2 (cv_X9_sets ml_X9_220) hW kc_723 (by decide) rfl ⟨rfl, rfl⟩ rfl (Nat.le_of_ble_eq_true rfl) dX9_readTwo_40 (c_X9_sets hW hm hu (by rw [h0, hmu hm0]) hy (by omega)) (fun v_40 h_40 q_40 => ?_)
        obtain ⟨rfl, eP, hm⟩ := q_40
        have hW := eP.W hW
        refine r_aload_n dX9_readTwo_43 rfl ?_
        refine r_iload_n dX9_readTwo_44 rfl ?_
        refine r_iconst (1) dX9_readTwo_45 (by decide) ?_
        refine r_iadd dX9_readTwo_46 ?_
        refine r_aload_n dX9_readTwo_47 rfl ?_
        refine q_getR fl_X9_48 hW kc_723 rfl (kl_9_24 hW) (by decide) dX9_readTwo_48 ?_
        refine r_iconst (1) dX9_readTwo_51 (by decide) ?_
        refine q_iald hW kc_735 kn_1 (by decide) (by decide) dX9_readTwo_52 ?_
        rw [show aI h_40 735 1 = tV b n (tE b n (tE b n p)) from by rw [eP.I (by unfold SM; omega), g6, pk_us]]
        refine q_callV2 (cv_X9_sets ml_X9_220) hW kc_723 (by decide) rfl ⟨rfl, rfl⟩ rfl (Nat.le_of_ble_eq_true rfl) dX9_readTwo_53 (c_X9_sets hW hm hu (by rw [h0, hmu hm0]) (nadd hy kn_1) (by omega)) (fun v_53 h_53 q_53 => ?_)
        obtain ⟨rfl, eQ, hm⟩ := q_53
        refine r_iconst (1) dX9_readTwo_56 (by decide) ?_
        refine r_zret dX9_readTwo_57 rfl (by decide) ⟨Nat.zero_le _, Nat.zero_le _⟩ ?_
        have hE : stE2 b n m ts j p (twE b n (0, tE b n p) lo hi9) = (0, tE b n (tE b n (tE b n p))) := by unfold stE2 twE; rw [if_pos hC0, (nm_0 hN).1, (nm_0 hN2).1]
        have hFf : twF b n (0, tE b n p) lo hi9 k f = upd (upd f k (tV b n (tE b n p))) (k + 1) (tV b n (tE b n (tE b n p))) := by unfold twF; rw [(nm_0 hN).1, (nm_0 hN).2, (nm_0 hN2).2]
        rw [hE, hFf]
        refine Rsl.good (((((eS.wk (fun i q => SRp9 q)).tr (eK.wk (fun i q => by unfold SRp; omega))).tr (eK2.wk (fun i q => by unfold SRp; omega))).tr (eP.wk (fun i q => SRpM q))).tr (eQ.wk (fun i q => SRpM q))) ((((oS.tr oK).tr oK2).tr (OthF.of eP (by unfold SM; omega))).tr (OthF.of eQ (by unfold SM; omega))) ((hr3.cg eP (by unfold SM; omega) (fun k _ _ => by rw [eP.I (by unfold SM; omega)]) (by rw [eP.I (by unfold SM; omega)])).cg eQ (by unfold SM; omega) (fun k _ _ => by rw [eQ.I (by unfold SM; omega)]) (by rw [eQ.I (by unfold SM; omega)])) hm ?_
        rw [eQ.I (by unfold SM; omega), eP.I (by unfold SM; omega), tK2, tK]
        exact hT1
      · refine r_iconst (0) dX9_readTwo_30 (by decide) ?_
        refine r_zret dX9_readTwo_31 rfl (by decide) ⟨Nat.zero_le _, Nat.zero_le _⟩ ?_
        first
          | (have hC : stC m ts j ≠ 0 := of_decide_eq_false (bI_0.mp c_5)
             have hE : stE2 b n m ts j p (twE b n (0, tE b n p) lo hi9) = (stC m ts j, tS b n p) := by unfold stE2; rw [if_neg hC]
             rw [hE]
             exact Rsl.bad (eS.wk (fun i q => SRp9 q)) oS hC (bS hC))
          | (have hN : nmC b n (tE b n p) lo hi9 ≠ 0 := of_decide_eq_false (bI_0.mp c_16)
             have hE : stE2 b n m ts j p (twE b n (0, tE b n p) lo hi9) = (nmC b n (tE b n p) lo hi9, tS b n (tE b n p)) := by unfold stE2 twE; rw [if_pos hC0, nm_1 hN]; exact nm_s hN
             rw [hE]
             exact Rsl.bad ((eS.wk (fun i q => SRp9 q)).tr (eK.wk (fun i q => by unfold SRp; omega))) (oS.tr oK) hN (bK hN))
          | (have hN2 : nmC b n (tE b n (tE b n p)) lo hi9 ≠ 0 := of_decide_eq_false (bI_0.mp c_27)
             have hE : stE2 b n m ts j p (twE b n (0, tE b n p) lo hi9) = (nmC b n (tE b n (tE b n p)) lo hi9, tS b n (tE b n (tE b n p))) := by unfold stE2 twE; rw [if_pos hC0, (nm_0 hN).1, nm_1 hN2]
             rw [hE]
             exact Rsl.bad (((eS.wk (fun i q => SRp9 q)).tr (eK.wk (fun i q => by unfold SRp; omega))).tr (eK2.wk (fun i q => by unfold SRp; omega))) ((oS.tr oK).tr oK2) hN2 (bK2 hN2))
