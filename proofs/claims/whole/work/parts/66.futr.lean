-- the reference: what would be
def RTs : Nat → Prop := fun i => i = 723 ∨ i = 724 ∨ i = 726 ∨ i = 729 ∨ i = 731
def RT (h h' : AH) : Prop := eqx h h' RTs ∧ aI h' 723 12 = 0 ∧ ∀ k, k ≠ 12 → k ≠ 27 → aI h' 723 k = aI h 723 k
theorem aw_s9 {h : AH} {k : Nat} {r : Row} {x : Int32} (hm : AW h 726 731 r) : AW (sI h 723 k x) 726 731 r := hm.cgH (eqx.rf.sI (S := fun i => i = 723) rfl) (by decide) (by decide)
set_option maxRecDepth 100000 in
set_option maxHeartbeats 800000 in
theorem c_X9_growsIn {l9 : Launch} {G : GC} {h : AH} {r r0 : Row} {m p k n : Nat} {x y z : Int32} (hW : World h) (hm : MW h r) (hO : RoOK r.1 r.2 m) (hB : AW h 726 731 r0) (hp : p < 4) (hx : x = nI p) (hy : y = nI k) (hk : k < 6) (hz : z = nI n) (hb : 100 + 20 * (m + n) < 2 ^ 28) : PM l9 G mX9_growsIn NT NT [.ref 723, .int x, .int y, .int z] h (fun v h' => v = some (.long (getG (tkN n r).2 p k - getG r.2 p k)) ∧ eqx h h' RTs ∧ (∀ k, k ≠ 27 → aI h' 723 k = aI h 723 k) ∧ MW h' r0) noX := by
  refine PM.of (by decide +kernel) rfl rfl (Nat.le_of_ble_eq_true rfl) (fun hst _ => ?_)
  refine r_aload_n dX9_growsIn_0 rfl ?_
  refine r_iload_n dX9_growsIn_1 rfl ?_
  refine r_iload_n dX9_growsIn_2 rfl ?_
  refine q_callV2 (cv_X9_sumOf ml_X9_333) hW kc_723 (by decide) rfl ⟨rfl, rfl⟩ rfl (Nat.le_of_ble_eq_true rfl) dX9_growsIn_3 (c_X9_sumOf hW hm hp hx hy hk) (fun v_3 h_3 q_3 => ?_)
  obtain ⟨rfl, z9⟩ := q_3
  replace z9 := z9.symm
  subst z9
  refine r_lstore (ls2 := [_, _, _, some _, _, none, _, _]) dX9_growsIn_6 (by decide) rfl ?_
  refine r_aload_n dX9_growsIn_8 rfl ?_
  refine r_aload_n dX9_growsIn_9 rfl ?_
  refine r_iload_n dX9_growsIn_10 rfl ?_
  refine q_callV1 (cv_X9_runs ml_X9_340) hW kc_723 (by decide) rfl ⟨rfl, rfl⟩ rfl (Nat.le_of_ble_eq_true rfl) dX9_growsIn_11 (c_X9_runs hW hm hO hb hz) (fun v_11 h_11 q_11 => ?_)
  obtain ⟨rfl, eR, hm⟩ := q_11
  have hW := eR.W hW
  replace hB := hB.cgH eR (by unfold SM; omega) (by unfold SM; omega)
  refine q_putM fl_X9_355 hW hm rfl rfl dX9_growsIn_14 (fun hm => ?_)
  replace hB := aw_s9 (k := 27) (x := (tkN n r).1 3 - r.1 3) hB
  refine r_aload_n dX9_growsIn_17 rfl ?_
  refine r_iload_n dX9_growsIn_18 rfl ?_
  refine r_iload_n dX9_growsIn_19 rfl ?_
  refine q_callV2 (cv_X9_sumOf ml_X9_333) hW kc_723 (by decide) rfl ⟨rfl, rfl⟩ rfl (Nat.le_of_ble_eq_true rfl) dX9_growsIn_20 (c_X9_sumOf hW hm hp hx hy hk) (fun v_20 h_20 q_20 => ?_)
  obtain ⟨rfl, z9⟩ := q_20
  replace z9 := z9.symm
  subst z9
  refine r_lload dX9_growsIn_23 rfl ?_
  refine r_lsub dX9_growsIn_25 ?_
  refine r_lstore (ls2 := [_, _, _, _, _, none, _, none]) dX9_growsIn_26 (by decide) rfl ?_
  refine r_aload_n dX9_growsIn_28 rfl ?_
  refine q_callV0 (cv_X9_ends ml_X9_358) hW kc_723 (by decide) rfl ⟨rfl, rfl⟩ rfl (Nat.le_of_ble_eq_true rfl) dX9_growsIn_29 (c_X9_ends hW hB) (fun v_29 h_29 q_29 => ?_)
  obtain ⟨rfl, eE, hE⟩ := q_29
  refine r_lload dX9_growsIn_32 rfl ?_
  refine r_lret dX9_growsIn_34 rfl ⟨Nat.zero_le _, Nat.zero_le _⟩ ?_
  refine ⟨rfl, ?_, fun k hk => ?_, hE⟩
  · exact ((eR.wk (fun i q => by unfold SM at q; (try unfold RTs); omega)).sI (Or.inl rfl)).tr (eE.wk (fun i q => by (try unfold RTs); omega))
  · rw [eE.I (by omega), sI_k hk, eR.I (by unfold SM; omega)]

set_option maxRecDepth 100000 in
set_option maxHeartbeats 800000 in
theorem c_X9_sizeIn {l9 : Launch} {G : GC} {h : AH} {r : Row} {m : Nat} {x y : Int32} (hW : World h) (hm : MW h r) (hO : RoOK r.1 r.2 m) (hm28 : m < 2 ^ 28) (hb : m + 300 < 2 ^ 23) : PM l9 G mX9_sizeIn NT NT [.ref 723, .int x, .int y] h (fun v h' => (cd2 (okP r x) (rgB 1 300 y) ≠ 0 → RQ h h' (cd2 (okP r x) (rgB 1 300 y))) ∧ (cd2 (okP r x) (rgB 1 300 y) = 0 → v = some (.int (qF (TN r x (nn y)).1 23)) ∧ RT h h' ∧ MW h' r)) noX := by
  refine PM.of (by decide +kernel) rfl rfl (Nat.le_of_ble_eq_true rfl) (fun hst _ => ?_)
  refine r_aload_n dX9_sizeIn_0 rfl ?_
  refine r_iload_n dX9_sizeIn_1 rfl ?_
  refine r_iload_n dX9_sizeIn_2 rfl ?_
  refine q_callV2 (cv_X9_noSpan ml_X9_349) hW kc_723 (by decide) rfl ⟨rfl, rfl⟩ rfl (Nat.le_of_ble_eq_true rfl) dX9_sizeIn_3 (c_X9_noSpan hW hm hO hm28) (fun v_3 h_3 q_3 => ?_)
  obtain ⟨rfl, z9⟩ := q_3
  subst z9
  have hW : World (sI h 723 12 (nI (cd2 (okP r x) (rgB 1 300 y)))) := wsI hW
  replace hm := hm.s9 (k := 12) (x := nI (cd2 (okP r x) (rgB 1 300 y)))
  refine r_if_eq 11 dX9_sizeIn_6 (by decide) (fun c_6 => ?_) (fun c_6 => ?_)
  · have kn : (okP r x && rgB 1 300 y) = true := bn0 c_6
    have kr : rgB 1 300 y = true := (Bool.and_eq_true_iff.mp kn).2
    have ko : okP r x = true := (Bool.and_eq_true_iff.mp kn).1
    have hcd : cd2 (okP r x) (rgB 1 300 y) = 0 := cd2_t ko kr
    obtain ⟨p, hp, pn, hx⟩ := okP_t hO ko
    have ex : nn x = p := by rw [hx]; exact nn_I (by omega)
    have hOp := hO.2 p pn
    have y23 : nn (getP r.1 p 23) ≤ 20 := (hOp.at 23).2.2
    have y24 : nn (getP r.1 p 24) ≤ 24 := (hOp.at 24).2.2
    obtain ⟨k, k1, k2, ek⟩ := rgB_t (a := 1) (b := 300) kr (by decide) (by decide)
    have eyn : nn y = k := by rw [ek]; exact nn_I (by omega)
    have hT1 := hO.1.2.1.2.2
    have hsim := sim_N hO (sim_0 hO pn) k (by omega) (by omega)
    have hTN : TN r x (nn y) = trT p (nn (r.1 1)) k (T0 r p) := by unfold TN; rw [ex, eyn]
    refine r_aload_n dX9_sizeIn_11 rfl ?_
    refine q_callV0 (cv_X9_begins ml_X9_352) hW kc_723 (by decide) rfl ⟨rfl, rfl⟩ rfl (Nat.le_of_ble_eq_true rfl) dX9_sizeIn_12 (c_X9_begins hW hm) (fun v_12 h_12 q_12 => ?_)
    obtain ⟨rfl, eB, hB⟩ := q_12
    have hW := eB.W hW
    replace hm := hm.cgH eB (by omega) (by omega)
    refine r_aload_n dX9_sizeIn_15 rfl ?_
    refine r_aload_n dX9_sizeIn_16 rfl ?_
    refine r_iload_n dX9_sizeIn_17 rfl ?_
    refine q_callV1 (cv_X9_runs ml_X9_340) hW kc_723 (by decide) rfl ⟨rfl, rfl⟩ rfl (Nat.le_of_ble_eq_true rfl) dX9_sizeIn_18 (c_X9_runs hW hm hO (n := k) (by omega) ek) (fun v_18 h_18 q_18 => ?_)
    obtain ⟨rfl, eR, hm⟩ := q_18
    have hW := eR.W hW
    replace hB := hB.cgH eR (by unfold SM; omega) (by unfold SM; omega)
    refine q_putM fl_X9_355 hW hm rfl rfl dX9_sizeIn_21 (fun hm => ?_)
    replace hB := aw_s9 (k := 27) (x := (tkN k r).1 3 - r.1 3) hB
    refine r_aload_n dX9_sizeIn_24 rfl ?_
    refine r_iload_n dX9_sizeIn_25 rfl ?_
    refine r_bipush (23) dX9_sizeIn_26 (by decide) ?_
    refine q_callV2 (cv_X9_of ml_X9_81) hW kc_723 (by decide) rfl ⟨rfl, rfl⟩ rfl (Nat.le_of_ble_eq_true rfl) dX9_sizeIn_28 (c_X9_ofM hW hm hp hx kn_23 (by omega)) (fun v_28 h_28 q_28 => ?_)
    obtain ⟨rfl, z9⟩ := q_28
    replace z9 := z9.symm
    subst z9
    refine r_istore_n (ls2 := [_, _, some _, _]) dX9_sizeIn_31 (by decide) rfl ?_
    refine r_aload_n dX9_sizeIn_32 rfl ?_
    refine q_callV0 (cv_X9_ends ml_X9_358) hW kc_723 (by decide) rfl ⟨rfl, rfl⟩ rfl (Nat.le_of_ble_eq_true rfl) dX9_sizeIn_33 (c_X9_ends hW hB) (fun v_33 h_33 q_33 => ?_)
    obtain ⟨rfl, eE, hE⟩ := q_33
    refine r_iload_n dX9_sizeIn_36 rfl ?_
    refine r_iret dX9_sizeIn_37 rfl ⟨Nat.zero_le _, Nat.zero_le _⟩ ?_
    refine ⟨fun q => absurd hcd q, fun _ => ⟨?_, ⟨?_, ?_, fun k k1 k2 => ?_⟩, hE⟩⟩
    · rw [hTN]
      exact some_int (hsim.1.lo (k := 23) (by decide))
    · exact ((((eqx.rf.sI (S := RTs) (Or.inl rfl)).tr (eB.wk (fun i q => by (try unfold RTs); omega))).tr (eR.wk (fun i q => by unfold SM at q; (try unfold RTs); omega))).sI (Or.inl rfl)).tr (eE.wk (fun i q => by (try unfold RTs); omega))
    · rw [eE.I (by omega), sI_k (by decide), eR.I (by unfold SM; omega), eB.I (by omega), sI_s, hcd]; rfl
    · rw [eE.I (by omega), sI_k k2, eR.I (by unfold SM; omega), eB.I (by omega), sI_k k1]
  · refine r_iconst (0) dX9_sizeIn_9 (by decide) ?_
    refine r_iret dX9_sizeIn_10 rfl ⟨Nat.zero_le _, Nat.zero_le _⟩ ?_
    have kn : (okP r x && rgB 1 300 y) = false := bn1 c_6
    refine ⟨fun _ => RQ.of, fun q => absurd q ?_⟩
    unfold cd2
    cases h1 : okP r x
    · exact (by decide : ¬ (1 : Nat) = 0)
    · cases h2 : rgB 1 300 y
      · exact (by decide : ¬ (2 : Nat) = 0)
      · rw [h1, h2] at kn; cases kn

set_option maxRecDepth 100000 in
set_option maxHeartbeats 800000 in
theorem c_X9_missedIn {l9 : Launch} {G : GC} {h : AH} {r : Row} {m : Nat} {x y : Int32} (hW : World h) (hm : MW h r) (hO : RoOK r.1 r.2 m) (hm28 : m < 2 ^ 28) (hb : m + 300 < 2 ^ 23) : PM l9 G mX9_missedIn NT NT [.ref 723, .int x, .int y] h (fun v h' => (cd2 (okP r x) (rgB 1 300 y) ≠ 0 → RQ h h' (cd2 (okP r x) (rgB 1 300 y))) ∧ (cd2 (okP r x) (rgB 1 300 y) = 0 → v = some (.long ((TN r x (nn y)).2 1 - gP r x 1)) ∧ RT h h' ∧ MW h' r)) noX := by
  refine PM.of (by decide +kernel) rfl rfl (Nat.le_of_ble_eq_true rfl) (fun hst _ => ?_)
  refine r_aload_n dX9_missedIn_0 rfl ?_
  refine r_iload_n dX9_missedIn_1 rfl ?_
  refine r_iload_n dX9_missedIn_2 rfl ?_
  refine q_callV2 (cv_X9_noSpan ml_X9_349) hW kc_723 (by decide) rfl ⟨rfl, rfl⟩ rfl (Nat.le_of_ble_eq_true rfl) dX9_missedIn_3 (c_X9_noSpan hW hm hO hm28) (fun v_3 h_3 q_3 => ?_)
  obtain ⟨rfl, z9⟩ := q_3
  subst z9
  have hW : World (sI h 723 12 (nI (cd2 (okP r x) (rgB 1 300 y)))) := wsI hW
  replace hm := hm.s9 (k := 12) (x := nI (cd2 (okP r x) (rgB 1 300 y)))
  refine r_if_eq 11 dX9_missedIn_6 (by decide) (fun c_6 => ?_) (fun c_6 => ?_)
  · have kn : (okP r x && rgB 1 300 y) = true := bn0 c_6
    have kr : rgB 1 300 y = true := (Bool.and_eq_true_iff.mp kn).2
    have ko : okP r x = true := (Bool.and_eq_true_iff.mp kn).1
    have hcd : cd2 (okP r x) (rgB 1 300 y) = 0 := cd2_t ko kr
    obtain ⟨p, hp, pn, hx⟩ := okP_t hO ko
    have ex : nn x = p := by rw [hx]; exact nn_I (by omega)
    have hOp := hO.2 p pn
    have y23 : nn (getP r.1 p 23) ≤ 20 := (hOp.at 23).2.2
    have y24 : nn (getP r.1 p 24) ≤ 24 := (hOp.at 24).2.2
    obtain ⟨k, k1, k2, ek⟩ := rgB_t (a := 1) (b := 300) kr (by decide) (by decide)
    have eyn : nn y = k := by rw [ek]; exact nn_I (by omega)
    have hT1 := hO.1.2.1.2.2
    have hsim := sim_N hO (sim_0 hO pn) k (by omega) (by omega)
    have hTN : TN r x (nn y) = trT p (nn (r.1 1)) k (T0 r p) := by unfold TN; rw [ex, eyn]
    refine r_aload_n dX9_missedIn_11 rfl ?_
    refine q_callV0 (cv_X9_begins ml_X9_352) hW kc_723 (by decide) rfl ⟨rfl, rfl⟩ rfl (Nat.le_of_ble_eq_true rfl) dX9_missedIn_12 (c_X9_begins hW hm) (fun v_12 h_12 q_12 => ?_)
    obtain ⟨rfl, eB, hB⟩ := q_12
    have hW := eB.W hW
    replace hm := hm.cgH eB (by omega) (by omega)
    refine r_aload_n dX9_missedIn_15 rfl ?_
    refine r_iload_n dX9_missedIn_16 rfl ?_
    refine r_iconst (1) dX9_missedIn_17 (by decide) ?_
    refine r_iload_n dX9_missedIn_18 rfl ?_
    refine q_callV3 (cv_X9_growsIn ml_X9_361) hW kc_723 (by decide) rfl ⟨rfl, rfl⟩ rfl (Nat.le_of_ble_eq_true rfl) dX9_missedIn_19 (c_X9_growsIn hW hm hO hB hp hx kn_1 (by decide) ek (by omega)) (fun v_19 h_19 q_19 => ?_)
    obtain ⟨rfl, eG, fG, hE⟩ := q_19
    refine r_lret dX9_missedIn_22 rfl ⟨Nat.zero_le _, Nat.zero_le _⟩ ?_
    refine ⟨fun q => absurd hcd q, fun _ => ⟨?_, ⟨?_, ?_, fun k k1 k2 => ?_⟩, hE⟩⟩
    · rw [hTN]
      unfold gP
      rw [ex, ← hsim.2.1 1 (by decide)]
    · exact ((eqx.rf.sI (S := RTs) (Or.inl rfl)).tr (eB.wk (fun i q => by (try unfold RTs); omega))).tr eG
    · rw [fG 12 (by decide), eB.I (by omega), sI_s, hcd]; rfl
    · rw [fG k k2, eB.I (by omega), sI_k k1]
  · refine r_lconst (0) dX9_missedIn_9 (by decide) ?_
    refine r_lret dX9_missedIn_10 rfl ⟨Nat.zero_le _, Nat.zero_le _⟩ ?_
    have kn : (okP r x && rgB 1 300 y) = false := bn1 c_6
    refine ⟨fun _ => RQ.of, fun q => absurd q ?_⟩
    unfold cd2
    cases h1 : okP r x
    · exact (by decide : ¬ (1 : Nat) = 0)
    · cases h2 : rgB 1 300 y
      · exact (by decide : ¬ (2 : Nat) = 0)
      · rw [h1, h2] at kn; cases kn

set_option maxRecDepth 100000 in
set_option maxHeartbeats 800000 in
theorem c_X9_costIn {l9 : Launch} {G : GC} {h : AH} {r : Row} {m : Nat} {x y : Int32} (hW : World h) (hm : MW h r) (hO : RoOK r.1 r.2 m) (hm28 : m < 2 ^ 28) (hb : m + 300 < 2 ^ 23) : PM l9 G mX9_costIn NT NT [.ref 723, .int x, .int y] h (fun v h' => (cd2 (okP r x) (rgB 1 300 y) ≠ 0 → RQ h h' (cd2 (okP r x) (rgB 1 300 y))) ∧ (cd2 (okP r x) (rgB 1 300 y) = 0 → v = some (.long ((TN r x (nn y)).2 2 - gP r x 2)) ∧ RT h h' ∧ MW h' r)) noX := by
  refine PM.of (by decide +kernel) rfl rfl (Nat.le_of_ble_eq_true rfl) (fun hst _ => ?_)
  refine r_aload_n dX9_costIn_0 rfl ?_
  refine r_iload_n dX9_costIn_1 rfl ?_
  refine r_iload_n dX9_costIn_2 rfl ?_
  refine q_callV2 (cv_X9_noSpan ml_X9_349) hW kc_723 (by decide) rfl ⟨rfl, rfl⟩ rfl (Nat.le_of_ble_eq_true rfl) dX9_costIn_3 (c_X9_noSpan hW hm hO hm28) (fun v_3 h_3 q_3 => ?_)
  obtain ⟨rfl, z9⟩ := q_3
  subst z9
  have hW : World (sI h 723 12 (nI (cd2 (okP r x) (rgB 1 300 y)))) := wsI hW
  replace hm := hm.s9 (k := 12) (x := nI (cd2 (okP r x) (rgB 1 300 y)))
  refine r_if_eq 11 dX9_costIn_6 (by decide) (fun c_6 => ?_) (fun c_6 => ?_)
  · have kn : (okP r x && rgB 1 300 y) = true := bn0 c_6
    have kr : rgB 1 300 y = true := (Bool.and_eq_true_iff.mp kn).2
    have ko : okP r x = true := (Bool.and_eq_true_iff.mp kn).1
    have hcd : cd2 (okP r x) (rgB 1 300 y) = 0 := cd2_t ko kr
    obtain ⟨p, hp, pn, hx⟩ := okP_t hO ko
    have ex : nn x = p := by rw [hx]; exact nn_I (by omega)
    have hOp := hO.2 p pn
    have y23 : nn (getP r.1 p 23) ≤ 20 := (hOp.at 23).2.2
    have y24 : nn (getP r.1 p 24) ≤ 24 := (hOp.at 24).2.2
    obtain ⟨k, k1, k2, ek⟩ := rgB_t (a := 1) (b := 300) kr (by decide) (by decide)
    have eyn : nn y = k := by rw [ek]; exact nn_I (by omega)
    have hT1 := hO.1.2.1.2.2
    have hsim := sim_N hO (sim_0 hO pn) k (by omega) (by omega)
    have hTN : TN r x (nn y) = trT p (nn (r.1 1)) k (T0 r p) := by unfold TN; rw [ex, eyn]
    refine r_aload_n dX9_costIn_11 rfl ?_
    refine q_callV0 (cv_X9_begins ml_X9_352) hW kc_723 (by decide) rfl ⟨rfl, rfl⟩ rfl (Nat.le_of_ble_eq_true rfl) dX9_costIn_12 (c_X9_begins hW hm) (fun v_12 h_12 q_12 => ?_)
    obtain ⟨rfl, eB, hB⟩ := q_12
    have hW := eB.W hW
    replace hm := hm.cgH eB (by omega) (by omega)
    refine r_aload_n dX9_costIn_15 rfl ?_
    refine r_iload_n dX9_costIn_16 rfl ?_
    refine r_iconst (2) dX9_costIn_17 (by decide) ?_
    refine r_iload_n dX9_costIn_18 rfl ?_
    refine q_callV3 (cv_X9_growsIn ml_X9_361) hW kc_723 (by decide) rfl ⟨rfl, rfl⟩ rfl (Nat.le_of_ble_eq_true rfl) dX9_costIn_19 (c_X9_growsIn hW hm hO hB hp hx kn_2 (by decide) ek (by omega)) (fun v_19 h_19 q_19 => ?_)
    obtain ⟨rfl, eG, fG, hE⟩ := q_19
    refine r_lret dX9_costIn_22 rfl ⟨Nat.zero_le _, Nat.zero_le _⟩ ?_
    refine ⟨fun q => absurd hcd q, fun _ => ⟨?_, ⟨?_, ?_, fun k k1 k2 => ?_⟩, hE⟩⟩
    · rw [hTN]
      unfold gP
      rw [ex, ← hsim.2.1 2 (by decide)]
    · exact ((eqx.rf.sI (S := RTs) (Or.inl rfl)).tr (eB.wk (fun i q => by (try unfold RTs); omega))).tr eG
    · rw [fG 12 (by decide), eB.I (by omega), sI_s, hcd]; rfl
    · rw [fG k k2, eB.I (by omega), sI_k k1]
  · refine r_lconst (0) dX9_costIn_9 (by decide) ?_
    refine r_lret dX9_costIn_10 rfl ⟨Nat.zero_le _, Nat.zero_le _⟩ ?_
    have kn : (okP r x && rgB 1 300 y) = false := bn1 c_6
    refine ⟨fun _ => RQ.of, fun q => absurd q ?_⟩
    unfold cd2
    cases h1 : okP r x
    · exact (by decide : ¬ (1 : Nat) = 0)
    · cases h2 : rgB 1 300 y
      · exact (by decide : ¬ (2 : Nat) = 0)
      · rw [h1, h2] at kn; cases kn
