-- the law: the input, loadPools, printPool, restoreState
set_option maxRecDepth 100000 in
set_option maxHeartbeats 4000000 in
theorem law_0 {l9 : Launch} {G : GC} {Fi : CX → State → Prop} {h : AH} {r s : Row} {L : List Row} {sv : Bool} {b : Nat → Int32} {n j : Nat} {o : Ob} {er eo : Int32} {l6 l7 l8 : Option Value} {cs : Nat × Nat} (hG : GOK G) (hj : 6 * j + 6 ≤ gL G) (hL3 : gL G ≤ 3072) (w : StL h r L r L s sv b n o er eo) (hp : LvP r L s sv b n (300 * j)) (hc1 : cs.1 ≤ 800 + 60 * j) (hc2 : cs.2 ≤ 40000 + 400 * j) (kk : LNx l9 G Fi j) : PW l9 G mL_law room_1 Fi NT 316 [some (.ref 0), some (.ref 1), some (.ref 723), some (.ref 737), some (.ref 738), some (.int (nI (6 * j))), l6, l7, l8] [] cs h := by
  refine r_aload_n dL_law_316 rfl ?_
  refine r_aload_n dL_law_317 rfl ?_
  refine r_iload dL_law_318 rfl ?_
  refine r_iconst (1) dL_law_320 (by decide) ?_
  refine r_iadd dL_law_321 ?_
  refine r_sld (k := 6 * j + 1) (nadd rfl kn_1) (by omega) hL3 dL_law_322 ?_
  refine r_aload_n dL_law_323 rfl ?_
  refine r_iload dL_law_324 rfl ?_
  refine r_iconst (2) dL_law_326 (by decide) ?_
  refine r_iadd dL_law_327 ?_
  refine r_sld (k := 6 * j + 2) (nadd rfl kn_2) (by omega) hL3 dL_law_328 ?_
  refine r_aload_n dL_law_329 rfl ?_
  refine r_iload dL_law_330 rfl ?_
  refine r_iconst (3) dL_law_332 (by decide) ?_
  refine r_iadd dL_law_333 ?_
  refine r_sld (k := 6 * j + 3) (nadd rfl kn_3) (by omega) hL3 dL_law_334 ?_
  refine r_aload_n dL_law_335 rfl ?_
  refine r_iload dL_law_336 rfl ?_
  refine r_iconst (4) dL_law_338 (by decide) ?_
  refine r_iadd dL_law_339 ?_
  refine r_sld (k := 6 * j + 4) (nadd rfl kn_4) (by omega) hL3 dL_law_340 ?_
  refine r_aload_n dL_law_341 rfl ?_
  refine r_iload dL_law_342 rfl ?_
  refine r_iconst (5) dL_law_344 (by decide) ?_
  refine r_iadd dL_law_345 ?_
  refine r_sld (k := 6 * j + 5) (nadd rfl kn_5) (by omega) hL3 dL_law_346 ?_
  refine q_callT5 (cv_X8_appendInput ml_L_194) w.1 kc_1 (by decide) rfl (rmL rfl (by show cs.1 + 0 ≤ _; omega) (by show cs.2 + 0 ≤ _; omega)) (Nat.le_of_ble_eq_true rfl) dL_law_347 (c_X8_appendInput (hW := w.1) (hi := w.2.1.2.2.2.1)) (fun v0 h0 _ q0 => ?_)
  by_cases hz : 700 < n + 20
  · skip
    obtain ⟨rfl, rfl⟩ := q0.1 hz
    have w1 := w
    have hp2 := hp.nx
    refine r_aload_n dL_law_350 rfl ?_
    refine r_aload_n dL_law_351 rfl ?_
    refine r_iload dL_law_352 rfl ?_
    refine r_iconst (1) dL_law_354 (by decide) ?_
    refine r_iadd dL_law_355 ?_
    refine r_sld (k := 6 * j + 1) (nadd rfl kn_1) (by omega) hL3 dL_law_356 ?_
    refine r_aload_n dL_law_357 rfl ?_
    refine r_iload dL_law_358 rfl ?_
    refine r_iconst (2) dL_law_360 (by decide) ?_
    refine r_iadd dL_law_361 ?_
    refine r_sld (k := 6 * j + 2) (nadd rfl kn_2) (by omega) hL3 dL_law_362 ?_
    refine r_aload_n dL_law_363 rfl ?_
    refine r_iload dL_law_364 rfl ?_
    refine r_iconst (3) dL_law_366 (by decide) ?_
    refine r_iadd dL_law_367 ?_
    refine r_sld (k := 6 * j + 3) (nadd rfl kn_3) (by omega) hL3 dL_law_368 ?_
    refine r_aload_n dL_law_369 rfl ?_
    refine r_iload dL_law_370 rfl ?_
    refine r_iconst (4) dL_law_372 (by decide) ?_
    refine r_iadd dL_law_373 ?_
    refine r_sld (k := 6 * j + 4) (nadd rfl kn_4) (by omega) hL3 dL_law_374 ?_
    refine r_aload_n dL_law_375 rfl ?_
    refine r_iload dL_law_376 rfl ?_
    refine r_iconst (5) dL_law_378 (by decide) ?_
    refine r_iadd dL_law_379 ?_
    refine r_sld (k := 6 * j + 5) (nadd rfl kn_5) (by omega) hL3 dL_law_380 ?_
    refine q_callT5 (cv_X9_appendInput ml_L_198) w1.1 kc_723 (by decide) rfl (rmL rfl (by show cs.1 + 0 + 0 ≤ _; omega) (by show cs.2 + 0 + 0 ≤ _; omega)) (Nat.le_of_ble_eq_true rfl) dL_law_381 (c_X9_appendInput (hW := w1.1) (hi := w1.2.2.2.2.2.1)) (fun v1 h1 _ q1 => ?_)
    obtain ⟨rfl, a4⟩ := q1.1 hz
    have w2 := st_rq w1 hp (show RQ _ h1 0 from by rw [a4]; exact RQ.of)
    refine r_icmp_eq 4127 dL_law_384 (by decide) (fun _ => ?_) (fun c9 => absurd rfl c9)
    exact kk _ _ _ _ _ _ _ _ _ _ _ _ _ _ w2 hp2 (by show cs.1 + 0 + 0 ≤ _; omega) (by show cs.2 + 0 + 0 ≤ _; omega)
  · skip
    obtain ⟨rfl, a1, a2, a3⟩ := q0.2 hz
    have hp1 := hp.inp (rg_ap5 (x1 := (gX G (6 * j + 1))) (x2 := (gX G (6 * j + 2))) (x3 := (gX G (6 * j + 3))) (x4 := (gX G (6 * j + 4))) (x5 := (gX G (6 * j + 5))) hp.2.2.2)
    have w1 := tr_c w hp a1 (fun i z => by unfold IC at z; omega) (fun k hk => a2 k (by omega)) a3 (oc_eqx a1 (by unfold IC; omega) (by unfold IC; omega) w.2.1.2.2.2.2.1)
    have hp2 := hp1.nx
    refine r_aload_n dL_law_350 rfl ?_
    refine r_aload_n dL_law_351 rfl ?_
    refine r_iload dL_law_352 rfl ?_
    refine r_iconst (1) dL_law_354 (by decide) ?_
    refine r_iadd dL_law_355 ?_
    refine r_sld (k := 6 * j + 1) (nadd rfl kn_1) (by omega) hL3 dL_law_356 ?_
    refine r_aload_n dL_law_357 rfl ?_
    refine r_iload dL_law_358 rfl ?_
    refine r_iconst (2) dL_law_360 (by decide) ?_
    refine r_iadd dL_law_361 ?_
    refine r_sld (k := 6 * j + 2) (nadd rfl kn_2) (by omega) hL3 dL_law_362 ?_
    refine r_aload_n dL_law_363 rfl ?_
    refine r_iload dL_law_364 rfl ?_
    refine r_iconst (3) dL_law_366 (by decide) ?_
    refine r_iadd dL_law_367 ?_
    refine r_sld (k := 6 * j + 3) (nadd rfl kn_3) (by omega) hL3 dL_law_368 ?_
    refine r_aload_n dL_law_369 rfl ?_
    refine r_iload dL_law_370 rfl ?_
    refine r_iconst (4) dL_law_372 (by decide) ?_
    refine r_iadd dL_law_373 ?_
    refine r_sld (k := 6 * j + 4) (nadd rfl kn_4) (by omega) hL3 dL_law_374 ?_
    refine r_aload_n dL_law_375 rfl ?_
    refine r_iload dL_law_376 rfl ?_
    refine r_iconst (5) dL_law_378 (by decide) ?_
    refine r_iadd dL_law_379 ?_
    refine r_sld (k := 6 * j + 5) (nadd rfl kn_5) (by omega) hL3 dL_law_380 ?_
    refine q_callT5 (cv_X9_appendInput ml_L_198) w1.1 kc_723 (by decide) rfl (rmL rfl (by show cs.1 + 0 + 0 ≤ _; omega) (by show cs.2 + 0 + 0 ≤ _; omega)) (Nat.le_of_ble_eq_true rfl) dL_law_381 (c_X9_appendInput (hW := w1.1) (hi := w1.2.2.2.2.2.1)) (fun v1 h1 _ q1 => ?_)
    obtain ⟨rfl, a4, a5, a6, a7⟩ := q1.2 hz
    have w2 := tr_r w1.1 w1.2.1 w1.2.2 hp1 a4 (fun i z => by unfold IR at z; omega) (fun k hk => a5 k (by omega) (by omega)) a7 (or_eqx a4 (a5 29 (by decide) (by decide)) (by unfold IR; omega) w1.2.2.2.2.2.2.1)
    refine r_icmp_eq 4127 dL_law_384 (by decide) (fun _ => ?_) (fun c9 => absurd rfl c9)
    exact kk _ _ _ _ _ _ _ _ _ _ _ _ _ _ w2 hp2 (by show cs.1 + 0 + 0 ≤ _; omega) (by show cs.2 + 0 + 0 ≤ _; omega)
set_option maxRecDepth 100000 in
set_option maxHeartbeats 4000000 in
theorem law_1 {l9 : Launch} {G : GC} {Fi : CX → State → Prop} {h : AH} {r s : Row} {L : List Row} {sv : Bool} {b : Nat → Int32} {n j : Nat} {o : Ob} {er eo : Int32} {l6 l7 l8 : Option Value} {cs : Nat × Nat} (hG : GOK G) (hj : 6 * j + 6 ≤ gL G) (hL3 : gL G ≤ 3072) (w : StL h r L r L s sv b n o er eo) (hp : LvP r L s sv b n (300 * j)) (hc1 : cs.1 ≤ 800 + 60 * j) (hc2 : cs.2 ≤ 40000 + 400 * j) (kk : LNx l9 G Fi j) : PW l9 G mL_law room_1 Fi NT 389 [some (.ref 0), some (.ref 1), some (.ref 723), some (.ref 737), some (.ref 738), some (.int (nI (6 * j))), l6, l7, l8] [] cs h := by
  refine r_aload_n dL_law_389 rfl ?_
  refine r_aload_n dL_law_390 rfl ?_
  refine r_iload dL_law_391 rfl ?_
  refine r_iconst (1) dL_law_393 (by decide) ?_
  refine r_iadd dL_law_394 ?_
  refine r_sld (k := 6 * j + 1) (nadd rfl kn_1) (by omega) hL3 dL_law_395 ?_
  refine q_callT1 (cv_X8_truncateInput ml_L_199) w.1 kc_1 (by decide) rfl (rmL rfl (by show cs.1 + 0 ≤ _; omega) (by show cs.2 + 0 ≤ _; omega)) (Nat.le_of_ble_eq_true rfl) dL_law_396 (c_X8_truncateInput (hW := w.1) (hi := w.2.1.2.2.2.1)) (fun v0 h0 _ q0 => ?_)
  by_cases hz : rgB 0 (nI n) (gX G (6 * j + 1)) = false
  · skip
    obtain ⟨rfl, rfl⟩ := q0.1 hz
    have w1 := w
    have hp2 := hp.nx
    refine r_aload_n dL_law_399 rfl ?_
    refine r_aload_n dL_law_400 rfl ?_
    refine r_iload dL_law_401 rfl ?_
    refine r_iconst (1) dL_law_403 (by decide) ?_
    refine r_iadd dL_law_404 ?_
    refine r_sld (k := 6 * j + 1) (nadd rfl kn_1) (by omega) hL3 dL_law_405 ?_
    refine q_callT1 (cv_X9_truncateInput ml_L_203) w1.1 kc_723 (by decide) rfl (rmL rfl (by show cs.1 + 0 + 0 ≤ _; omega) (by show cs.2 + 0 + 0 ≤ _; omega)) (Nat.le_of_ble_eq_true rfl) dL_law_406 (c_X9_truncateInput (hW := w1.1) (hi := w1.2.2.2.2.2.1)) (fun v1 h1 _ q1 => ?_)
    obtain ⟨rfl, a4⟩ := q1.1 hz
    have w2 := st_rq w1 hp (show RQ _ h1 0 from by rw [a4]; exact RQ.of)
    refine r_icmp_eq 4127 dL_law_409 (by decide) (fun _ => ?_) (fun c9 => absurd rfl c9)
    exact kk _ _ _ _ _ _ _ _ _ _ _ _ _ _ w2 hp2 (by show cs.1 + 0 + 0 ≤ _; omega) (by show cs.2 + 0 + 0 ≤ _; omega)
  · skip
    have hz2 : rgB 0 (nI n) (gX G (6 * j + 1)) = true := by
      cases q9 : rgB 0 (nI n) (gX G (6 * j + 1)) with
      | true => rfl
      | false => exact absurd q9 hz
    obtain ⟨rfl, rfl, a3⟩ := q0.2 hz2
    obtain ⟨k9, -, k8, k7⟩ := rgB_t (a := 0) (b := n) hz2 (by have := w.2.1.2.2.2.1.2.1; omega) (by decide)
    have k6 : nn (gX G (6 * j + 1)) ≤ n := by rw [k7, nn_I (by have := w.2.1.2.2.2.1.2.1; omega)]; exact k8
    have hp1 := hp.inp (b2 := b) (n2 := nn (gX G (6 * j + 1))) (fun i hi => hp.2.2.2 i (by omega))
    have a1 : eqx h (sI h 1 1 (gX G (6 * j + 1))) IC := eqx.rf.sI (Or.inl rfl)
    have w1 := tr_c w hp a1 (fun i z => by unfold IC at z; omega) (fun k hk => sI_k (by omega)) a3 (oc_eqx a1 (by unfold IC; omega) (by unfold IC; omega) w.2.1.2.2.2.2.1)
    have hp2 := hp1.nx
    refine r_aload_n dL_law_399 rfl ?_
    refine r_aload_n dL_law_400 rfl ?_
    refine r_iload dL_law_401 rfl ?_
    refine r_iconst (1) dL_law_403 (by decide) ?_
    refine r_iadd dL_law_404 ?_
    refine r_sld (k := 6 * j + 1) (nadd rfl kn_1) (by omega) hL3 dL_law_405 ?_
    refine q_callT1 (cv_X9_truncateInput ml_L_203) w1.1 kc_723 (by decide) rfl (rmL rfl (by show cs.1 + 0 + 0 ≤ _; omega) (by show cs.2 + 0 + 0 ≤ _; omega)) (Nat.le_of_ble_eq_true rfl) dL_law_406 (c_X9_truncateInput (hW := w1.1) (hi := w1.2.2.2.2.2.1)) (fun v1 h1 _ q1 => ?_)
    obtain ⟨rfl, a4, a7⟩ := q1.2 hz2
    have a5 : eqx (sI h 1 1 (gX G (6 * j + 1))) h1 IR := by rw [a4]; exact (eqx.rf.sI (Or.inl rfl)).sI (Or.inl rfl)
    have a6 : ∀ k, k ≠ 12 → k ≠ 14 → aI h1 723 k = aI (sI h 1 1 (gX G (6 * j + 1))) 723 k := fun k k1 k2 => by rw [a4, sI_k k2, sI_k k1]
    have w2 := tr_r w1.1 w1.2.1 w1.2.2 hp1 a5 (fun i z => by unfold IR at z; omega) (fun k hk => a6 k (by omega) (by omega)) a7 (or_eqx a5 (a6 29 (by decide) (by decide)) (by unfold IR; omega) w1.2.2.2.2.2.2.1)
    refine r_icmp_eq 4127 dL_law_409 (by decide) (fun _ => ?_) (fun c9 => absurd rfl c9)
    exact kk _ _ _ _ _ _ _ _ _ _ _ _ _ _ w2 hp2 (by show cs.1 + 0 + 0 ≤ _; omega) (by show cs.2 + 0 + 0 ≤ _; omega)
set_option maxRecDepth 100000 in
set_option maxHeartbeats 4000000 in
theorem law_2 {l9 : Launch} {G : GC} {Fi : CX → State → Prop} {h : AH} {r s : Row} {L : List Row} {sv : Bool} {b : Nat → Int32} {n j : Nat} {o : Ob} {er eo : Int32} {l6 l7 l8 : Option Value} {cs : Nat × Nat} (hG : GOK G) (hj : 6 * j + 6 ≤ gL G) (hL3 : gL G ≤ 3072) (w : StL h r L r L s sv b n o er eo) (hp : LvP r L s sv b n (300 * j)) (hc1 : cs.1 ≤ 800 + 60 * j) (hc2 : cs.2 ≤ 40000 + 400 * j) (kk : LNx l9 G Fi j) : PW l9 G mL_law room_1 Fi NT 414 [some (.ref 0), some (.ref 1), some (.ref 723), some (.ref 737), some (.ref 738), some (.int (nI (6 * j))), l6, l7, l8] [] cs h := by
  refine r_aload_n dL_law_414 rfl ?_
  refine q_callT0 (cv_X8_loadPools ml_L_204) w.1 kc_1 (by decide) rfl (rmL rfl (by show cs.1 + 0 ≤ _; omega) (by show cs.2 + 0 ≤ _; omega)) (Nat.le_of_ble_eq_true rfl) dL_law_415 (c_X8_loadPools (hW := w.1) (hb := rfl) (hn := w.2.1.2.2.2.1.1) (hn7 := w.2.1.2.2.2.1.2.1) (hG := hG)) (fun v0 h0 _ q0 => ?_)
  by_cases hz : (rdS (aI h 2) n).1.1 ≠ 0
  · skip
    have hi0 := w.2.1.2.2.2.1
    obtain ⟨a1, a2, a3, a4, a5, a6, a7, a8, a9, a10⟩ := q0
    have hz2 : (rdS (aI h 2) n).1.1 ≠ 0 := hz
    obtain ⟨rfl, b1, b2, b3⟩ := a9 hz2
    have hp1 : LvP r L s sv b 0 (300 * j) := hp.inp (fun i hi => absurd hi (Nat.not_lt_zero i))
    have w1 := st_ld w hp a1 a3 a4 a6 a7 a8 b1 b2 b3
    have hib : InB h0 (aI h 2) n := ⟨w1.2.2.2.2.2.1.1, w1.2.2.2.2.2.1.2.1, fun i hi => by rw [w1.2.2.2.2.2.1.2.2 i hi, hi0.2.2 i hi]; exact agB_sx (hp.2.2.2 i hi)⟩
    have hp2 := hp1.nx
    refine r_aload_n dL_law_418 rfl ?_
    refine q_callT0 (cv_X9_loadPools ml_L_207) w1.1 kc_723 (by decide) rfl (rmL rfl (by show cs.1 + 0 + 0 ≤ _; omega) (by show cs.2 + 0 + 0 ≤ _; omega)) (Nat.le_of_ble_eq_true rfl) dL_law_419 (c_X9_loadPools (hW := w1.1) (hi := hib) (hm := w1.2.2.1) (hG := hG)) (fun v1 h1 _ q1 => ?_)
    obtain ⟨c1, c2, c3, c4, c5, c6, c7, c8⟩ := q1
    obtain ⟨rfl, d1, d2, d3⟩ := c7 hz2
    have w2 := st_lr w1.1 w1.2.1 w1.2.2 hp1 c1 c2 c4 c5 c6 d1 d2 d3
    refine r_icmp_eq 4127 dL_law_422 (by decide) (fun _ => ?_) (fun c9 => absurd rfl c9)
    exact kk _ _ _ _ _ _ _ _ _ _ _ _ _ _ w2 hp2 (by show cs.1 + 0 + 0 ≤ _; omega) (by show cs.2 + 0 + 0 ≤ _; omega)
  · skip
    have hi0 := w.2.1.2.2.2.1
    obtain ⟨a1, a2, a3, a4, a5, a6, a7, a8, a9, a10⟩ := q0
    have hz2 : (rdS (aI h 2) n).1.1 = 0 := Classical.not_not.mp hz
    obtain ⟨rfl, b1, b2, b3, b4, b5⟩ := a10 hz2
    have hp1 : LvP ((rdS (aI h 2) n).2, ZG) [] s false b 0 (300 * j) := ⟨b4.1.wk (Nat.zero_le _), fun i hi => absurd hi (Nat.not_lt_zero i), fun q => absurd q (by decide), fun i hi => absurd hi (Nat.not_lt_zero i)⟩
    have w1 := st_ld1 (r1 := ((rdS (aI h 2) n).2, ZG)) w hp a1 a3 a4 a6 a7 a8 b2 b3 b1
    have hib : InB h0 (aI h 2) n := ⟨w1.2.2.2.2.2.1.1, w1.2.2.2.2.2.1.2.1, fun i hi => by rw [w1.2.2.2.2.2.1.2.2 i hi, hi0.2.2 i hi]; exact agB_sx (hp.2.2.2 i hi)⟩
    have hp2 := hp1.nx
    refine r_aload_n dL_law_418 rfl ?_
    refine q_callT0 (cv_X9_loadPools ml_L_207) w1.1 kc_723 (by decide) rfl (rmL rfl (by show cs.1 + 0 + 0 ≤ _; omega) (by show cs.2 + 0 + 0 ≤ _; omega)) (Nat.le_of_ble_eq_true rfl) dL_law_419 (c_X9_loadPools (hW := w1.1) (hi := hib) (hm := w1.2.2.1) (hG := hG)) (fun v1 h1 _ q1 => ?_)
    obtain ⟨c1, c2, c3, c4, c5, c6, c7, c8⟩ := q1
    obtain ⟨rfl, d1, d2, d3⟩ := c8 hz2
    have w2 := st_lr1 (r1 := ((rdS (aI h 2) n).2, ZG)) w1.1 w1.2.1 w1.2.2 hp1 c1 c2 c4 c5 c6 d1 d2 d3
    refine r_icmp_eq 4127 dL_law_422 (by decide) (fun _ => ?_) (fun c9 => absurd rfl c9)
    exact kk _ _ _ _ _ _ _ _ _ _ _ _ _ _ w2 hp2 (by show cs.1 + 0 + 0 ≤ _; omega) (by show cs.2 + 0 + 0 ≤ _; omega)
theorem cs_L_printPool : CStH RL 390 mL_printPool 3 := ⟨ml_L_390, (tgI 1505 (by decide +kernel) rfl), (tgI 98 (by decide +kernel) rfl), (tgI 1506 (by decide +kernel) rfl), ok_L_printPool⟩
set_option maxRecDepth 100000 in
set_option maxHeartbeats 4000000 in
theorem law_59 {l9 : Launch} {G : GC} {Fi : CX → State → Prop} {h : AH} {r s : Row} {L : List Row} {sv : Bool} {b : Nat → Int32} {n j : Nat} {o : Ob} {er eo : Int32} {l6 l7 l8 : Option Value} {cs : Nat × Nat} (hG : GOK G) (hj : 6 * j + 6 ≤ gL G) (hL3 : gL G ≤ 3072) (w : StL h r L r L s sv b n o er eo) (hp : LvP r L s sv b n (300 * j)) (hc1 : cs.1 ≤ 800 + 60 * j) (hc2 : cs.2 ≤ 40000 + 400 * j) (kk : LNx l9 G Fi j) : PW l9 G mL_law room_1 Fi NT 3976 [some (.ref 0), some (.ref 1), some (.ref 723), some (.ref 737), some (.ref 738), some (.int (nI (6 * j))), l6, l7, l8] [] cs h := by
  have hb9 : 300 * j + 300 < 2 ^ 23 := by omega
  refine r_aload_n dL_law_3976 rfl ?_
  refine r_aload_n dL_law_3977 rfl ?_
  refine r_iload dL_law_3978 rfl ?_
  refine r_iconst (1) dL_law_3980 (by decide) ?_
  refine r_iadd dL_law_3981 ?_
  refine r_sld (k := 6 * j + 1) (nadd rfl kn_1) (by omega) hL3 dL_law_3982 ?_
  refine r_aload_n dL_law_3983 rfl ?_
  refine r_callSH3 cs_L_printPool (rmL rfl (by show cs.1 + 1 ≤ _; omega) (by show cs.2 + 6 ≤ _; omega)) (Nat.le_of_ble_eq_true rfl) dL_law_3984 (c_L_printPool hG w.1 cd1_le (c_X8_printPool (hW := w.1) (hs := w.2.1.1) (hO := hp.1.1) (hN := (nm_of hp.1 (by omega)))) (fun _ e9 => e9.1.W w.1)) (fun v1 h1 q1 => ?_)
  obtain ⟨rfl, q2, q3⟩ := q1
  by_cases hz : cd1 (okP r (gX G (6 * j + 1))) = 0
  · obtain ⟨h3, q4, rfl⟩ := q3 hz
    have hp2 := hp.nx
    have w0 := tr_c w hp q4.1 (fun i z => by unfold OSc at z; omega) (fun k hk => congrFun (q4.1.I (show ¬ OSc 1 by unfold OSc; omega)) k) (ic_eqx q4.1 (by unfold OSc; omega) (by unfold OSc; omega) w.2.1.2.2.2.1) q4.2
    have w1 := tr_out (v := ((nI (prO (fP r (gX G (6 * j + 1))) (r.1 1)).2)).toInt64) w0.1 w0.2.1 w0.2.2 hp
    have ho : aJ (sJ h3 737 0 (((nI (prO (fP r (gX G (6 * j + 1))) (r.1 1)).2)).toInt64)) 737 0 = ((nI (prO (fP r (gX G (6 * j + 1))) (r.1 1)).2)).toInt64 := sJ_at0
    refine r_istore (ls2 := [some (.ref 0), some (.ref 1), some (.ref 723), some (.ref 737), some (.ref 738), some (.int (nI (6 * j))), some _, _, _]) dL_law_3987 (by decide) rfl ?_
    refine r_aload_n dL_law_3989 rfl ?_
    refine r_aload_n dL_law_3990 rfl ?_
    refine r_iload dL_law_3991 rfl ?_
    refine r_iconst (1) dL_law_3993 (by decide) ?_
    refine r_iadd dL_law_3994 ?_
    refine r_sld (k := 6 * j + 1) (nadd rfl kn_1) (by omega) hL3 dL_law_3995 ?_
    refine q_callT1 (cv_X9_printPool ml_L_392) w1.1 kc_723 (by decide) rfl (rmL rfl (by show cs.1 + 1 + 0 ≤ _; omega) (by show cs.2 + 6 + 0 ≤ _; omega)) (Nat.le_of_ble_eq_true rfl) dL_law_3996 (c_X9_printPool (hW := w1.1) (hm := w1.2.2.1) (hO := hp.1.1) (hm28 := (by omega)) (hN := (nm_of hp.1 (by omega)))) (fun v2 h2 ty2 p2 => ?_)
    obtain ⟨rfl, p3, p4, p5, p6⟩ := p2.2 hz
    have w2 := tr_r w1.1 w1.2.1 w1.2.2 hp p3 (fun i z => by unfold OSr at z; omega) (fun k hk => p4 k (by omega) (by omega)) (ir_eqx p3 (p4 14 (by decide) (by decide)) (by unfold OSr; omega) w1.2.2.2.2.2.1) p6
    have ht : aI h2 723 12 = nI (cd1 (okP r (gX G (6 * j + 1)))) := by rw [hz]; exact p5
    have ho2 : aJ h2 737 0 = _ := (congrFun (p3.J (show ¬ OSr 737 by unfold OSr; omega)) 0).trans ho
    refine r_istore (ls2 := [some (.ref 0), some (.ref 1), some (.ref 723), some (.ref 737), some (.ref 738), some (.int (nI (6 * j))), _, some _, _]) dL_law_3999 (by decide) rfl ?_
    refine r_aload_n dL_law_4001 rfl ?_
    refine q_callT0 (cv_X9_thrown ml_L_222) w2.1 kc_723 (by decide) rfl (rmL rfl (by show cs.1 + 1 + 0 + 0 ≤ _; omega) (by show cs.2 + 6 + 0 + 0 ≤ _; omega)) (Nat.le_of_ble_eq_true rfl) dL_law_4002 (c_X9_thrown w2.1) (fun v5 h5 _ q5 => ?_)
    obtain ⟨rfl, rfl⟩ := q5
    refine r_iload dL_law_4005 rfl ?_
    refine r_icmp_eq 4012 dL_law_4007 (by decide) (fun _ => ?_) (fun c9 => absurd ht c9)
    refine r_iload dL_law_4012 rfl ?_
    refine r_if_ne 4029 dL_law_4014 (by decide) (fun c9 => absurd (by rw [hz]; rfl) c9) (fun _ => ?_)
    refine r_aload_n dL_law_4017 rfl ?_
    refine r_iconst (0) dL_law_4018 (by decide) ?_
    refine q_lald (k := 0) w2.1 kc_737 kn_0 (by decide) (by decide) dL_law_4019 ?_
    rw [ho2]
    refine r_iload dL_law_4020 rfl ?_
    refine r_i2l dL_law_4022 ?_
    refine r_lcmp dL_law_4023 ?_
    refine r_if_eq 4029 dL_law_4024 (by decide) (fun _ => ?_) (fun c9 => absurd lg_cmp_s c9)
    refine r_goto 4127 dL_law_4029 (by decide) ?_
    exact kk _ _ _ _ _ _ _ _ _ _ _ _ _ _ w2 hp2 (by show cs.1 + 1 + 0 ≤ _; omega) (by show cs.2 + 6 + 0 ≤ _; omega)
  · obtain rfl := q2 hz
    have w1 := w
    refine r_istore (ls2 := [some (.ref 0), some (.ref 1), some (.ref 723), some (.ref 737), some (.ref 738), some (.int (nI (6 * j))), some _, _, _]) dL_law_3987 (by decide) rfl ?_
    refine r_aload_n dL_law_3989 rfl ?_
    refine r_aload_n dL_law_3990 rfl ?_
    refine r_iload dL_law_3991 rfl ?_
    refine r_iconst (1) dL_law_3993 (by decide) ?_
    refine r_iadd dL_law_3994 ?_
    refine r_sld (k := 6 * j + 1) (nadd rfl kn_1) (by omega) hL3 dL_law_3995 ?_
    refine q_callT1 (cv_X9_printPool ml_L_392) w1.1 kc_723 (by decide) rfl (rmL rfl (by show cs.1 + 1 + 0 ≤ _; omega) (by show cs.2 + 6 + 0 ≤ _; omega)) (Nat.le_of_ble_eq_true rfl) dL_law_3996 (c_X9_printPool (hW := w1.1) (hm := w1.2.2.1) (hO := hp.1.1) (hm28 := (by omega)) (hN := (nm_of hp.1 (by omega)))) (fun v2 h2 ty2 p2 => ?_)
    obtain ⟨y2, rfl⟩ : ∃ x, v2 = some (.int x) := ty2
    have p3 := p2.1 hz
    have w2 := st_rq w1 hp p3
    have ht := p3.2.1
    refine r_istore (ls2 := [some (.ref 0), some (.ref 1), some (.ref 723), some (.ref 737), some (.ref 738), some (.int (nI (6 * j))), _, some _, _]) dL_law_3999 (by decide) rfl ?_
    refine r_aload_n dL_law_4001 rfl ?_
    refine q_callT0 (cv_X9_thrown ml_L_222) w2.1 kc_723 (by decide) rfl (rmL rfl (by show cs.1 + 1 + 0 + 0 ≤ _; omega) (by show cs.2 + 6 + 0 + 0 ≤ _; omega)) (Nat.le_of_ble_eq_true rfl) dL_law_4002 (c_X9_thrown w2.1) (fun v5 h5 _ q5 => ?_)
    obtain ⟨rfl, rfl⟩ := q5
    refine r_iload dL_law_4005 rfl ?_
    refine r_icmp_eq 4012 dL_law_4007 (by decide) (fun _ => ?_) (fun c9 => absurd ht c9)
    refine r_iload dL_law_4012 rfl ?_
    refine r_if_ne 4029 dL_law_4014 (by decide) (fun _ => ?_) (fun c9 => absurd c9 (nI_nz hz (by have := (show cd1 (okP r (gX G (6 * j + 1))) ≤ 4 from Nat.le_trans cd1_le (by decide)); omega)))
    refine r_goto 4127 dL_law_4029 (by decide) ?_
    exact kk _ _ _ _ _ _ _ _ _ _ _ _ _ _ w2 hp.nx (by show cs.1 + 1 + 0 ≤ _; omega) (by show cs.2 + 6 + 0 ≤ _; omega)
theorem cs_L_restoreState : CStH RL 405 mL_restoreState 2 := ⟨ml_L_405, (tgI 1521 (by decide +kernel) rfl), (tgI 98 (by decide +kernel) rfl), (tgI 1522 (by decide +kernel) rfl), ok_L_restoreState⟩
set_option maxRecDepth 100000 in
set_option maxHeartbeats 4000000 in
theorem law_63 {l9 : Launch} {G : GC} {Fi : CX → State → Prop} {h : AH} {r s : Row} {L : List Row} {sv : Bool} {b : Nat → Int32} {n j : Nat} {o : Ob} {er eo : Int32} {l6 l7 l8 : Option Value} {cs : Nat × Nat} (hG : GOK G) (hj : 6 * j + 6 ≤ gL G) (hL3 : gL G ≤ 3072) (w : StL h r L r L s sv b n o er eo) (hp : LvP r L s sv b n (300 * j)) (hc1 : cs.1 ≤ 800 + 60 * j) (hc2 : cs.2 ≤ 40000 + 400 * j) (kk : LNx l9 G Fi j) : PW l9 G mL_law room_1 Fi NT 4083 [some (.ref 0), some (.ref 1), some (.ref 723), some (.ref 737), some (.ref 738), some (.int (nI (6 * j))), l6, l7, l8] [] cs h := by
  have hb9 : 300 * j + 300 < 2 ^ 23 := by omega
  refine r_aload_n dL_law_4083 rfl ?_
  refine r_aload_n dL_law_4084 rfl ?_
  refine r_callSH2 cs_L_restoreState (rmL rfl (by show cs.1 + 1 ≤ _; omega) (by show cs.2 + 6 ≤ _; omega)) (Nat.le_of_ble_eq_true rfl) dL_law_4085 (c_L_restoreState hG w.1 cd1_le (c_X8_restoreState (hW := w.1) (h9 := w.2.1.2.2.1.1) (hs := (fun q => ⟨w.2.1.2.2.1.2 q, (hp.2.2.1 q).1⟩))) (fun _ e9 => e9.1.W w.1)) (fun v1 h1 q1 => ?_)
  obtain ⟨rfl, q2, q3⟩ := q1
  by_cases hz : cd1 sv = 0
  · obtain ⟨h3, q4, rfl⟩ := q3 hz
    have hp1 := hp.rs (cd1_0 hz)
    have hp2 := hp1.nx
    have w1 := st_out (v := ((s.1 1)).toInt64) (st_rs w hp q4.1 q4.2.1 q4.2.2) hp1
    have ho : aJ (sJ h3 737 0 (((s.1 1)).toInt64)) 737 0 = ((s.1 1)).toInt64 := sJ_at0
    refine r_istore (ls2 := [some (.ref 0), some (.ref 1), some (.ref 723), some (.ref 737), some (.ref 738), some (.int (nI (6 * j))), some _, _, _]) dL_law_4088 (by decide) rfl ?_
    refine r_aload_n dL_law_4090 rfl ?_
    refine q_callT0 (cv_X9_restoreState ml_L_408) w1.1 kc_723 (by decide) rfl (rmL rfl (by show cs.1 + 1 + 0 ≤ _; omega) (by show cs.2 + 6 + 0 ≤ _; omega)) (Nat.le_of_ble_eq_true rfl) dL_law_4091 (c_X9_restoreState (hW := w1.1) (hm := w1.2.2.1) (hO := hp.1.1) (hm28 := (by omega)) (h11 := w1.2.2.2.2.1.1) (hs := w1.2.2.2.2.1.2)) (fun v2 h2 ty2 p2 => ?_)
    obtain ⟨rfl, p3, p4, p5⟩ := p2.2 hz
    have w2 := st_rs2 w1 hp1 p3 p4 p5
    have ht : aI h2 723 12 = nI (cd1 sv) := by rw [hz, p4]; exact (up9_o (by decide)).trans up9_s
    have ho2 : aJ h2 737 0 = _ := (congrFun (p3.J (show ¬ (737 = 723 ∨ 737 = 724 ∨ 737 = 729) by omega)) 0).trans ho
    refine r_istore (ls2 := [some (.ref 0), some (.ref 1), some (.ref 723), some (.ref 737), some (.ref 738), some (.int (nI (6 * j))), _, some _, _]) dL_law_4094 (by decide) rfl ?_
    refine r_aload_n dL_law_4096 rfl ?_
    refine q_callT0 (cv_X9_thrown ml_L_222) w2.1 kc_723 (by decide) rfl (rmL rfl (by show cs.1 + 1 + 0 + 0 ≤ _; omega) (by show cs.2 + 6 + 0 + 0 ≤ _; omega)) (Nat.le_of_ble_eq_true rfl) dL_law_4097 (c_X9_thrown w2.1) (fun v5 h5 _ q5 => ?_)
    obtain ⟨rfl, rfl⟩ := q5
    refine r_iload dL_law_4100 rfl ?_
    refine r_icmp_eq 4107 dL_law_4102 (by decide) (fun _ => ?_) (fun c9 => absurd ht c9)
    refine r_iload dL_law_4107 rfl ?_
    refine r_if_ne 4124 dL_law_4109 (by decide) (fun c9 => absurd (by rw [hz]; rfl) c9) (fun _ => ?_)
    refine r_aload_n dL_law_4112 rfl ?_
    refine r_iconst (0) dL_law_4113 (by decide) ?_
    refine q_lald (k := 0) w2.1 kc_737 kn_0 (by decide) (by decide) dL_law_4114 ?_
    rw [ho2]
    refine r_iload dL_law_4115 rfl ?_
    refine r_i2l dL_law_4117 ?_
    refine r_lcmp dL_law_4118 ?_
    refine r_if_eq 4124 dL_law_4119 (by decide) (fun _ => ?_) (fun c9 => absurd lg_cmp_s c9)
    refine r_goto 4127 dL_law_4124 (by decide) ?_
    exact kk _ _ _ _ _ _ _ _ _ _ _ _ _ _ w2 hp2 (by show cs.1 + 1 + 0 ≤ _; omega) (by show cs.2 + 6 + 0 ≤ _; omega)
  · obtain rfl := q2 hz
    have w1 := w
    refine r_istore (ls2 := [some (.ref 0), some (.ref 1), some (.ref 723), some (.ref 737), some (.ref 738), some (.int (nI (6 * j))), some _, _, _]) dL_law_4088 (by decide) rfl ?_
    refine r_aload_n dL_law_4090 rfl ?_
    refine q_callT0 (cv_X9_restoreState ml_L_408) w1.1 kc_723 (by decide) rfl (rmL rfl (by show cs.1 + 1 + 0 ≤ _; omega) (by show cs.2 + 6 + 0 ≤ _; omega)) (Nat.le_of_ble_eq_true rfl) dL_law_4091 (c_X9_restoreState (hW := w1.1) (hm := w1.2.2.1) (hO := hp.1.1) (hm28 := (by omega)) (h11 := w1.2.2.2.2.1.1) (hs := w1.2.2.2.2.1.2)) (fun v2 h2 ty2 p2 => ?_)
    obtain ⟨y2, rfl⟩ : ∃ x, v2 = some (.int x) := ty2
    have p3 := p2.1 hz
    have w2 := st_rq w1 hp p3
    have ht := p3.2.1
    refine r_istore (ls2 := [some (.ref 0), some (.ref 1), some (.ref 723), some (.ref 737), some (.ref 738), some (.int (nI (6 * j))), _, some _, _]) dL_law_4094 (by decide) rfl ?_
    refine r_aload_n dL_law_4096 rfl ?_
    refine q_callT0 (cv_X9_thrown ml_L_222) w2.1 kc_723 (by decide) rfl (rmL rfl (by show cs.1 + 1 + 0 + 0 ≤ _; omega) (by show cs.2 + 6 + 0 + 0 ≤ _; omega)) (Nat.le_of_ble_eq_true rfl) dL_law_4097 (c_X9_thrown w2.1) (fun v5 h5 _ q5 => ?_)
    obtain ⟨rfl, rfl⟩ := q5
    refine r_iload dL_law_4100 rfl ?_
    refine r_icmp_eq 4107 dL_law_4102 (by decide) (fun _ => ?_) (fun c9 => absurd ht c9)
    refine r_iload dL_law_4107 rfl ?_
    refine r_if_ne 4124 dL_law_4109 (by decide) (fun _ => ?_) (fun c9 => absurd c9 (nI_nz hz (by have := (show cd1 sv ≤ 4 from Nat.le_trans cd1_le (by decide)); omega)))
    refine r_goto 4127 dL_law_4124 (by decide) ?_
    exact kk _ _ _ _ _ _ _ _ _ _ _ _ _ _ w2 hp.nx (by show cs.1 + 1 + 0 ≤ _; omega) (by show cs.2 + 6 + 0 ≤ _; omega)
