-- the law: cases
theorem cs_L_count : CStH RL 216 mL_count 3 := ⟨ml_L_216, (tgI 796 (by decide +kernel) rfl), (tgI 98 (by decide +kernel) rfl), (tgI 797 (by decide +kernel) rfl), ok_L_count⟩
set_option maxRecDepth 100000 in
set_option maxHeartbeats 4000000 in
theorem law_5 {l9 : Launch} {G : GC} {Fi : CX → State → Prop} {h : AH} {r s : Row} {L : List Row} {sv : Bool} {b : Nat → Int32} {n j : Nat} {o : Ob} {er eo : Int32} {l6 l7 l8 : Option Value} {cs : Nat × Nat} (hG : GOK G) (hj : 6 * j + 6 ≤ gL G) (hL3 : gL G ≤ 3072) (w : StL h r L r L s sv b n o er eo) (hp : LvP r L s sv b n (300 * j)) (hc1 : cs.1 ≤ 800 + 60 * j) (hc2 : cs.2 ≤ 40000 + 400 * j) (kk : LNx l9 G Fi j) : PW l9 G mL_law room_1 Fi NT 453 [some (.ref 0), some (.ref 1), some (.ref 723), some (.ref 737), some (.ref 738), some (.int (nI (6 * j))), l6, l7, l8] [] cs h := by
  have hb9 : 300 * j + 300 < 2 ^ 23 := by omega
  refine r_aload_n dL_law_453 rfl ?_
  refine r_aload_n dL_law_454 rfl ?_
  refine r_iload dL_law_455 rfl ?_
  refine r_iconst (1) dL_law_457 (by decide) ?_
  refine r_iadd dL_law_458 ?_
  refine r_sld (k := 6 * j + 1) (nadd rfl kn_1) (by omega) hL3 dL_law_459 ?_
  refine r_aload_n dL_law_460 rfl ?_
  refine r_callSH3 cs_L_count (rmL rfl (by show cs.1 + 1 ≤ _; omega) (by show cs.2 + 6 ≤ _; omega)) (Nat.le_of_ble_eq_true rfl) dL_law_461 (c_L_count hG w.1 cd1_le (c_X8_count (hW := w.1) (hs := w.2.1.1) (hO := hp.1.1) (hL := w.2.1.2.1.1)) (fun _ e9 => by rw [e9]; exact w.1)) (fun v1 h1 q1 => ?_)
  obtain ⟨rfl, q2, q3⟩ := q1
  by_cases hz : cd1 (rgB 0 5 (gX G (6 * j + 1))) = 0
  · obtain ⟨h3, q4, rfl⟩ := q3 hz
    obtain rfl := q4
    have hp2 := hp.nx
    have w1 := st_out (v := ((ctA r L.length (nn (gX G (6 * j + 1))))).toInt64) w hp
    have ho2 : ∀ {H : AH}, aJ (sI (sJ H 737 0 (((ctA r L.length (nn (gX G (6 * j + 1))))).toInt64)) 723 12 (nI (cd1 (rgB 0 5 (gX G (6 * j + 1)))))) 737 0 = ((ctA r L.length (nn (gX G (6 * j + 1))))).toInt64 := sJ_at0
    refine r_istore (ls2 := [some (.ref 0), some (.ref 1), some (.ref 723), some (.ref 737), some (.ref 738), some (.int (nI (6 * j))), some _, _, _]) dL_law_464 (by decide) rfl ?_
    refine r_aload_n dL_law_466 rfl ?_
    refine r_aload_n dL_law_467 rfl ?_
    refine r_iload dL_law_468 rfl ?_
    refine r_iconst (1) dL_law_470 (by decide) ?_
    refine r_iadd dL_law_471 ?_
    refine r_sld (k := 6 * j + 1) (nadd rfl kn_1) (by omega) hL3 dL_law_472 ?_
    refine q_callT1 (cv_X9_count ml_L_221) w1.1 kc_723 (by decide) rfl (rmL rfl (by show cs.1 + 1 + 0 ≤ _; omega) (by show cs.2 + 6 + 0 ≤ _; omega)) (Nat.le_of_ble_eq_true rfl) dL_law_473 (c_X9_count (hW := w1.1) (hm := w1.2.2.1) (hO := hp.1.1) (hm28 := (by omega)) (hL := w1.2.2.2.1.1)) (fun v2 h2 ty2 p2 => ?_)
    obtain ⟨rfl, p3⟩ := p2
    obtain rfl := p3 hz
    have w2 := st_si (c := cd1 (rgB 0 5 (gX G (6 * j + 1)))) w1 hp
    have ht : ∀ {H : AH}, aI (sI H 723 12 (nI (cd1 (rgB 0 5 (gX G (6 * j + 1)))))) 723 12 = nI (cd1 (rgB 0 5 (gX G (6 * j + 1)))) := sI_s
    refine r_istore (ls2 := [some (.ref 0), some (.ref 1), some (.ref 723), some (.ref 737), some (.ref 738), some (.int (nI (6 * j))), _, some _, _]) dL_law_476 (by decide) rfl ?_
    refine r_aload_n dL_law_478 rfl ?_
    refine q_callT0 (cv_X9_thrown ml_L_222) w2.1 kc_723 (by decide) rfl (rmL rfl (by show cs.1 + 1 + 0 + 0 ≤ _; omega) (by show cs.2 + 6 + 0 + 0 ≤ _; omega)) (Nat.le_of_ble_eq_true rfl) dL_law_479 (c_X9_thrown w2.1) (fun v5 h5 _ q5 => ?_)
    obtain ⟨rfl, rfl⟩ := q5
    refine r_iload dL_law_482 rfl ?_
    refine r_icmp_eq 489 dL_law_484 (by decide) (fun _ => ?_) (fun c9 => absurd ht c9)
    refine r_iload dL_law_489 rfl ?_
    refine r_if_ne 506 dL_law_491 (by decide) (fun c9 => absurd (by rw [hz]; rfl) c9) (fun _ => ?_)
    refine r_aload_n dL_law_494 rfl ?_
    refine r_iconst (0) dL_law_495 (by decide) ?_
    refine q_lald (k := 0) w2.1 kc_737 kn_0 (by decide) (by decide) dL_law_496 ?_
    rw [ho2]
    refine r_iload dL_law_497 rfl ?_
    refine r_i2l dL_law_499 ?_
    refine r_lcmp dL_law_500 ?_
    refine r_if_eq 506 dL_law_501 (by decide) (fun _ => ?_) (fun c9 => absurd lg_cmp_s c9)
    refine r_goto 4127 dL_law_506 (by decide) ?_
    exact kk _ _ _ _ _ _ _ _ _ _ _ _ _ _ w2 hp2 (by show cs.1 + 1 + 0 ≤ _; omega) (by show cs.2 + 6 + 0 ≤ _; omega)
  · obtain rfl := q2 hz
    have w1 := w
    refine r_istore (ls2 := [some (.ref 0), some (.ref 1), some (.ref 723), some (.ref 737), some (.ref 738), some (.int (nI (6 * j))), some _, _, _]) dL_law_464 (by decide) rfl ?_
    refine r_aload_n dL_law_466 rfl ?_
    refine r_aload_n dL_law_467 rfl ?_
    refine r_iload dL_law_468 rfl ?_
    refine r_iconst (1) dL_law_470 (by decide) ?_
    refine r_iadd dL_law_471 ?_
    refine r_sld (k := 6 * j + 1) (nadd rfl kn_1) (by omega) hL3 dL_law_472 ?_
    refine q_callT1 (cv_X9_count ml_L_221) w1.1 kc_723 (by decide) rfl (rmL rfl (by show cs.1 + 1 + 0 ≤ _; omega) (by show cs.2 + 6 + 0 ≤ _; omega)) (Nat.le_of_ble_eq_true rfl) dL_law_473 (c_X9_count (hW := w1.1) (hm := w1.2.2.1) (hO := hp.1.1) (hm28 := (by omega)) (hL := w1.2.2.2.1.1)) (fun v2 h2 ty2 p2 => ?_)
    obtain ⟨y2, rfl⟩ : ∃ x, v2 = some (.int x) := ty2
    obtain ⟨rfl, -⟩ := p2
    have w2 := st_si (c := cd1 (rgB 0 5 (gX G (6 * j + 1)))) w1 hp
    have ht : ∀ {H : AH}, aI (sI H 723 12 (nI (cd1 (rgB 0 5 (gX G (6 * j + 1)))))) 723 12 = nI (cd1 (rgB 0 5 (gX G (6 * j + 1)))) := sI_s
    refine r_istore (ls2 := [some (.ref 0), some (.ref 1), some (.ref 723), some (.ref 737), some (.ref 738), some (.int (nI (6 * j))), _, some _, _]) dL_law_476 (by decide) rfl ?_
    refine r_aload_n dL_law_478 rfl ?_
    refine q_callT0 (cv_X9_thrown ml_L_222) w2.1 kc_723 (by decide) rfl (rmL rfl (by show cs.1 + 1 + 0 + 0 ≤ _; omega) (by show cs.2 + 6 + 0 + 0 ≤ _; omega)) (Nat.le_of_ble_eq_true rfl) dL_law_479 (c_X9_thrown w2.1) (fun v5 h5 _ q5 => ?_)
    obtain ⟨rfl, rfl⟩ := q5
    refine r_iload dL_law_482 rfl ?_
    refine r_icmp_eq 489 dL_law_484 (by decide) (fun _ => ?_) (fun c9 => absurd ht c9)
    refine r_iload dL_law_489 rfl ?_
    refine r_if_ne 506 dL_law_491 (by decide) (fun _ => ?_) (fun c9 => absurd c9 (nI_nz hz (by have := (show cd1 (rgB 0 5 (gX G (6 * j + 1))) ≤ 4 from Nat.le_trans cd1_le (by decide)); omega)))
    refine r_goto 4127 dL_law_506 (by decide) ?_
    exact kk _ _ _ _ _ _ _ _ _ _ _ _ _ _ w2 hp.nx (by show cs.1 + 1 + 0 ≤ _; omega) (by show cs.2 + 6 + 0 ≤ _; omega)
theorem cs_L_pool : CStH RL 225 mL_pool 4 := ⟨ml_L_225, (tgI 876 (by decide +kernel) rfl), (tgI 98 (by decide +kernel) rfl), (tgI 877 (by decide +kernel) rfl), ok_L_pool⟩
set_option maxRecDepth 100000 in
set_option maxHeartbeats 4000000 in
theorem law_6 {l9 : Launch} {G : GC} {Fi : CX → State → Prop} {h : AH} {r s : Row} {L : List Row} {sv : Bool} {b : Nat → Int32} {n j : Nat} {o : Ob} {er eo : Int32} {l6 l7 l8 : Option Value} {cs : Nat × Nat} (hG : GOK G) (hj : 6 * j + 6 ≤ gL G) (hL3 : gL G ≤ 3072) (w : StL h r L r L s sv b n o er eo) (hp : LvP r L s sv b n (300 * j)) (hc1 : cs.1 ≤ 800 + 60 * j) (hc2 : cs.2 ≤ 40000 + 400 * j) (kk : LNx l9 G Fi j) : PW l9 G mL_law room_1 Fi NT 509 [some (.ref 0), some (.ref 1), some (.ref 723), some (.ref 737), some (.ref 738), some (.int (nI (6 * j))), l6, l7, l8] [] cs h := by
  have hb9 : 300 * j + 300 < 2 ^ 23 := by omega
  refine r_aload_n dL_law_509 rfl ?_
  refine r_aload_n dL_law_510 rfl ?_
  refine r_iload dL_law_511 rfl ?_
  refine r_iconst (1) dL_law_513 (by decide) ?_
  refine r_iadd dL_law_514 ?_
  refine r_sld (k := 6 * j + 1) (nadd rfl kn_1) (by omega) hL3 dL_law_515 ?_
  refine r_aload_n dL_law_516 rfl ?_
  refine r_iload dL_law_517 rfl ?_
  refine r_iconst (2) dL_law_519 (by decide) ?_
  refine r_iadd dL_law_520 ?_
  refine r_sld (k := 6 * j + 2) (nadd rfl kn_2) (by omega) hL3 dL_law_521 ?_
  refine r_aload_n dL_law_522 rfl ?_
  refine r_callSH4 cs_L_pool (rmL rfl (by show cs.1 + 2 ≤ _; omega) (by show cs.2 + 12 ≤ _; omega)) (Nat.le_of_ble_eq_true rfl) dL_law_523 (c_L_pool hG w.1 cd2_le (c_X8_pool (hW := w.1) (hs := w.2.1.1) (hO := hp.1.1)) (fun _ e9 => by rw [e9]; exact w.1)) (fun v1 h1 q1 => ?_)
  obtain ⟨rfl, q2, q3⟩ := q1
  by_cases hz : cd2 (okP r (gX G (6 * j + 1))) (rgB 0 20 (gX G (6 * j + 2))) = 0
  · obtain ⟨h3, q4, rfl⟩ := q3 hz
    obtain rfl := q4
    have hp2 := hp.nx
    have w1 := st_out (v := ((plA r (gX G (6 * j + 1)) (nn (gX G (6 * j + 2))))).toInt64) w hp
    have ho2 : ∀ {H : AH}, aJ (sI (sJ H 737 0 (((plA r (gX G (6 * j + 1)) (nn (gX G (6 * j + 2))))).toInt64)) 723 12 (nI (cd2 (okP r (gX G (6 * j + 1))) (rgB 0 20 (gX G (6 * j + 2)))))) 737 0 = ((plA r (gX G (6 * j + 1)) (nn (gX G (6 * j + 2))))).toInt64 := sJ_at0
    refine r_istore (ls2 := [some (.ref 0), some (.ref 1), some (.ref 723), some (.ref 737), some (.ref 738), some (.int (nI (6 * j))), some _, _, _]) dL_law_526 (by decide) rfl ?_
    refine r_aload_n dL_law_528 rfl ?_
    refine r_aload_n dL_law_529 rfl ?_
    refine r_iload dL_law_530 rfl ?_
    refine r_iconst (1) dL_law_532 (by decide) ?_
    refine r_iadd dL_law_533 ?_
    refine r_sld (k := 6 * j + 1) (nadd rfl kn_1) (by omega) hL3 dL_law_534 ?_
    refine r_aload_n dL_law_535 rfl ?_
    refine r_iload dL_law_536 rfl ?_
    refine r_iconst (2) dL_law_538 (by decide) ?_
    refine r_iadd dL_law_539 ?_
    refine r_sld (k := 6 * j + 2) (nadd rfl kn_2) (by omega) hL3 dL_law_540 ?_
    refine q_callT2 (cv_X9_pool ml_L_228) w1.1 kc_723 (by decide) rfl (rmL rfl (by show cs.1 + 2 + 0 ≤ _; omega) (by show cs.2 + 12 + 0 ≤ _; omega)) (Nat.le_of_ble_eq_true rfl) dL_law_541 (c_X9_pool (hW := w1.1) (hm := w1.2.2.1) (hO := hp.1.1) (hm28 := (by omega))) (fun v2 h2 ty2 p2 => ?_)
    obtain ⟨rfl, p3⟩ := p2
    obtain rfl := p3 hz
    have w2 := st_si (c := cd2 (okP r (gX G (6 * j + 1))) (rgB 0 20 (gX G (6 * j + 2)))) w1 hp
    have ht : ∀ {H : AH}, aI (sI H 723 12 (nI (cd2 (okP r (gX G (6 * j + 1))) (rgB 0 20 (gX G (6 * j + 2)))))) 723 12 = nI (cd2 (okP r (gX G (6 * j + 1))) (rgB 0 20 (gX G (6 * j + 2)))) := sI_s
    refine r_istore (ls2 := [some (.ref 0), some (.ref 1), some (.ref 723), some (.ref 737), some (.ref 738), some (.int (nI (6 * j))), _, some _, _]) dL_law_544 (by decide) rfl ?_
    refine r_aload_n dL_law_546 rfl ?_
    refine q_callT0 (cv_X9_thrown ml_L_222) w2.1 kc_723 (by decide) rfl (rmL rfl (by show cs.1 + 2 + 0 + 0 ≤ _; omega) (by show cs.2 + 12 + 0 + 0 ≤ _; omega)) (Nat.le_of_ble_eq_true rfl) dL_law_547 (c_X9_thrown w2.1) (fun v5 h5 _ q5 => ?_)
    obtain ⟨rfl, rfl⟩ := q5
    refine r_iload dL_law_550 rfl ?_
    refine r_icmp_eq 557 dL_law_552 (by decide) (fun _ => ?_) (fun c9 => absurd ht c9)
    refine r_iload dL_law_557 rfl ?_
    refine r_if_ne 574 dL_law_559 (by decide) (fun c9 => absurd (by rw [hz]; rfl) c9) (fun _ => ?_)
    refine r_aload_n dL_law_562 rfl ?_
    refine r_iconst (0) dL_law_563 (by decide) ?_
    refine q_lald (k := 0) w2.1 kc_737 kn_0 (by decide) (by decide) dL_law_564 ?_
    rw [ho2]
    refine r_iload dL_law_565 rfl ?_
    refine r_i2l dL_law_567 ?_
    refine r_lcmp dL_law_568 ?_
    refine r_if_eq 574 dL_law_569 (by decide) (fun _ => ?_) (fun c9 => absurd lg_cmp_s c9)
    refine r_goto 4127 dL_law_574 (by decide) ?_
    exact kk _ _ _ _ _ _ _ _ _ _ _ _ _ _ w2 hp2 (by show cs.1 + 2 + 0 ≤ _; omega) (by show cs.2 + 12 + 0 ≤ _; omega)
  · obtain rfl := q2 hz
    have w1 := w
    refine r_istore (ls2 := [some (.ref 0), some (.ref 1), some (.ref 723), some (.ref 737), some (.ref 738), some (.int (nI (6 * j))), some _, _, _]) dL_law_526 (by decide) rfl ?_
    refine r_aload_n dL_law_528 rfl ?_
    refine r_aload_n dL_law_529 rfl ?_
    refine r_iload dL_law_530 rfl ?_
    refine r_iconst (1) dL_law_532 (by decide) ?_
    refine r_iadd dL_law_533 ?_
    refine r_sld (k := 6 * j + 1) (nadd rfl kn_1) (by omega) hL3 dL_law_534 ?_
    refine r_aload_n dL_law_535 rfl ?_
    refine r_iload dL_law_536 rfl ?_
    refine r_iconst (2) dL_law_538 (by decide) ?_
    refine r_iadd dL_law_539 ?_
    refine r_sld (k := 6 * j + 2) (nadd rfl kn_2) (by omega) hL3 dL_law_540 ?_
    refine q_callT2 (cv_X9_pool ml_L_228) w1.1 kc_723 (by decide) rfl (rmL rfl (by show cs.1 + 2 + 0 ≤ _; omega) (by show cs.2 + 12 + 0 ≤ _; omega)) (Nat.le_of_ble_eq_true rfl) dL_law_541 (c_X9_pool (hW := w1.1) (hm := w1.2.2.1) (hO := hp.1.1) (hm28 := (by omega))) (fun v2 h2 ty2 p2 => ?_)
    obtain ⟨y2, rfl⟩ : ∃ x, v2 = some (.int x) := ty2
    obtain ⟨rfl, -⟩ := p2
    have w2 := st_si (c := cd2 (okP r (gX G (6 * j + 1))) (rgB 0 20 (gX G (6 * j + 2)))) w1 hp
    have ht : ∀ {H : AH}, aI (sI H 723 12 (nI (cd2 (okP r (gX G (6 * j + 1))) (rgB 0 20 (gX G (6 * j + 2)))))) 723 12 = nI (cd2 (okP r (gX G (6 * j + 1))) (rgB 0 20 (gX G (6 * j + 2)))) := sI_s
    refine r_istore (ls2 := [some (.ref 0), some (.ref 1), some (.ref 723), some (.ref 737), some (.ref 738), some (.int (nI (6 * j))), _, some _, _]) dL_law_544 (by decide) rfl ?_
    refine r_aload_n dL_law_546 rfl ?_
    refine q_callT0 (cv_X9_thrown ml_L_222) w2.1 kc_723 (by decide) rfl (rmL rfl (by show cs.1 + 2 + 0 + 0 ≤ _; omega) (by show cs.2 + 12 + 0 + 0 ≤ _; omega)) (Nat.le_of_ble_eq_true rfl) dL_law_547 (c_X9_thrown w2.1) (fun v5 h5 _ q5 => ?_)
    obtain ⟨rfl, rfl⟩ := q5
    refine r_iload dL_law_550 rfl ?_
    refine r_icmp_eq 557 dL_law_552 (by decide) (fun _ => ?_) (fun c9 => absurd ht c9)
    refine r_iload dL_law_557 rfl ?_
    refine r_if_ne 574 dL_law_559 (by decide) (fun _ => ?_) (fun c9 => absurd c9 (nI_nz hz (by have := (show cd2 (okP r (gX G (6 * j + 1))) (rgB 0 20 (gX G (6 * j + 2))) ≤ 4 from Nat.le_trans cd2_le (by decide)); omega)))
    refine r_goto 4127 dL_law_574 (by decide) ?_
    exact kk _ _ _ _ _ _ _ _ _ _ _ _ _ _ w2 hp.nx (by show cs.1 + 2 + 0 ≤ _; omega) (by show cs.2 + 12 + 0 ≤ _; omega)
theorem cs_L_member : CStH RL 229 mL_member 4 := ⟨ml_L_229, (tgI 917 (by decide +kernel) rfl), (tgI 98 (by decide +kernel) rfl), (tgI 918 (by decide +kernel) rfl), ok_L_member⟩
set_option maxRecDepth 100000 in
set_option maxHeartbeats 4000000 in
theorem law_7 {l9 : Launch} {G : GC} {Fi : CX → State → Prop} {h : AH} {r s : Row} {L : List Row} {sv : Bool} {b : Nat → Int32} {n j : Nat} {o : Ob} {er eo : Int32} {l6 l7 l8 : Option Value} {cs : Nat × Nat} (hG : GOK G) (hj : 6 * j + 6 ≤ gL G) (hL3 : gL G ≤ 3072) (w : StL h r L r L s sv b n o er eo) (hp : LvP r L s sv b n (300 * j)) (hc1 : cs.1 ≤ 800 + 60 * j) (hc2 : cs.2 ≤ 40000 + 400 * j) (kk : LNx l9 G Fi j) : PW l9 G mL_law room_1 Fi NT 577 [some (.ref 0), some (.ref 1), some (.ref 723), some (.ref 737), some (.ref 738), some (.int (nI (6 * j))), l6, l7, l8] [] cs h := by
  have hb9 : 300 * j + 300 < 2 ^ 23 := by omega
  refine r_aload_n dL_law_577 rfl ?_
  refine r_aload_n dL_law_578 rfl ?_
  refine r_iload dL_law_579 rfl ?_
  refine r_iconst (1) dL_law_581 (by decide) ?_
  refine r_iadd dL_law_582 ?_
  refine r_sld (k := 6 * j + 1) (nadd rfl kn_1) (by omega) hL3 dL_law_583 ?_
  refine r_aload_n dL_law_584 rfl ?_
  refine r_iload dL_law_585 rfl ?_
  refine r_iconst (2) dL_law_587 (by decide) ?_
  refine r_iadd dL_law_588 ?_
  refine r_sld (k := 6 * j + 2) (nadd rfl kn_2) (by omega) hL3 dL_law_589 ?_
  refine r_aload_n dL_law_590 rfl ?_
  refine r_callSH4 cs_L_member (rmL rfl (by show cs.1 + 2 ≤ _; omega) (by show cs.2 + 12 ≤ _; omega)) (Nat.le_of_ble_eq_true rfl) dL_law_591 (c_L_member hG w.1 cd2_le (c_X8_member (hW := w.1) (hs := w.2.1.1) (hO := hp.1.1)) (fun _ e9 => by rw [e9]; exact w.1)) (fun v1 h1 q1 => ?_)
  obtain ⟨rfl, q2, q3⟩ := q1
  by_cases hz : cd2 (rgB 0 4 (gX G (6 * j + 2))) (mbP r (gX G (6 * j + 1))).isSome = 0
  · obtain ⟨h3, q4, rfl⟩ := q3 hz
    obtain rfl := q4
    have hp2 := hp.nx
    have w1 := st_out (v := ((mbAo r (gX G (6 * j + 1)) (gX G (6 * j + 2)))).toInt64) w hp
    have ho2 : ∀ {H : AH}, aJ (sI (sJ H 737 0 (((mbAo r (gX G (6 * j + 1)) (gX G (6 * j + 2)))).toInt64)) 723 12 (nI (cd2 (rgB 0 4 (gX G (6 * j + 2))) (mbP r (gX G (6 * j + 1))).isSome))) 737 0 = ((mbAo r (gX G (6 * j + 1)) (gX G (6 * j + 2)))).toInt64 := sJ_at0
    refine r_istore (ls2 := [some (.ref 0), some (.ref 1), some (.ref 723), some (.ref 737), some (.ref 738), some (.int (nI (6 * j))), some _, _, _]) dL_law_594 (by decide) rfl ?_
    refine r_aload_n dL_law_596 rfl ?_
    refine r_aload_n dL_law_597 rfl ?_
    refine r_iload dL_law_598 rfl ?_
    refine r_iconst (1) dL_law_600 (by decide) ?_
    refine r_iadd dL_law_601 ?_
    refine r_sld (k := 6 * j + 1) (nadd rfl kn_1) (by omega) hL3 dL_law_602 ?_
    refine r_aload_n dL_law_603 rfl ?_
    refine r_iload dL_law_604 rfl ?_
    refine r_iconst (2) dL_law_606 (by decide) ?_
    refine r_iadd dL_law_607 ?_
    refine r_sld (k := 6 * j + 2) (nadd rfl kn_2) (by omega) hL3 dL_law_608 ?_
    refine q_callT2 (cv_X9_member ml_L_231) w1.1 kc_723 (by decide) rfl (rmL rfl (by show cs.1 + 2 + 0 ≤ _; omega) (by show cs.2 + 12 + 0 ≤ _; omega)) (Nat.le_of_ble_eq_true rfl) dL_law_609 (c_X9_member (hW := w1.1) (hm := w1.2.2.1) (hO := hp.1.1) (hm28 := (by omega))) (fun v2 h2 ty2 p2 => ?_)
    obtain rfl := p2.2 hz
    have w2 := st_rq w1 hp p2.1
    have ht := p2.1.2.1
    have ho2 : aJ h2 737 0 = ((mbAo r (gX G (6 * j + 1)) (gX G (6 * j + 2)))).toInt64 := (congrFun (p2.1.1.J (show ¬ (737 = 723) by decide)) 0).trans sJ_at0
    refine r_istore (ls2 := [some (.ref 0), some (.ref 1), some (.ref 723), some (.ref 737), some (.ref 738), some (.int (nI (6 * j))), _, some _, _]) dL_law_612 (by decide) rfl ?_
    refine r_aload_n dL_law_614 rfl ?_
    refine q_callT0 (cv_X9_thrown ml_L_222) w2.1 kc_723 (by decide) rfl (rmL rfl (by show cs.1 + 2 + 0 + 0 ≤ _; omega) (by show cs.2 + 12 + 0 + 0 ≤ _; omega)) (Nat.le_of_ble_eq_true rfl) dL_law_615 (c_X9_thrown w2.1) (fun v5 h5 _ q5 => ?_)
    obtain ⟨rfl, rfl⟩ := q5
    refine r_iload dL_law_618 rfl ?_
    refine r_icmp_eq 625 dL_law_620 (by decide) (fun _ => ?_) (fun c9 => absurd ht c9)
    refine r_iload dL_law_625 rfl ?_
    refine r_if_ne 642 dL_law_627 (by decide) (fun c9 => absurd (by rw [hz]; rfl) c9) (fun _ => ?_)
    refine r_aload_n dL_law_630 rfl ?_
    refine r_iconst (0) dL_law_631 (by decide) ?_
    refine q_lald (k := 0) w2.1 kc_737 kn_0 (by decide) (by decide) dL_law_632 ?_
    rw [ho2]
    refine r_iload dL_law_633 rfl ?_
    refine r_i2l dL_law_635 ?_
    refine r_lcmp dL_law_636 ?_
    refine r_if_eq 642 dL_law_637 (by decide) (fun _ => ?_) (fun c9 => absurd lg_cmp_s c9)
    refine r_goto 4127 dL_law_642 (by decide) ?_
    exact kk _ _ _ _ _ _ _ _ _ _ _ _ _ _ w2 hp2 (by show cs.1 + 2 + 0 ≤ _; omega) (by show cs.2 + 12 + 0 ≤ _; omega)
  · obtain rfl := q2 hz
    have w1 := w
    refine r_istore (ls2 := [some (.ref 0), some (.ref 1), some (.ref 723), some (.ref 737), some (.ref 738), some (.int (nI (6 * j))), some _, _, _]) dL_law_594 (by decide) rfl ?_
    refine r_aload_n dL_law_596 rfl ?_
    refine r_aload_n dL_law_597 rfl ?_
    refine r_iload dL_law_598 rfl ?_
    refine r_iconst (1) dL_law_600 (by decide) ?_
    refine r_iadd dL_law_601 ?_
    refine r_sld (k := 6 * j + 1) (nadd rfl kn_1) (by omega) hL3 dL_law_602 ?_
    refine r_aload_n dL_law_603 rfl ?_
    refine r_iload dL_law_604 rfl ?_
    refine r_iconst (2) dL_law_606 (by decide) ?_
    refine r_iadd dL_law_607 ?_
    refine r_sld (k := 6 * j + 2) (nadd rfl kn_2) (by omega) hL3 dL_law_608 ?_
    refine q_callT2 (cv_X9_member ml_L_231) w1.1 kc_723 (by decide) rfl (rmL rfl (by show cs.1 + 2 + 0 ≤ _; omega) (by show cs.2 + 12 + 0 ≤ _; omega)) (Nat.le_of_ble_eq_true rfl) dL_law_609 (c_X9_member (hW := w1.1) (hm := w1.2.2.1) (hO := hp.1.1) (hm28 := (by omega))) (fun v2 h2 ty2 p2 => ?_)
    obtain ⟨y2, rfl⟩ : ∃ x, v2 = some (.int x) := ty2
    have w2 := st_rq w1 hp p2.1
    have ht := p2.1.2.1
    refine r_istore (ls2 := [some (.ref 0), some (.ref 1), some (.ref 723), some (.ref 737), some (.ref 738), some (.int (nI (6 * j))), _, some _, _]) dL_law_612 (by decide) rfl ?_
    refine r_aload_n dL_law_614 rfl ?_
    refine q_callT0 (cv_X9_thrown ml_L_222) w2.1 kc_723 (by decide) rfl (rmL rfl (by show cs.1 + 2 + 0 + 0 ≤ _; omega) (by show cs.2 + 12 + 0 + 0 ≤ _; omega)) (Nat.le_of_ble_eq_true rfl) dL_law_615 (c_X9_thrown w2.1) (fun v5 h5 _ q5 => ?_)
    obtain ⟨rfl, rfl⟩ := q5
    refine r_iload dL_law_618 rfl ?_
    refine r_icmp_eq 625 dL_law_620 (by decide) (fun _ => ?_) (fun c9 => absurd ht c9)
    refine r_iload dL_law_625 rfl ?_
    refine r_if_ne 642 dL_law_627 (by decide) (fun _ => ?_) (fun c9 => absurd c9 (nI_nz hz (by have := (show cd2 (rgB 0 4 (gX G (6 * j + 2))) (mbP r (gX G (6 * j + 1))).isSome ≤ 4 from Nat.le_trans cd2_le (by decide)); omega)))
    refine r_goto 4127 dL_law_642 (by decide) ?_
    exact kk _ _ _ _ _ _ _ _ _ _ _ _ _ _ w2 hp.nx (by show cs.1 + 2 + 0 ≤ _; omega) (by show cs.2 + 12 + 0 ≤ _; omega)
theorem cs_L_memberAt : CStH RL 232 mL_memberAt 4 := ⟨ml_L_232, (tgI 954 (by decide +kernel) rfl), (tgI 98 (by decide +kernel) rfl), (tgI 955 (by decide +kernel) rfl), ok_L_memberAt⟩
set_option maxRecDepth 100000 in
set_option maxHeartbeats 4000000 in
theorem law_8 {l9 : Launch} {G : GC} {Fi : CX → State → Prop} {h : AH} {r s : Row} {L : List Row} {sv : Bool} {b : Nat → Int32} {n j : Nat} {o : Ob} {er eo : Int32} {l6 l7 l8 : Option Value} {cs : Nat × Nat} (hG : GOK G) (hj : 6 * j + 6 ≤ gL G) (hL3 : gL G ≤ 3072) (w : StL h r L r L s sv b n o er eo) (hp : LvP r L s sv b n (300 * j)) (hc1 : cs.1 ≤ 800 + 60 * j) (hc2 : cs.2 ≤ 40000 + 400 * j) (kk : LNx l9 G Fi j) : PW l9 G mL_law room_1 Fi NT 645 [some (.ref 0), some (.ref 1), some (.ref 723), some (.ref 737), some (.ref 738), some (.int (nI (6 * j))), l6, l7, l8] [] cs h := by
  have hb9 : 300 * j + 300 < 2 ^ 23 := by omega
  refine r_aload_n dL_law_645 rfl ?_
  refine r_aload_n dL_law_646 rfl ?_
  refine r_iload dL_law_647 rfl ?_
  refine r_iconst (1) dL_law_649 (by decide) ?_
  refine r_iadd dL_law_650 ?_
  refine r_sld (k := 6 * j + 1) (nadd rfl kn_1) (by omega) hL3 dL_law_651 ?_
  refine r_aload_n dL_law_652 rfl ?_
  refine r_iload dL_law_653 rfl ?_
  refine r_iconst (2) dL_law_655 (by decide) ?_
  refine r_iadd dL_law_656 ?_
  refine r_sld (k := 6 * j + 2) (nadd rfl kn_2) (by omega) hL3 dL_law_657 ?_
  refine r_aload_n dL_law_658 rfl ?_
  refine r_callSH4 cs_L_memberAt (rmL rfl (by show cs.1 + 2 ≤ _; omega) (by show cs.2 + 12 ≤ _; omega)) (Nat.le_of_ble_eq_true rfl) dL_law_659 (c_L_memberAt hG w.1 cd2_le (c_X8_memberAt (hW := w.1) (hs := w.2.1.1) (hO := hp.1.1)) (fun _ e9 => by rw [e9]; exact w.1)) (fun v1 h1 q1 => ?_)
  obtain ⟨rfl, q2, q3⟩ := q1
  by_cases hz : cd2 (okP r (gX G (6 * j + 1))) (ltB (fP r (gX G (6 * j + 1)) 23) (gX G (6 * j + 2))) = 0
  · obtain ⟨h3, q4, rfl⟩ := q3 hz
    obtain rfl := q4
    have hp2 := hp.nx
    have w1 := st_out (v := ((fP r (gX G (6 * j + 1)) (100 + 4 * nn (gX G (6 * j + 2))))).toInt64) w hp
    have ho2 : ∀ {H : AH}, aJ (sI (sJ H 737 0 (((fP r (gX G (6 * j + 1)) (100 + 4 * nn (gX G (6 * j + 2))))).toInt64)) 723 12 (nI (cd2 (okP r (gX G (6 * j + 1))) (ltB (fP r (gX G (6 * j + 1)) 23) (gX G (6 * j + 2)))))) 737 0 = ((fP r (gX G (6 * j + 1)) (100 + 4 * nn (gX G (6 * j + 2))))).toInt64 := sJ_at0
    refine r_istore (ls2 := [some (.ref 0), some (.ref 1), some (.ref 723), some (.ref 737), some (.ref 738), some (.int (nI (6 * j))), some _, _, _]) dL_law_662 (by decide) rfl ?_
    refine r_aload_n dL_law_664 rfl ?_
    refine r_aload_n dL_law_665 rfl ?_
    refine r_iload dL_law_666 rfl ?_
    refine r_iconst (1) dL_law_668 (by decide) ?_
    refine r_iadd dL_law_669 ?_
    refine r_sld (k := 6 * j + 1) (nadd rfl kn_1) (by omega) hL3 dL_law_670 ?_
    refine r_aload_n dL_law_671 rfl ?_
    refine r_iload dL_law_672 rfl ?_
    refine r_iconst (2) dL_law_674 (by decide) ?_
    refine r_iadd dL_law_675 ?_
    refine r_sld (k := 6 * j + 2) (nadd rfl kn_2) (by omega) hL3 dL_law_676 ?_
    refine q_callT2 (cv_X9_memberAt ml_L_234) w1.1 kc_723 (by decide) rfl (rmL rfl (by show cs.1 + 2 + 0 ≤ _; omega) (by show cs.2 + 12 + 0 ≤ _; omega)) (Nat.le_of_ble_eq_true rfl) dL_law_677 (c_X9_memberAt (hW := w1.1) (hm := w1.2.2.1) (hO := hp.1.1) (hm28 := (by omega))) (fun v2 h2 ty2 p2 => ?_)
    obtain ⟨rfl, p3⟩ := p2
    obtain rfl := p3 hz
    have w2 := st_si (c := cd2 (okP r (gX G (6 * j + 1))) (ltB (fP r (gX G (6 * j + 1)) 23) (gX G (6 * j + 2)))) w1 hp
    have ht : ∀ {H : AH}, aI (sI H 723 12 (nI (cd2 (okP r (gX G (6 * j + 1))) (ltB (fP r (gX G (6 * j + 1)) 23) (gX G (6 * j + 2)))))) 723 12 = nI (cd2 (okP r (gX G (6 * j + 1))) (ltB (fP r (gX G (6 * j + 1)) 23) (gX G (6 * j + 2)))) := sI_s
    refine r_istore (ls2 := [some (.ref 0), some (.ref 1), some (.ref 723), some (.ref 737), some (.ref 738), some (.int (nI (6 * j))), _, some _, _]) dL_law_680 (by decide) rfl ?_
    refine r_aload_n dL_law_682 rfl ?_
    refine q_callT0 (cv_X9_thrown ml_L_222) w2.1 kc_723 (by decide) rfl (rmL rfl (by show cs.1 + 2 + 0 + 0 ≤ _; omega) (by show cs.2 + 12 + 0 + 0 ≤ _; omega)) (Nat.le_of_ble_eq_true rfl) dL_law_683 (c_X9_thrown w2.1) (fun v5 h5 _ q5 => ?_)
    obtain ⟨rfl, rfl⟩ := q5
    refine r_iload dL_law_686 rfl ?_
    refine r_icmp_eq 693 dL_law_688 (by decide) (fun _ => ?_) (fun c9 => absurd ht c9)
    refine r_iload dL_law_693 rfl ?_
    refine r_if_ne 710 dL_law_695 (by decide) (fun c9 => absurd (by rw [hz]; rfl) c9) (fun _ => ?_)
    refine r_aload_n dL_law_698 rfl ?_
    refine r_iconst (0) dL_law_699 (by decide) ?_
    refine q_lald (k := 0) w2.1 kc_737 kn_0 (by decide) (by decide) dL_law_700 ?_
    rw [ho2]
    refine r_iload dL_law_701 rfl ?_
    refine r_i2l dL_law_703 ?_
    refine r_lcmp dL_law_704 ?_
    refine r_if_eq 710 dL_law_705 (by decide) (fun _ => ?_) (fun c9 => absurd lg_cmp_s c9)
    refine r_goto 4127 dL_law_710 (by decide) ?_
    exact kk _ _ _ _ _ _ _ _ _ _ _ _ _ _ w2 hp2 (by show cs.1 + 2 + 0 ≤ _; omega) (by show cs.2 + 12 + 0 ≤ _; omega)
  · obtain rfl := q2 hz
    have w1 := w
    refine r_istore (ls2 := [some (.ref 0), some (.ref 1), some (.ref 723), some (.ref 737), some (.ref 738), some (.int (nI (6 * j))), some _, _, _]) dL_law_662 (by decide) rfl ?_
    refine r_aload_n dL_law_664 rfl ?_
    refine r_aload_n dL_law_665 rfl ?_
    refine r_iload dL_law_666 rfl ?_
    refine r_iconst (1) dL_law_668 (by decide) ?_
    refine r_iadd dL_law_669 ?_
    refine r_sld (k := 6 * j + 1) (nadd rfl kn_1) (by omega) hL3 dL_law_670 ?_
    refine r_aload_n dL_law_671 rfl ?_
    refine r_iload dL_law_672 rfl ?_
    refine r_iconst (2) dL_law_674 (by decide) ?_
    refine r_iadd dL_law_675 ?_
    refine r_sld (k := 6 * j + 2) (nadd rfl kn_2) (by omega) hL3 dL_law_676 ?_
    refine q_callT2 (cv_X9_memberAt ml_L_234) w1.1 kc_723 (by decide) rfl (rmL rfl (by show cs.1 + 2 + 0 ≤ _; omega) (by show cs.2 + 12 + 0 ≤ _; omega)) (Nat.le_of_ble_eq_true rfl) dL_law_677 (c_X9_memberAt (hW := w1.1) (hm := w1.2.2.1) (hO := hp.1.1) (hm28 := (by omega))) (fun v2 h2 ty2 p2 => ?_)
    obtain ⟨y2, rfl⟩ : ∃ x, v2 = some (.int x) := ty2
    obtain ⟨rfl, -⟩ := p2
    have w2 := st_si (c := cd2 (okP r (gX G (6 * j + 1))) (ltB (fP r (gX G (6 * j + 1)) 23) (gX G (6 * j + 2)))) w1 hp
    have ht : ∀ {H : AH}, aI (sI H 723 12 (nI (cd2 (okP r (gX G (6 * j + 1))) (ltB (fP r (gX G (6 * j + 1)) 23) (gX G (6 * j + 2)))))) 723 12 = nI (cd2 (okP r (gX G (6 * j + 1))) (ltB (fP r (gX G (6 * j + 1)) 23) (gX G (6 * j + 2)))) := sI_s
    refine r_istore (ls2 := [some (.ref 0), some (.ref 1), some (.ref 723), some (.ref 737), some (.ref 738), some (.int (nI (6 * j))), _, some _, _]) dL_law_680 (by decide) rfl ?_
    refine r_aload_n dL_law_682 rfl ?_
    refine q_callT0 (cv_X9_thrown ml_L_222) w2.1 kc_723 (by decide) rfl (rmL rfl (by show cs.1 + 2 + 0 + 0 ≤ _; omega) (by show cs.2 + 12 + 0 + 0 ≤ _; omega)) (Nat.le_of_ble_eq_true rfl) dL_law_683 (c_X9_thrown w2.1) (fun v5 h5 _ q5 => ?_)
    obtain ⟨rfl, rfl⟩ := q5
    refine r_iload dL_law_686 rfl ?_
    refine r_icmp_eq 693 dL_law_688 (by decide) (fun _ => ?_) (fun c9 => absurd ht c9)
    refine r_iload dL_law_693 rfl ?_
    refine r_if_ne 710 dL_law_695 (by decide) (fun _ => ?_) (fun c9 => absurd c9 (nI_nz hz (by have := (show cd2 (okP r (gX G (6 * j + 1))) (ltB (fP r (gX G (6 * j + 1)) 23) (gX G (6 * j + 2))) ≤ 4 from Nat.le_trans cd2_le (by decide)); omega)))
    refine r_goto 4127 dL_law_710 (by decide) ?_
    exact kk _ _ _ _ _ _ _ _ _ _ _ _ _ _ w2 hp.nx (by show cs.1 + 2 + 0 ≤ _; omega) (by show cs.2 + 12 + 0 ≤ _; omega)
theorem cs_L_demand : CStH RL 235 mL_demand 4 := ⟨ml_L_235, (tgI 962 (by decide +kernel) rfl), (tgI 98 (by decide +kernel) rfl), (tgI 963 (by decide +kernel) rfl), ok_L_demand⟩
set_option maxRecDepth 100000 in
set_option maxHeartbeats 4000000 in
theorem law_9 {l9 : Launch} {G : GC} {Fi : CX → State → Prop} {h : AH} {r s : Row} {L : List Row} {sv : Bool} {b : Nat → Int32} {n j : Nat} {o : Ob} {er eo : Int32} {l6 l7 l8 : Option Value} {cs : Nat × Nat} (hG : GOK G) (hj : 6 * j + 6 ≤ gL G) (hL3 : gL G ≤ 3072) (w : StL h r L r L s sv b n o er eo) (hp : LvP r L s sv b n (300 * j)) (hc1 : cs.1 ≤ 800 + 60 * j) (hc2 : cs.2 ≤ 40000 + 400 * j) (kk : LNx l9 G Fi j) : PW l9 G mL_law room_1 Fi NT 713 [some (.ref 0), some (.ref 1), some (.ref 723), some (.ref 737), some (.ref 738), some (.int (nI (6 * j))), l6, l7, l8] [] cs h := by
  have hb9 : 300 * j + 300 < 2 ^ 23 := by omega
  refine r_aload_n dL_law_713 rfl ?_
  refine r_aload_n dL_law_714 rfl ?_
  refine r_iload dL_law_715 rfl ?_
  refine r_iconst (1) dL_law_717 (by decide) ?_
  refine r_iadd dL_law_718 ?_
  refine r_sld (k := 6 * j + 1) (nadd rfl kn_1) (by omega) hL3 dL_law_719 ?_
  refine r_aload_n dL_law_720 rfl ?_
  refine r_iload dL_law_721 rfl ?_
  refine r_iconst (2) dL_law_723 (by decide) ?_
  refine r_iadd dL_law_724 ?_
  refine r_sld (k := 6 * j + 2) (nadd rfl kn_2) (by omega) hL3 dL_law_725 ?_
  refine r_aload_n dL_law_726 rfl ?_
  refine r_callSH4 cs_L_demand (rmL rfl (by show cs.1 + 2 ≤ _; omega) (by show cs.2 + 12 ≤ _; omega)) (Nat.le_of_ble_eq_true rfl) dL_law_727 (c_L_demand hG w.1 cd2_le (c_X8_demand (hW := w.1) (hs := w.2.1.1) (hO := hp.1.1)) (fun _ e9 => by rw [e9]; exact w.1)) (fun v1 h1 q1 => ?_)
  obtain ⟨rfl, q2, q3⟩ := q1
  by_cases hz : cd2 (okP r (gX G (6 * j + 1))) (ltB (kpD r) (gX G (6 * j + 2))) = 0
  · obtain ⟨h3, q4, rfl⟩ := q3 hz
    obtain rfl := q4
    have hp2 := hp.nx
    have w1 := st_out (v := ((bk (fP r (gX G (6 * j + 1))) (tP r) (nn (gX G (6 * j + 2))))).toInt64) w hp
    have ho2 : ∀ {H : AH}, aJ (sI (sJ H 737 0 (((bk (fP r (gX G (6 * j + 1))) (tP r) (nn (gX G (6 * j + 2))))).toInt64)) 723 12 (nI (cd2 (okP r (gX G (6 * j + 1))) (ltB (kpD r) (gX G (6 * j + 2)))))) 737 0 = ((bk (fP r (gX G (6 * j + 1))) (tP r) (nn (gX G (6 * j + 2))))).toInt64 := sJ_at0
    refine r_istore (ls2 := [some (.ref 0), some (.ref 1), some (.ref 723), some (.ref 737), some (.ref 738), some (.int (nI (6 * j))), some _, _, _]) dL_law_730 (by decide) rfl ?_
    refine r_aload_n dL_law_732 rfl ?_
    refine r_aload_n dL_law_733 rfl ?_
    refine r_iload dL_law_734 rfl ?_
    refine r_iconst (1) dL_law_736 (by decide) ?_
    refine r_iadd dL_law_737 ?_
    refine r_sld (k := 6 * j + 1) (nadd rfl kn_1) (by omega) hL3 dL_law_738 ?_
    refine r_aload_n dL_law_739 rfl ?_
    refine r_iload dL_law_740 rfl ?_
    refine r_iconst (2) dL_law_742 (by decide) ?_
    refine r_iadd dL_law_743 ?_
    refine r_sld (k := 6 * j + 2) (nadd rfl kn_2) (by omega) hL3 dL_law_744 ?_
    refine q_callT2 (cv_X9_demand ml_L_237) w1.1 kc_723 (by decide) rfl (rmL rfl (by show cs.1 + 2 + 0 ≤ _; omega) (by show cs.2 + 12 + 0 ≤ _; omega)) (Nat.le_of_ble_eq_true rfl) dL_law_745 (c_X9_demand (hW := w1.1) (hm := w1.2.2.1) (hO := hp.1.1) (hm28 := (by omega))) (fun v2 h2 ty2 p2 => ?_)
    obtain ⟨rfl, p3⟩ := p2
    obtain rfl := p3 hz
    have w2 := st_si (c := cd2 (okP r (gX G (6 * j + 1))) (ltB (kpD r) (gX G (6 * j + 2)))) w1 hp
    have ht : ∀ {H : AH}, aI (sI H 723 12 (nI (cd2 (okP r (gX G (6 * j + 1))) (ltB (kpD r) (gX G (6 * j + 2)))))) 723 12 = nI (cd2 (okP r (gX G (6 * j + 1))) (ltB (kpD r) (gX G (6 * j + 2)))) := sI_s
    refine r_istore (ls2 := [some (.ref 0), some (.ref 1), some (.ref 723), some (.ref 737), some (.ref 738), some (.int (nI (6 * j))), _, some _, _]) dL_law_748 (by decide) rfl ?_
    refine r_aload_n dL_law_750 rfl ?_
    refine q_callT0 (cv_X9_thrown ml_L_222) w2.1 kc_723 (by decide) rfl (rmL rfl (by show cs.1 + 2 + 0 + 0 ≤ _; omega) (by show cs.2 + 12 + 0 + 0 ≤ _; omega)) (Nat.le_of_ble_eq_true rfl) dL_law_751 (c_X9_thrown w2.1) (fun v5 h5 _ q5 => ?_)
    obtain ⟨rfl, rfl⟩ := q5
    refine r_iload dL_law_754 rfl ?_
    refine r_icmp_eq 761 dL_law_756 (by decide) (fun _ => ?_) (fun c9 => absurd ht c9)
    refine r_iload dL_law_761 rfl ?_
    refine r_if_ne 778 dL_law_763 (by decide) (fun c9 => absurd (by rw [hz]; rfl) c9) (fun _ => ?_)
    refine r_aload_n dL_law_766 rfl ?_
    refine r_iconst (0) dL_law_767 (by decide) ?_
    refine q_lald (k := 0) w2.1 kc_737 kn_0 (by decide) (by decide) dL_law_768 ?_
    rw [ho2]
    refine r_iload dL_law_769 rfl ?_
    refine r_i2l dL_law_771 ?_
    refine r_lcmp dL_law_772 ?_
    refine r_if_eq 778 dL_law_773 (by decide) (fun _ => ?_) (fun c9 => absurd lg_cmp_s c9)
    refine r_goto 4127 dL_law_778 (by decide) ?_
    exact kk _ _ _ _ _ _ _ _ _ _ _ _ _ _ w2 hp2 (by show cs.1 + 2 + 0 ≤ _; omega) (by show cs.2 + 12 + 0 ≤ _; omega)
  · obtain rfl := q2 hz
    have w1 := w
    refine r_istore (ls2 := [some (.ref 0), some (.ref 1), some (.ref 723), some (.ref 737), some (.ref 738), some (.int (nI (6 * j))), some _, _, _]) dL_law_730 (by decide) rfl ?_
    refine r_aload_n dL_law_732 rfl ?_
    refine r_aload_n dL_law_733 rfl ?_
    refine r_iload dL_law_734 rfl ?_
    refine r_iconst (1) dL_law_736 (by decide) ?_
    refine r_iadd dL_law_737 ?_
    refine r_sld (k := 6 * j + 1) (nadd rfl kn_1) (by omega) hL3 dL_law_738 ?_
    refine r_aload_n dL_law_739 rfl ?_
    refine r_iload dL_law_740 rfl ?_
    refine r_iconst (2) dL_law_742 (by decide) ?_
    refine r_iadd dL_law_743 ?_
    refine r_sld (k := 6 * j + 2) (nadd rfl kn_2) (by omega) hL3 dL_law_744 ?_
    refine q_callT2 (cv_X9_demand ml_L_237) w1.1 kc_723 (by decide) rfl (rmL rfl (by show cs.1 + 2 + 0 ≤ _; omega) (by show cs.2 + 12 + 0 ≤ _; omega)) (Nat.le_of_ble_eq_true rfl) dL_law_745 (c_X9_demand (hW := w1.1) (hm := w1.2.2.1) (hO := hp.1.1) (hm28 := (by omega))) (fun v2 h2 ty2 p2 => ?_)
    obtain ⟨y2, rfl⟩ : ∃ x, v2 = some (.int x) := ty2
    obtain ⟨rfl, -⟩ := p2
    have w2 := st_si (c := cd2 (okP r (gX G (6 * j + 1))) (ltB (kpD r) (gX G (6 * j + 2)))) w1 hp
    have ht : ∀ {H : AH}, aI (sI H 723 12 (nI (cd2 (okP r (gX G (6 * j + 1))) (ltB (kpD r) (gX G (6 * j + 2)))))) 723 12 = nI (cd2 (okP r (gX G (6 * j + 1))) (ltB (kpD r) (gX G (6 * j + 2)))) := sI_s
    refine r_istore (ls2 := [some (.ref 0), some (.ref 1), some (.ref 723), some (.ref 737), some (.ref 738), some (.int (nI (6 * j))), _, some _, _]) dL_law_748 (by decide) rfl ?_
    refine r_aload_n dL_law_750 rfl ?_
    refine q_callT0 (cv_X9_thrown ml_L_222) w2.1 kc_723 (by decide) rfl (rmL rfl (by show cs.1 + 2 + 0 + 0 ≤ _; omega) (by show cs.2 + 12 + 0 + 0 ≤ _; omega)) (Nat.le_of_ble_eq_true rfl) dL_law_751 (c_X9_thrown w2.1) (fun v5 h5 _ q5 => ?_)
    obtain ⟨rfl, rfl⟩ := q5
    refine r_iload dL_law_754 rfl ?_
    refine r_icmp_eq 761 dL_law_756 (by decide) (fun _ => ?_) (fun c9 => absurd ht c9)
    refine r_iload dL_law_761 rfl ?_
    refine r_if_ne 778 dL_law_763 (by decide) (fun _ => ?_) (fun c9 => absurd c9 (nI_nz hz (by have := (show cd2 (okP r (gX G (6 * j + 1))) (ltB (kpD r) (gX G (6 * j + 2))) ≤ 4 from Nat.le_trans cd2_le (by decide)); omega)))
    refine r_goto 4127 dL_law_778 (by decide) ?_
    exact kk _ _ _ _ _ _ _ _ _ _ _ _ _ _ w2 hp.nx (by show cs.1 + 2 + 0 ≤ _; omega) (by show cs.2 + 12 + 0 ≤ _; omega)
theorem cs_L_planned : CStH RL 238 mL_planned 4 := ⟨ml_L_238, (tgI 975 (by decide +kernel) rfl), (tgI 98 (by decide +kernel) rfl), (tgI 976 (by decide +kernel) rfl), ok_L_planned⟩
set_option maxRecDepth 100000 in
set_option maxHeartbeats 4000000 in
theorem law_10 {l9 : Launch} {G : GC} {Fi : CX → State → Prop} {h : AH} {r s : Row} {L : List Row} {sv : Bool} {b : Nat → Int32} {n j : Nat} {o : Ob} {er eo : Int32} {l6 l7 l8 : Option Value} {cs : Nat × Nat} (hG : GOK G) (hj : 6 * j + 6 ≤ gL G) (hL3 : gL G ≤ 3072) (w : StL h r L r L s sv b n o er eo) (hp : LvP r L s sv b n (300 * j)) (hc1 : cs.1 ≤ 800 + 60 * j) (hc2 : cs.2 ≤ 40000 + 400 * j) (kk : LNx l9 G Fi j) : PW l9 G mL_law room_1 Fi NT 781 [some (.ref 0), some (.ref 1), some (.ref 723), some (.ref 737), some (.ref 738), some (.int (nI (6 * j))), l6, l7, l8] [] cs h := by
  have hb9 : 300 * j + 300 < 2 ^ 23 := by omega
  refine r_aload_n dL_law_781 rfl ?_
  refine r_aload_n dL_law_782 rfl ?_
  refine r_iload dL_law_783 rfl ?_
  refine r_iconst (1) dL_law_785 (by decide) ?_
  refine r_iadd dL_law_786 ?_
  refine r_sld (k := 6 * j + 1) (nadd rfl kn_1) (by omega) hL3 dL_law_787 ?_
  refine r_aload_n dL_law_788 rfl ?_
  refine r_iload dL_law_789 rfl ?_
  refine r_iconst (2) dL_law_791 (by decide) ?_
  refine r_iadd dL_law_792 ?_
  refine r_sld (k := 6 * j + 2) (nadd rfl kn_2) (by omega) hL3 dL_law_793 ?_
  refine r_aload_n dL_law_794 rfl ?_
  refine r_callSH4 cs_L_planned (rmL rfl (by show cs.1 + 2 ≤ _; omega) (by show cs.2 + 12 ≤ _; omega)) (Nat.le_of_ble_eq_true rfl) dL_law_795 (c_L_planned hG w.1 cd2_le (c_X8_planned (hW := w.1) (hs := w.2.1.1) (hO := hp.1.1)) (fun _ e9 => by rw [e9]; exact w.1)) (fun v1 h1 q1 => ?_)
  obtain ⟨rfl, q2, q3⟩ := q1
  by_cases hz : cd2 (okP r (gX G (6 * j + 1))) (rgB 0 999 (gX G (6 * j + 2))) = 0
  · obtain ⟨h3, q4, rfl⟩ := q3 hz
    obtain rfl := q4
    have hp2 := hp.nx
    have w1 := st_out (v := ((dmA (fP r (gX G (6 * j + 1))) (tP r) (nn (gX G (6 * j + 2))))).toInt64) w hp
    have ho2 : ∀ {H : AH}, aJ (sI (sJ H 737 0 (((dmA (fP r (gX G (6 * j + 1))) (tP r) (nn (gX G (6 * j + 2))))).toInt64)) 723 12 (nI (cd2 (okP r (gX G (6 * j + 1))) (rgB 0 999 (gX G (6 * j + 2)))))) 737 0 = ((dmA (fP r (gX G (6 * j + 1))) (tP r) (nn (gX G (6 * j + 2))))).toInt64 := sJ_at0
    refine r_istore (ls2 := [some (.ref 0), some (.ref 1), some (.ref 723), some (.ref 737), some (.ref 738), some (.int (nI (6 * j))), some _, _, _]) dL_law_798 (by decide) rfl ?_
    refine r_aload_n dL_law_800 rfl ?_
    refine r_aload_n dL_law_801 rfl ?_
    refine r_iload dL_law_802 rfl ?_
    refine r_iconst (1) dL_law_804 (by decide) ?_
    refine r_iadd dL_law_805 ?_
    refine r_sld (k := 6 * j + 1) (nadd rfl kn_1) (by omega) hL3 dL_law_806 ?_
    refine r_aload_n dL_law_807 rfl ?_
    refine r_iload dL_law_808 rfl ?_
    refine r_iconst (2) dL_law_810 (by decide) ?_
    refine r_iadd dL_law_811 ?_
    refine r_sld (k := 6 * j + 2) (nadd rfl kn_2) (by omega) hL3 dL_law_812 ?_
    refine q_callT2 (cv_X9_planned ml_L_240) w1.1 kc_723 (by decide) rfl (rmL rfl (by show cs.1 + 2 + 0 ≤ _; omega) (by show cs.2 + 12 + 0 ≤ _; omega)) (Nat.le_of_ble_eq_true rfl) dL_law_813 (c_X9_planned (hW := w1.1) (hm := w1.2.2.1) (hO := hp.1.1) (hm28 := (by omega))) (fun v2 h2 ty2 p2 => ?_)
    obtain ⟨rfl, p3⟩ := p2
    obtain rfl := p3 hz
    have w2 := st_si (c := cd2 (okP r (gX G (6 * j + 1))) (rgB 0 999 (gX G (6 * j + 2)))) w1 hp
    have ht : ∀ {H : AH}, aI (sI H 723 12 (nI (cd2 (okP r (gX G (6 * j + 1))) (rgB 0 999 (gX G (6 * j + 2)))))) 723 12 = nI (cd2 (okP r (gX G (6 * j + 1))) (rgB 0 999 (gX G (6 * j + 2)))) := sI_s
    refine r_istore (ls2 := [some (.ref 0), some (.ref 1), some (.ref 723), some (.ref 737), some (.ref 738), some (.int (nI (6 * j))), _, some _, _]) dL_law_816 (by decide) rfl ?_
    refine r_aload_n dL_law_818 rfl ?_
    refine q_callT0 (cv_X9_thrown ml_L_222) w2.1 kc_723 (by decide) rfl (rmL rfl (by show cs.1 + 2 + 0 + 0 ≤ _; omega) (by show cs.2 + 12 + 0 + 0 ≤ _; omega)) (Nat.le_of_ble_eq_true rfl) dL_law_819 (c_X9_thrown w2.1) (fun v5 h5 _ q5 => ?_)
    obtain ⟨rfl, rfl⟩ := q5
    refine r_iload dL_law_822 rfl ?_
    refine r_icmp_eq 829 dL_law_824 (by decide) (fun _ => ?_) (fun c9 => absurd ht c9)
    refine r_iload dL_law_829 rfl ?_
    refine r_if_ne 846 dL_law_831 (by decide) (fun c9 => absurd (by rw [hz]; rfl) c9) (fun _ => ?_)
    refine r_aload_n dL_law_834 rfl ?_
    refine r_iconst (0) dL_law_835 (by decide) ?_
    refine q_lald (k := 0) w2.1 kc_737 kn_0 (by decide) (by decide) dL_law_836 ?_
    rw [ho2]
    refine r_iload dL_law_837 rfl ?_
    refine r_i2l dL_law_839 ?_
    refine r_lcmp dL_law_840 ?_
    refine r_if_eq 846 dL_law_841 (by decide) (fun _ => ?_) (fun c9 => absurd lg_cmp_s c9)
    refine r_goto 4127 dL_law_846 (by decide) ?_
    exact kk _ _ _ _ _ _ _ _ _ _ _ _ _ _ w2 hp2 (by show cs.1 + 2 + 0 ≤ _; omega) (by show cs.2 + 12 + 0 ≤ _; omega)
  · obtain rfl := q2 hz
    have w1 := w
    refine r_istore (ls2 := [some (.ref 0), some (.ref 1), some (.ref 723), some (.ref 737), some (.ref 738), some (.int (nI (6 * j))), some _, _, _]) dL_law_798 (by decide) rfl ?_
    refine r_aload_n dL_law_800 rfl ?_
    refine r_aload_n dL_law_801 rfl ?_
    refine r_iload dL_law_802 rfl ?_
    refine r_iconst (1) dL_law_804 (by decide) ?_
    refine r_iadd dL_law_805 ?_
    refine r_sld (k := 6 * j + 1) (nadd rfl kn_1) (by omega) hL3 dL_law_806 ?_
    refine r_aload_n dL_law_807 rfl ?_
    refine r_iload dL_law_808 rfl ?_
    refine r_iconst (2) dL_law_810 (by decide) ?_
    refine r_iadd dL_law_811 ?_
    refine r_sld (k := 6 * j + 2) (nadd rfl kn_2) (by omega) hL3 dL_law_812 ?_
    refine q_callT2 (cv_X9_planned ml_L_240) w1.1 kc_723 (by decide) rfl (rmL rfl (by show cs.1 + 2 + 0 ≤ _; omega) (by show cs.2 + 12 + 0 ≤ _; omega)) (Nat.le_of_ble_eq_true rfl) dL_law_813 (c_X9_planned (hW := w1.1) (hm := w1.2.2.1) (hO := hp.1.1) (hm28 := (by omega))) (fun v2 h2 ty2 p2 => ?_)
    obtain ⟨y2, rfl⟩ : ∃ x, v2 = some (.int x) := ty2
    obtain ⟨rfl, -⟩ := p2
    have w2 := st_si (c := cd2 (okP r (gX G (6 * j + 1))) (rgB 0 999 (gX G (6 * j + 2)))) w1 hp
    have ht : ∀ {H : AH}, aI (sI H 723 12 (nI (cd2 (okP r (gX G (6 * j + 1))) (rgB 0 999 (gX G (6 * j + 2)))))) 723 12 = nI (cd2 (okP r (gX G (6 * j + 1))) (rgB 0 999 (gX G (6 * j + 2)))) := sI_s
    refine r_istore (ls2 := [some (.ref 0), some (.ref 1), some (.ref 723), some (.ref 737), some (.ref 738), some (.int (nI (6 * j))), _, some _, _]) dL_law_816 (by decide) rfl ?_
    refine r_aload_n dL_law_818 rfl ?_
    refine q_callT0 (cv_X9_thrown ml_L_222) w2.1 kc_723 (by decide) rfl (rmL rfl (by show cs.1 + 2 + 0 + 0 ≤ _; omega) (by show cs.2 + 12 + 0 + 0 ≤ _; omega)) (Nat.le_of_ble_eq_true rfl) dL_law_819 (c_X9_thrown w2.1) (fun v5 h5 _ q5 => ?_)
    obtain ⟨rfl, rfl⟩ := q5
    refine r_iload dL_law_822 rfl ?_
    refine r_icmp_eq 829 dL_law_824 (by decide) (fun _ => ?_) (fun c9 => absurd ht c9)
    refine r_iload dL_law_829 rfl ?_
    refine r_if_ne 846 dL_law_831 (by decide) (fun _ => ?_) (fun c9 => absurd c9 (nI_nz hz (by have := (show cd2 (okP r (gX G (6 * j + 1))) (rgB 0 999 (gX G (6 * j + 2))) ≤ 4 from Nat.le_trans cd2_le (by decide)); omega)))
    refine r_goto 4127 dL_law_846 (by decide) ?_
    exact kk _ _ _ _ _ _ _ _ _ _ _ _ _ _ w2 hp.nx (by show cs.1 + 2 + 0 ≤ _; omega) (by show cs.2 + 12 + 0 ≤ _; omega)
theorem cs_L_measure : CStH RL 241 mL_measure 3 := ⟨ml_L_241, (tgI 993 (by decide +kernel) rfl), (tgI 98 (by decide +kernel) rfl), (tgI 994 (by decide +kernel) rfl), ok_L_measure⟩
set_option maxRecDepth 100000 in
set_option maxHeartbeats 4000000 in
theorem law_11 {l9 : Launch} {G : GC} {Fi : CX → State → Prop} {h : AH} {r s : Row} {L : List Row} {sv : Bool} {b : Nat → Int32} {n j : Nat} {o : Ob} {er eo : Int32} {l6 l7 l8 : Option Value} {cs : Nat × Nat} (hG : GOK G) (hj : 6 * j + 6 ≤ gL G) (hL3 : gL G ≤ 3072) (w : StL h r L r L s sv b n o er eo) (hp : LvP r L s sv b n (300 * j)) (hc1 : cs.1 ≤ 800 + 60 * j) (hc2 : cs.2 ≤ 40000 + 400 * j) (kk : LNx l9 G Fi j) : PW l9 G mL_law room_1 Fi NT 849 [some (.ref 0), some (.ref 1), some (.ref 723), some (.ref 737), some (.ref 738), some (.int (nI (6 * j))), l6, l7, l8] [] cs h := by
  have hb9 : 300 * j + 300 < 2 ^ 23 := by omega
  refine r_aload_n dL_law_849 rfl ?_
  refine r_aload_n dL_law_850 rfl ?_
  refine r_iload dL_law_851 rfl ?_
  refine r_iconst (1) dL_law_853 (by decide) ?_
  refine r_iadd dL_law_854 ?_
  refine r_sld (k := 6 * j + 1) (nadd rfl kn_1) (by omega) hL3 dL_law_855 ?_
  refine r_aload_n dL_law_856 rfl ?_
  refine r_callSH3 cs_L_measure (rmL rfl (by show cs.1 + 1 ≤ _; omega) (by show cs.2 + 6 ≤ _; omega)) (Nat.le_of_ble_eq_true rfl) dL_law_857 (c_L_measure hG w.1 cd1_le (c_X8_measure (hW := w.1) (hs := w.2.1.1) (hO := hp.1.1)) (fun _ e9 => by rw [e9]; exact w.1)) (fun v1 h1 q1 => ?_)
  obtain ⟨rfl, q2, q3⟩ := q1
  by_cases hz : cd1 (okP r (gX G (6 * j + 1))) = 0
  · obtain ⟨h3, q4, rfl⟩ := q3 hz
    obtain rfl := q4
    have hp2 := hp.nx
    have w1 := st_out (v := ((mzF (fP r (gX G (6 * j + 1))) (tP r) (r.1 1))).toInt64) w hp
    have ho2 : ∀ {H : AH}, aJ (sI (sJ H 737 0 (((mzF (fP r (gX G (6 * j + 1))) (tP r) (r.1 1))).toInt64)) 723 12 (nI (cd1 (okP r (gX G (6 * j + 1)))))) 737 0 = ((mzF (fP r (gX G (6 * j + 1))) (tP r) (r.1 1))).toInt64 := sJ_at0
    refine r_istore (ls2 := [some (.ref 0), some (.ref 1), some (.ref 723), some (.ref 737), some (.ref 738), some (.int (nI (6 * j))), some _, _, _]) dL_law_860 (by decide) rfl ?_
    refine r_aload_n dL_law_862 rfl ?_
    refine r_aload_n dL_law_863 rfl ?_
    refine r_iload dL_law_864 rfl ?_
    refine r_iconst (1) dL_law_866 (by decide) ?_
    refine r_iadd dL_law_867 ?_
    refine r_sld (k := 6 * j + 1) (nadd rfl kn_1) (by omega) hL3 dL_law_868 ?_
    refine q_callT1 (cv_X9_measure ml_L_243) w1.1 kc_723 (by decide) rfl (rmL rfl (by show cs.1 + 1 + 0 ≤ _; omega) (by show cs.2 + 6 + 0 ≤ _; omega)) (Nat.le_of_ble_eq_true rfl) dL_law_869 (c_X9_measure (hW := w1.1) (hm := w1.2.2.1) (hO := hp.1.1) (hm28 := (by omega))) (fun v2 h2 ty2 p2 => ?_)
    obtain ⟨rfl, p3⟩ := p2
    obtain rfl := p3 hz
    have w2 := st_si (c := cd1 (okP r (gX G (6 * j + 1)))) w1 hp
    have ht : ∀ {H : AH}, aI (sI H 723 12 (nI (cd1 (okP r (gX G (6 * j + 1)))))) 723 12 = nI (cd1 (okP r (gX G (6 * j + 1)))) := sI_s
    refine r_istore (ls2 := [some (.ref 0), some (.ref 1), some (.ref 723), some (.ref 737), some (.ref 738), some (.int (nI (6 * j))), _, some _, _]) dL_law_872 (by decide) rfl ?_
    refine r_aload_n dL_law_874 rfl ?_
    refine q_callT0 (cv_X9_thrown ml_L_222) w2.1 kc_723 (by decide) rfl (rmL rfl (by show cs.1 + 1 + 0 + 0 ≤ _; omega) (by show cs.2 + 6 + 0 + 0 ≤ _; omega)) (Nat.le_of_ble_eq_true rfl) dL_law_875 (c_X9_thrown w2.1) (fun v5 h5 _ q5 => ?_)
    obtain ⟨rfl, rfl⟩ := q5
    refine r_iload dL_law_878 rfl ?_
    refine r_icmp_eq 885 dL_law_880 (by decide) (fun _ => ?_) (fun c9 => absurd ht c9)
    refine r_iload dL_law_885 rfl ?_
    refine r_if_ne 902 dL_law_887 (by decide) (fun c9 => absurd (by rw [hz]; rfl) c9) (fun _ => ?_)
    refine r_aload_n dL_law_890 rfl ?_
    refine r_iconst (0) dL_law_891 (by decide) ?_
    refine q_lald (k := 0) w2.1 kc_737 kn_0 (by decide) (by decide) dL_law_892 ?_
    rw [ho2]
    refine r_iload dL_law_893 rfl ?_
    refine r_i2l dL_law_895 ?_
    refine r_lcmp dL_law_896 ?_
    refine r_if_eq 902 dL_law_897 (by decide) (fun _ => ?_) (fun c9 => absurd lg_cmp_s c9)
    refine r_goto 4127 dL_law_902 (by decide) ?_
    exact kk _ _ _ _ _ _ _ _ _ _ _ _ _ _ w2 hp2 (by show cs.1 + 1 + 0 ≤ _; omega) (by show cs.2 + 6 + 0 ≤ _; omega)
  · obtain rfl := q2 hz
    have w1 := w
    refine r_istore (ls2 := [some (.ref 0), some (.ref 1), some (.ref 723), some (.ref 737), some (.ref 738), some (.int (nI (6 * j))), some _, _, _]) dL_law_860 (by decide) rfl ?_
    refine r_aload_n dL_law_862 rfl ?_
    refine r_aload_n dL_law_863 rfl ?_
    refine r_iload dL_law_864 rfl ?_
    refine r_iconst (1) dL_law_866 (by decide) ?_
    refine r_iadd dL_law_867 ?_
    refine r_sld (k := 6 * j + 1) (nadd rfl kn_1) (by omega) hL3 dL_law_868 ?_
    refine q_callT1 (cv_X9_measure ml_L_243) w1.1 kc_723 (by decide) rfl (rmL rfl (by show cs.1 + 1 + 0 ≤ _; omega) (by show cs.2 + 6 + 0 ≤ _; omega)) (Nat.le_of_ble_eq_true rfl) dL_law_869 (c_X9_measure (hW := w1.1) (hm := w1.2.2.1) (hO := hp.1.1) (hm28 := (by omega))) (fun v2 h2 ty2 p2 => ?_)
    obtain ⟨y2, rfl⟩ : ∃ x, v2 = some (.int x) := ty2
    obtain ⟨rfl, -⟩ := p2
    have w2 := st_si (c := cd1 (okP r (gX G (6 * j + 1)))) w1 hp
    have ht : ∀ {H : AH}, aI (sI H 723 12 (nI (cd1 (okP r (gX G (6 * j + 1)))))) 723 12 = nI (cd1 (okP r (gX G (6 * j + 1)))) := sI_s
    refine r_istore (ls2 := [some (.ref 0), some (.ref 1), some (.ref 723), some (.ref 737), some (.ref 738), some (.int (nI (6 * j))), _, some _, _]) dL_law_872 (by decide) rfl ?_
    refine r_aload_n dL_law_874 rfl ?_
    refine q_callT0 (cv_X9_thrown ml_L_222) w2.1 kc_723 (by decide) rfl (rmL rfl (by show cs.1 + 1 + 0 + 0 ≤ _; omega) (by show cs.2 + 6 + 0 + 0 ≤ _; omega)) (Nat.le_of_ble_eq_true rfl) dL_law_875 (c_X9_thrown w2.1) (fun v5 h5 _ q5 => ?_)
    obtain ⟨rfl, rfl⟩ := q5
    refine r_iload dL_law_878 rfl ?_
    refine r_icmp_eq 885 dL_law_880 (by decide) (fun _ => ?_) (fun c9 => absurd ht c9)
    refine r_iload dL_law_885 rfl ?_
    refine r_if_ne 902 dL_law_887 (by decide) (fun _ => ?_) (fun c9 => absurd c9 (nI_nz hz (by have := (show cd1 (okP r (gX G (6 * j + 1))) ≤ 4 from Nat.le_trans cd1_le (by decide)); omega)))
    refine r_goto 4127 dL_law_902 (by decide) ?_
    exact kk _ _ _ _ _ _ _ _ _ _ _ _ _ _ w2 hp.nx (by show cs.1 + 1 + 0 ≤ _; omega) (by show cs.2 + 6 + 0 ≤ _; omega)
theorem cs_L_forecast : CStH RL 244 mL_forecast 3 := ⟨ml_L_244, (tgI 1000 (by decide +kernel) rfl), (tgI 98 (by decide +kernel) rfl), (tgI 1001 (by decide +kernel) rfl), ok_L_forecast⟩
set_option maxRecDepth 100000 in
set_option maxHeartbeats 4000000 in
theorem law_12 {l9 : Launch} {G : GC} {Fi : CX → State → Prop} {h : AH} {r s : Row} {L : List Row} {sv : Bool} {b : Nat → Int32} {n j : Nat} {o : Ob} {er eo : Int32} {l6 l7 l8 : Option Value} {cs : Nat × Nat} (hG : GOK G) (hj : 6 * j + 6 ≤ gL G) (hL3 : gL G ≤ 3072) (w : StL h r L r L s sv b n o er eo) (hp : LvP r L s sv b n (300 * j)) (hc1 : cs.1 ≤ 800 + 60 * j) (hc2 : cs.2 ≤ 40000 + 400 * j) (kk : LNx l9 G Fi j) : PW l9 G mL_law room_1 Fi NT 905 [some (.ref 0), some (.ref 1), some (.ref 723), some (.ref 737), some (.ref 738), some (.int (nI (6 * j))), l6, l7, l8] [] cs h := by
  have hb9 : 300 * j + 300 < 2 ^ 23 := by omega
  refine r_aload_n dL_law_905 rfl ?_
  refine r_aload_n dL_law_906 rfl ?_
  refine r_iload dL_law_907 rfl ?_
  refine r_iconst (1) dL_law_909 (by decide) ?_
  refine r_iadd dL_law_910 ?_
  refine r_sld (k := 6 * j + 1) (nadd rfl kn_1) (by omega) hL3 dL_law_911 ?_
  refine r_aload_n dL_law_912 rfl ?_
  refine r_callSH3 cs_L_forecast (rmL rfl (by show cs.1 + 1 ≤ _; omega) (by show cs.2 + 6 ≤ _; omega)) (Nat.le_of_ble_eq_true rfl) dL_law_913 (c_L_forecast hG w.1 cd1_le (c_X8_forecast (hW := w.1) (hs := w.2.1.1) (hO := hp.1.1)) (fun _ e9 => by rw [e9]; exact w.1)) (fun v1 h1 q1 => ?_)
  obtain ⟨rfl, q2, q3⟩ := q1
  by_cases hz : cd1 (okP r (gX G (6 * j + 1))) = 0
  · obtain ⟨h3, q4, rfl⟩ := q3 hz
    obtain rfl := q4
    have hp2 := hp.nx
    have w1 := st_out (v := (((fP r (gX G (6 * j + 1))) 18)).toInt64) w hp
    have ho2 : ∀ {H : AH}, aJ (sI (sJ H 737 0 ((((fP r (gX G (6 * j + 1))) 18)).toInt64)) 723 12 (nI (cd1 (okP r (gX G (6 * j + 1)))))) 737 0 = (((fP r (gX G (6 * j + 1))) 18)).toInt64 := sJ_at0
    refine r_istore (ls2 := [some (.ref 0), some (.ref 1), some (.ref 723), some (.ref 737), some (.ref 738), some (.int (nI (6 * j))), some _, _, _]) dL_law_916 (by decide) rfl ?_
    refine r_aload_n dL_law_918 rfl ?_
    refine r_aload_n dL_law_919 rfl ?_
    refine r_iload dL_law_920 rfl ?_
    refine r_iconst (1) dL_law_922 (by decide) ?_
    refine r_iadd dL_law_923 ?_
    refine r_sld (k := 6 * j + 1) (nadd rfl kn_1) (by omega) hL3 dL_law_924 ?_
    refine q_callT1 (cv_X9_forecast ml_L_246) w1.1 kc_723 (by decide) rfl (rmL rfl (by show cs.1 + 1 + 0 ≤ _; omega) (by show cs.2 + 6 + 0 ≤ _; omega)) (Nat.le_of_ble_eq_true rfl) dL_law_925 (c_X9_forecast (hW := w1.1) (hm := w1.2.2.1) (hO := hp.1.1) (hm28 := (by omega))) (fun v2 h2 ty2 p2 => ?_)
    obtain ⟨rfl, p3⟩ := p2
    obtain rfl := p3 hz
    have w2 := st_si (c := cd1 (okP r (gX G (6 * j + 1)))) w1 hp
    have ht : ∀ {H : AH}, aI (sI H 723 12 (nI (cd1 (okP r (gX G (6 * j + 1)))))) 723 12 = nI (cd1 (okP r (gX G (6 * j + 1)))) := sI_s
    refine r_istore (ls2 := [some (.ref 0), some (.ref 1), some (.ref 723), some (.ref 737), some (.ref 738), some (.int (nI (6 * j))), _, some _, _]) dL_law_928 (by decide) rfl ?_
    refine r_aload_n dL_law_930 rfl ?_
    refine q_callT0 (cv_X9_thrown ml_L_222) w2.1 kc_723 (by decide) rfl (rmL rfl (by show cs.1 + 1 + 0 + 0 ≤ _; omega) (by show cs.2 + 6 + 0 + 0 ≤ _; omega)) (Nat.le_of_ble_eq_true rfl) dL_law_931 (c_X9_thrown w2.1) (fun v5 h5 _ q5 => ?_)
    obtain ⟨rfl, rfl⟩ := q5
    refine r_iload dL_law_934 rfl ?_
    refine r_icmp_eq 941 dL_law_936 (by decide) (fun _ => ?_) (fun c9 => absurd ht c9)
    refine r_iload dL_law_941 rfl ?_
    refine r_if_ne 958 dL_law_943 (by decide) (fun c9 => absurd (by rw [hz]; rfl) c9) (fun _ => ?_)
    refine r_aload_n dL_law_946 rfl ?_
    refine r_iconst (0) dL_law_947 (by decide) ?_
    refine q_lald (k := 0) w2.1 kc_737 kn_0 (by decide) (by decide) dL_law_948 ?_
    rw [ho2]
    refine r_iload dL_law_949 rfl ?_
    refine r_i2l dL_law_951 ?_
    refine r_lcmp dL_law_952 ?_
    refine r_if_eq 958 dL_law_953 (by decide) (fun _ => ?_) (fun c9 => absurd lg_cmp_s c9)
    refine r_goto 4127 dL_law_958 (by decide) ?_
    exact kk _ _ _ _ _ _ _ _ _ _ _ _ _ _ w2 hp2 (by show cs.1 + 1 + 0 ≤ _; omega) (by show cs.2 + 6 + 0 ≤ _; omega)
  · obtain rfl := q2 hz
    have w1 := w
    refine r_istore (ls2 := [some (.ref 0), some (.ref 1), some (.ref 723), some (.ref 737), some (.ref 738), some (.int (nI (6 * j))), some _, _, _]) dL_law_916 (by decide) rfl ?_
    refine r_aload_n dL_law_918 rfl ?_
    refine r_aload_n dL_law_919 rfl ?_
    refine r_iload dL_law_920 rfl ?_
    refine r_iconst (1) dL_law_922 (by decide) ?_
    refine r_iadd dL_law_923 ?_
    refine r_sld (k := 6 * j + 1) (nadd rfl kn_1) (by omega) hL3 dL_law_924 ?_
    refine q_callT1 (cv_X9_forecast ml_L_246) w1.1 kc_723 (by decide) rfl (rmL rfl (by show cs.1 + 1 + 0 ≤ _; omega) (by show cs.2 + 6 + 0 ≤ _; omega)) (Nat.le_of_ble_eq_true rfl) dL_law_925 (c_X9_forecast (hW := w1.1) (hm := w1.2.2.1) (hO := hp.1.1) (hm28 := (by omega))) (fun v2 h2 ty2 p2 => ?_)
    obtain ⟨y2, rfl⟩ : ∃ x, v2 = some (.int x) := ty2
    obtain ⟨rfl, -⟩ := p2
    have w2 := st_si (c := cd1 (okP r (gX G (6 * j + 1)))) w1 hp
    have ht : ∀ {H : AH}, aI (sI H 723 12 (nI (cd1 (okP r (gX G (6 * j + 1)))))) 723 12 = nI (cd1 (okP r (gX G (6 * j + 1)))) := sI_s
    refine r_istore (ls2 := [some (.ref 0), some (.ref 1), some (.ref 723), some (.ref 737), some (.ref 738), some (.int (nI (6 * j))), _, some _, _]) dL_law_928 (by decide) rfl ?_
    refine r_aload_n dL_law_930 rfl ?_
    refine q_callT0 (cv_X9_thrown ml_L_222) w2.1 kc_723 (by decide) rfl (rmL rfl (by show cs.1 + 1 + 0 + 0 ≤ _; omega) (by show cs.2 + 6 + 0 + 0 ≤ _; omega)) (Nat.le_of_ble_eq_true rfl) dL_law_931 (c_X9_thrown w2.1) (fun v5 h5 _ q5 => ?_)
    obtain ⟨rfl, rfl⟩ := q5
    refine r_iload dL_law_934 rfl ?_
    refine r_icmp_eq 941 dL_law_936 (by decide) (fun _ => ?_) (fun c9 => absurd ht c9)
    refine r_iload dL_law_941 rfl ?_
    refine r_if_ne 958 dL_law_943 (by decide) (fun _ => ?_) (fun c9 => absurd c9 (nI_nz hz (by have := (show cd1 (okP r (gX G (6 * j + 1))) ≤ 4 from Nat.le_trans cd1_le (by decide)); omega)))
    refine r_goto 4127 dL_law_958 (by decide) ?_
    exact kk _ _ _ _ _ _ _ _ _ _ _ _ _ _ w2 hp.nx (by show cs.1 + 1 + 0 ≤ _; omega) (by show cs.2 + 6 + 0 ≤ _; omega)
theorem cs_L_wanted : CStH RL 247 mL_wanted 3 := ⟨ml_L_247, (tgI 1007 (by decide +kernel) rfl), (tgI 98 (by decide +kernel) rfl), (tgI 1008 (by decide +kernel) rfl), ok_L_wanted⟩
set_option maxRecDepth 100000 in
set_option maxHeartbeats 4000000 in
theorem law_13 {l9 : Launch} {G : GC} {Fi : CX → State → Prop} {h : AH} {r s : Row} {L : List Row} {sv : Bool} {b : Nat → Int32} {n j : Nat} {o : Ob} {er eo : Int32} {l6 l7 l8 : Option Value} {cs : Nat × Nat} (hG : GOK G) (hj : 6 * j + 6 ≤ gL G) (hL3 : gL G ≤ 3072) (w : StL h r L r L s sv b n o er eo) (hp : LvP r L s sv b n (300 * j)) (hc1 : cs.1 ≤ 800 + 60 * j) (hc2 : cs.2 ≤ 40000 + 400 * j) (kk : LNx l9 G Fi j) : PW l9 G mL_law room_1 Fi NT 961 [some (.ref 0), some (.ref 1), some (.ref 723), some (.ref 737), some (.ref 738), some (.int (nI (6 * j))), l6, l7, l8] [] cs h := by
  have hb9 : 300 * j + 300 < 2 ^ 23 := by omega
  refine r_aload_n dL_law_961 rfl ?_
  refine r_aload_n dL_law_962 rfl ?_
  refine r_iload dL_law_963 rfl ?_
  refine r_iconst (1) dL_law_965 (by decide) ?_
  refine r_iadd dL_law_966 ?_
  refine r_sld (k := 6 * j + 1) (nadd rfl kn_1) (by omega) hL3 dL_law_967 ?_
  refine r_aload_n dL_law_968 rfl ?_
  refine r_callSH3 cs_L_wanted (rmL rfl (by show cs.1 + 1 ≤ _; omega) (by show cs.2 + 6 ≤ _; omega)) (Nat.le_of_ble_eq_true rfl) dL_law_969 (c_L_wanted hG w.1 cd1_le (c_X8_wanted (hW := w.1) (hs := w.2.1.1) (hO := hp.1.1)) (fun _ e9 => by rw [e9]; exact w.1)) (fun v1 h1 q1 => ?_)
  obtain ⟨rfl, q2, q3⟩ := q1
  by_cases hz : cd1 (okP r (gX G (6 * j + 1))) = 0
  · obtain ⟨h3, q4, rfl⟩ := q3 hz
    obtain rfl := q4
    have hp2 := hp.nx
    have w1 := st_out (v := (((fP r (gX G (6 * j + 1))) 19)).toInt64) w hp
    have ho2 : ∀ {H : AH}, aJ (sI (sJ H 737 0 ((((fP r (gX G (6 * j + 1))) 19)).toInt64)) 723 12 (nI (cd1 (okP r (gX G (6 * j + 1)))))) 737 0 = (((fP r (gX G (6 * j + 1))) 19)).toInt64 := sJ_at0
    refine r_istore (ls2 := [some (.ref 0), some (.ref 1), some (.ref 723), some (.ref 737), some (.ref 738), some (.int (nI (6 * j))), some _, _, _]) dL_law_972 (by decide) rfl ?_
    refine r_aload_n dL_law_974 rfl ?_
    refine r_aload_n dL_law_975 rfl ?_
    refine r_iload dL_law_976 rfl ?_
    refine r_iconst (1) dL_law_978 (by decide) ?_
    refine r_iadd dL_law_979 ?_
    refine r_sld (k := 6 * j + 1) (nadd rfl kn_1) (by omega) hL3 dL_law_980 ?_
    refine q_callT1 (cv_X9_wanted ml_L_249) w1.1 kc_723 (by decide) rfl (rmL rfl (by show cs.1 + 1 + 0 ≤ _; omega) (by show cs.2 + 6 + 0 ≤ _; omega)) (Nat.le_of_ble_eq_true rfl) dL_law_981 (c_X9_wanted (hW := w1.1) (hm := w1.2.2.1) (hO := hp.1.1) (hm28 := (by omega))) (fun v2 h2 ty2 p2 => ?_)
    obtain ⟨rfl, p3⟩ := p2
    obtain rfl := p3 hz
    have w2 := st_si (c := cd1 (okP r (gX G (6 * j + 1)))) w1 hp
    have ht : ∀ {H : AH}, aI (sI H 723 12 (nI (cd1 (okP r (gX G (6 * j + 1)))))) 723 12 = nI (cd1 (okP r (gX G (6 * j + 1)))) := sI_s
    refine r_istore (ls2 := [some (.ref 0), some (.ref 1), some (.ref 723), some (.ref 737), some (.ref 738), some (.int (nI (6 * j))), _, some _, _]) dL_law_984 (by decide) rfl ?_
    refine r_aload_n dL_law_986 rfl ?_
    refine q_callT0 (cv_X9_thrown ml_L_222) w2.1 kc_723 (by decide) rfl (rmL rfl (by show cs.1 + 1 + 0 + 0 ≤ _; omega) (by show cs.2 + 6 + 0 + 0 ≤ _; omega)) (Nat.le_of_ble_eq_true rfl) dL_law_987 (c_X9_thrown w2.1) (fun v5 h5 _ q5 => ?_)
    obtain ⟨rfl, rfl⟩ := q5
    refine r_iload dL_law_990 rfl ?_
    refine r_icmp_eq 997 dL_law_992 (by decide) (fun _ => ?_) (fun c9 => absurd ht c9)
    refine r_iload dL_law_997 rfl ?_
    refine r_if_ne 1014 dL_law_999 (by decide) (fun c9 => absurd (by rw [hz]; rfl) c9) (fun _ => ?_)
    refine r_aload_n dL_law_1002 rfl ?_
    refine r_iconst (0) dL_law_1003 (by decide) ?_
    refine q_lald (k := 0) w2.1 kc_737 kn_0 (by decide) (by decide) dL_law_1004 ?_
    rw [ho2]
    refine r_iload dL_law_1005 rfl ?_
    refine r_i2l dL_law_1007 ?_
    refine r_lcmp dL_law_1008 ?_
    refine r_if_eq 1014 dL_law_1009 (by decide) (fun _ => ?_) (fun c9 => absurd lg_cmp_s c9)
    refine r_goto 4127 dL_law_1014 (by decide) ?_
    exact kk _ _ _ _ _ _ _ _ _ _ _ _ _ _ w2 hp2 (by show cs.1 + 1 + 0 ≤ _; omega) (by show cs.2 + 6 + 0 ≤ _; omega)
  · obtain rfl := q2 hz
    have w1 := w
    refine r_istore (ls2 := [some (.ref 0), some (.ref 1), some (.ref 723), some (.ref 737), some (.ref 738), some (.int (nI (6 * j))), some _, _, _]) dL_law_972 (by decide) rfl ?_
    refine r_aload_n dL_law_974 rfl ?_
    refine r_aload_n dL_law_975 rfl ?_
    refine r_iload dL_law_976 rfl ?_
    refine r_iconst (1) dL_law_978 (by decide) ?_
    refine r_iadd dL_law_979 ?_
    refine r_sld (k := 6 * j + 1) (nadd rfl kn_1) (by omega) hL3 dL_law_980 ?_
    refine q_callT1 (cv_X9_wanted ml_L_249) w1.1 kc_723 (by decide) rfl (rmL rfl (by show cs.1 + 1 + 0 ≤ _; omega) (by show cs.2 + 6 + 0 ≤ _; omega)) (Nat.le_of_ble_eq_true rfl) dL_law_981 (c_X9_wanted (hW := w1.1) (hm := w1.2.2.1) (hO := hp.1.1) (hm28 := (by omega))) (fun v2 h2 ty2 p2 => ?_)
    obtain ⟨y2, rfl⟩ : ∃ x, v2 = some (.int x) := ty2
    obtain ⟨rfl, -⟩ := p2
    have w2 := st_si (c := cd1 (okP r (gX G (6 * j + 1)))) w1 hp
    have ht : ∀ {H : AH}, aI (sI H 723 12 (nI (cd1 (okP r (gX G (6 * j + 1)))))) 723 12 = nI (cd1 (okP r (gX G (6 * j + 1)))) := sI_s
    refine r_istore (ls2 := [some (.ref 0), some (.ref 1), some (.ref 723), some (.ref 737), some (.ref 738), some (.int (nI (6 * j))), _, some _, _]) dL_law_984 (by decide) rfl ?_
    refine r_aload_n dL_law_986 rfl ?_
    refine q_callT0 (cv_X9_thrown ml_L_222) w2.1 kc_723 (by decide) rfl (rmL rfl (by show cs.1 + 1 + 0 + 0 ≤ _; omega) (by show cs.2 + 6 + 0 + 0 ≤ _; omega)) (Nat.le_of_ble_eq_true rfl) dL_law_987 (c_X9_thrown w2.1) (fun v5 h5 _ q5 => ?_)
    obtain ⟨rfl, rfl⟩ := q5
    refine r_iload dL_law_990 rfl ?_
    refine r_icmp_eq 997 dL_law_992 (by decide) (fun _ => ?_) (fun c9 => absurd ht c9)
    refine r_iload dL_law_997 rfl ?_
    refine r_if_ne 1014 dL_law_999 (by decide) (fun _ => ?_) (fun c9 => absurd c9 (nI_nz hz (by have := (show cd1 (okP r (gX G (6 * j + 1))) ≤ 4 from Nat.le_trans cd1_le (by decide)); omega)))
    refine r_goto 4127 dL_law_1014 (by decide) ?_
    exact kk _ _ _ _ _ _ _ _ _ _ _ _ _ _ w2 hp.nx (by show cs.1 + 1 + 0 ≤ _; omega) (by show cs.2 + 6 + 0 ≤ _; omega)
theorem cs_L_meanError : CStH RL 250 mL_meanError 3 := ⟨ml_L_250, (tgI 1014 (by decide +kernel) rfl), (tgI 98 (by decide +kernel) rfl), (tgI 1015 (by decide +kernel) rfl), ok_L_meanError⟩
set_option maxRecDepth 100000 in
set_option maxHeartbeats 4000000 in
theorem law_14 {l9 : Launch} {G : GC} {Fi : CX → State → Prop} {h : AH} {r s : Row} {L : List Row} {sv : Bool} {b : Nat → Int32} {n j : Nat} {o : Ob} {er eo : Int32} {l6 l7 l8 : Option Value} {cs : Nat × Nat} (hG : GOK G) (hj : 6 * j + 6 ≤ gL G) (hL3 : gL G ≤ 3072) (w : StL h r L r L s sv b n o er eo) (hp : LvP r L s sv b n (300 * j)) (hc1 : cs.1 ≤ 800 + 60 * j) (hc2 : cs.2 ≤ 40000 + 400 * j) (kk : LNx l9 G Fi j) : PW l9 G mL_law room_1 Fi NT 1017 [some (.ref 0), some (.ref 1), some (.ref 723), some (.ref 737), some (.ref 738), some (.int (nI (6 * j))), l6, l7, l8] [] cs h := by
  have hb9 : 300 * j + 300 < 2 ^ 23 := by omega
  refine r_aload_n dL_law_1017 rfl ?_
  refine r_aload_n dL_law_1018 rfl ?_
  refine r_iload dL_law_1019 rfl ?_
  refine r_iconst (1) dL_law_1021 (by decide) ?_
  refine r_iadd dL_law_1022 ?_
  refine r_sld (k := 6 * j + 1) (nadd rfl kn_1) (by omega) hL3 dL_law_1023 ?_
  refine r_aload dL_law_1024 rfl ?_
  refine r_callSH3 cs_L_meanError (rmL rfl (by show cs.1 + 1 ≤ _; omega) (by show cs.2 + 6 ≤ _; omega)) (Nat.le_of_ble_eq_true rfl) dL_law_1026 (c_L_meanError hG w.1 cd1_le (c_X8_meanError (hW := w.1) (hs := w.2.1.1) (hO := hp.1.1)) (fun _ e9 => by rw [e9]; exact w.1)) (fun v1 h1 q1 => ?_)
  obtain ⟨rfl, q2, q3⟩ := q1
  by_cases hz : cd1 (okP r (gX G (6 * j + 1))) = 0
  · obtain ⟨h3, q4, rfl⟩ := q3 hz
    obtain rfl := q4
    have hp2 := hp.nx
    have w1 := st_outD (v := (mErr (fP r (gX G (6 * j + 1))) (gP r (gX G (6 * j + 1))))) w
    have ho2 : ∀ {H : AH}, aD (sI (sD H 738 0 ((mErr (fP r (gX G (6 * j + 1))) (gP r (gX G (6 * j + 1)))))) 723 12 (nI (cd1 (okP r (gX G (6 * j + 1)))))) 738 0 = (mErr (fP r (gX G (6 * j + 1))) (gP r (gX G (6 * j + 1)))) := sD_at0
    refine r_istore (ls2 := [some (.ref 0), some (.ref 1), some (.ref 723), some (.ref 737), some (.ref 738), some (.int (nI (6 * j))), some _, _, _]) dL_law_1029 (by decide) rfl ?_
    refine r_aload_n dL_law_1031 rfl ?_
    refine r_aload_n dL_law_1032 rfl ?_
    refine r_iload dL_law_1033 rfl ?_
    refine r_iconst (1) dL_law_1035 (by decide) ?_
    refine r_iadd dL_law_1036 ?_
    refine r_sld (k := 6 * j + 1) (nadd rfl kn_1) (by omega) hL3 dL_law_1037 ?_
    refine q_callT1 (cv_X9_meanError ml_L_253) w1.1 kc_723 (by decide) rfl (rmL rfl (by show cs.1 + 1 + 0 ≤ _; omega) (by show cs.2 + 6 + 0 ≤ _; omega)) (Nat.le_of_ble_eq_true rfl) dL_law_1038 (c_X9_meanError (hW := w1.1) (hm := w1.2.2.1) (hO := hp.1.1) (hm28 := (by omega))) (fun v2 h2 ty2 p2 => ?_)
    obtain ⟨rfl, p3⟩ := p2
    obtain rfl := p3 hz
    have w2 := st_si (c := cd1 (okP r (gX G (6 * j + 1)))) w1 hp
    have ht : ∀ {H : AH}, aI (sI H 723 12 (nI (cd1 (okP r (gX G (6 * j + 1)))))) 723 12 = nI (cd1 (okP r (gX G (6 * j + 1)))) := sI_s
    refine r_dstore (ls2 := [some (.ref 0), some (.ref 1), some (.ref 723), some (.ref 737), some (.ref 738), some (.int (nI (6 * j))), _, some _, none]) dL_law_1041 (by decide) rfl ?_
    refine r_aload_n dL_law_1043 rfl ?_
    refine q_callT0 (cv_X9_thrown ml_L_222) w2.1 kc_723 (by decide) rfl (rmL rfl (by show cs.1 + 1 + 0 + 0 ≤ _; omega) (by show cs.2 + 6 + 0 + 0 ≤ _; omega)) (Nat.le_of_ble_eq_true rfl) dL_law_1044 (c_X9_thrown w2.1) (fun v5 h5 _ q5 => ?_)
    obtain ⟨rfl, rfl⟩ := q5
    refine r_iload dL_law_1047 rfl ?_
    refine r_icmp_eq 1054 dL_law_1049 (by decide) (fun _ => ?_) (fun c9 => absurd ht c9)
    refine r_iload dL_law_1054 rfl ?_
    refine r_if_ne 1091 dL_law_1056 (by decide) (fun c9 => absurd (by rw [hz]; rfl) c9) (fun _ => ?_)
    refine r_aload dL_law_1059 rfl ?_
    refine r_iconst (0) dL_law_1061 (by decide) ?_
    refine q_dald (k := 0) w2.1 kc_738 kn_0 (by decide) (by decide) dL_law_1062 ?_
    rw [ho2]
    refine r_dload dL_law_1063 rfl ?_
    refine r_dcmp dL_law_1065 ?_
    refine r_if_eq 1091 dL_law_1066 (by decide) (fun c0 => ?_) (fun c0 => ?_)
    · skip
      refine r_goto 4127 dL_law_1091 (by decide) ?_
      exact kk _ _ _ _ _ _ _ _ _ _ _ _ _ _ w2 hp2 (by show cs.1 + 1 + 0 ≤ _; omega) (by show cs.2 + 6 + 0 ≤ _; omega)
    · skip
      refine r_aload dL_law_1069 rfl ?_
      refine r_iconst (0) dL_law_1071 (by decide) ?_
      refine q_dald (k := 0) w2.1 kc_738 kn_0 (by decide) (by decide) dL_law_1072 ?_
      rw [ho2]
      refine r_aload dL_law_1073 rfl ?_
      refine r_iconst (0) dL_law_1075 (by decide) ?_
      refine q_dald (k := 0) w2.1 kc_738 kn_0 (by decide) (by decide) dL_law_1076 ?_
      rw [ho2]
      refine r_dcmp dL_law_1077 ?_
      refine r_if_eq 1089 dL_law_1078 (by decide) (fun c9 => absurd c9 c0) (fun _ => ?_)
      refine r_dload dL_law_1081 rfl ?_
      refine r_dload dL_law_1083 rfl ?_
      refine r_dcmp dL_law_1085 ?_
      refine r_if_ne 1091 dL_law_1086 (by decide) (fun _ => ?_) (fun c9 => absurd c9 c0)
      refine r_goto 4127 dL_law_1091 (by decide) ?_
      exact kk _ _ _ _ _ _ _ _ _ _ _ _ _ _ w2 hp2 (by show cs.1 + 1 + 0 ≤ _; omega) (by show cs.2 + 6 + 0 ≤ _; omega)
  · obtain rfl := q2 hz
    have w1 := w
    refine r_istore (ls2 := [some (.ref 0), some (.ref 1), some (.ref 723), some (.ref 737), some (.ref 738), some (.int (nI (6 * j))), some _, _, _]) dL_law_1029 (by decide) rfl ?_
    refine r_aload_n dL_law_1031 rfl ?_
    refine r_aload_n dL_law_1032 rfl ?_
    refine r_iload dL_law_1033 rfl ?_
    refine r_iconst (1) dL_law_1035 (by decide) ?_
    refine r_iadd dL_law_1036 ?_
    refine r_sld (k := 6 * j + 1) (nadd rfl kn_1) (by omega) hL3 dL_law_1037 ?_
    refine q_callT1 (cv_X9_meanError ml_L_253) w1.1 kc_723 (by decide) rfl (rmL rfl (by show cs.1 + 1 + 0 ≤ _; omega) (by show cs.2 + 6 + 0 ≤ _; omega)) (Nat.le_of_ble_eq_true rfl) dL_law_1038 (c_X9_meanError (hW := w1.1) (hm := w1.2.2.1) (hO := hp.1.1) (hm28 := (by omega))) (fun v2 h2 ty2 p2 => ?_)
    obtain ⟨y2, rfl⟩ : ∃ x, v2 = some (.double x) := ty2
    obtain ⟨rfl, -⟩ := p2
    have w2 := st_si (c := cd1 (okP r (gX G (6 * j + 1)))) w1 hp
    have ht : ∀ {H : AH}, aI (sI H 723 12 (nI (cd1 (okP r (gX G (6 * j + 1)))))) 723 12 = nI (cd1 (okP r (gX G (6 * j + 1)))) := sI_s
    refine r_dstore (ls2 := [some (.ref 0), some (.ref 1), some (.ref 723), some (.ref 737), some (.ref 738), some (.int (nI (6 * j))), _, some _, none]) dL_law_1041 (by decide) rfl ?_
    refine r_aload_n dL_law_1043 rfl ?_
    refine q_callT0 (cv_X9_thrown ml_L_222) w2.1 kc_723 (by decide) rfl (rmL rfl (by show cs.1 + 1 + 0 + 0 ≤ _; omega) (by show cs.2 + 6 + 0 + 0 ≤ _; omega)) (Nat.le_of_ble_eq_true rfl) dL_law_1044 (c_X9_thrown w2.1) (fun v5 h5 _ q5 => ?_)
    obtain ⟨rfl, rfl⟩ := q5
    refine r_iload dL_law_1047 rfl ?_
    refine r_icmp_eq 1054 dL_law_1049 (by decide) (fun _ => ?_) (fun c9 => absurd ht c9)
    refine r_iload dL_law_1054 rfl ?_
    refine r_if_ne 1091 dL_law_1056 (by decide) (fun _ => ?_) (fun c9 => absurd c9 (nI_nz hz (by have := (show cd1 (okP r (gX G (6 * j + 1))) ≤ 4 from Nat.le_trans cd1_le (by decide)); omega)))
    refine r_goto 4127 dL_law_1091 (by decide) ?_
    exact kk _ _ _ _ _ _ _ _ _ _ _ _ _ _ w2 hp.nx (by show cs.1 + 1 + 0 ≤ _; omega) (by show cs.2 + 6 + 0 ≤ _; omega)
theorem cs_L_nextDropped : CStH RL 254 mL_nextDropped 3 := ⟨ml_L_254, (tgI 1021 (by decide +kernel) rfl), (tgI 98 (by decide +kernel) rfl), (tgI 1022 (by decide +kernel) rfl), ok_L_nextDropped⟩
set_option maxRecDepth 100000 in
set_option maxHeartbeats 4000000 in
theorem law_15 {l9 : Launch} {G : GC} {Fi : CX → State → Prop} {h : AH} {r s : Row} {L : List Row} {sv : Bool} {b : Nat → Int32} {n j : Nat} {o : Ob} {er eo : Int32} {l6 l7 l8 : Option Value} {cs : Nat × Nat} (hG : GOK G) (hj : 6 * j + 6 ≤ gL G) (hL3 : gL G ≤ 3072) (w : StL h r L r L s sv b n o er eo) (hp : LvP r L s sv b n (300 * j)) (hc1 : cs.1 ≤ 800 + 60 * j) (hc2 : cs.2 ≤ 40000 + 400 * j) (kk : LNx l9 G Fi j) : PW l9 G mL_law room_1 Fi NT 1094 [some (.ref 0), some (.ref 1), some (.ref 723), some (.ref 737), some (.ref 738), some (.int (nI (6 * j))), l6, l7, l8] [] cs h := by
  have hb9 : 300 * j + 300 < 2 ^ 23 := by omega
  refine r_aload_n dL_law_1094 rfl ?_
  refine r_aload_n dL_law_1095 rfl ?_
  refine r_iload dL_law_1096 rfl ?_
  refine r_iconst (1) dL_law_1098 (by decide) ?_
  refine r_iadd dL_law_1099 ?_
  refine r_sld (k := 6 * j + 1) (nadd rfl kn_1) (by omega) hL3 dL_law_1100 ?_
  refine r_aload_n dL_law_1101 rfl ?_
  refine r_callSH3 cs_L_nextDropped (rmL rfl (by show cs.1 + 1 ≤ _; omega) (by show cs.2 + 6 ≤ _; omega)) (Nat.le_of_ble_eq_true rfl) dL_law_1102 (c_L_nextDropped hG w.1 cd1_le (c_X8_nextDropped (hW := w.1) (hs := w.2.1.1) (hO := hp.1.1)) (fun _ e9 => by rw [e9]; exact w.1)) (fun v1 h1 q1 => ?_)
  obtain ⟨rfl, q2, q3⟩ := q1
  by_cases hz : cd1 (okP r (gX G (6 * j + 1))) = 0
  · obtain ⟨h3, q4, rfl⟩ := q3 hz
    obtain rfl := q4
    have hp2 := hp.nx
    have w1 := st_out (v := ((nxD (fP r (gX G (6 * j + 1))))).toInt64) w hp
    have ho2 : ∀ {H : AH}, aJ (sI (sJ H 737 0 (((nxD (fP r (gX G (6 * j + 1))))).toInt64)) 723 12 (nI (cd1 (okP r (gX G (6 * j + 1)))))) 737 0 = ((nxD (fP r (gX G (6 * j + 1))))).toInt64 := sJ_at0
    refine r_istore (ls2 := [some (.ref 0), some (.ref 1), some (.ref 723), some (.ref 737), some (.ref 738), some (.int (nI (6 * j))), some _, _, _]) dL_law_1105 (by decide) rfl ?_
    refine r_aload_n dL_law_1107 rfl ?_
    refine r_aload_n dL_law_1108 rfl ?_
    refine r_iload dL_law_1109 rfl ?_
    refine r_iconst (1) dL_law_1111 (by decide) ?_
    refine r_iadd dL_law_1112 ?_
    refine r_sld (k := 6 * j + 1) (nadd rfl kn_1) (by omega) hL3 dL_law_1113 ?_
    refine q_callT1 (cv_X9_nextDropped ml_L_256) w1.1 kc_723 (by decide) rfl (rmL rfl (by show cs.1 + 1 + 0 ≤ _; omega) (by show cs.2 + 6 + 0 ≤ _; omega)) (Nat.le_of_ble_eq_true rfl) dL_law_1114 (c_X9_nextDropped (hW := w1.1) (hm := w1.2.2.1) (hO := hp.1.1) (hm28 := (by omega))) (fun v2 h2 ty2 p2 => ?_)
    obtain ⟨rfl, p3⟩ := p2
    obtain rfl := p3 hz
    have w2 := st_si (c := cd1 (okP r (gX G (6 * j + 1)))) w1 hp
    have ht : ∀ {H : AH}, aI (sI H 723 12 (nI (cd1 (okP r (gX G (6 * j + 1)))))) 723 12 = nI (cd1 (okP r (gX G (6 * j + 1)))) := sI_s
    refine r_istore (ls2 := [some (.ref 0), some (.ref 1), some (.ref 723), some (.ref 737), some (.ref 738), some (.int (nI (6 * j))), _, some _, _]) dL_law_1117 (by decide) rfl ?_
    refine r_aload_n dL_law_1119 rfl ?_
    refine q_callT0 (cv_X9_thrown ml_L_222) w2.1 kc_723 (by decide) rfl (rmL rfl (by show cs.1 + 1 + 0 + 0 ≤ _; omega) (by show cs.2 + 6 + 0 + 0 ≤ _; omega)) (Nat.le_of_ble_eq_true rfl) dL_law_1120 (c_X9_thrown w2.1) (fun v5 h5 _ q5 => ?_)
    obtain ⟨rfl, rfl⟩ := q5
    refine r_iload dL_law_1123 rfl ?_
    refine r_icmp_eq 1130 dL_law_1125 (by decide) (fun _ => ?_) (fun c9 => absurd ht c9)
    refine r_iload dL_law_1130 rfl ?_
    refine r_if_ne 1147 dL_law_1132 (by decide) (fun c9 => absurd (by rw [hz]; rfl) c9) (fun _ => ?_)
    refine r_aload_n dL_law_1135 rfl ?_
    refine r_iconst (0) dL_law_1136 (by decide) ?_
    refine q_lald (k := 0) w2.1 kc_737 kn_0 (by decide) (by decide) dL_law_1137 ?_
    rw [ho2]
    refine r_iload dL_law_1138 rfl ?_
    refine r_i2l dL_law_1140 ?_
    refine r_lcmp dL_law_1141 ?_
    refine r_if_eq 1147 dL_law_1142 (by decide) (fun _ => ?_) (fun c9 => absurd lg_cmp_s c9)
    refine r_goto 4127 dL_law_1147 (by decide) ?_
    exact kk _ _ _ _ _ _ _ _ _ _ _ _ _ _ w2 hp2 (by show cs.1 + 1 + 0 ≤ _; omega) (by show cs.2 + 6 + 0 ≤ _; omega)
  · obtain rfl := q2 hz
    have w1 := w
    refine r_istore (ls2 := [some (.ref 0), some (.ref 1), some (.ref 723), some (.ref 737), some (.ref 738), some (.int (nI (6 * j))), some _, _, _]) dL_law_1105 (by decide) rfl ?_
    refine r_aload_n dL_law_1107 rfl ?_
    refine r_aload_n dL_law_1108 rfl ?_
    refine r_iload dL_law_1109 rfl ?_
    refine r_iconst (1) dL_law_1111 (by decide) ?_
    refine r_iadd dL_law_1112 ?_
    refine r_sld (k := 6 * j + 1) (nadd rfl kn_1) (by omega) hL3 dL_law_1113 ?_
    refine q_callT1 (cv_X9_nextDropped ml_L_256) w1.1 kc_723 (by decide) rfl (rmL rfl (by show cs.1 + 1 + 0 ≤ _; omega) (by show cs.2 + 6 + 0 ≤ _; omega)) (Nat.le_of_ble_eq_true rfl) dL_law_1114 (c_X9_nextDropped (hW := w1.1) (hm := w1.2.2.1) (hO := hp.1.1) (hm28 := (by omega))) (fun v2 h2 ty2 p2 => ?_)
    obtain ⟨y2, rfl⟩ : ∃ x, v2 = some (.int x) := ty2
    obtain ⟨rfl, -⟩ := p2
    have w2 := st_si (c := cd1 (okP r (gX G (6 * j + 1)))) w1 hp
    have ht : ∀ {H : AH}, aI (sI H 723 12 (nI (cd1 (okP r (gX G (6 * j + 1)))))) 723 12 = nI (cd1 (okP r (gX G (6 * j + 1)))) := sI_s
    refine r_istore (ls2 := [some (.ref 0), some (.ref 1), some (.ref 723), some (.ref 737), some (.ref 738), some (.int (nI (6 * j))), _, some _, _]) dL_law_1117 (by decide) rfl ?_
    refine r_aload_n dL_law_1119 rfl ?_
    refine q_callT0 (cv_X9_thrown ml_L_222) w2.1 kc_723 (by decide) rfl (rmL rfl (by show cs.1 + 1 + 0 + 0 ≤ _; omega) (by show cs.2 + 6 + 0 + 0 ≤ _; omega)) (Nat.le_of_ble_eq_true rfl) dL_law_1120 (c_X9_thrown w2.1) (fun v5 h5 _ q5 => ?_)
    obtain ⟨rfl, rfl⟩ := q5
    refine r_iload dL_law_1123 rfl ?_
    refine r_icmp_eq 1130 dL_law_1125 (by decide) (fun _ => ?_) (fun c9 => absurd ht c9)
    refine r_iload dL_law_1130 rfl ?_
    refine r_if_ne 1147 dL_law_1132 (by decide) (fun _ => ?_) (fun c9 => absurd c9 (nI_nz hz (by have := (show cd1 (okP r (gX G (6 * j + 1))) ≤ 4 from Nat.le_trans cd1_le (by decide)); omega)))
    refine r_goto 4127 dL_law_1147 (by decide) ?_
    exact kk _ _ _ _ _ _ _ _ _ _ _ _ _ _ w2 hp.nx (by show cs.1 + 1 + 0 ≤ _; omega) (by show cs.2 + 6 + 0 ≤ _; omega)
theorem cs_L_coolLeft : CStH RL 257 mL_coolLeft 4 := ⟨ml_L_257, (tgI 1036 (by decide +kernel) rfl), (tgI 98 (by decide +kernel) rfl), (tgI 1037 (by decide +kernel) rfl), ok_L_coolLeft⟩
set_option maxRecDepth 100000 in
set_option maxHeartbeats 4000000 in
theorem law_16_0 {l9 : Launch} {G : GC} {Fi : CX → State → Prop} {h : AH} {r s : Row} {L : List Row} {sv : Bool} {b : Nat → Int32} {n j : Nat} {o : Ob} {er eo : Int32} {l6 l7 l8 : Option Value} {cs : Nat × Nat} (hG : GOK G) (hj : 6 * j + 6 ≤ gL G) (hL3 : gL G ≤ 3072) (hy : gX G (6 * j + 2) = 0) (w : StL h r L r L s sv b n o er eo) (hp : LvP r L s sv b n (300 * j)) (hc1 : cs.1 ≤ 800 + 60 * j) (hc2 : cs.2 ≤ 40000 + 400 * j) (kk : LNx l9 G Fi j) : PW l9 G mL_law room_1 Fi NT 1150 [some (.ref 0), some (.ref 1), some (.ref 723), some (.ref 737), some (.ref 738), some (.int (nI (6 * j))), l6, l7, l8] [] cs h := by
  have hb9 : 300 * j + 300 < 2 ^ 23 := by omega
  refine r_aload_n dL_law_1150 rfl ?_
  refine r_aload_n dL_law_1151 rfl ?_
  refine r_iload dL_law_1152 rfl ?_
  refine r_iconst (1) dL_law_1154 (by decide) ?_
  refine r_iadd dL_law_1155 ?_
  refine r_sld (k := 6 * j + 1) (nadd rfl kn_1) (by omega) hL3 dL_law_1156 ?_
  refine r_aload_n dL_law_1157 rfl ?_
  refine r_iload dL_law_1158 rfl ?_
  refine r_iconst (2) dL_law_1160 (by decide) ?_
  refine r_iadd dL_law_1161 ?_
  refine r_sld (k := 6 * j + 2) (nadd rfl kn_2) (by omega) hL3 dL_law_1162 ?_
  refine r_if_eq 1170 dL_law_1163 (by decide) (fun _ => ?_) (fun c9 => absurd hy c9)
  refine r_iconst (0) dL_law_1170 (by decide) ?_
  refine r_aload_n dL_law_1171 rfl ?_
  refine r_callSH4 cs_L_coolLeft (rmL rfl (by show cs.1 + 1 ≤ _; omega) (by show cs.2 + 6 ≤ _; omega)) (Nat.le_of_ble_eq_true rfl) dL_law_1172 (c_L_coolLeft hG w.1 cd1_le (c_X8_coolLeft (hW := w.1) (hs := w.2.1.1) (hO := hp.1.1)) (fun _ e9 => by rw [e9]; exact w.1)) (fun v1 h1 q1 => ?_)
  obtain ⟨rfl, q2, q3⟩ := q1
  by_cases hz : cd1 (okP r (gX G (6 * j + 1))) = 0
  · obtain ⟨h3, q4, rfl⟩ := q3 hz
    obtain rfl := q4
    have hp2 := hp.nx
    have w1 := st_out (v := ((clL (fP r (gX G (6 * j + 1))) (r.1 1) 0)).toInt64) w hp
    have ho2 : ∀ {H : AH}, aJ (sI (sJ H 737 0 (((clL (fP r (gX G (6 * j + 1))) (r.1 1) 0)).toInt64)) 723 12 (nI (cd1 (okP r (gX G (6 * j + 1)))))) 737 0 = ((clL (fP r (gX G (6 * j + 1))) (r.1 1) 0)).toInt64 := sJ_at0
    refine r_istore (ls2 := [some (.ref 0), some (.ref 1), some (.ref 723), some (.ref 737), some (.ref 738), some (.int (nI (6 * j))), some _, _, _]) dL_law_1175 (by decide) rfl ?_
    refine r_aload_n dL_law_1177 rfl ?_
    refine r_aload_n dL_law_1178 rfl ?_
    refine r_iload dL_law_1179 rfl ?_
    refine r_iconst (1) dL_law_1181 (by decide) ?_
    refine r_iadd dL_law_1182 ?_
    refine r_sld (k := 6 * j + 1) (nadd rfl kn_1) (by omega) hL3 dL_law_1183 ?_
    refine r_aload_n dL_law_1184 rfl ?_
    refine r_iload dL_law_1185 rfl ?_
    refine r_iconst (2) dL_law_1187 (by decide) ?_
    refine r_iadd dL_law_1188 ?_
    refine r_sld (k := 6 * j + 2) (nadd rfl kn_2) (by omega) hL3 dL_law_1189 ?_
    refine r_if_eq 1197 dL_law_1190 (by decide) (fun _ => ?_) (fun c9 => absurd hy c9)
    refine r_iconst (0) dL_law_1197 (by decide) ?_
    refine q_callT2 (cv_X9_coolLeft ml_L_260) w1.1 kc_723 (by decide) rfl (rmL rfl (by show cs.1 + 1 + 0 ≤ _; omega) (by show cs.2 + 6 + 0 ≤ _; omega)) (Nat.le_of_ble_eq_true rfl) dL_law_1198 (c_X9_coolLeft (hW := w1.1) (hm := w1.2.2.1) (hO := hp.1.1) (hm28 := (by omega))) (fun v2 h2 ty2 p2 => ?_)
    obtain ⟨rfl, p3⟩ := p2
    obtain rfl := p3 hz
    have w2 := st_si (c := cd1 (okP r (gX G (6 * j + 1)))) w1 hp
    have ht : ∀ {H : AH}, aI (sI H 723 12 (nI (cd1 (okP r (gX G (6 * j + 1)))))) 723 12 = nI (cd1 (okP r (gX G (6 * j + 1)))) := sI_s
    refine r_istore (ls2 := [some (.ref 0), some (.ref 1), some (.ref 723), some (.ref 737), some (.ref 738), some (.int (nI (6 * j))), _, some _, _]) dL_law_1201 (by decide) rfl ?_
    refine r_aload_n dL_law_1203 rfl ?_
    refine q_callT0 (cv_X9_thrown ml_L_222) w2.1 kc_723 (by decide) rfl (rmL rfl (by show cs.1 + 1 + 0 + 0 ≤ _; omega) (by show cs.2 + 6 + 0 + 0 ≤ _; omega)) (Nat.le_of_ble_eq_true rfl) dL_law_1204 (c_X9_thrown w2.1) (fun v5 h5 _ q5 => ?_)
    obtain ⟨rfl, rfl⟩ := q5
    refine r_iload dL_law_1207 rfl ?_
    refine r_icmp_eq 1214 dL_law_1209 (by decide) (fun _ => ?_) (fun c9 => absurd ht c9)
    refine r_iload dL_law_1214 rfl ?_
    refine r_if_ne 1231 dL_law_1216 (by decide) (fun c9 => absurd (by rw [hz]; rfl) c9) (fun _ => ?_)
    refine r_aload_n dL_law_1219 rfl ?_
    refine r_iconst (0) dL_law_1220 (by decide) ?_
    refine q_lald (k := 0) w2.1 kc_737 kn_0 (by decide) (by decide) dL_law_1221 ?_
    rw [ho2]
    refine r_iload dL_law_1222 rfl ?_
    refine r_i2l dL_law_1224 ?_
    refine r_lcmp dL_law_1225 ?_
    refine r_if_eq 1231 dL_law_1226 (by decide) (fun _ => ?_) (fun c9 => absurd lg_cmp_s c9)
    refine r_goto 4127 dL_law_1231 (by decide) ?_
    exact kk _ _ _ _ _ _ _ _ _ _ _ _ _ _ w2 hp2 (by show cs.1 + 1 + 0 ≤ _; omega) (by show cs.2 + 6 + 0 ≤ _; omega)
  · obtain rfl := q2 hz
    have w1 := w
    refine r_istore (ls2 := [some (.ref 0), some (.ref 1), some (.ref 723), some (.ref 737), some (.ref 738), some (.int (nI (6 * j))), some _, _, _]) dL_law_1175 (by decide) rfl ?_
    refine r_aload_n dL_law_1177 rfl ?_
    refine r_aload_n dL_law_1178 rfl ?_
    refine r_iload dL_law_1179 rfl ?_
    refine r_iconst (1) dL_law_1181 (by decide) ?_
    refine r_iadd dL_law_1182 ?_
    refine r_sld (k := 6 * j + 1) (nadd rfl kn_1) (by omega) hL3 dL_law_1183 ?_
    refine r_aload_n dL_law_1184 rfl ?_
    refine r_iload dL_law_1185 rfl ?_
    refine r_iconst (2) dL_law_1187 (by decide) ?_
    refine r_iadd dL_law_1188 ?_
    refine r_sld (k := 6 * j + 2) (nadd rfl kn_2) (by omega) hL3 dL_law_1189 ?_
    refine r_if_eq 1197 dL_law_1190 (by decide) (fun _ => ?_) (fun c9 => absurd hy c9)
    refine r_iconst (0) dL_law_1197 (by decide) ?_
    refine q_callT2 (cv_X9_coolLeft ml_L_260) w1.1 kc_723 (by decide) rfl (rmL rfl (by show cs.1 + 1 + 0 ≤ _; omega) (by show cs.2 + 6 + 0 ≤ _; omega)) (Nat.le_of_ble_eq_true rfl) dL_law_1198 (c_X9_coolLeft (hW := w1.1) (hm := w1.2.2.1) (hO := hp.1.1) (hm28 := (by omega))) (fun v2 h2 ty2 p2 => ?_)
    obtain ⟨y2, rfl⟩ : ∃ x, v2 = some (.int x) := ty2
    obtain ⟨rfl, -⟩ := p2
    have w2 := st_si (c := cd1 (okP r (gX G (6 * j + 1)))) w1 hp
    have ht : ∀ {H : AH}, aI (sI H 723 12 (nI (cd1 (okP r (gX G (6 * j + 1)))))) 723 12 = nI (cd1 (okP r (gX G (6 * j + 1)))) := sI_s
    refine r_istore (ls2 := [some (.ref 0), some (.ref 1), some (.ref 723), some (.ref 737), some (.ref 738), some (.int (nI (6 * j))), _, some _, _]) dL_law_1201 (by decide) rfl ?_
    refine r_aload_n dL_law_1203 rfl ?_
    refine q_callT0 (cv_X9_thrown ml_L_222) w2.1 kc_723 (by decide) rfl (rmL rfl (by show cs.1 + 1 + 0 + 0 ≤ _; omega) (by show cs.2 + 6 + 0 + 0 ≤ _; omega)) (Nat.le_of_ble_eq_true rfl) dL_law_1204 (c_X9_thrown w2.1) (fun v5 h5 _ q5 => ?_)
    obtain ⟨rfl, rfl⟩ := q5
    refine r_iload dL_law_1207 rfl ?_
    refine r_icmp_eq 1214 dL_law_1209 (by decide) (fun _ => ?_) (fun c9 => absurd ht c9)
    refine r_iload dL_law_1214 rfl ?_
    refine r_if_ne 1231 dL_law_1216 (by decide) (fun _ => ?_) (fun c9 => absurd c9 (nI_nz hz (by have := (show cd1 (okP r (gX G (6 * j + 1))) ≤ 4 from Nat.le_trans cd1_le (by decide)); omega)))
    refine r_goto 4127 dL_law_1231 (by decide) ?_
    exact kk _ _ _ _ _ _ _ _ _ _ _ _ _ _ w2 hp.nx (by show cs.1 + 1 + 0 ≤ _; omega) (by show cs.2 + 6 + 0 ≤ _; omega)
set_option maxRecDepth 100000 in
set_option maxHeartbeats 4000000 in
theorem law_16_1 {l9 : Launch} {G : GC} {Fi : CX → State → Prop} {h : AH} {r s : Row} {L : List Row} {sv : Bool} {b : Nat → Int32} {n j : Nat} {o : Ob} {er eo : Int32} {l6 l7 l8 : Option Value} {cs : Nat × Nat} (hG : GOK G) (hj : 6 * j + 6 ≤ gL G) (hL3 : gL G ≤ 3072) (hy : ¬ gX G (6 * j + 2) = 0) (w : StL h r L r L s sv b n o er eo) (hp : LvP r L s sv b n (300 * j)) (hc1 : cs.1 ≤ 800 + 60 * j) (hc2 : cs.2 ≤ 40000 + 400 * j) (kk : LNx l9 G Fi j) : PW l9 G mL_law room_1 Fi NT 1150 [some (.ref 0), some (.ref 1), some (.ref 723), some (.ref 737), some (.ref 738), some (.int (nI (6 * j))), l6, l7, l8] [] cs h := by
  have hb9 : 300 * j + 300 < 2 ^ 23 := by omega
  refine r_aload_n dL_law_1150 rfl ?_
  refine r_aload_n dL_law_1151 rfl ?_
  refine r_iload dL_law_1152 rfl ?_
  refine r_iconst (1) dL_law_1154 (by decide) ?_
  refine r_iadd dL_law_1155 ?_
  refine r_sld (k := 6 * j + 1) (nadd rfl kn_1) (by omega) hL3 dL_law_1156 ?_
  refine r_aload_n dL_law_1157 rfl ?_
  refine r_iload dL_law_1158 rfl ?_
  refine r_iconst (2) dL_law_1160 (by decide) ?_
  refine r_iadd dL_law_1161 ?_
  refine r_sld (k := 6 * j + 2) (nadd rfl kn_2) (by omega) hL3 dL_law_1162 ?_
  refine r_if_eq 1170 dL_law_1163 (by decide) (fun c9 => absurd c9 hy) (fun _ => ?_)
  refine r_iconst (1) dL_law_1166 (by decide) ?_
  refine r_goto 1171 dL_law_1167 (by decide) ?_
  refine r_aload_n dL_law_1171 rfl ?_
  refine r_callSH4 cs_L_coolLeft (rmL rfl (by show cs.1 + 1 ≤ _; omega) (by show cs.2 + 6 ≤ _; omega)) (Nat.le_of_ble_eq_true rfl) dL_law_1172 (c_L_coolLeft hG w.1 cd1_le (c_X8_coolLeft (hW := w.1) (hs := w.2.1.1) (hO := hp.1.1)) (fun _ e9 => by rw [e9]; exact w.1)) (fun v1 h1 q1 => ?_)
  obtain ⟨rfl, q2, q3⟩ := q1
  by_cases hz : cd1 (okP r (gX G (6 * j + 1))) = 0
  · obtain ⟨h3, q4, rfl⟩ := q3 hz
    obtain rfl := q4
    have hp2 := hp.nx
    have w1 := st_out (v := ((clL (fP r (gX G (6 * j + 1))) (r.1 1) 1)).toInt64) w hp
    have ho2 : ∀ {H : AH}, aJ (sI (sJ H 737 0 (((clL (fP r (gX G (6 * j + 1))) (r.1 1) 1)).toInt64)) 723 12 (nI (cd1 (okP r (gX G (6 * j + 1)))))) 737 0 = ((clL (fP r (gX G (6 * j + 1))) (r.1 1) 1)).toInt64 := sJ_at0
    refine r_istore (ls2 := [some (.ref 0), some (.ref 1), some (.ref 723), some (.ref 737), some (.ref 738), some (.int (nI (6 * j))), some _, _, _]) dL_law_1175 (by decide) rfl ?_
    refine r_aload_n dL_law_1177 rfl ?_
    refine r_aload_n dL_law_1178 rfl ?_
    refine r_iload dL_law_1179 rfl ?_
    refine r_iconst (1) dL_law_1181 (by decide) ?_
    refine r_iadd dL_law_1182 ?_
    refine r_sld (k := 6 * j + 1) (nadd rfl kn_1) (by omega) hL3 dL_law_1183 ?_
    refine r_aload_n dL_law_1184 rfl ?_
    refine r_iload dL_law_1185 rfl ?_
    refine r_iconst (2) dL_law_1187 (by decide) ?_
    refine r_iadd dL_law_1188 ?_
    refine r_sld (k := 6 * j + 2) (nadd rfl kn_2) (by omega) hL3 dL_law_1189 ?_
    refine r_if_eq 1197 dL_law_1190 (by decide) (fun c9 => absurd c9 hy) (fun _ => ?_)
    refine r_iconst (1) dL_law_1193 (by decide) ?_
    refine r_goto 1198 dL_law_1194 (by decide) ?_
    refine q_callT2 (cv_X9_coolLeft ml_L_260) w1.1 kc_723 (by decide) rfl (rmL rfl (by show cs.1 + 1 + 0 ≤ _; omega) (by show cs.2 + 6 + 0 ≤ _; omega)) (Nat.le_of_ble_eq_true rfl) dL_law_1198 (c_X9_coolLeft (hW := w1.1) (hm := w1.2.2.1) (hO := hp.1.1) (hm28 := (by omega))) (fun v2 h2 ty2 p2 => ?_)
    obtain ⟨rfl, p3⟩ := p2
    obtain rfl := p3 hz
    have w2 := st_si (c := cd1 (okP r (gX G (6 * j + 1)))) w1 hp
    have ht : ∀ {H : AH}, aI (sI H 723 12 (nI (cd1 (okP r (gX G (6 * j + 1)))))) 723 12 = nI (cd1 (okP r (gX G (6 * j + 1)))) := sI_s
    refine r_istore (ls2 := [some (.ref 0), some (.ref 1), some (.ref 723), some (.ref 737), some (.ref 738), some (.int (nI (6 * j))), _, some _, _]) dL_law_1201 (by decide) rfl ?_
    refine r_aload_n dL_law_1203 rfl ?_
    refine q_callT0 (cv_X9_thrown ml_L_222) w2.1 kc_723 (by decide) rfl (rmL rfl (by show cs.1 + 1 + 0 + 0 ≤ _; omega) (by show cs.2 + 6 + 0 + 0 ≤ _; omega)) (Nat.le_of_ble_eq_true rfl) dL_law_1204 (c_X9_thrown w2.1) (fun v5 h5 _ q5 => ?_)
    obtain ⟨rfl, rfl⟩ := q5
    refine r_iload dL_law_1207 rfl ?_
    refine r_icmp_eq 1214 dL_law_1209 (by decide) (fun _ => ?_) (fun c9 => absurd ht c9)
    refine r_iload dL_law_1214 rfl ?_
    refine r_if_ne 1231 dL_law_1216 (by decide) (fun c9 => absurd (by rw [hz]; rfl) c9) (fun _ => ?_)
    refine r_aload_n dL_law_1219 rfl ?_
    refine r_iconst (0) dL_law_1220 (by decide) ?_
    refine q_lald (k := 0) w2.1 kc_737 kn_0 (by decide) (by decide) dL_law_1221 ?_
    rw [ho2]
    refine r_iload dL_law_1222 rfl ?_
    refine r_i2l dL_law_1224 ?_
    refine r_lcmp dL_law_1225 ?_
    refine r_if_eq 1231 dL_law_1226 (by decide) (fun _ => ?_) (fun c9 => absurd lg_cmp_s c9)
    refine r_goto 4127 dL_law_1231 (by decide) ?_
    exact kk _ _ _ _ _ _ _ _ _ _ _ _ _ _ w2 hp2 (by show cs.1 + 1 + 0 ≤ _; omega) (by show cs.2 + 6 + 0 ≤ _; omega)
  · obtain rfl := q2 hz
    have w1 := w
    refine r_istore (ls2 := [some (.ref 0), some (.ref 1), some (.ref 723), some (.ref 737), some (.ref 738), some (.int (nI (6 * j))), some _, _, _]) dL_law_1175 (by decide) rfl ?_
    refine r_aload_n dL_law_1177 rfl ?_
    refine r_aload_n dL_law_1178 rfl ?_
    refine r_iload dL_law_1179 rfl ?_
    refine r_iconst (1) dL_law_1181 (by decide) ?_
    refine r_iadd dL_law_1182 ?_
    refine r_sld (k := 6 * j + 1) (nadd rfl kn_1) (by omega) hL3 dL_law_1183 ?_
    refine r_aload_n dL_law_1184 rfl ?_
    refine r_iload dL_law_1185 rfl ?_
    refine r_iconst (2) dL_law_1187 (by decide) ?_
    refine r_iadd dL_law_1188 ?_
    refine r_sld (k := 6 * j + 2) (nadd rfl kn_2) (by omega) hL3 dL_law_1189 ?_
    refine r_if_eq 1197 dL_law_1190 (by decide) (fun c9 => absurd c9 hy) (fun _ => ?_)
    refine r_iconst (1) dL_law_1193 (by decide) ?_
    refine r_goto 1198 dL_law_1194 (by decide) ?_
    refine q_callT2 (cv_X9_coolLeft ml_L_260) w1.1 kc_723 (by decide) rfl (rmL rfl (by show cs.1 + 1 + 0 ≤ _; omega) (by show cs.2 + 6 + 0 ≤ _; omega)) (Nat.le_of_ble_eq_true rfl) dL_law_1198 (c_X9_coolLeft (hW := w1.1) (hm := w1.2.2.1) (hO := hp.1.1) (hm28 := (by omega))) (fun v2 h2 ty2 p2 => ?_)
    obtain ⟨y2, rfl⟩ : ∃ x, v2 = some (.int x) := ty2
    obtain ⟨rfl, -⟩ := p2
    have w2 := st_si (c := cd1 (okP r (gX G (6 * j + 1)))) w1 hp
    have ht : ∀ {H : AH}, aI (sI H 723 12 (nI (cd1 (okP r (gX G (6 * j + 1)))))) 723 12 = nI (cd1 (okP r (gX G (6 * j + 1)))) := sI_s
    refine r_istore (ls2 := [some (.ref 0), some (.ref 1), some (.ref 723), some (.ref 737), some (.ref 738), some (.int (nI (6 * j))), _, some _, _]) dL_law_1201 (by decide) rfl ?_
    refine r_aload_n dL_law_1203 rfl ?_
    refine q_callT0 (cv_X9_thrown ml_L_222) w2.1 kc_723 (by decide) rfl (rmL rfl (by show cs.1 + 1 + 0 + 0 ≤ _; omega) (by show cs.2 + 6 + 0 + 0 ≤ _; omega)) (Nat.le_of_ble_eq_true rfl) dL_law_1204 (c_X9_thrown w2.1) (fun v5 h5 _ q5 => ?_)
    obtain ⟨rfl, rfl⟩ := q5
    refine r_iload dL_law_1207 rfl ?_
    refine r_icmp_eq 1214 dL_law_1209 (by decide) (fun _ => ?_) (fun c9 => absurd ht c9)
    refine r_iload dL_law_1214 rfl ?_
    refine r_if_ne 1231 dL_law_1216 (by decide) (fun _ => ?_) (fun c9 => absurd c9 (nI_nz hz (by have := (show cd1 (okP r (gX G (6 * j + 1))) ≤ 4 from Nat.le_trans cd1_le (by decide)); omega)))
    refine r_goto 4127 dL_law_1231 (by decide) ?_
    exact kk _ _ _ _ _ _ _ _ _ _ _ _ _ _ w2 hp.nx (by show cs.1 + 1 + 0 ≤ _; omega) (by show cs.2 + 6 + 0 ≤ _; omega)
theorem cs_L_served : CStH RL 261 mL_served 3 := ⟨ml_L_261, (tgI 1044 (by decide +kernel) rfl), (tgI 98 (by decide +kernel) rfl), (tgI 1045 (by decide +kernel) rfl), ok_L_served⟩
set_option maxRecDepth 100000 in
set_option maxHeartbeats 4000000 in
theorem law_17 {l9 : Launch} {G : GC} {Fi : CX → State → Prop} {h : AH} {r s : Row} {L : List Row} {sv : Bool} {b : Nat → Int32} {n j : Nat} {o : Ob} {er eo : Int32} {l6 l7 l8 : Option Value} {cs : Nat × Nat} (hG : GOK G) (hj : 6 * j + 6 ≤ gL G) (hL3 : gL G ≤ 3072) (w : StL h r L r L s sv b n o er eo) (hp : LvP r L s sv b n (300 * j)) (hc1 : cs.1 ≤ 800 + 60 * j) (hc2 : cs.2 ≤ 40000 + 400 * j) (kk : LNx l9 G Fi j) : PW l9 G mL_law room_1 Fi NT 1234 [some (.ref 0), some (.ref 1), some (.ref 723), some (.ref 737), some (.ref 738), some (.int (nI (6 * j))), l6, l7, l8] [] cs h := by
  have hb9 : 300 * j + 300 < 2 ^ 23 := by omega
  refine r_aload_n dL_law_1234 rfl ?_
  refine r_aload_n dL_law_1235 rfl ?_
  refine r_iload dL_law_1236 rfl ?_
  refine r_iconst (1) dL_law_1238 (by decide) ?_
  refine r_iadd dL_law_1239 ?_
  refine r_sld (k := 6 * j + 1) (nadd rfl kn_1) (by omega) hL3 dL_law_1240 ?_
  refine r_aload_n dL_law_1241 rfl ?_
  refine r_callSH3 cs_L_served (rmL rfl (by show cs.1 + 1 ≤ _; omega) (by show cs.2 + 6 ≤ _; omega)) (Nat.le_of_ble_eq_true rfl) dL_law_1242 (c_L_served hG w.1 cd1_le (c_X8_served (hW := w.1) (hs := w.2.1.1) (hO := hp.1.1)) (fun _ e9 => by rw [e9]; exact w.1)) (fun v1 h1 q1 => ?_)
  obtain ⟨rfl, q2, q3⟩ := q1
  by_cases hz : cd1 (okP r (gX G (6 * j + 1))) = 0
  · obtain ⟨h3, q4, rfl⟩ := q3 hz
    obtain rfl := q4
    have hp2 := hp.nx
    have w1 := st_out (v := ((gP r (gX G (6 * j + 1))) 0)) w hp
    have ho2 : ∀ {H : AH}, aJ (sI (sJ H 737 0 (((gP r (gX G (6 * j + 1))) 0))) 723 12 (nI (cd1 (okP r (gX G (6 * j + 1)))))) 737 0 = ((gP r (gX G (6 * j + 1))) 0) := sJ_at0
    refine r_istore (ls2 := [some (.ref 0), some (.ref 1), some (.ref 723), some (.ref 737), some (.ref 738), some (.int (nI (6 * j))), some _, _, _]) dL_law_1245 (by decide) rfl ?_
    refine r_aload_n dL_law_1247 rfl ?_
    refine r_aload_n dL_law_1248 rfl ?_
    refine r_iload dL_law_1249 rfl ?_
    refine r_iconst (1) dL_law_1251 (by decide) ?_
    refine r_iadd dL_law_1252 ?_
    refine r_sld (k := 6 * j + 1) (nadd rfl kn_1) (by omega) hL3 dL_law_1253 ?_
    refine q_callT1 (cv_X9_served ml_L_263) w1.1 kc_723 (by decide) rfl (rmL rfl (by show cs.1 + 1 + 0 ≤ _; omega) (by show cs.2 + 6 + 0 ≤ _; omega)) (Nat.le_of_ble_eq_true rfl) dL_law_1254 (c_X9_served (hW := w1.1) (hm := w1.2.2.1) (hO := hp.1.1) (hm28 := (by omega))) (fun v2 h2 ty2 p2 => ?_)
    obtain ⟨rfl, p3⟩ := p2
    obtain rfl := p3 hz
    have w2 := st_si (c := cd1 (okP r (gX G (6 * j + 1)))) w1 hp
    have ht : ∀ {H : AH}, aI (sI H 723 12 (nI (cd1 (okP r (gX G (6 * j + 1)))))) 723 12 = nI (cd1 (okP r (gX G (6 * j + 1)))) := sI_s
    refine r_lstore (ls2 := [some (.ref 0), some (.ref 1), some (.ref 723), some (.ref 737), some (.ref 738), some (.int (nI (6 * j))), _, some _, none]) dL_law_1257 (by decide) rfl ?_
    refine r_aload_n dL_law_1259 rfl ?_
    refine q_callT0 (cv_X9_thrown ml_L_222) w2.1 kc_723 (by decide) rfl (rmL rfl (by show cs.1 + 1 + 0 + 0 ≤ _; omega) (by show cs.2 + 6 + 0 + 0 ≤ _; omega)) (Nat.le_of_ble_eq_true rfl) dL_law_1260 (c_X9_thrown w2.1) (fun v5 h5 _ q5 => ?_)
    obtain ⟨rfl, rfl⟩ := q5
    refine r_iload dL_law_1263 rfl ?_
    refine r_icmp_eq 1270 dL_law_1265 (by decide) (fun _ => ?_) (fun c9 => absurd ht c9)
    refine r_iload dL_law_1270 rfl ?_
    refine r_if_ne 1286 dL_law_1272 (by decide) (fun c9 => absurd (by rw [hz]; rfl) c9) (fun _ => ?_)
    refine r_aload_n dL_law_1275 rfl ?_
    refine r_iconst (0) dL_law_1276 (by decide) ?_
    refine q_lald (k := 0) w2.1 kc_737 kn_0 (by decide) (by decide) dL_law_1277 ?_
    rw [ho2]
    refine r_lload dL_law_1278 rfl ?_
    refine r_lcmp dL_law_1280 ?_
    refine r_if_eq 1286 dL_law_1281 (by decide) (fun _ => ?_) (fun c9 => absurd lg_cmp_s c9)
    refine r_goto 4127 dL_law_1286 (by decide) ?_
    exact kk _ _ _ _ _ _ _ _ _ _ _ _ _ _ w2 hp2 (by show cs.1 + 1 + 0 ≤ _; omega) (by show cs.2 + 6 + 0 ≤ _; omega)
  · obtain rfl := q2 hz
    have w1 := w
    refine r_istore (ls2 := [some (.ref 0), some (.ref 1), some (.ref 723), some (.ref 737), some (.ref 738), some (.int (nI (6 * j))), some _, _, _]) dL_law_1245 (by decide) rfl ?_
    refine r_aload_n dL_law_1247 rfl ?_
    refine r_aload_n dL_law_1248 rfl ?_
    refine r_iload dL_law_1249 rfl ?_
    refine r_iconst (1) dL_law_1251 (by decide) ?_
    refine r_iadd dL_law_1252 ?_
    refine r_sld (k := 6 * j + 1) (nadd rfl kn_1) (by omega) hL3 dL_law_1253 ?_
    refine q_callT1 (cv_X9_served ml_L_263) w1.1 kc_723 (by decide) rfl (rmL rfl (by show cs.1 + 1 + 0 ≤ _; omega) (by show cs.2 + 6 + 0 ≤ _; omega)) (Nat.le_of_ble_eq_true rfl) dL_law_1254 (c_X9_served (hW := w1.1) (hm := w1.2.2.1) (hO := hp.1.1) (hm28 := (by omega))) (fun v2 h2 ty2 p2 => ?_)
    obtain ⟨y2, rfl⟩ : ∃ x, v2 = some (.long x) := ty2
    obtain ⟨rfl, -⟩ := p2
    have w2 := st_si (c := cd1 (okP r (gX G (6 * j + 1)))) w1 hp
    have ht : ∀ {H : AH}, aI (sI H 723 12 (nI (cd1 (okP r (gX G (6 * j + 1)))))) 723 12 = nI (cd1 (okP r (gX G (6 * j + 1)))) := sI_s
    refine r_lstore (ls2 := [some (.ref 0), some (.ref 1), some (.ref 723), some (.ref 737), some (.ref 738), some (.int (nI (6 * j))), _, some _, none]) dL_law_1257 (by decide) rfl ?_
    refine r_aload_n dL_law_1259 rfl ?_
    refine q_callT0 (cv_X9_thrown ml_L_222) w2.1 kc_723 (by decide) rfl (rmL rfl (by show cs.1 + 1 + 0 + 0 ≤ _; omega) (by show cs.2 + 6 + 0 + 0 ≤ _; omega)) (Nat.le_of_ble_eq_true rfl) dL_law_1260 (c_X9_thrown w2.1) (fun v5 h5 _ q5 => ?_)
    obtain ⟨rfl, rfl⟩ := q5
    refine r_iload dL_law_1263 rfl ?_
    refine r_icmp_eq 1270 dL_law_1265 (by decide) (fun _ => ?_) (fun c9 => absurd ht c9)
    refine r_iload dL_law_1270 rfl ?_
    refine r_if_ne 1286 dL_law_1272 (by decide) (fun _ => ?_) (fun c9 => absurd c9 (nI_nz hz (by have := (show cd1 (okP r (gX G (6 * j + 1))) ≤ 4 from Nat.le_trans cd1_le (by decide)); omega)))
    refine r_goto 4127 dL_law_1286 (by decide) ?_
    exact kk _ _ _ _ _ _ _ _ _ _ _ _ _ _ w2 hp.nx (by show cs.1 + 1 + 0 ≤ _; omega) (by show cs.2 + 6 + 0 ≤ _; omega)
theorem cs_L_missed : CStH RL 264 mL_missed 3 := ⟨ml_L_264, (tgI 1051 (by decide +kernel) rfl), (tgI 98 (by decide +kernel) rfl), (tgI 1052 (by decide +kernel) rfl), ok_L_missed⟩
set_option maxRecDepth 100000 in
set_option maxHeartbeats 4000000 in
theorem law_18 {l9 : Launch} {G : GC} {Fi : CX → State → Prop} {h : AH} {r s : Row} {L : List Row} {sv : Bool} {b : Nat → Int32} {n j : Nat} {o : Ob} {er eo : Int32} {l6 l7 l8 : Option Value} {cs : Nat × Nat} (hG : GOK G) (hj : 6 * j + 6 ≤ gL G) (hL3 : gL G ≤ 3072) (w : StL h r L r L s sv b n o er eo) (hp : LvP r L s sv b n (300 * j)) (hc1 : cs.1 ≤ 800 + 60 * j) (hc2 : cs.2 ≤ 40000 + 400 * j) (kk : LNx l9 G Fi j) : PW l9 G mL_law room_1 Fi NT 1289 [some (.ref 0), some (.ref 1), some (.ref 723), some (.ref 737), some (.ref 738), some (.int (nI (6 * j))), l6, l7, l8] [] cs h := by
  have hb9 : 300 * j + 300 < 2 ^ 23 := by omega
  refine r_aload_n dL_law_1289 rfl ?_
  refine r_aload_n dL_law_1290 rfl ?_
  refine r_iload dL_law_1291 rfl ?_
  refine r_iconst (1) dL_law_1293 (by decide) ?_
  refine r_iadd dL_law_1294 ?_
  refine r_sld (k := 6 * j + 1) (nadd rfl kn_1) (by omega) hL3 dL_law_1295 ?_
  refine r_aload_n dL_law_1296 rfl ?_
  refine r_callSH3 cs_L_missed (rmL rfl (by show cs.1 + 1 ≤ _; omega) (by show cs.2 + 6 ≤ _; omega)) (Nat.le_of_ble_eq_true rfl) dL_law_1297 (c_L_missed hG w.1 cd1_le (c_X8_missed (hW := w.1) (hs := w.2.1.1) (hO := hp.1.1)) (fun _ e9 => by rw [e9]; exact w.1)) (fun v1 h1 q1 => ?_)
  obtain ⟨rfl, q2, q3⟩ := q1
  by_cases hz : cd1 (okP r (gX G (6 * j + 1))) = 0
  · obtain ⟨h3, q4, rfl⟩ := q3 hz
    obtain rfl := q4
    have hp2 := hp.nx
    have w1 := st_out (v := ((gP r (gX G (6 * j + 1))) 1)) w hp
    have ho2 : ∀ {H : AH}, aJ (sI (sJ H 737 0 (((gP r (gX G (6 * j + 1))) 1))) 723 12 (nI (cd1 (okP r (gX G (6 * j + 1)))))) 737 0 = ((gP r (gX G (6 * j + 1))) 1) := sJ_at0
    refine r_istore (ls2 := [some (.ref 0), some (.ref 1), some (.ref 723), some (.ref 737), some (.ref 738), some (.int (nI (6 * j))), some _, _, _]) dL_law_1300 (by decide) rfl ?_
    refine r_aload_n dL_law_1302 rfl ?_
    refine r_aload_n dL_law_1303 rfl ?_
    refine r_iload dL_law_1304 rfl ?_
    refine r_iconst (1) dL_law_1306 (by decide) ?_
    refine r_iadd dL_law_1307 ?_
    refine r_sld (k := 6 * j + 1) (nadd rfl kn_1) (by omega) hL3 dL_law_1308 ?_
    refine q_callT1 (cv_X9_missed ml_L_266) w1.1 kc_723 (by decide) rfl (rmL rfl (by show cs.1 + 1 + 0 ≤ _; omega) (by show cs.2 + 6 + 0 ≤ _; omega)) (Nat.le_of_ble_eq_true rfl) dL_law_1309 (c_X9_missed (hW := w1.1) (hm := w1.2.2.1) (hO := hp.1.1) (hm28 := (by omega))) (fun v2 h2 ty2 p2 => ?_)
    obtain ⟨rfl, p3⟩ := p2
    obtain rfl := p3 hz
    have w2 := st_si (c := cd1 (okP r (gX G (6 * j + 1)))) w1 hp
    have ht : ∀ {H : AH}, aI (sI H 723 12 (nI (cd1 (okP r (gX G (6 * j + 1)))))) 723 12 = nI (cd1 (okP r (gX G (6 * j + 1)))) := sI_s
    refine r_lstore (ls2 := [some (.ref 0), some (.ref 1), some (.ref 723), some (.ref 737), some (.ref 738), some (.int (nI (6 * j))), _, some _, none]) dL_law_1312 (by decide) rfl ?_
    refine r_aload_n dL_law_1314 rfl ?_
    refine q_callT0 (cv_X9_thrown ml_L_222) w2.1 kc_723 (by decide) rfl (rmL rfl (by show cs.1 + 1 + 0 + 0 ≤ _; omega) (by show cs.2 + 6 + 0 + 0 ≤ _; omega)) (Nat.le_of_ble_eq_true rfl) dL_law_1315 (c_X9_thrown w2.1) (fun v5 h5 _ q5 => ?_)
    obtain ⟨rfl, rfl⟩ := q5
    refine r_iload dL_law_1318 rfl ?_
    refine r_icmp_eq 1325 dL_law_1320 (by decide) (fun _ => ?_) (fun c9 => absurd ht c9)
    refine r_iload dL_law_1325 rfl ?_
    refine r_if_ne 1341 dL_law_1327 (by decide) (fun c9 => absurd (by rw [hz]; rfl) c9) (fun _ => ?_)
    refine r_aload_n dL_law_1330 rfl ?_
    refine r_iconst (0) dL_law_1331 (by decide) ?_
    refine q_lald (k := 0) w2.1 kc_737 kn_0 (by decide) (by decide) dL_law_1332 ?_
    rw [ho2]
    refine r_lload dL_law_1333 rfl ?_
    refine r_lcmp dL_law_1335 ?_
    refine r_if_eq 1341 dL_law_1336 (by decide) (fun _ => ?_) (fun c9 => absurd lg_cmp_s c9)
    refine r_goto 4127 dL_law_1341 (by decide) ?_
    exact kk _ _ _ _ _ _ _ _ _ _ _ _ _ _ w2 hp2 (by show cs.1 + 1 + 0 ≤ _; omega) (by show cs.2 + 6 + 0 ≤ _; omega)
  · obtain rfl := q2 hz
    have w1 := w
    refine r_istore (ls2 := [some (.ref 0), some (.ref 1), some (.ref 723), some (.ref 737), some (.ref 738), some (.int (nI (6 * j))), some _, _, _]) dL_law_1300 (by decide) rfl ?_
    refine r_aload_n dL_law_1302 rfl ?_
    refine r_aload_n dL_law_1303 rfl ?_
    refine r_iload dL_law_1304 rfl ?_
    refine r_iconst (1) dL_law_1306 (by decide) ?_
    refine r_iadd dL_law_1307 ?_
    refine r_sld (k := 6 * j + 1) (nadd rfl kn_1) (by omega) hL3 dL_law_1308 ?_
    refine q_callT1 (cv_X9_missed ml_L_266) w1.1 kc_723 (by decide) rfl (rmL rfl (by show cs.1 + 1 + 0 ≤ _; omega) (by show cs.2 + 6 + 0 ≤ _; omega)) (Nat.le_of_ble_eq_true rfl) dL_law_1309 (c_X9_missed (hW := w1.1) (hm := w1.2.2.1) (hO := hp.1.1) (hm28 := (by omega))) (fun v2 h2 ty2 p2 => ?_)
    obtain ⟨y2, rfl⟩ : ∃ x, v2 = some (.long x) := ty2
    obtain ⟨rfl, -⟩ := p2
    have w2 := st_si (c := cd1 (okP r (gX G (6 * j + 1)))) w1 hp
    have ht : ∀ {H : AH}, aI (sI H 723 12 (nI (cd1 (okP r (gX G (6 * j + 1)))))) 723 12 = nI (cd1 (okP r (gX G (6 * j + 1)))) := sI_s
    refine r_lstore (ls2 := [some (.ref 0), some (.ref 1), some (.ref 723), some (.ref 737), some (.ref 738), some (.int (nI (6 * j))), _, some _, none]) dL_law_1312 (by decide) rfl ?_
    refine r_aload_n dL_law_1314 rfl ?_
    refine q_callT0 (cv_X9_thrown ml_L_222) w2.1 kc_723 (by decide) rfl (rmL rfl (by show cs.1 + 1 + 0 + 0 ≤ _; omega) (by show cs.2 + 6 + 0 + 0 ≤ _; omega)) (Nat.le_of_ble_eq_true rfl) dL_law_1315 (c_X9_thrown w2.1) (fun v5 h5 _ q5 => ?_)
    obtain ⟨rfl, rfl⟩ := q5
    refine r_iload dL_law_1318 rfl ?_
    refine r_icmp_eq 1325 dL_law_1320 (by decide) (fun _ => ?_) (fun c9 => absurd ht c9)
    refine r_iload dL_law_1325 rfl ?_
    refine r_if_ne 1341 dL_law_1327 (by decide) (fun _ => ?_) (fun c9 => absurd c9 (nI_nz hz (by have := (show cd1 (okP r (gX G (6 * j + 1))) ≤ 4 from Nat.le_trans cd1_le (by decide)); omega)))
    refine r_goto 4127 dL_law_1341 (by decide) ?_
    exact kk _ _ _ _ _ _ _ _ _ _ _ _ _ _ w2 hp.nx (by show cs.1 + 1 + 0 ≤ _; omega) (by show cs.2 + 6 + 0 ≤ _; omega)
theorem cs_L_cost : CStH RL 267 mL_cost 3 := ⟨ml_L_267, (tgI 1058 (by decide +kernel) rfl), (tgI 98 (by decide +kernel) rfl), (tgI 1059 (by decide +kernel) rfl), ok_L_cost⟩
set_option maxRecDepth 100000 in
set_option maxHeartbeats 4000000 in
theorem law_19 {l9 : Launch} {G : GC} {Fi : CX → State → Prop} {h : AH} {r s : Row} {L : List Row} {sv : Bool} {b : Nat → Int32} {n j : Nat} {o : Ob} {er eo : Int32} {l6 l7 l8 : Option Value} {cs : Nat × Nat} (hG : GOK G) (hj : 6 * j + 6 ≤ gL G) (hL3 : gL G ≤ 3072) (w : StL h r L r L s sv b n o er eo) (hp : LvP r L s sv b n (300 * j)) (hc1 : cs.1 ≤ 800 + 60 * j) (hc2 : cs.2 ≤ 40000 + 400 * j) (kk : LNx l9 G Fi j) : PW l9 G mL_law room_1 Fi NT 1344 [some (.ref 0), some (.ref 1), some (.ref 723), some (.ref 737), some (.ref 738), some (.int (nI (6 * j))), l6, l7, l8] [] cs h := by
  have hb9 : 300 * j + 300 < 2 ^ 23 := by omega
  refine r_aload_n dL_law_1344 rfl ?_
  refine r_aload_n dL_law_1345 rfl ?_
  refine r_iload dL_law_1346 rfl ?_
  refine r_iconst (1) dL_law_1348 (by decide) ?_
  refine r_iadd dL_law_1349 ?_
  refine r_sld (k := 6 * j + 1) (nadd rfl kn_1) (by omega) hL3 dL_law_1350 ?_
  refine r_aload_n dL_law_1351 rfl ?_
  refine r_callSH3 cs_L_cost (rmL rfl (by show cs.1 + 1 ≤ _; omega) (by show cs.2 + 6 ≤ _; omega)) (Nat.le_of_ble_eq_true rfl) dL_law_1352 (c_L_cost hG w.1 cd1_le (c_X8_cost (hW := w.1) (hs := w.2.1.1) (hO := hp.1.1)) (fun _ e9 => by rw [e9]; exact w.1)) (fun v1 h1 q1 => ?_)
  obtain ⟨rfl, q2, q3⟩ := q1
  by_cases hz : cd1 (okP r (gX G (6 * j + 1))) = 0
  · obtain ⟨h3, q4, rfl⟩ := q3 hz
    obtain rfl := q4
    have hp2 := hp.nx
    have w1 := st_out (v := ((gP r (gX G (6 * j + 1))) 2)) w hp
    have ho2 : ∀ {H : AH}, aJ (sI (sJ H 737 0 (((gP r (gX G (6 * j + 1))) 2))) 723 12 (nI (cd1 (okP r (gX G (6 * j + 1)))))) 737 0 = ((gP r (gX G (6 * j + 1))) 2) := sJ_at0
    refine r_istore (ls2 := [some (.ref 0), some (.ref 1), some (.ref 723), some (.ref 737), some (.ref 738), some (.int (nI (6 * j))), some _, _, _]) dL_law_1355 (by decide) rfl ?_
    refine r_aload_n dL_law_1357 rfl ?_
    refine r_aload_n dL_law_1358 rfl ?_
    refine r_iload dL_law_1359 rfl ?_
    refine r_iconst (1) dL_law_1361 (by decide) ?_
    refine r_iadd dL_law_1362 ?_
    refine r_sld (k := 6 * j + 1) (nadd rfl kn_1) (by omega) hL3 dL_law_1363 ?_
    refine q_callT1 (cv_X9_cost ml_L_269) w1.1 kc_723 (by decide) rfl (rmL rfl (by show cs.1 + 1 + 0 ≤ _; omega) (by show cs.2 + 6 + 0 ≤ _; omega)) (Nat.le_of_ble_eq_true rfl) dL_law_1364 (c_X9_cost (hW := w1.1) (hm := w1.2.2.1) (hO := hp.1.1) (hm28 := (by omega))) (fun v2 h2 ty2 p2 => ?_)
    obtain ⟨rfl, p3⟩ := p2
    obtain rfl := p3 hz
    have w2 := st_si (c := cd1 (okP r (gX G (6 * j + 1)))) w1 hp
    have ht : ∀ {H : AH}, aI (sI H 723 12 (nI (cd1 (okP r (gX G (6 * j + 1)))))) 723 12 = nI (cd1 (okP r (gX G (6 * j + 1)))) := sI_s
    refine r_lstore (ls2 := [some (.ref 0), some (.ref 1), some (.ref 723), some (.ref 737), some (.ref 738), some (.int (nI (6 * j))), _, some _, none]) dL_law_1367 (by decide) rfl ?_
    refine r_aload_n dL_law_1369 rfl ?_
    refine q_callT0 (cv_X9_thrown ml_L_222) w2.1 kc_723 (by decide) rfl (rmL rfl (by show cs.1 + 1 + 0 + 0 ≤ _; omega) (by show cs.2 + 6 + 0 + 0 ≤ _; omega)) (Nat.le_of_ble_eq_true rfl) dL_law_1370 (c_X9_thrown w2.1) (fun v5 h5 _ q5 => ?_)
    obtain ⟨rfl, rfl⟩ := q5
    refine r_iload dL_law_1373 rfl ?_
    refine r_icmp_eq 1380 dL_law_1375 (by decide) (fun _ => ?_) (fun c9 => absurd ht c9)
    refine r_iload dL_law_1380 rfl ?_
    refine r_if_ne 1396 dL_law_1382 (by decide) (fun c9 => absurd (by rw [hz]; rfl) c9) (fun _ => ?_)
    refine r_aload_n dL_law_1385 rfl ?_
    refine r_iconst (0) dL_law_1386 (by decide) ?_
    refine q_lald (k := 0) w2.1 kc_737 kn_0 (by decide) (by decide) dL_law_1387 ?_
    rw [ho2]
    refine r_lload dL_law_1388 rfl ?_
    refine r_lcmp dL_law_1390 ?_
    refine r_if_eq 1396 dL_law_1391 (by decide) (fun _ => ?_) (fun c9 => absurd lg_cmp_s c9)
    refine r_goto 4127 dL_law_1396 (by decide) ?_
    exact kk _ _ _ _ _ _ _ _ _ _ _ _ _ _ w2 hp2 (by show cs.1 + 1 + 0 ≤ _; omega) (by show cs.2 + 6 + 0 ≤ _; omega)
  · obtain rfl := q2 hz
    have w1 := w
    refine r_istore (ls2 := [some (.ref 0), some (.ref 1), some (.ref 723), some (.ref 737), some (.ref 738), some (.int (nI (6 * j))), some _, _, _]) dL_law_1355 (by decide) rfl ?_
    refine r_aload_n dL_law_1357 rfl ?_
    refine r_aload_n dL_law_1358 rfl ?_
    refine r_iload dL_law_1359 rfl ?_
    refine r_iconst (1) dL_law_1361 (by decide) ?_
    refine r_iadd dL_law_1362 ?_
    refine r_sld (k := 6 * j + 1) (nadd rfl kn_1) (by omega) hL3 dL_law_1363 ?_
    refine q_callT1 (cv_X9_cost ml_L_269) w1.1 kc_723 (by decide) rfl (rmL rfl (by show cs.1 + 1 + 0 ≤ _; omega) (by show cs.2 + 6 + 0 ≤ _; omega)) (Nat.le_of_ble_eq_true rfl) dL_law_1364 (c_X9_cost (hW := w1.1) (hm := w1.2.2.1) (hO := hp.1.1) (hm28 := (by omega))) (fun v2 h2 ty2 p2 => ?_)
    obtain ⟨y2, rfl⟩ : ∃ x, v2 = some (.long x) := ty2
    obtain ⟨rfl, -⟩ := p2
    have w2 := st_si (c := cd1 (okP r (gX G (6 * j + 1)))) w1 hp
    have ht : ∀ {H : AH}, aI (sI H 723 12 (nI (cd1 (okP r (gX G (6 * j + 1)))))) 723 12 = nI (cd1 (okP r (gX G (6 * j + 1)))) := sI_s
    refine r_lstore (ls2 := [some (.ref 0), some (.ref 1), some (.ref 723), some (.ref 737), some (.ref 738), some (.int (nI (6 * j))), _, some _, none]) dL_law_1367 (by decide) rfl ?_
    refine r_aload_n dL_law_1369 rfl ?_
    refine q_callT0 (cv_X9_thrown ml_L_222) w2.1 kc_723 (by decide) rfl (rmL rfl (by show cs.1 + 1 + 0 + 0 ≤ _; omega) (by show cs.2 + 6 + 0 + 0 ≤ _; omega)) (Nat.le_of_ble_eq_true rfl) dL_law_1370 (c_X9_thrown w2.1) (fun v5 h5 _ q5 => ?_)
    obtain ⟨rfl, rfl⟩ := q5
    refine r_iload dL_law_1373 rfl ?_
    refine r_icmp_eq 1380 dL_law_1375 (by decide) (fun _ => ?_) (fun c9 => absurd ht c9)
    refine r_iload dL_law_1380 rfl ?_
    refine r_if_ne 1396 dL_law_1382 (by decide) (fun _ => ?_) (fun c9 => absurd c9 (nI_nz hz (by have := (show cd1 (okP r (gX G (6 * j + 1))) ≤ 4 from Nat.le_trans cd1_le (by decide)); omega)))
    refine r_goto 4127 dL_law_1396 (by decide) ?_
    exact kk _ _ _ _ _ _ _ _ _ _ _ _ _ _ w2 hp.nx (by show cs.1 + 1 + 0 ≤ _; omega) (by show cs.2 + 6 + 0 ≤ _; omega)
theorem cs_L_missedShare : CStH RL 270 mL_missedShare 3 := ⟨ml_L_270, (tgI 1065 (by decide +kernel) rfl), (tgI 98 (by decide +kernel) rfl), (tgI 1066 (by decide +kernel) rfl), ok_L_missedShare⟩
set_option maxRecDepth 100000 in
set_option maxHeartbeats 4000000 in
theorem law_20 {l9 : Launch} {G : GC} {Fi : CX → State → Prop} {h : AH} {r s : Row} {L : List Row} {sv : Bool} {b : Nat → Int32} {n j : Nat} {o : Ob} {er eo : Int32} {l6 l7 l8 : Option Value} {cs : Nat × Nat} (hG : GOK G) (hj : 6 * j + 6 ≤ gL G) (hL3 : gL G ≤ 3072) (w : StL h r L r L s sv b n o er eo) (hp : LvP r L s sv b n (300 * j)) (hc1 : cs.1 ≤ 800 + 60 * j) (hc2 : cs.2 ≤ 40000 + 400 * j) (kk : LNx l9 G Fi j) : PW l9 G mL_law room_1 Fi NT 1399 [some (.ref 0), some (.ref 1), some (.ref 723), some (.ref 737), some (.ref 738), some (.int (nI (6 * j))), l6, l7, l8] [] cs h := by
  have hb9 : 300 * j + 300 < 2 ^ 23 := by omega
  refine r_aload_n dL_law_1399 rfl ?_
  refine r_aload_n dL_law_1400 rfl ?_
  refine r_iload dL_law_1401 rfl ?_
  refine r_iconst (1) dL_law_1403 (by decide) ?_
  refine r_iadd dL_law_1404 ?_
  refine r_sld (k := 6 * j + 1) (nadd rfl kn_1) (by omega) hL3 dL_law_1405 ?_
  refine r_aload dL_law_1406 rfl ?_
  refine r_callSH3 cs_L_missedShare (rmL rfl (by show cs.1 + 1 ≤ _; omega) (by show cs.2 + 6 ≤ _; omega)) (Nat.le_of_ble_eq_true rfl) dL_law_1408 (c_L_missedShare (hne := msS_n) hG w.1 cd1_le (c_X8_missedShare (hW := w.1) (hs := w.2.1.1) (hO := hp.1.1)) (fun _ e9 => by rw [e9]; exact w.1)) (fun v1 h1 q1 => ?_)
  obtain ⟨rfl, q2, q3⟩ := q1
  by_cases hz : cd1 (okP r (gX G (6 * j + 1))) = 0
  · obtain ⟨h3, q4, rfl⟩ := q3 hz
    obtain rfl := q4
    have hp2 := hp.nx
    have w1 := st_outD (v := FP.f2d ((msS (gP r (gX G (6 * j + 1)))))) w
    have ho2 : ∀ {H : AH}, aD (sI (sD H 738 0 (FP.f2d ((msS (gP r (gX G (6 * j + 1))))))) 723 12 (nI (cd1 (okP r (gX G (6 * j + 1)))))) 738 0 = FP.f2d ((msS (gP r (gX G (6 * j + 1))))) := sD_at0
    refine r_istore (ls2 := [some (.ref 0), some (.ref 1), some (.ref 723), some (.ref 737), some (.ref 738), some (.int (nI (6 * j))), some _, _, _]) dL_law_1411 (by decide) rfl ?_
    refine r_aload_n dL_law_1413 rfl ?_
    refine r_aload_n dL_law_1414 rfl ?_
    refine r_iload dL_law_1415 rfl ?_
    refine r_iconst (1) dL_law_1417 (by decide) ?_
    refine r_iadd dL_law_1418 ?_
    refine r_sld (k := 6 * j + 1) (nadd rfl kn_1) (by omega) hL3 dL_law_1419 ?_
    refine q_callT1 (cv_X9_missedShare ml_L_272) w1.1 kc_723 (by decide) rfl (rmL rfl (by show cs.1 + 1 + 0 ≤ _; omega) (by show cs.2 + 6 + 0 ≤ _; omega)) (Nat.le_of_ble_eq_true rfl) dL_law_1420 (c_X9_missedShare (hW := w1.1) (hm := w1.2.2.1) (hO := hp.1.1) (hm28 := (by omega))) (fun v2 h2 ty2 p2 => ?_)
    obtain ⟨rfl, p3⟩ := p2
    obtain rfl := p3 hz
    have w2 := st_si (c := cd1 (okP r (gX G (6 * j + 1)))) w1 hp
    have ht : ∀ {H : AH}, aI (sI H 723 12 (nI (cd1 (okP r (gX G (6 * j + 1)))))) 723 12 = nI (cd1 (okP r (gX G (6 * j + 1)))) := sI_s
    refine r_fstore (ls2 := [some (.ref 0), some (.ref 1), some (.ref 723), some (.ref 737), some (.ref 738), some (.int (nI (6 * j))), _, some _, _]) dL_law_1423 (by decide) rfl ?_
    refine r_aload_n dL_law_1425 rfl ?_
    refine q_callT0 (cv_X9_thrown ml_L_222) w2.1 kc_723 (by decide) rfl (rmL rfl (by show cs.1 + 1 + 0 + 0 ≤ _; omega) (by show cs.2 + 6 + 0 + 0 ≤ _; omega)) (Nat.le_of_ble_eq_true rfl) dL_law_1426 (c_X9_thrown w2.1) (fun v5 h5 _ q5 => ?_)
    obtain ⟨rfl, rfl⟩ := q5
    refine r_iload dL_law_1429 rfl ?_
    refine r_icmp_eq 1436 dL_law_1431 (by decide) (fun _ => ?_) (fun c9 => absurd ht c9)
    refine r_iload dL_law_1436 rfl ?_
    refine r_if_ne 1474 dL_law_1438 (by decide) (fun c9 => absurd (by rw [hz]; rfl) c9) (fun _ => ?_)
    refine r_aload dL_law_1441 rfl ?_
    refine r_iconst (0) dL_law_1443 (by decide) ?_
    refine q_dald (k := 0) w2.1 kc_738 kn_0 (by decide) (by decide) dL_law_1444 ?_
    rw [ho2]
    refine r_fload dL_law_1445 rfl ?_
    refine r_f2d dL_law_1447 msS_n ?_
    refine r_dcmp dL_law_1448 ?_
    refine r_if_eq 1474 dL_law_1449 (by decide) (fun _ => ?_) (fun c9 => absurd msS_cmp c9)
    refine r_goto 4127 dL_law_1474 (by decide) ?_
    exact kk _ _ _ _ _ _ _ _ _ _ _ _ _ _ w2 hp2 (by show cs.1 + 1 + 0 ≤ _; omega) (by show cs.2 + 6 + 0 ≤ _; omega)
  · obtain rfl := q2 hz
    have w1 := w
    refine r_istore (ls2 := [some (.ref 0), some (.ref 1), some (.ref 723), some (.ref 737), some (.ref 738), some (.int (nI (6 * j))), some _, _, _]) dL_law_1411 (by decide) rfl ?_
    refine r_aload_n dL_law_1413 rfl ?_
    refine r_aload_n dL_law_1414 rfl ?_
    refine r_iload dL_law_1415 rfl ?_
    refine r_iconst (1) dL_law_1417 (by decide) ?_
    refine r_iadd dL_law_1418 ?_
    refine r_sld (k := 6 * j + 1) (nadd rfl kn_1) (by omega) hL3 dL_law_1419 ?_
    refine q_callT1 (cv_X9_missedShare ml_L_272) w1.1 kc_723 (by decide) rfl (rmL rfl (by show cs.1 + 1 + 0 ≤ _; omega) (by show cs.2 + 6 + 0 ≤ _; omega)) (Nat.le_of_ble_eq_true rfl) dL_law_1420 (c_X9_missedShare (hW := w1.1) (hm := w1.2.2.1) (hO := hp.1.1) (hm28 := (by omega))) (fun v2 h2 ty2 p2 => ?_)
    obtain ⟨y2, rfl⟩ : ∃ x, v2 = some (.float x) := ty2
    obtain ⟨rfl, -⟩ := p2
    have w2 := st_si (c := cd1 (okP r (gX G (6 * j + 1)))) w1 hp
    have ht : ∀ {H : AH}, aI (sI H 723 12 (nI (cd1 (okP r (gX G (6 * j + 1)))))) 723 12 = nI (cd1 (okP r (gX G (6 * j + 1)))) := sI_s
    refine r_fstore (ls2 := [some (.ref 0), some (.ref 1), some (.ref 723), some (.ref 737), some (.ref 738), some (.int (nI (6 * j))), _, some _, _]) dL_law_1423 (by decide) rfl ?_
    refine r_aload_n dL_law_1425 rfl ?_
    refine q_callT0 (cv_X9_thrown ml_L_222) w2.1 kc_723 (by decide) rfl (rmL rfl (by show cs.1 + 1 + 0 + 0 ≤ _; omega) (by show cs.2 + 6 + 0 + 0 ≤ _; omega)) (Nat.le_of_ble_eq_true rfl) dL_law_1426 (c_X9_thrown w2.1) (fun v5 h5 _ q5 => ?_)
    obtain ⟨rfl, rfl⟩ := q5
    refine r_iload dL_law_1429 rfl ?_
    refine r_icmp_eq 1436 dL_law_1431 (by decide) (fun _ => ?_) (fun c9 => absurd ht c9)
    refine r_iload dL_law_1436 rfl ?_
    refine r_if_ne 1474 dL_law_1438 (by decide) (fun _ => ?_) (fun c9 => absurd c9 (nI_nz hz (by have := (show cd1 (okP r (gX G (6 * j + 1))) ≤ 4 from Nat.le_trans cd1_le (by decide)); omega)))
    refine r_goto 4127 dL_law_1474 (by decide) ?_
    exact kk _ _ _ _ _ _ _ _ _ _ _ _ _ _ w2 hp.nx (by show cs.1 + 1 + 0 ≤ _; omega) (by show cs.2 + 6 + 0 ≤ _; omega)
theorem cs_L_used : CStH RL 273 mL_used 3 := ⟨ml_L_273, (tgI 1072 (by decide +kernel) rfl), (tgI 98 (by decide +kernel) rfl), (tgI 1073 (by decide +kernel) rfl), ok_L_used⟩
set_option maxRecDepth 100000 in
set_option maxHeartbeats 4000000 in
theorem law_21 {l9 : Launch} {G : GC} {Fi : CX → State → Prop} {h : AH} {r s : Row} {L : List Row} {sv : Bool} {b : Nat → Int32} {n j : Nat} {o : Ob} {er eo : Int32} {l6 l7 l8 : Option Value} {cs : Nat × Nat} (hG : GOK G) (hj : 6 * j + 6 ≤ gL G) (hL3 : gL G ≤ 3072) (w : StL h r L r L s sv b n o er eo) (hp : LvP r L s sv b n (300 * j)) (hc1 : cs.1 ≤ 800 + 60 * j) (hc2 : cs.2 ≤ 40000 + 400 * j) (kk : LNx l9 G Fi j) : PW l9 G mL_law room_1 Fi NT 1477 [some (.ref 0), some (.ref 1), some (.ref 723), some (.ref 737), some (.ref 738), some (.int (nI (6 * j))), l6, l7, l8] [] cs h := by
  have hb9 : 300 * j + 300 < 2 ^ 23 := by omega
  refine r_aload_n dL_law_1477 rfl ?_
  refine r_aload_n dL_law_1478 rfl ?_
  refine r_iload dL_law_1479 rfl ?_
  refine r_iconst (1) dL_law_1481 (by decide) ?_
  refine r_iadd dL_law_1482 ?_
  refine r_sld (k := 6 * j + 1) (nadd rfl kn_1) (by omega) hL3 dL_law_1483 ?_
  refine r_aload dL_law_1484 rfl ?_
  refine r_callSH3 cs_L_used (rmL rfl (by show cs.1 + 1 ≤ _; omega) (by show cs.2 + 6 ≤ _; omega)) (Nat.le_of_ble_eq_true rfl) dL_law_1486 (c_L_used hG w.1 cd1_le (c_X8_used (hW := w.1) (hs := w.2.1.1) (hO := hp.1.1)) (fun _ e9 => by rw [e9]; exact w.1)) (fun v1 h1 q1 => ?_)
  obtain ⟨rfl, q2, q3⟩ := q1
  by_cases hz : cd1 (okP r (gX G (6 * j + 1))) = 0
  · obtain ⟨h3, q4, rfl⟩ := q3 hz
    obtain rfl := q4
    have hp2 := hp.nx
    have w1 := st_outD (v := (usD (gP r (gX G (6 * j + 1))))) w
    have ho2 : ∀ {H : AH}, aD (sI (sD H 738 0 ((usD (gP r (gX G (6 * j + 1)))))) 723 12 (nI (cd1 (okP r (gX G (6 * j + 1)))))) 738 0 = (usD (gP r (gX G (6 * j + 1)))) := sD_at0
    refine r_istore (ls2 := [some (.ref 0), some (.ref 1), some (.ref 723), some (.ref 737), some (.ref 738), some (.int (nI (6 * j))), some _, _, _]) dL_law_1489 (by decide) rfl ?_
    refine r_aload_n dL_law_1491 rfl ?_
    refine r_aload_n dL_law_1492 rfl ?_
    refine r_iload dL_law_1493 rfl ?_
    refine r_iconst (1) dL_law_1495 (by decide) ?_
    refine r_iadd dL_law_1496 ?_
    refine r_sld (k := 6 * j + 1) (nadd rfl kn_1) (by omega) hL3 dL_law_1497 ?_
    refine q_callT1 (cv_X9_used ml_L_275) w1.1 kc_723 (by decide) rfl (rmL rfl (by show cs.1 + 1 + 0 ≤ _; omega) (by show cs.2 + 6 + 0 ≤ _; omega)) (Nat.le_of_ble_eq_true rfl) dL_law_1498 (c_X9_used (hW := w1.1) (hm := w1.2.2.1) (hO := hp.1.1) (hm28 := (by omega))) (fun v2 h2 ty2 p2 => ?_)
    obtain ⟨rfl, p3⟩ := p2
    obtain rfl := p3 hz
    have w2 := st_si (c := cd1 (okP r (gX G (6 * j + 1)))) w1 hp
    have ht : ∀ {H : AH}, aI (sI H 723 12 (nI (cd1 (okP r (gX G (6 * j + 1)))))) 723 12 = nI (cd1 (okP r (gX G (6 * j + 1)))) := sI_s
    refine r_dstore (ls2 := [some (.ref 0), some (.ref 1), some (.ref 723), some (.ref 737), some (.ref 738), some (.int (nI (6 * j))), _, some _, none]) dL_law_1501 (by decide) rfl ?_
    refine r_aload_n dL_law_1503 rfl ?_
    refine q_callT0 (cv_X9_thrown ml_L_222) w2.1 kc_723 (by decide) rfl (rmL rfl (by show cs.1 + 1 + 0 + 0 ≤ _; omega) (by show cs.2 + 6 + 0 + 0 ≤ _; omega)) (Nat.le_of_ble_eq_true rfl) dL_law_1504 (c_X9_thrown w2.1) (fun v5 h5 _ q5 => ?_)
    obtain ⟨rfl, rfl⟩ := q5
    refine r_iload dL_law_1507 rfl ?_
    refine r_icmp_eq 1514 dL_law_1509 (by decide) (fun _ => ?_) (fun c9 => absurd ht c9)
    refine r_iload dL_law_1514 rfl ?_
    refine r_if_ne 1551 dL_law_1516 (by decide) (fun c9 => absurd (by rw [hz]; rfl) c9) (fun _ => ?_)
    refine r_aload dL_law_1519 rfl ?_
    refine r_iconst (0) dL_law_1521 (by decide) ?_
    refine q_dald (k := 0) w2.1 kc_738 kn_0 (by decide) (by decide) dL_law_1522 ?_
    rw [ho2]
    refine r_dload dL_law_1523 rfl ?_
    refine r_dcmp dL_law_1525 ?_
    refine r_if_eq 1551 dL_law_1526 (by decide) (fun c0 => ?_) (fun c0 => ?_)
    · skip
      refine r_goto 4127 dL_law_1551 (by decide) ?_
      exact kk _ _ _ _ _ _ _ _ _ _ _ _ _ _ w2 hp2 (by show cs.1 + 1 + 0 ≤ _; omega) (by show cs.2 + 6 + 0 ≤ _; omega)
    · skip
      refine r_aload dL_law_1529 rfl ?_
      refine r_iconst (0) dL_law_1531 (by decide) ?_
      refine q_dald (k := 0) w2.1 kc_738 kn_0 (by decide) (by decide) dL_law_1532 ?_
      rw [ho2]
      refine r_aload dL_law_1533 rfl ?_
      refine r_iconst (0) dL_law_1535 (by decide) ?_
      refine q_dald (k := 0) w2.1 kc_738 kn_0 (by decide) (by decide) dL_law_1536 ?_
      rw [ho2]
      refine r_dcmp dL_law_1537 ?_
      refine r_if_eq 1549 dL_law_1538 (by decide) (fun c9 => absurd c9 c0) (fun _ => ?_)
      refine r_dload dL_law_1541 rfl ?_
      refine r_dload dL_law_1543 rfl ?_
      refine r_dcmp dL_law_1545 ?_
      refine r_if_ne 1551 dL_law_1546 (by decide) (fun _ => ?_) (fun c9 => absurd c9 c0)
      refine r_goto 4127 dL_law_1551 (by decide) ?_
      exact kk _ _ _ _ _ _ _ _ _ _ _ _ _ _ w2 hp2 (by show cs.1 + 1 + 0 ≤ _; omega) (by show cs.2 + 6 + 0 ≤ _; omega)
  · obtain rfl := q2 hz
    have w1 := w
    refine r_istore (ls2 := [some (.ref 0), some (.ref 1), some (.ref 723), some (.ref 737), some (.ref 738), some (.int (nI (6 * j))), some _, _, _]) dL_law_1489 (by decide) rfl ?_
    refine r_aload_n dL_law_1491 rfl ?_
    refine r_aload_n dL_law_1492 rfl ?_
    refine r_iload dL_law_1493 rfl ?_
    refine r_iconst (1) dL_law_1495 (by decide) ?_
    refine r_iadd dL_law_1496 ?_
    refine r_sld (k := 6 * j + 1) (nadd rfl kn_1) (by omega) hL3 dL_law_1497 ?_
    refine q_callT1 (cv_X9_used ml_L_275) w1.1 kc_723 (by decide) rfl (rmL rfl (by show cs.1 + 1 + 0 ≤ _; omega) (by show cs.2 + 6 + 0 ≤ _; omega)) (Nat.le_of_ble_eq_true rfl) dL_law_1498 (c_X9_used (hW := w1.1) (hm := w1.2.2.1) (hO := hp.1.1) (hm28 := (by omega))) (fun v2 h2 ty2 p2 => ?_)
    obtain ⟨y2, rfl⟩ : ∃ x, v2 = some (.double x) := ty2
    obtain ⟨rfl, -⟩ := p2
    have w2 := st_si (c := cd1 (okP r (gX G (6 * j + 1)))) w1 hp
    have ht : ∀ {H : AH}, aI (sI H 723 12 (nI (cd1 (okP r (gX G (6 * j + 1)))))) 723 12 = nI (cd1 (okP r (gX G (6 * j + 1)))) := sI_s
    refine r_dstore (ls2 := [some (.ref 0), some (.ref 1), some (.ref 723), some (.ref 737), some (.ref 738), some (.int (nI (6 * j))), _, some _, none]) dL_law_1501 (by decide) rfl ?_
    refine r_aload_n dL_law_1503 rfl ?_
    refine q_callT0 (cv_X9_thrown ml_L_222) w2.1 kc_723 (by decide) rfl (rmL rfl (by show cs.1 + 1 + 0 + 0 ≤ _; omega) (by show cs.2 + 6 + 0 + 0 ≤ _; omega)) (Nat.le_of_ble_eq_true rfl) dL_law_1504 (c_X9_thrown w2.1) (fun v5 h5 _ q5 => ?_)
    obtain ⟨rfl, rfl⟩ := q5
    refine r_iload dL_law_1507 rfl ?_
    refine r_icmp_eq 1514 dL_law_1509 (by decide) (fun _ => ?_) (fun c9 => absurd ht c9)
    refine r_iload dL_law_1514 rfl ?_
    refine r_if_ne 1551 dL_law_1516 (by decide) (fun _ => ?_) (fun c9 => absurd c9 (nI_nz hz (by have := (show cd1 (okP r (gX G (6 * j + 1))) ≤ 4 from Nat.le_trans cd1_le (by decide)); omega)))
    refine r_goto 4127 dL_law_1551 (by decide) ?_
    exact kk _ _ _ _ _ _ _ _ _ _ _ _ _ _ w2 hp.nx (by show cs.1 + 1 + 0 ≤ _; omega) (by show cs.2 + 6 + 0 ≤ _; omega)
theorem cs_L_peak : CStH RL 276 mL_peak 3 := ⟨ml_L_276, (tgI 1079 (by decide +kernel) rfl), (tgI 98 (by decide +kernel) rfl), (tgI 1080 (by decide +kernel) rfl), ok_L_peak⟩
set_option maxRecDepth 100000 in
set_option maxHeartbeats 4000000 in
theorem law_22 {l9 : Launch} {G : GC} {Fi : CX → State → Prop} {h : AH} {r s : Row} {L : List Row} {sv : Bool} {b : Nat → Int32} {n j : Nat} {o : Ob} {er eo : Int32} {l6 l7 l8 : Option Value} {cs : Nat × Nat} (hG : GOK G) (hj : 6 * j + 6 ≤ gL G) (hL3 : gL G ≤ 3072) (w : StL h r L r L s sv b n o er eo) (hp : LvP r L s sv b n (300 * j)) (hc1 : cs.1 ≤ 800 + 60 * j) (hc2 : cs.2 ≤ 40000 + 400 * j) (kk : LNx l9 G Fi j) : PW l9 G mL_law room_1 Fi NT 1554 [some (.ref 0), some (.ref 1), some (.ref 723), some (.ref 737), some (.ref 738), some (.int (nI (6 * j))), l6, l7, l8] [] cs h := by
  have hb9 : 300 * j + 300 < 2 ^ 23 := by omega
  refine r_aload_n dL_law_1554 rfl ?_
  refine r_aload_n dL_law_1555 rfl ?_
  refine r_iload dL_law_1556 rfl ?_
  refine r_iconst (1) dL_law_1558 (by decide) ?_
  refine r_iadd dL_law_1559 ?_
  refine r_sld (k := 6 * j + 1) (nadd rfl kn_1) (by omega) hL3 dL_law_1560 ?_
  refine r_aload_n dL_law_1561 rfl ?_
  refine r_callSH3 cs_L_peak (rmL rfl (by show cs.1 + 1 ≤ _; omega) (by show cs.2 + 6 ≤ _; omega)) (Nat.le_of_ble_eq_true rfl) dL_law_1562 (c_L_peak hG w.1 cd1_le (c_X8_peak (hW := w.1) (hs := w.2.1.1) (hO := hp.1.1)) (fun _ e9 => by rw [e9]; exact w.1)) (fun v1 h1 q1 => ?_)
  obtain ⟨rfl, q2, q3⟩ := q1
  by_cases hz : cd1 (okP r (gX G (6 * j + 1))) = 0
  · obtain ⟨h3, q4, rfl⟩ := q3 hz
    obtain rfl := q4
    have hp2 := hp.nx
    have w1 := st_out (v := (((fP r (gX G (6 * j + 1))) 25)).toInt64) w hp
    have ho2 : ∀ {H : AH}, aJ (sI (sJ H 737 0 ((((fP r (gX G (6 * j + 1))) 25)).toInt64)) 723 12 (nI (cd1 (okP r (gX G (6 * j + 1)))))) 737 0 = (((fP r (gX G (6 * j + 1))) 25)).toInt64 := sJ_at0
    refine r_istore (ls2 := [some (.ref 0), some (.ref 1), some (.ref 723), some (.ref 737), some (.ref 738), some (.int (nI (6 * j))), some _, _, _]) dL_law_1565 (by decide) rfl ?_
    refine r_aload_n dL_law_1567 rfl ?_
    refine r_aload_n dL_law_1568 rfl ?_
    refine r_iload dL_law_1569 rfl ?_
    refine r_iconst (1) dL_law_1571 (by decide) ?_
    refine r_iadd dL_law_1572 ?_
    refine r_sld (k := 6 * j + 1) (nadd rfl kn_1) (by omega) hL3 dL_law_1573 ?_
    refine q_callT1 (cv_X9_peak ml_L_278) w1.1 kc_723 (by decide) rfl (rmL rfl (by show cs.1 + 1 + 0 ≤ _; omega) (by show cs.2 + 6 + 0 ≤ _; omega)) (Nat.le_of_ble_eq_true rfl) dL_law_1574 (c_X9_peak (hW := w1.1) (hm := w1.2.2.1) (hO := hp.1.1) (hm28 := (by omega))) (fun v2 h2 ty2 p2 => ?_)
    obtain ⟨rfl, p3⟩ := p2
    obtain rfl := p3 hz
    have w2 := st_si (c := cd1 (okP r (gX G (6 * j + 1)))) w1 hp
    have ht : ∀ {H : AH}, aI (sI H 723 12 (nI (cd1 (okP r (gX G (6 * j + 1)))))) 723 12 = nI (cd1 (okP r (gX G (6 * j + 1)))) := sI_s
    refine r_istore (ls2 := [some (.ref 0), some (.ref 1), some (.ref 723), some (.ref 737), some (.ref 738), some (.int (nI (6 * j))), _, some _, _]) dL_law_1577 (by decide) rfl ?_
    refine r_aload_n dL_law_1579 rfl ?_
    refine q_callT0 (cv_X9_thrown ml_L_222) w2.1 kc_723 (by decide) rfl (rmL rfl (by show cs.1 + 1 + 0 + 0 ≤ _; omega) (by show cs.2 + 6 + 0 + 0 ≤ _; omega)) (Nat.le_of_ble_eq_true rfl) dL_law_1580 (c_X9_thrown w2.1) (fun v5 h5 _ q5 => ?_)
    obtain ⟨rfl, rfl⟩ := q5
    refine r_iload dL_law_1583 rfl ?_
    refine r_icmp_eq 1590 dL_law_1585 (by decide) (fun _ => ?_) (fun c9 => absurd ht c9)
    refine r_iload dL_law_1590 rfl ?_
    refine r_if_ne 1607 dL_law_1592 (by decide) (fun c9 => absurd (by rw [hz]; rfl) c9) (fun _ => ?_)
    refine r_aload_n dL_law_1595 rfl ?_
    refine r_iconst (0) dL_law_1596 (by decide) ?_
    refine q_lald (k := 0) w2.1 kc_737 kn_0 (by decide) (by decide) dL_law_1597 ?_
    rw [ho2]
    refine r_iload dL_law_1598 rfl ?_
    refine r_i2l dL_law_1600 ?_
    refine r_lcmp dL_law_1601 ?_
    refine r_if_eq 1607 dL_law_1602 (by decide) (fun _ => ?_) (fun c9 => absurd lg_cmp_s c9)
    refine r_goto 4127 dL_law_1607 (by decide) ?_
    exact kk _ _ _ _ _ _ _ _ _ _ _ _ _ _ w2 hp2 (by show cs.1 + 1 + 0 ≤ _; omega) (by show cs.2 + 6 + 0 ≤ _; omega)
  · obtain rfl := q2 hz
    have w1 := w
    refine r_istore (ls2 := [some (.ref 0), some (.ref 1), some (.ref 723), some (.ref 737), some (.ref 738), some (.int (nI (6 * j))), some _, _, _]) dL_law_1565 (by decide) rfl ?_
    refine r_aload_n dL_law_1567 rfl ?_
    refine r_aload_n dL_law_1568 rfl ?_
    refine r_iload dL_law_1569 rfl ?_
    refine r_iconst (1) dL_law_1571 (by decide) ?_
    refine r_iadd dL_law_1572 ?_
    refine r_sld (k := 6 * j + 1) (nadd rfl kn_1) (by omega) hL3 dL_law_1573 ?_
    refine q_callT1 (cv_X9_peak ml_L_278) w1.1 kc_723 (by decide) rfl (rmL rfl (by show cs.1 + 1 + 0 ≤ _; omega) (by show cs.2 + 6 + 0 ≤ _; omega)) (Nat.le_of_ble_eq_true rfl) dL_law_1574 (c_X9_peak (hW := w1.1) (hm := w1.2.2.1) (hO := hp.1.1) (hm28 := (by omega))) (fun v2 h2 ty2 p2 => ?_)
    obtain ⟨y2, rfl⟩ : ∃ x, v2 = some (.int x) := ty2
    obtain ⟨rfl, -⟩ := p2
    have w2 := st_si (c := cd1 (okP r (gX G (6 * j + 1)))) w1 hp
    have ht : ∀ {H : AH}, aI (sI H 723 12 (nI (cd1 (okP r (gX G (6 * j + 1)))))) 723 12 = nI (cd1 (okP r (gX G (6 * j + 1)))) := sI_s
    refine r_istore (ls2 := [some (.ref 0), some (.ref 1), some (.ref 723), some (.ref 737), some (.ref 738), some (.int (nI (6 * j))), _, some _, _]) dL_law_1577 (by decide) rfl ?_
    refine r_aload_n dL_law_1579 rfl ?_
    refine q_callT0 (cv_X9_thrown ml_L_222) w2.1 kc_723 (by decide) rfl (rmL rfl (by show cs.1 + 1 + 0 + 0 ≤ _; omega) (by show cs.2 + 6 + 0 + 0 ≤ _; omega)) (Nat.le_of_ble_eq_true rfl) dL_law_1580 (c_X9_thrown w2.1) (fun v5 h5 _ q5 => ?_)
    obtain ⟨rfl, rfl⟩ := q5
    refine r_iload dL_law_1583 rfl ?_
    refine r_icmp_eq 1590 dL_law_1585 (by decide) (fun _ => ?_) (fun c9 => absurd ht c9)
    refine r_iload dL_law_1590 rfl ?_
    refine r_if_ne 1607 dL_law_1592 (by decide) (fun _ => ?_) (fun c9 => absurd c9 (nI_nz hz (by have := (show cd1 (okP r (gX G (6 * j + 1))) ≤ 4 from Nat.le_trans cd1_le (by decide)); omega)))
    refine r_goto 4127 dL_law_1607 (by decide) ?_
    exact kk _ _ _ _ _ _ _ _ _ _ _ _ _ _ w2 hp.nx (by show cs.1 + 1 + 0 ≤ _; omega) (by show cs.2 + 6 + 0 ≤ _; omega)
theorem cs_L_decisions : CStH RL 279 mL_decisions 4 := ⟨ml_L_279, (tgI 1086 (by decide +kernel) rfl), (tgI 98 (by decide +kernel) rfl), (tgI 1087 (by decide +kernel) rfl), ok_L_decisions⟩
set_option maxRecDepth 100000 in
set_option maxHeartbeats 4000000 in
theorem law_23 {l9 : Launch} {G : GC} {Fi : CX → State → Prop} {h : AH} {r s : Row} {L : List Row} {sv : Bool} {b : Nat → Int32} {n j : Nat} {o : Ob} {er eo : Int32} {l6 l7 l8 : Option Value} {cs : Nat × Nat} (hG : GOK G) (hj : 6 * j + 6 ≤ gL G) (hL3 : gL G ≤ 3072) (w : StL h r L r L s sv b n o er eo) (hp : LvP r L s sv b n (300 * j)) (hc1 : cs.1 ≤ 800 + 60 * j) (hc2 : cs.2 ≤ 40000 + 400 * j) (kk : LNx l9 G Fi j) : PW l9 G mL_law room_1 Fi NT 1610 [some (.ref 0), some (.ref 1), some (.ref 723), some (.ref 737), some (.ref 738), some (.int (nI (6 * j))), l6, l7, l8] [] cs h := by
  have hb9 : 300 * j + 300 < 2 ^ 23 := by omega
  refine r_aload_n dL_law_1610 rfl ?_
  refine r_aload_n dL_law_1611 rfl ?_
  refine r_iload dL_law_1612 rfl ?_
  refine r_iconst (1) dL_law_1614 (by decide) ?_
  refine r_iadd dL_law_1615 ?_
  refine r_sld (k := 6 * j + 1) (nadd rfl kn_1) (by omega) hL3 dL_law_1616 ?_
  refine r_aload_n dL_law_1617 rfl ?_
  refine r_iload dL_law_1618 rfl ?_
  refine r_iconst (2) dL_law_1620 (by decide) ?_
  refine r_iadd dL_law_1621 ?_
  refine r_sld (k := 6 * j + 2) (nadd rfl kn_2) (by omega) hL3 dL_law_1622 ?_
  refine r_aload_n dL_law_1623 rfl ?_
  refine r_callSH4 cs_L_decisions (rmL rfl (by show cs.1 + 2 ≤ _; omega) (by show cs.2 + 12 ≤ _; omega)) (Nat.le_of_ble_eq_true rfl) dL_law_1624 (c_L_decisions hG w.1 cd2_le (c_X8_decisions (hW := w.1) (hs := w.2.1.1) (hO := hp.1.1)) (fun _ e9 => by rw [e9]; exact w.1)) (fun v1 h1 q1 => ?_)
  obtain ⟨rfl, q2, q3⟩ := q1
  by_cases hz : cd2 (okP r (gX G (6 * j + 1))) (rgB 0 5 (gX G (6 * j + 2))) = 0
  · obtain ⟨h3, q4, rfl⟩ := q3 hz
    obtain rfl := q4
    have hp2 := hp.nx
    have w1 := st_out (v := (((fP r (gX G (6 * j + 1))) (30 + nn (gX G (6 * j + 2))))).toInt64) w hp
    have ho2 : ∀ {H : AH}, aJ (sI (sJ H 737 0 ((((fP r (gX G (6 * j + 1))) (30 + nn (gX G (6 * j + 2))))).toInt64)) 723 12 (nI (cd2 (okP r (gX G (6 * j + 1))) (rgB 0 5 (gX G (6 * j + 2)))))) 737 0 = (((fP r (gX G (6 * j + 1))) (30 + nn (gX G (6 * j + 2))))).toInt64 := sJ_at0
    refine r_istore (ls2 := [some (.ref 0), some (.ref 1), some (.ref 723), some (.ref 737), some (.ref 738), some (.int (nI (6 * j))), some _, _, _]) dL_law_1627 (by decide) rfl ?_
    refine r_aload_n dL_law_1629 rfl ?_
    refine r_aload_n dL_law_1630 rfl ?_
    refine r_iload dL_law_1631 rfl ?_
    refine r_iconst (1) dL_law_1633 (by decide) ?_
    refine r_iadd dL_law_1634 ?_
    refine r_sld (k := 6 * j + 1) (nadd rfl kn_1) (by omega) hL3 dL_law_1635 ?_
    refine r_aload_n dL_law_1636 rfl ?_
    refine r_iload dL_law_1637 rfl ?_
    refine r_iconst (2) dL_law_1639 (by decide) ?_
    refine r_iadd dL_law_1640 ?_
    refine r_sld (k := 6 * j + 2) (nadd rfl kn_2) (by omega) hL3 dL_law_1641 ?_
    refine q_callT2 (cv_X9_decisions ml_L_281) w1.1 kc_723 (by decide) rfl (rmL rfl (by show cs.1 + 2 + 0 ≤ _; omega) (by show cs.2 + 12 + 0 ≤ _; omega)) (Nat.le_of_ble_eq_true rfl) dL_law_1642 (c_X9_decisions (hW := w1.1) (hm := w1.2.2.1) (hO := hp.1.1) (hm28 := (by omega))) (fun v2 h2 ty2 p2 => ?_)
    obtain ⟨rfl, p3⟩ := p2
    obtain rfl := p3 hz
    have w2 := st_si (c := cd2 (okP r (gX G (6 * j + 1))) (rgB 0 5 (gX G (6 * j + 2)))) w1 hp
    have ht : ∀ {H : AH}, aI (sI H 723 12 (nI (cd2 (okP r (gX G (6 * j + 1))) (rgB 0 5 (gX G (6 * j + 2)))))) 723 12 = nI (cd2 (okP r (gX G (6 * j + 1))) (rgB 0 5 (gX G (6 * j + 2)))) := sI_s
    refine r_istore (ls2 := [some (.ref 0), some (.ref 1), some (.ref 723), some (.ref 737), some (.ref 738), some (.int (nI (6 * j))), _, some _, _]) dL_law_1645 (by decide) rfl ?_
    refine r_aload_n dL_law_1647 rfl ?_
    refine q_callT0 (cv_X9_thrown ml_L_222) w2.1 kc_723 (by decide) rfl (rmL rfl (by show cs.1 + 2 + 0 + 0 ≤ _; omega) (by show cs.2 + 12 + 0 + 0 ≤ _; omega)) (Nat.le_of_ble_eq_true rfl) dL_law_1648 (c_X9_thrown w2.1) (fun v5 h5 _ q5 => ?_)
    obtain ⟨rfl, rfl⟩ := q5
    refine r_iload dL_law_1651 rfl ?_
    refine r_icmp_eq 1658 dL_law_1653 (by decide) (fun _ => ?_) (fun c9 => absurd ht c9)
    refine r_iload dL_law_1658 rfl ?_
    refine r_if_ne 1675 dL_law_1660 (by decide) (fun c9 => absurd (by rw [hz]; rfl) c9) (fun _ => ?_)
    refine r_aload_n dL_law_1663 rfl ?_
    refine r_iconst (0) dL_law_1664 (by decide) ?_
    refine q_lald (k := 0) w2.1 kc_737 kn_0 (by decide) (by decide) dL_law_1665 ?_
    rw [ho2]
    refine r_iload dL_law_1666 rfl ?_
    refine r_i2l dL_law_1668 ?_
    refine r_lcmp dL_law_1669 ?_
    refine r_if_eq 1675 dL_law_1670 (by decide) (fun _ => ?_) (fun c9 => absurd lg_cmp_s c9)
    refine r_goto 4127 dL_law_1675 (by decide) ?_
    exact kk _ _ _ _ _ _ _ _ _ _ _ _ _ _ w2 hp2 (by show cs.1 + 2 + 0 ≤ _; omega) (by show cs.2 + 12 + 0 ≤ _; omega)
  · obtain rfl := q2 hz
    have w1 := w
    refine r_istore (ls2 := [some (.ref 0), some (.ref 1), some (.ref 723), some (.ref 737), some (.ref 738), some (.int (nI (6 * j))), some _, _, _]) dL_law_1627 (by decide) rfl ?_
    refine r_aload_n dL_law_1629 rfl ?_
    refine r_aload_n dL_law_1630 rfl ?_
    refine r_iload dL_law_1631 rfl ?_
    refine r_iconst (1) dL_law_1633 (by decide) ?_
    refine r_iadd dL_law_1634 ?_
    refine r_sld (k := 6 * j + 1) (nadd rfl kn_1) (by omega) hL3 dL_law_1635 ?_
    refine r_aload_n dL_law_1636 rfl ?_
    refine r_iload dL_law_1637 rfl ?_
    refine r_iconst (2) dL_law_1639 (by decide) ?_
    refine r_iadd dL_law_1640 ?_
    refine r_sld (k := 6 * j + 2) (nadd rfl kn_2) (by omega) hL3 dL_law_1641 ?_
    refine q_callT2 (cv_X9_decisions ml_L_281) w1.1 kc_723 (by decide) rfl (rmL rfl (by show cs.1 + 2 + 0 ≤ _; omega) (by show cs.2 + 12 + 0 ≤ _; omega)) (Nat.le_of_ble_eq_true rfl) dL_law_1642 (c_X9_decisions (hW := w1.1) (hm := w1.2.2.1) (hO := hp.1.1) (hm28 := (by omega))) (fun v2 h2 ty2 p2 => ?_)
    obtain ⟨y2, rfl⟩ : ∃ x, v2 = some (.int x) := ty2
    obtain ⟨rfl, -⟩ := p2
    have w2 := st_si (c := cd2 (okP r (gX G (6 * j + 1))) (rgB 0 5 (gX G (6 * j + 2)))) w1 hp
    have ht : ∀ {H : AH}, aI (sI H 723 12 (nI (cd2 (okP r (gX G (6 * j + 1))) (rgB 0 5 (gX G (6 * j + 2)))))) 723 12 = nI (cd2 (okP r (gX G (6 * j + 1))) (rgB 0 5 (gX G (6 * j + 2)))) := sI_s
    refine r_istore (ls2 := [some (.ref 0), some (.ref 1), some (.ref 723), some (.ref 737), some (.ref 738), some (.int (nI (6 * j))), _, some _, _]) dL_law_1645 (by decide) rfl ?_
    refine r_aload_n dL_law_1647 rfl ?_
    refine q_callT0 (cv_X9_thrown ml_L_222) w2.1 kc_723 (by decide) rfl (rmL rfl (by show cs.1 + 2 + 0 + 0 ≤ _; omega) (by show cs.2 + 12 + 0 + 0 ≤ _; omega)) (Nat.le_of_ble_eq_true rfl) dL_law_1648 (c_X9_thrown w2.1) (fun v5 h5 _ q5 => ?_)
    obtain ⟨rfl, rfl⟩ := q5
    refine r_iload dL_law_1651 rfl ?_
    refine r_icmp_eq 1658 dL_law_1653 (by decide) (fun _ => ?_) (fun c9 => absurd ht c9)
    refine r_iload dL_law_1658 rfl ?_
    refine r_if_ne 1675 dL_law_1660 (by decide) (fun _ => ?_) (fun c9 => absurd c9 (nI_nz hz (by have := (show cd2 (okP r (gX G (6 * j + 1))) (rgB 0 5 (gX G (6 * j + 2))) ≤ 4 from Nat.le_trans cd2_le (by decide)); omega)))
    refine r_goto 4127 dL_law_1675 (by decide) ?_
    exact kk _ _ _ _ _ _ _ _ _ _ _ _ _ _ w2 hp.nx (by show cs.1 + 2 + 0 ≤ _; omega) (by show cs.2 + 12 + 0 ≤ _; omega)
theorem cs_L_event : CStH RL 282 mL_event 4 := ⟨ml_L_282, (tgI 1093 (by decide +kernel) rfl), (tgI 98 (by decide +kernel) rfl), (tgI 1094 (by decide +kernel) rfl), ok_L_event⟩
set_option maxRecDepth 100000 in
set_option maxHeartbeats 4000000 in
theorem law_24 {l9 : Launch} {G : GC} {Fi : CX → State → Prop} {h : AH} {r s : Row} {L : List Row} {sv : Bool} {b : Nat → Int32} {n j : Nat} {o : Ob} {er eo : Int32} {l6 l7 l8 : Option Value} {cs : Nat × Nat} (hG : GOK G) (hj : 6 * j + 6 ≤ gL G) (hL3 : gL G ≤ 3072) (w : StL h r L r L s sv b n o er eo) (hp : LvP r L s sv b n (300 * j)) (hc1 : cs.1 ≤ 800 + 60 * j) (hc2 : cs.2 ≤ 40000 + 400 * j) (kk : LNx l9 G Fi j) : PW l9 G mL_law room_1 Fi NT 1678 [some (.ref 0), some (.ref 1), some (.ref 723), some (.ref 737), some (.ref 738), some (.int (nI (6 * j))), l6, l7, l8] [] cs h := by
  have hb9 : 300 * j + 300 < 2 ^ 23 := by omega
  refine r_aload_n dL_law_1678 rfl ?_
  refine r_aload_n dL_law_1679 rfl ?_
  refine r_iload dL_law_1680 rfl ?_
  refine r_iconst (1) dL_law_1682 (by decide) ?_
  refine r_iadd dL_law_1683 ?_
  refine r_sld (k := 6 * j + 1) (nadd rfl kn_1) (by omega) hL3 dL_law_1684 ?_
  refine r_aload_n dL_law_1685 rfl ?_
  refine r_iload dL_law_1686 rfl ?_
  refine r_iconst (2) dL_law_1688 (by decide) ?_
  refine r_iadd dL_law_1689 ?_
  refine r_sld (k := 6 * j + 2) (nadd rfl kn_2) (by omega) hL3 dL_law_1690 ?_
  refine r_aload_n dL_law_1691 rfl ?_
  refine r_callSH4 cs_L_event (rmL rfl (by show cs.1 + 2 ≤ _; omega) (by show cs.2 + 12 ≤ _; omega)) (Nat.le_of_ble_eq_true rfl) dL_law_1692 (c_L_event hG w.1 cd2_le (c_X8_event (hW := w.1) (hs := w.2.1.1) (hO := hp.1.1) (hm28 := (by omega))) (fun _ e9 => by rw [e9]; exact w.1)) (fun v1 h1 q1 => ?_)
  obtain ⟨rfl, q2, q3⟩ := q1
  by_cases hz : cd2 (rgB 0 3 (gX G (6 * j + 2))) (ltB (kpE r) (gX G (6 * j + 1))) = 0
  · obtain ⟨h3, q4, rfl⟩ := q3 hz
    obtain rfl := q4
    have hp2 := hp.nx
    have w1 := st_out (v := ((evA r (nn (gX G (6 * j + 1))) (nn (gX G (6 * j + 2))))).toInt64) w hp
    have ho2 : ∀ {H : AH}, aJ (sI (sJ H 737 0 (((evA r (nn (gX G (6 * j + 1))) (nn (gX G (6 * j + 2))))).toInt64)) 723 12 (nI (cd2 (rgB 0 3 (gX G (6 * j + 2))) (ltB (kpE r) (gX G (6 * j + 1)))))) 737 0 = ((evA r (nn (gX G (6 * j + 1))) (nn (gX G (6 * j + 2))))).toInt64 := sJ_at0
    refine r_istore (ls2 := [some (.ref 0), some (.ref 1), some (.ref 723), some (.ref 737), some (.ref 738), some (.int (nI (6 * j))), some _, _, _]) dL_law_1695 (by decide) rfl ?_
    refine r_aload_n dL_law_1697 rfl ?_
    refine r_aload_n dL_law_1698 rfl ?_
    refine r_iload dL_law_1699 rfl ?_
    refine r_iconst (1) dL_law_1701 (by decide) ?_
    refine r_iadd dL_law_1702 ?_
    refine r_sld (k := 6 * j + 1) (nadd rfl kn_1) (by omega) hL3 dL_law_1703 ?_
    refine r_aload_n dL_law_1704 rfl ?_
    refine r_iload dL_law_1705 rfl ?_
    refine r_iconst (2) dL_law_1707 (by decide) ?_
    refine r_iadd dL_law_1708 ?_
    refine r_sld (k := 6 * j + 2) (nadd rfl kn_2) (by omega) hL3 dL_law_1709 ?_
    refine q_callT2 (cv_X9_event ml_L_284) w1.1 kc_723 (by decide) rfl (rmL rfl (by show cs.1 + 2 + 0 ≤ _; omega) (by show cs.2 + 12 + 0 ≤ _; omega)) (Nat.le_of_ble_eq_true rfl) dL_law_1710 (c_X9_event (hW := w1.1) (hm := w1.2.2.1) (hO := hp.1.1) (hm28 := (by omega)) (hm24 := (by omega))) (fun v2 h2 ty2 p2 => ?_)
    obtain ⟨rfl, p3⟩ := p2
    obtain rfl := p3 hz
    have w2 := st_si (c := cd2 (rgB 0 3 (gX G (6 * j + 2))) (ltB (kpE r) (gX G (6 * j + 1)))) w1 hp
    have ht : ∀ {H : AH}, aI (sI H 723 12 (nI (cd2 (rgB 0 3 (gX G (6 * j + 2))) (ltB (kpE r) (gX G (6 * j + 1)))))) 723 12 = nI (cd2 (rgB 0 3 (gX G (6 * j + 2))) (ltB (kpE r) (gX G (6 * j + 1)))) := sI_s
    refine r_istore (ls2 := [some (.ref 0), some (.ref 1), some (.ref 723), some (.ref 737), some (.ref 738), some (.int (nI (6 * j))), _, some _, _]) dL_law_1713 (by decide) rfl ?_
    refine r_aload_n dL_law_1715 rfl ?_
    refine q_callT0 (cv_X9_thrown ml_L_222) w2.1 kc_723 (by decide) rfl (rmL rfl (by show cs.1 + 2 + 0 + 0 ≤ _; omega) (by show cs.2 + 12 + 0 + 0 ≤ _; omega)) (Nat.le_of_ble_eq_true rfl) dL_law_1716 (c_X9_thrown w2.1) (fun v5 h5 _ q5 => ?_)
    obtain ⟨rfl, rfl⟩ := q5
    refine r_iload dL_law_1719 rfl ?_
    refine r_icmp_eq 1726 dL_law_1721 (by decide) (fun _ => ?_) (fun c9 => absurd ht c9)
    refine r_iload dL_law_1726 rfl ?_
    refine r_if_ne 1743 dL_law_1728 (by decide) (fun c9 => absurd (by rw [hz]; rfl) c9) (fun _ => ?_)
    refine r_aload_n dL_law_1731 rfl ?_
    refine r_iconst (0) dL_law_1732 (by decide) ?_
    refine q_lald (k := 0) w2.1 kc_737 kn_0 (by decide) (by decide) dL_law_1733 ?_
    rw [ho2]
    refine r_iload dL_law_1734 rfl ?_
    refine r_i2l dL_law_1736 ?_
    refine r_lcmp dL_law_1737 ?_
    refine r_if_eq 1743 dL_law_1738 (by decide) (fun _ => ?_) (fun c9 => absurd lg_cmp_s c9)
    refine r_goto 4127 dL_law_1743 (by decide) ?_
    exact kk _ _ _ _ _ _ _ _ _ _ _ _ _ _ w2 hp2 (by show cs.1 + 2 + 0 ≤ _; omega) (by show cs.2 + 12 + 0 ≤ _; omega)
  · obtain rfl := q2 hz
    have w1 := w
    refine r_istore (ls2 := [some (.ref 0), some (.ref 1), some (.ref 723), some (.ref 737), some (.ref 738), some (.int (nI (6 * j))), some _, _, _]) dL_law_1695 (by decide) rfl ?_
    refine r_aload_n dL_law_1697 rfl ?_
    refine r_aload_n dL_law_1698 rfl ?_
    refine r_iload dL_law_1699 rfl ?_
    refine r_iconst (1) dL_law_1701 (by decide) ?_
    refine r_iadd dL_law_1702 ?_
    refine r_sld (k := 6 * j + 1) (nadd rfl kn_1) (by omega) hL3 dL_law_1703 ?_
    refine r_aload_n dL_law_1704 rfl ?_
    refine r_iload dL_law_1705 rfl ?_
    refine r_iconst (2) dL_law_1707 (by decide) ?_
    refine r_iadd dL_law_1708 ?_
    refine r_sld (k := 6 * j + 2) (nadd rfl kn_2) (by omega) hL3 dL_law_1709 ?_
    refine q_callT2 (cv_X9_event ml_L_284) w1.1 kc_723 (by decide) rfl (rmL rfl (by show cs.1 + 2 + 0 ≤ _; omega) (by show cs.2 + 12 + 0 ≤ _; omega)) (Nat.le_of_ble_eq_true rfl) dL_law_1710 (c_X9_event (hW := w1.1) (hm := w1.2.2.1) (hO := hp.1.1) (hm28 := (by omega)) (hm24 := (by omega))) (fun v2 h2 ty2 p2 => ?_)
    obtain ⟨y2, rfl⟩ : ∃ x, v2 = some (.int x) := ty2
    obtain ⟨rfl, -⟩ := p2
    have w2 := st_si (c := cd2 (rgB 0 3 (gX G (6 * j + 2))) (ltB (kpE r) (gX G (6 * j + 1)))) w1 hp
    have ht : ∀ {H : AH}, aI (sI H 723 12 (nI (cd2 (rgB 0 3 (gX G (6 * j + 2))) (ltB (kpE r) (gX G (6 * j + 1)))))) 723 12 = nI (cd2 (rgB 0 3 (gX G (6 * j + 2))) (ltB (kpE r) (gX G (6 * j + 1)))) := sI_s
    refine r_istore (ls2 := [some (.ref 0), some (.ref 1), some (.ref 723), some (.ref 737), some (.ref 738), some (.int (nI (6 * j))), _, some _, _]) dL_law_1713 (by decide) rfl ?_
    refine r_aload_n dL_law_1715 rfl ?_
    refine q_callT0 (cv_X9_thrown ml_L_222) w2.1 kc_723 (by decide) rfl (rmL rfl (by show cs.1 + 2 + 0 + 0 ≤ _; omega) (by show cs.2 + 12 + 0 + 0 ≤ _; omega)) (Nat.le_of_ble_eq_true rfl) dL_law_1716 (c_X9_thrown w2.1) (fun v5 h5 _ q5 => ?_)
    obtain ⟨rfl, rfl⟩ := q5
    refine r_iload dL_law_1719 rfl ?_
    refine r_icmp_eq 1726 dL_law_1721 (by decide) (fun _ => ?_) (fun c9 => absurd ht c9)
    refine r_iload dL_law_1726 rfl ?_
    refine r_if_ne 1743 dL_law_1728 (by decide) (fun _ => ?_) (fun c9 => absurd c9 (nI_nz hz (by have := (show cd2 (rgB 0 3 (gX G (6 * j + 2))) (ltB (kpE r) (gX G (6 * j + 1))) ≤ 4 from Nat.le_trans cd2_le (by decide)); omega)))
    refine r_goto 4127 dL_law_1743 (by decide) ?_
    exact kk _ _ _ _ _ _ _ _ _ _ _ _ _ _ w2 hp.nx (by show cs.1 + 2 + 0 ≤ _; omega) (by show cs.2 + 12 + 0 ≤ _; omega)
theorem cs_L_run : CStH RL 285 mL_run 3 := ⟨ml_L_285, (tgI 1111 (by decide +kernel) rfl), (tgI 98 (by decide +kernel) rfl), (tgI 1112 (by decide +kernel) rfl), ok_L_run⟩
set_option maxRecDepth 100000 in
set_option maxHeartbeats 4000000 in
theorem law_25 {l9 : Launch} {G : GC} {Fi : CX → State → Prop} {h : AH} {r s : Row} {L : List Row} {sv : Bool} {b : Nat → Int32} {n j : Nat} {o : Ob} {er eo : Int32} {l6 l7 l8 : Option Value} {cs : Nat × Nat} (hG : GOK G) (hj : 6 * j + 6 ≤ gL G) (hL3 : gL G ≤ 3072) (w : StL h r L r L s sv b n o er eo) (hp : LvP r L s sv b n (300 * j)) (hc1 : cs.1 ≤ 800 + 60 * j) (hc2 : cs.2 ≤ 40000 + 400 * j) (kk : LNx l9 G Fi j) : PW l9 G mL_law room_1 Fi NT 1746 [some (.ref 0), some (.ref 1), some (.ref 723), some (.ref 737), some (.ref 738), some (.int (nI (6 * j))), l6, l7, l8] [] cs h := by
  have hb9 : 300 * j + 300 < 2 ^ 23 := by omega
  refine r_aload_n dL_law_1746 rfl ?_
  refine r_aload_n dL_law_1747 rfl ?_
  refine r_iload dL_law_1748 rfl ?_
  refine r_iconst (1) dL_law_1750 (by decide) ?_
  refine r_iadd dL_law_1751 ?_
  refine r_sld (k := 6 * j + 1) (nadd rfl kn_1) (by omega) hL3 dL_law_1752 ?_
  refine r_aload_n dL_law_1753 rfl ?_
  refine r_callSH3 cs_L_run (rmL rfl (by show cs.1 + 1 ≤ _; omega) (by show cs.2 + 6 ≤ _; omega)) (Nat.le_of_ble_eq_true rfl) dL_law_1754 (c_L_run hG w.1 cd1_le (c_X8_run (hW := w.1) (hs := w.2.1.1) (hO := hp.1.1) (hL := w.2.1.2.1) (hLO := hp.ls) (hb := hb9)) (fun _ e9 => e9.1.1.1)) (fun v1 h1 q1 => ?_)
  obtain ⟨rfl, q2, q3⟩ := q1
  by_cases hz : cd1 (rgB 1 300 (gX G (6 * j + 1))) = 0
  · obtain ⟨h3, q4, rfl⟩ := q3 hz
    have hp2 := hp.push w.2.1.2.1.2.1 (m' := 300 * (j + 1)) ((ok2_run hp.1 hz hb9).wk (by omega)) (by omega)
    have w1 := st_out (v := (((tkN (nn (gX G (6 * j + 1))) r).1 3 - r.1 3)).toInt64) (st_cc w hp q4.1 q4.2.1 q4.2.2) hp2
    have ho : aJ (sJ h3 737 0 ((((tkN (nn (gX G (6 * j + 1))) r).1 3 - r.1 3)).toInt64)) 737 0 = (((tkN (nn (gX G (6 * j + 1))) r).1 3 - r.1 3)).toInt64 := sJ_at0
    refine r_istore (ls2 := [some (.ref 0), some (.ref 1), some (.ref 723), some (.ref 737), some (.ref 738), some (.int (nI (6 * j))), some _, _, _]) dL_law_1757 (by decide) rfl ?_
    refine r_aload_n dL_law_1759 rfl ?_
    refine r_aload_n dL_law_1760 rfl ?_
    refine r_iload dL_law_1761 rfl ?_
    refine r_iconst (1) dL_law_1763 (by decide) ?_
    refine r_iadd dL_law_1764 ?_
    refine r_sld (k := 6 * j + 1) (nadd rfl kn_1) (by omega) hL3 dL_law_1765 ?_
    refine q_callT1 (cv_X9_run ml_L_287) w1.1 kc_723 (by decide) rfl (rmL rfl (by show cs.1 + 1 + 0 ≤ _; omega) (by show cs.2 + 6 + 0 ≤ _; omega)) (Nat.le_of_ble_eq_true rfl) dL_law_1766 (c_X9_run (hW := w1.1) (hm := w1.2.2.1) (hO := hp.1.1) (hm28 := (by omega)) (hL := w1.2.2.2.1) (hb := hb9)) (fun v2 h2 ty2 p2 => ?_)
    obtain ⟨rfl, p3, p4, p5⟩ := p2.2 hz
    have w2 := st_rc w1 hp2 p3 p4 p5
    have ht : aI h2 723 12 = nI (cd1 (rgB 1 300 (gX G (6 * j + 1)))) := by rw [hz]; exact p3.2.1
    have ho2 : aJ h2 737 0 = _ := (congrFun (p3.1.J (show ¬ RS 737 by unfold RS; omega)) 0).trans ho
    refine r_istore (ls2 := [some (.ref 0), some (.ref 1), some (.ref 723), some (.ref 737), some (.ref 738), some (.int (nI (6 * j))), _, some _, _]) dL_law_1769 (by decide) rfl ?_
    refine r_aload_n dL_law_1771 rfl ?_
    refine q_callT0 (cv_X9_thrown ml_L_222) w2.1 kc_723 (by decide) rfl (rmL rfl (by show cs.1 + 1 + 0 + 0 ≤ _; omega) (by show cs.2 + 6 + 0 + 0 ≤ _; omega)) (Nat.le_of_ble_eq_true rfl) dL_law_1772 (c_X9_thrown w2.1) (fun v5 h5 _ q5 => ?_)
    obtain ⟨rfl, rfl⟩ := q5
    refine r_iload dL_law_1775 rfl ?_
    refine r_icmp_eq 1782 dL_law_1777 (by decide) (fun _ => ?_) (fun c9 => absurd ht c9)
    refine r_iload dL_law_1782 rfl ?_
    refine r_if_ne 1799 dL_law_1784 (by decide) (fun c9 => absurd (by rw [hz]; rfl) c9) (fun _ => ?_)
    refine r_aload_n dL_law_1787 rfl ?_
    refine r_iconst (0) dL_law_1788 (by decide) ?_
    refine q_lald (k := 0) w2.1 kc_737 kn_0 (by decide) (by decide) dL_law_1789 ?_
    rw [ho2]
    refine r_iload dL_law_1790 rfl ?_
    refine r_i2l dL_law_1792 ?_
    refine r_lcmp dL_law_1793 ?_
    refine r_if_eq 1799 dL_law_1794 (by decide) (fun _ => ?_) (fun c9 => absurd lg_cmp_s c9)
    refine r_goto 4127 dL_law_1799 (by decide) ?_
    exact kk _ _ _ _ _ _ _ _ _ _ _ _ _ _ w2 hp2 (by show cs.1 + 1 + 0 ≤ _; omega) (by show cs.2 + 6 + 0 ≤ _; omega)
  · obtain rfl := q2 hz
    have w1 := w
    refine r_istore (ls2 := [some (.ref 0), some (.ref 1), some (.ref 723), some (.ref 737), some (.ref 738), some (.int (nI (6 * j))), some _, _, _]) dL_law_1757 (by decide) rfl ?_
    refine r_aload_n dL_law_1759 rfl ?_
    refine r_aload_n dL_law_1760 rfl ?_
    refine r_iload dL_law_1761 rfl ?_
    refine r_iconst (1) dL_law_1763 (by decide) ?_
    refine r_iadd dL_law_1764 ?_
    refine r_sld (k := 6 * j + 1) (nadd rfl kn_1) (by omega) hL3 dL_law_1765 ?_
    refine q_callT1 (cv_X9_run ml_L_287) w1.1 kc_723 (by decide) rfl (rmL rfl (by show cs.1 + 1 + 0 ≤ _; omega) (by show cs.2 + 6 + 0 ≤ _; omega)) (Nat.le_of_ble_eq_true rfl) dL_law_1766 (c_X9_run (hW := w1.1) (hm := w1.2.2.1) (hO := hp.1.1) (hm28 := (by omega)) (hL := w1.2.2.2.1) (hb := hb9)) (fun v2 h2 ty2 p2 => ?_)
    obtain ⟨y2, rfl⟩ : ∃ x, v2 = some (.int x) := ty2
    have p3 := p2.1 hz
    have w2 := st_rq w1 hp p3
    have ht := p3.2.1
    refine r_istore (ls2 := [some (.ref 0), some (.ref 1), some (.ref 723), some (.ref 737), some (.ref 738), some (.int (nI (6 * j))), _, some _, _]) dL_law_1769 (by decide) rfl ?_
    refine r_aload_n dL_law_1771 rfl ?_
    refine q_callT0 (cv_X9_thrown ml_L_222) w2.1 kc_723 (by decide) rfl (rmL rfl (by show cs.1 + 1 + 0 + 0 ≤ _; omega) (by show cs.2 + 6 + 0 + 0 ≤ _; omega)) (Nat.le_of_ble_eq_true rfl) dL_law_1772 (c_X9_thrown w2.1) (fun v5 h5 _ q5 => ?_)
    obtain ⟨rfl, rfl⟩ := q5
    refine r_iload dL_law_1775 rfl ?_
    refine r_icmp_eq 1782 dL_law_1777 (by decide) (fun _ => ?_) (fun c9 => absurd ht c9)
    refine r_iload dL_law_1782 rfl ?_
    refine r_if_ne 1799 dL_law_1784 (by decide) (fun _ => ?_) (fun c9 => absurd c9 (nI_nz hz (by have := (show cd1 (rgB 1 300 (gX G (6 * j + 1))) ≤ 4 from Nat.le_trans cd1_le (by decide)); omega)))
    refine r_goto 4127 dL_law_1799 (by decide) ?_
    exact kk _ _ _ _ _ _ _ _ _ _ _ _ _ _ w2 hp.nx (by show cs.1 + 1 + 0 ≤ _; omega) (by show cs.2 + 6 + 0 ≤ _; omega)
theorem cs_L_push : CStH RL 288 mL_push 4 := ⟨ml_L_288, (tgI 1215 (by decide +kernel) rfl), (tgI 98 (by decide +kernel) rfl), (tgI 1216 (by decide +kernel) rfl), ok_L_push⟩
set_option maxRecDepth 100000 in
set_option maxHeartbeats 4000000 in
theorem law_26 {l9 : Launch} {G : GC} {Fi : CX → State → Prop} {h : AH} {r s : Row} {L : List Row} {sv : Bool} {b : Nat → Int32} {n j : Nat} {o : Ob} {er eo : Int32} {l6 l7 l8 : Option Value} {cs : Nat × Nat} (hG : GOK G) (hj : 6 * j + 6 ≤ gL G) (hL3 : gL G ≤ 3072) (w : StL h r L r L s sv b n o er eo) (hp : LvP r L s sv b n (300 * j)) (hc1 : cs.1 ≤ 800 + 60 * j) (hc2 : cs.2 ≤ 40000 + 400 * j) (kk : LNx l9 G Fi j) : PW l9 G mL_law room_1 Fi NT 1802 [some (.ref 0), some (.ref 1), some (.ref 723), some (.ref 737), some (.ref 738), some (.int (nI (6 * j))), l6, l7, l8] [] cs h := by
  have hb9 : 300 * j + 300 < 2 ^ 23 := by omega
  refine r_aload_n dL_law_1802 rfl ?_
  refine r_aload_n dL_law_1803 rfl ?_
  refine r_iload dL_law_1804 rfl ?_
  refine r_iconst (1) dL_law_1806 (by decide) ?_
  refine r_iadd dL_law_1807 ?_
  refine r_sld (k := 6 * j + 1) (nadd rfl kn_1) (by omega) hL3 dL_law_1808 ?_
  refine r_aload_n dL_law_1809 rfl ?_
  refine r_iload dL_law_1810 rfl ?_
  refine r_iconst (2) dL_law_1812 (by decide) ?_
  refine r_iadd dL_law_1813 ?_
  refine r_sld (k := 6 * j + 2) (nadd rfl kn_2) (by omega) hL3 dL_law_1814 ?_
  refine r_aload_n dL_law_1815 rfl ?_
  refine r_callSH4 cs_L_push (rmL rfl (by show cs.1 + 2 ≤ _; omega) (by show cs.2 + 12 ≤ _; omega)) (Nat.le_of_ble_eq_true rfl) dL_law_1816 (c_L_push hG w.1 cd2_le (c_X8_push (hW := w.1) (hs := w.2.1.1) (hO := hp.1.1) (hL := w.2.1.2.1) (hLO := hp.ls)) (fun _ e9 => e9.1.1.1)) (fun v1 h1 q1 => ?_)
  obtain ⟨rfl, q2, q3⟩ := q1
  by_cases hz : cd2 (okP r (gX G (6 * j + 1))) (rgB 0 999 (gX G (6 * j + 2))) = 0
  · obtain ⟨h3, q4, rfl⟩ := q3 hz
    have hp2 := hp.push w.2.1.2.1.2.1 (m' := 300 * (j + 1)) ((ok2_push hp.1 hz).wk (by omega)) (by omega)
    have w1 := st_out (v := ((puF r (gX G (6 * j + 1)) (gX G (6 * j + 2)) 20)).toInt64) (st_cc w hp q4.1 q4.2.1 q4.2.2) hp2
    have ho : aJ (sJ h3 737 0 (((puF r (gX G (6 * j + 1)) (gX G (6 * j + 2)) 20)).toInt64)) 737 0 = ((puF r (gX G (6 * j + 1)) (gX G (6 * j + 2)) 20)).toInt64 := sJ_at0
    refine r_istore (ls2 := [some (.ref 0), some (.ref 1), some (.ref 723), some (.ref 737), some (.ref 738), some (.int (nI (6 * j))), some _, _, _]) dL_law_1819 (by decide) rfl ?_
    refine r_aload_n dL_law_1821 rfl ?_
    refine r_aload_n dL_law_1822 rfl ?_
    refine r_iload dL_law_1823 rfl ?_
    refine r_iconst (1) dL_law_1825 (by decide) ?_
    refine r_iadd dL_law_1826 ?_
    refine r_sld (k := 6 * j + 1) (nadd rfl kn_1) (by omega) hL3 dL_law_1827 ?_
    refine r_aload_n dL_law_1828 rfl ?_
    refine r_iload dL_law_1829 rfl ?_
    refine r_iconst (2) dL_law_1831 (by decide) ?_
    refine r_iadd dL_law_1832 ?_
    refine r_sld (k := 6 * j + 2) (nadd rfl kn_2) (by omega) hL3 dL_law_1833 ?_
    refine q_callT2 (cv_X9_push ml_L_290) w1.1 kc_723 (by decide) rfl (rmL rfl (by show cs.1 + 2 + 0 ≤ _; omega) (by show cs.2 + 12 + 0 ≤ _; omega)) (Nat.le_of_ble_eq_true rfl) dL_law_1834 (c_X9_push (hW := w1.1) (hm := w1.2.2.1) (hO := hp.1.1) (hm28 := (by omega)) (hL := w1.2.2.2.1)) (fun v2 h2 ty2 p2 => ?_)
    obtain ⟨rfl, p3, p4, p5⟩ := p2.2 hz
    have w2 := st_rc w1 hp2 p3 p4 p5
    have ht : aI h2 723 12 = nI (cd2 (okP r (gX G (6 * j + 1))) (rgB 0 999 (gX G (6 * j + 2)))) := by rw [hz]; exact p3.2.1
    have ho2 : aJ h2 737 0 = _ := (congrFun (p3.1.J (show ¬ RS 737 by unfold RS; omega)) 0).trans ho
    refine r_istore (ls2 := [some (.ref 0), some (.ref 1), some (.ref 723), some (.ref 737), some (.ref 738), some (.int (nI (6 * j))), _, some _, _]) dL_law_1837 (by decide) rfl ?_
    refine r_aload_n dL_law_1839 rfl ?_
    refine q_callT0 (cv_X9_thrown ml_L_222) w2.1 kc_723 (by decide) rfl (rmL rfl (by show cs.1 + 2 + 0 + 0 ≤ _; omega) (by show cs.2 + 12 + 0 + 0 ≤ _; omega)) (Nat.le_of_ble_eq_true rfl) dL_law_1840 (c_X9_thrown w2.1) (fun v5 h5 _ q5 => ?_)
    obtain ⟨rfl, rfl⟩ := q5
    refine r_iload dL_law_1843 rfl ?_
    refine r_icmp_eq 1850 dL_law_1845 (by decide) (fun _ => ?_) (fun c9 => absurd ht c9)
    refine r_iload dL_law_1850 rfl ?_
    refine r_if_ne 1867 dL_law_1852 (by decide) (fun c9 => absurd (by rw [hz]; rfl) c9) (fun _ => ?_)
    refine r_aload_n dL_law_1855 rfl ?_
    refine r_iconst (0) dL_law_1856 (by decide) ?_
    refine q_lald (k := 0) w2.1 kc_737 kn_0 (by decide) (by decide) dL_law_1857 ?_
    rw [ho2]
    refine r_iload dL_law_1858 rfl ?_
    refine r_i2l dL_law_1860 ?_
    refine r_lcmp dL_law_1861 ?_
    refine r_if_eq 1867 dL_law_1862 (by decide) (fun _ => ?_) (fun c9 => absurd lg_cmp_s c9)
    refine r_goto 4127 dL_law_1867 (by decide) ?_
    exact kk _ _ _ _ _ _ _ _ _ _ _ _ _ _ w2 hp2 (by show cs.1 + 2 + 0 ≤ _; omega) (by show cs.2 + 12 + 0 ≤ _; omega)
  · obtain rfl := q2 hz
    have w1 := w
    refine r_istore (ls2 := [some (.ref 0), some (.ref 1), some (.ref 723), some (.ref 737), some (.ref 738), some (.int (nI (6 * j))), some _, _, _]) dL_law_1819 (by decide) rfl ?_
    refine r_aload_n dL_law_1821 rfl ?_
    refine r_aload_n dL_law_1822 rfl ?_
    refine r_iload dL_law_1823 rfl ?_
    refine r_iconst (1) dL_law_1825 (by decide) ?_
    refine r_iadd dL_law_1826 ?_
    refine r_sld (k := 6 * j + 1) (nadd rfl kn_1) (by omega) hL3 dL_law_1827 ?_
    refine r_aload_n dL_law_1828 rfl ?_
    refine r_iload dL_law_1829 rfl ?_
    refine r_iconst (2) dL_law_1831 (by decide) ?_
    refine r_iadd dL_law_1832 ?_
    refine r_sld (k := 6 * j + 2) (nadd rfl kn_2) (by omega) hL3 dL_law_1833 ?_
    refine q_callT2 (cv_X9_push ml_L_290) w1.1 kc_723 (by decide) rfl (rmL rfl (by show cs.1 + 2 + 0 ≤ _; omega) (by show cs.2 + 12 + 0 ≤ _; omega)) (Nat.le_of_ble_eq_true rfl) dL_law_1834 (c_X9_push (hW := w1.1) (hm := w1.2.2.1) (hO := hp.1.1) (hm28 := (by omega)) (hL := w1.2.2.2.1)) (fun v2 h2 ty2 p2 => ?_)
    obtain ⟨y2, rfl⟩ : ∃ x, v2 = some (.int x) := ty2
    have p3 := p2.1 hz
    have w2 := st_rq w1 hp p3
    have ht := p3.2.1
    refine r_istore (ls2 := [some (.ref 0), some (.ref 1), some (.ref 723), some (.ref 737), some (.ref 738), some (.int (nI (6 * j))), _, some _, _]) dL_law_1837 (by decide) rfl ?_
    refine r_aload_n dL_law_1839 rfl ?_
    refine q_callT0 (cv_X9_thrown ml_L_222) w2.1 kc_723 (by decide) rfl (rmL rfl (by show cs.1 + 2 + 0 + 0 ≤ _; omega) (by show cs.2 + 12 + 0 + 0 ≤ _; omega)) (Nat.le_of_ble_eq_true rfl) dL_law_1840 (c_X9_thrown w2.1) (fun v5 h5 _ q5 => ?_)
    obtain ⟨rfl, rfl⟩ := q5
    refine r_iload dL_law_1843 rfl ?_
    refine r_icmp_eq 1850 dL_law_1845 (by decide) (fun _ => ?_) (fun c9 => absurd ht c9)
    refine r_iload dL_law_1850 rfl ?_
    refine r_if_ne 1867 dL_law_1852 (by decide) (fun _ => ?_) (fun c9 => absurd c9 (nI_nz hz (by have := (show cd2 (okP r (gX G (6 * j + 1))) (rgB 0 999 (gX G (6 * j + 2))) ≤ 4 from Nat.le_trans cd2_le (by decide)); omega)))
    refine r_goto 4127 dL_law_1867 (by decide) ?_
    exact kk _ _ _ _ _ _ _ _ _ _ _ _ _ _ w2 hp.nx (by show cs.1 + 2 + 0 ≤ _; omega) (by show cs.2 + 12 + 0 ≤ _; omega)
theorem cs_L_protect : CStH RL 291 mL_protect 4 := ⟨ml_L_291, (tgI 1223 (by decide +kernel) rfl), (tgI 98 (by decide +kernel) rfl), (tgI 1224 (by decide +kernel) rfl), ok_L_protect⟩
set_option maxRecDepth 100000 in
set_option maxHeartbeats 4000000 in
theorem law_27_0 {l9 : Launch} {G : GC} {Fi : CX → State → Prop} {h : AH} {r s : Row} {L : List Row} {sv : Bool} {b : Nat → Int32} {n j : Nat} {o : Ob} {er eo : Int32} {l6 l7 l8 : Option Value} {cs : Nat × Nat} (hG : GOK G) (hj : 6 * j + 6 ≤ gL G) (hL3 : gL G ≤ 3072) (hy : gX G (6 * j + 2) = 0) (w : StL h r L r L s sv b n o er eo) (hp : LvP r L s sv b n (300 * j)) (hc1 : cs.1 ≤ 800 + 60 * j) (hc2 : cs.2 ≤ 40000 + 400 * j) (kk : LNx l9 G Fi j) : PW l9 G mL_law room_1 Fi NT 1870 [some (.ref 0), some (.ref 1), some (.ref 723), some (.ref 737), some (.ref 738), some (.int (nI (6 * j))), l6, l7, l8] [] cs h := by
  have hb9 : 300 * j + 300 < 2 ^ 23 := by omega
  refine r_aload_n dL_law_1870 rfl ?_
  refine r_aload_n dL_law_1871 rfl ?_
  refine r_iload dL_law_1872 rfl ?_
  refine r_iconst (1) dL_law_1874 (by decide) ?_
  refine r_iadd dL_law_1875 ?_
  refine r_sld (k := 6 * j + 1) (nadd rfl kn_1) (by omega) hL3 dL_law_1876 ?_
  refine r_aload_n dL_law_1877 rfl ?_
  refine r_iload dL_law_1878 rfl ?_
  refine r_iconst (2) dL_law_1880 (by decide) ?_
  refine r_iadd dL_law_1881 ?_
  refine r_sld (k := 6 * j + 2) (nadd rfl kn_2) (by omega) hL3 dL_law_1882 ?_
  refine r_if_eq 1890 dL_law_1883 (by decide) (fun _ => ?_) (fun c9 => absurd hy c9)
  refine r_iconst (0) dL_law_1890 (by decide) ?_
  refine r_aload_n dL_law_1891 rfl ?_
  refine r_callSH4 cs_L_protect (rmL rfl (by show cs.1 + 1 ≤ _; omega) (by show cs.2 + 6 ≤ _; omega)) (Nat.le_of_ble_eq_true rfl) dL_law_1892 (c_L_protect hG w.1 cd1_le (c_X8_protect (hW := w.1) (hs := w.2.1.1) (hO := hp.1.1) (hL := w.2.1.2.1) (hLO := hp.ls) (b := false)) (fun _ e9 => e9.1.1.1)) (fun v1 h1 q1 => ?_)
  obtain ⟨rfl, q2, q3⟩ := q1
  by_cases hz : cd1 (mbP r (gX G (6 * j + 1))).isSome = 0
  · obtain ⟨h3, q4, rfl⟩ := q3 hz
    have hp2 := hp.push w.2.1.2.1.2.1 (m' := 300 * (j + 1)) ((ok2_prot (x := (gX G (6 * j + 1))) (b := false) hp.1).wk (by omega)) (by omega)
    have w1 := st_out (v := (if ((mbAo r (gX G (6 * j + 1)) 4)) = 0 then 0 else 1 : Int64)) (st_cc w hp q4.1 q4.2.1 q4.2.2) hp2
    have ho : aJ (sJ h3 737 0 ((if ((mbAo r (gX G (6 * j + 1)) 4)) = 0 then 0 else 1 : Int64))) 737 0 = (if ((mbAo r (gX G (6 * j + 1)) 4)) = 0 then 0 else 1 : Int64) := sJ_at0
    refine r_istore (ls2 := [some (.ref 0), some (.ref 1), some (.ref 723), some (.ref 737), some (.ref 738), some (.int (nI (6 * j))), some _, _, _]) dL_law_1895 (by decide) rfl ?_
    refine r_aload_n dL_law_1897 rfl ?_
    refine r_aload_n dL_law_1898 rfl ?_
    refine r_iload dL_law_1899 rfl ?_
    refine r_iconst (1) dL_law_1901 (by decide) ?_
    refine r_iadd dL_law_1902 ?_
    refine r_sld (k := 6 * j + 1) (nadd rfl kn_1) (by omega) hL3 dL_law_1903 ?_
    refine r_aload_n dL_law_1904 rfl ?_
    refine r_iload dL_law_1905 rfl ?_
    refine r_iconst (2) dL_law_1907 (by decide) ?_
    refine r_iadd dL_law_1908 ?_
    refine r_sld (k := 6 * j + 2) (nadd rfl kn_2) (by omega) hL3 dL_law_1909 ?_
    refine r_if_eq 1917 dL_law_1910 (by decide) (fun _ => ?_) (fun c9 => absurd hy c9)
    refine r_iconst (0) dL_law_1917 (by decide) ?_
    refine q_callT2 (cv_X9_protect ml_L_293) w1.1 kc_723 (by decide) rfl (rmL rfl (by show cs.1 + 1 + 0 ≤ _; omega) (by show cs.2 + 6 + 0 ≤ _; omega)) (Nat.le_of_ble_eq_true rfl) dL_law_1918 (c_X9_protect (hW := w1.1) (hm := w1.2.2.1) (hO := hp.1.1) (hm28 := (by omega)) (hL := w1.2.2.2.1) (b := false)) (fun v2 h2 ty2 p2 => ?_)
    obtain ⟨rfl, p3, p4, p5⟩ := p2.2 hz
    have w2 := st_rc w1 hp2 p3 p4 p5
    have ht : aI h2 723 12 = nI (cd1 (mbP r (gX G (6 * j + 1))).isSome) := by rw [hz]; exact p3.2.1
    have ho2 : aJ h2 737 0 = _ := (congrFun (p3.1.J (show ¬ RS 737 by unfold RS; omega)) 0).trans ho
    refine r_istore (ls2 := [some (.ref 0), some (.ref 1), some (.ref 723), some (.ref 737), some (.ref 738), some (.int (nI (6 * j))), _, some _, _]) dL_law_1921 (by decide) rfl ?_
    refine r_aload_n dL_law_1923 rfl ?_
    refine q_callT0 (cv_X9_thrown ml_L_222) w2.1 kc_723 (by decide) rfl (rmL rfl (by show cs.1 + 1 + 0 + 0 ≤ _; omega) (by show cs.2 + 6 + 0 + 0 ≤ _; omega)) (Nat.le_of_ble_eq_true rfl) dL_law_1924 (c_X9_thrown w2.1) (fun v5 h5 _ q5 => ?_)
    obtain ⟨rfl, rfl⟩ := q5
    refine r_iload dL_law_1927 rfl ?_
    refine r_icmp_eq 1934 dL_law_1929 (by decide) (fun _ => ?_) (fun c9 => absurd ht c9)
    refine r_iload dL_law_1934 rfl ?_
    refine r_if_ne 1958 dL_law_1936 (by decide) (fun c9 => absurd (by rw [hz]; rfl) c9) (fun _ => ?_)
    refine r_aload_n dL_law_1939 rfl ?_
    refine r_iconst (0) dL_law_1940 (by decide) ?_
    refine q_lald (k := 0) w2.1 kc_737 kn_0 (by decide) (by decide) dL_law_1941 ?_
    refine r_iload dL_law_1942 rfl ?_
    refine r_if_eq 1951 dL_law_1944 (by decide) (fun c0 => ?_) (fun c0 => ?_)
    · rw [ho2, if_pos c0]
      refine r_lconst (0) dL_law_1951 (by decide) ?_
      refine r_lcmp dL_law_1952 ?_
      refine r_if_eq 1958 dL_law_1953 (by decide) (fun _ => ?_) (fun c9 => absurd lg_cmp_s c9)
      refine r_goto 4127 dL_law_1958 (by decide) ?_
      exact kk _ _ _ _ _ _ _ _ _ _ _ _ _ _ w2 hp2 (by show cs.1 + 1 + 0 ≤ _; omega) (by show cs.2 + 6 + 0 ≤ _; omega)
    · rw [ho2, if_neg c0]
      refine r_lconst (1) dL_law_1947 (by decide) ?_
      refine r_goto 1952 dL_law_1948 (by decide) ?_
      refine r_lcmp dL_law_1952 ?_
      refine r_if_eq 1958 dL_law_1953 (by decide) (fun _ => ?_) (fun c9 => absurd lg_cmp_s c9)
      refine r_goto 4127 dL_law_1958 (by decide) ?_
      exact kk _ _ _ _ _ _ _ _ _ _ _ _ _ _ w2 hp2 (by show cs.1 + 1 + 0 ≤ _; omega) (by show cs.2 + 6 + 0 ≤ _; omega)
  · obtain rfl := q2 hz
    have w1 := w
    refine r_istore (ls2 := [some (.ref 0), some (.ref 1), some (.ref 723), some (.ref 737), some (.ref 738), some (.int (nI (6 * j))), some _, _, _]) dL_law_1895 (by decide) rfl ?_
    refine r_aload_n dL_law_1897 rfl ?_
    refine r_aload_n dL_law_1898 rfl ?_
    refine r_iload dL_law_1899 rfl ?_
    refine r_iconst (1) dL_law_1901 (by decide) ?_
    refine r_iadd dL_law_1902 ?_
    refine r_sld (k := 6 * j + 1) (nadd rfl kn_1) (by omega) hL3 dL_law_1903 ?_
    refine r_aload_n dL_law_1904 rfl ?_
    refine r_iload dL_law_1905 rfl ?_
    refine r_iconst (2) dL_law_1907 (by decide) ?_
    refine r_iadd dL_law_1908 ?_
    refine r_sld (k := 6 * j + 2) (nadd rfl kn_2) (by omega) hL3 dL_law_1909 ?_
    refine r_if_eq 1917 dL_law_1910 (by decide) (fun _ => ?_) (fun c9 => absurd hy c9)
    refine r_iconst (0) dL_law_1917 (by decide) ?_
    refine q_callT2 (cv_X9_protect ml_L_293) w1.1 kc_723 (by decide) rfl (rmL rfl (by show cs.1 + 1 + 0 ≤ _; omega) (by show cs.2 + 6 + 0 ≤ _; omega)) (Nat.le_of_ble_eq_true rfl) dL_law_1918 (c_X9_protect (hW := w1.1) (hm := w1.2.2.1) (hO := hp.1.1) (hm28 := (by omega)) (hL := w1.2.2.2.1) (b := false)) (fun v2 h2 ty2 p2 => ?_)
    obtain ⟨y2, rfl⟩ : ∃ x, v2 = some (.int x) := ty2
    have p3 := p2.1 hz
    have w2 := st_rq w1 hp p3
    have ht := p3.2.1
    refine r_istore (ls2 := [some (.ref 0), some (.ref 1), some (.ref 723), some (.ref 737), some (.ref 738), some (.int (nI (6 * j))), _, some _, _]) dL_law_1921 (by decide) rfl ?_
    refine r_aload_n dL_law_1923 rfl ?_
    refine q_callT0 (cv_X9_thrown ml_L_222) w2.1 kc_723 (by decide) rfl (rmL rfl (by show cs.1 + 1 + 0 + 0 ≤ _; omega) (by show cs.2 + 6 + 0 + 0 ≤ _; omega)) (Nat.le_of_ble_eq_true rfl) dL_law_1924 (c_X9_thrown w2.1) (fun v5 h5 _ q5 => ?_)
    obtain ⟨rfl, rfl⟩ := q5
    refine r_iload dL_law_1927 rfl ?_
    refine r_icmp_eq 1934 dL_law_1929 (by decide) (fun _ => ?_) (fun c9 => absurd ht c9)
    refine r_iload dL_law_1934 rfl ?_
    refine r_if_ne 1958 dL_law_1936 (by decide) (fun _ => ?_) (fun c9 => absurd c9 (nI_nz hz (by have := (show cd1 (mbP r (gX G (6 * j + 1))).isSome ≤ 4 from Nat.le_trans cd1_le (by decide)); omega)))
    refine r_goto 4127 dL_law_1958 (by decide) ?_
    exact kk _ _ _ _ _ _ _ _ _ _ _ _ _ _ w2 hp.nx (by show cs.1 + 1 + 0 ≤ _; omega) (by show cs.2 + 6 + 0 ≤ _; omega)
set_option maxRecDepth 100000 in
set_option maxHeartbeats 4000000 in
theorem law_27_1 {l9 : Launch} {G : GC} {Fi : CX → State → Prop} {h : AH} {r s : Row} {L : List Row} {sv : Bool} {b : Nat → Int32} {n j : Nat} {o : Ob} {er eo : Int32} {l6 l7 l8 : Option Value} {cs : Nat × Nat} (hG : GOK G) (hj : 6 * j + 6 ≤ gL G) (hL3 : gL G ≤ 3072) (hy : ¬ gX G (6 * j + 2) = 0) (w : StL h r L r L s sv b n o er eo) (hp : LvP r L s sv b n (300 * j)) (hc1 : cs.1 ≤ 800 + 60 * j) (hc2 : cs.2 ≤ 40000 + 400 * j) (kk : LNx l9 G Fi j) : PW l9 G mL_law room_1 Fi NT 1870 [some (.ref 0), some (.ref 1), some (.ref 723), some (.ref 737), some (.ref 738), some (.int (nI (6 * j))), l6, l7, l8] [] cs h := by
  have hb9 : 300 * j + 300 < 2 ^ 23 := by omega
  refine r_aload_n dL_law_1870 rfl ?_
  refine r_aload_n dL_law_1871 rfl ?_
  refine r_iload dL_law_1872 rfl ?_
  refine r_iconst (1) dL_law_1874 (by decide) ?_
  refine r_iadd dL_law_1875 ?_
  refine r_sld (k := 6 * j + 1) (nadd rfl kn_1) (by omega) hL3 dL_law_1876 ?_
  refine r_aload_n dL_law_1877 rfl ?_
  refine r_iload dL_law_1878 rfl ?_
  refine r_iconst (2) dL_law_1880 (by decide) ?_
  refine r_iadd dL_law_1881 ?_
  refine r_sld (k := 6 * j + 2) (nadd rfl kn_2) (by omega) hL3 dL_law_1882 ?_
  refine r_if_eq 1890 dL_law_1883 (by decide) (fun c9 => absurd c9 hy) (fun _ => ?_)
  refine r_iconst (1) dL_law_1886 (by decide) ?_
  refine r_goto 1891 dL_law_1887 (by decide) ?_
  refine r_aload_n dL_law_1891 rfl ?_
  refine r_callSH4 cs_L_protect (rmL rfl (by show cs.1 + 1 ≤ _; omega) (by show cs.2 + 6 ≤ _; omega)) (Nat.le_of_ble_eq_true rfl) dL_law_1892 (c_L_protect hG w.1 cd1_le (c_X8_protect (hW := w.1) (hs := w.2.1.1) (hO := hp.1.1) (hL := w.2.1.2.1) (hLO := hp.ls) (b := true)) (fun _ e9 => e9.1.1.1)) (fun v1 h1 q1 => ?_)
  obtain ⟨rfl, q2, q3⟩ := q1
  by_cases hz : cd1 (mbP r (gX G (6 * j + 1))).isSome = 0
  · obtain ⟨h3, q4, rfl⟩ := q3 hz
    have hp2 := hp.push w.2.1.2.1.2.1 (m' := 300 * (j + 1)) ((ok2_prot (x := (gX G (6 * j + 1))) (b := true) hp.1).wk (by omega)) (by omega)
    have w1 := st_out (v := (if ((mbAo r (gX G (6 * j + 1)) 4)) = 0 then 0 else 1 : Int64)) (st_cc w hp q4.1 q4.2.1 q4.2.2) hp2
    have ho : aJ (sJ h3 737 0 ((if ((mbAo r (gX G (6 * j + 1)) 4)) = 0 then 0 else 1 : Int64))) 737 0 = (if ((mbAo r (gX G (6 * j + 1)) 4)) = 0 then 0 else 1 : Int64) := sJ_at0
    refine r_istore (ls2 := [some (.ref 0), some (.ref 1), some (.ref 723), some (.ref 737), some (.ref 738), some (.int (nI (6 * j))), some _, _, _]) dL_law_1895 (by decide) rfl ?_
    refine r_aload_n dL_law_1897 rfl ?_
    refine r_aload_n dL_law_1898 rfl ?_
    refine r_iload dL_law_1899 rfl ?_
    refine r_iconst (1) dL_law_1901 (by decide) ?_
    refine r_iadd dL_law_1902 ?_
    refine r_sld (k := 6 * j + 1) (nadd rfl kn_1) (by omega) hL3 dL_law_1903 ?_
    refine r_aload_n dL_law_1904 rfl ?_
    refine r_iload dL_law_1905 rfl ?_
    refine r_iconst (2) dL_law_1907 (by decide) ?_
    refine r_iadd dL_law_1908 ?_
    refine r_sld (k := 6 * j + 2) (nadd rfl kn_2) (by omega) hL3 dL_law_1909 ?_
    refine r_if_eq 1917 dL_law_1910 (by decide) (fun c9 => absurd c9 hy) (fun _ => ?_)
    refine r_iconst (1) dL_law_1913 (by decide) ?_
    refine r_goto 1918 dL_law_1914 (by decide) ?_
    refine q_callT2 (cv_X9_protect ml_L_293) w1.1 kc_723 (by decide) rfl (rmL rfl (by show cs.1 + 1 + 0 ≤ _; omega) (by show cs.2 + 6 + 0 ≤ _; omega)) (Nat.le_of_ble_eq_true rfl) dL_law_1918 (c_X9_protect (hW := w1.1) (hm := w1.2.2.1) (hO := hp.1.1) (hm28 := (by omega)) (hL := w1.2.2.2.1) (b := true)) (fun v2 h2 ty2 p2 => ?_)
    obtain ⟨rfl, p3, p4, p5⟩ := p2.2 hz
    have w2 := st_rc w1 hp2 p3 p4 p5
    have ht : aI h2 723 12 = nI (cd1 (mbP r (gX G (6 * j + 1))).isSome) := by rw [hz]; exact p3.2.1
    have ho2 : aJ h2 737 0 = _ := (congrFun (p3.1.J (show ¬ RS 737 by unfold RS; omega)) 0).trans ho
    refine r_istore (ls2 := [some (.ref 0), some (.ref 1), some (.ref 723), some (.ref 737), some (.ref 738), some (.int (nI (6 * j))), _, some _, _]) dL_law_1921 (by decide) rfl ?_
    refine r_aload_n dL_law_1923 rfl ?_
    refine q_callT0 (cv_X9_thrown ml_L_222) w2.1 kc_723 (by decide) rfl (rmL rfl (by show cs.1 + 1 + 0 + 0 ≤ _; omega) (by show cs.2 + 6 + 0 + 0 ≤ _; omega)) (Nat.le_of_ble_eq_true rfl) dL_law_1924 (c_X9_thrown w2.1) (fun v5 h5 _ q5 => ?_)
    obtain ⟨rfl, rfl⟩ := q5
    refine r_iload dL_law_1927 rfl ?_
    refine r_icmp_eq 1934 dL_law_1929 (by decide) (fun _ => ?_) (fun c9 => absurd ht c9)
    refine r_iload dL_law_1934 rfl ?_
    refine r_if_ne 1958 dL_law_1936 (by decide) (fun c9 => absurd (by rw [hz]; rfl) c9) (fun _ => ?_)
    refine r_aload_n dL_law_1939 rfl ?_
    refine r_iconst (0) dL_law_1940 (by decide) ?_
    refine q_lald (k := 0) w2.1 kc_737 kn_0 (by decide) (by decide) dL_law_1941 ?_
    refine r_iload dL_law_1942 rfl ?_
    refine r_if_eq 1951 dL_law_1944 (by decide) (fun c0 => ?_) (fun c0 => ?_)
    · rw [ho2, if_pos c0]
      refine r_lconst (0) dL_law_1951 (by decide) ?_
      refine r_lcmp dL_law_1952 ?_
      refine r_if_eq 1958 dL_law_1953 (by decide) (fun _ => ?_) (fun c9 => absurd lg_cmp_s c9)
      refine r_goto 4127 dL_law_1958 (by decide) ?_
      exact kk _ _ _ _ _ _ _ _ _ _ _ _ _ _ w2 hp2 (by show cs.1 + 1 + 0 ≤ _; omega) (by show cs.2 + 6 + 0 ≤ _; omega)
    · rw [ho2, if_neg c0]
      refine r_lconst (1) dL_law_1947 (by decide) ?_
      refine r_goto 1952 dL_law_1948 (by decide) ?_
      refine r_lcmp dL_law_1952 ?_
      refine r_if_eq 1958 dL_law_1953 (by decide) (fun _ => ?_) (fun c9 => absurd lg_cmp_s c9)
      refine r_goto 4127 dL_law_1958 (by decide) ?_
      exact kk _ _ _ _ _ _ _ _ _ _ _ _ _ _ w2 hp2 (by show cs.1 + 1 + 0 ≤ _; omega) (by show cs.2 + 6 + 0 ≤ _; omega)
  · obtain rfl := q2 hz
    have w1 := w
    refine r_istore (ls2 := [some (.ref 0), some (.ref 1), some (.ref 723), some (.ref 737), some (.ref 738), some (.int (nI (6 * j))), some _, _, _]) dL_law_1895 (by decide) rfl ?_
    refine r_aload_n dL_law_1897 rfl ?_
    refine r_aload_n dL_law_1898 rfl ?_
    refine r_iload dL_law_1899 rfl ?_
    refine r_iconst (1) dL_law_1901 (by decide) ?_
    refine r_iadd dL_law_1902 ?_
    refine r_sld (k := 6 * j + 1) (nadd rfl kn_1) (by omega) hL3 dL_law_1903 ?_
    refine r_aload_n dL_law_1904 rfl ?_
    refine r_iload dL_law_1905 rfl ?_
    refine r_iconst (2) dL_law_1907 (by decide) ?_
    refine r_iadd dL_law_1908 ?_
    refine r_sld (k := 6 * j + 2) (nadd rfl kn_2) (by omega) hL3 dL_law_1909 ?_
    refine r_if_eq 1917 dL_law_1910 (by decide) (fun c9 => absurd c9 hy) (fun _ => ?_)
    refine r_iconst (1) dL_law_1913 (by decide) ?_
    refine r_goto 1918 dL_law_1914 (by decide) ?_
    refine q_callT2 (cv_X9_protect ml_L_293) w1.1 kc_723 (by decide) rfl (rmL rfl (by show cs.1 + 1 + 0 ≤ _; omega) (by show cs.2 + 6 + 0 ≤ _; omega)) (Nat.le_of_ble_eq_true rfl) dL_law_1918 (c_X9_protect (hW := w1.1) (hm := w1.2.2.1) (hO := hp.1.1) (hm28 := (by omega)) (hL := w1.2.2.2.1) (b := true)) (fun v2 h2 ty2 p2 => ?_)
    obtain ⟨y2, rfl⟩ : ∃ x, v2 = some (.int x) := ty2
    have p3 := p2.1 hz
    have w2 := st_rq w1 hp p3
    have ht := p3.2.1
    refine r_istore (ls2 := [some (.ref 0), some (.ref 1), some (.ref 723), some (.ref 737), some (.ref 738), some (.int (nI (6 * j))), _, some _, _]) dL_law_1921 (by decide) rfl ?_
    refine r_aload_n dL_law_1923 rfl ?_
    refine q_callT0 (cv_X9_thrown ml_L_222) w2.1 kc_723 (by decide) rfl (rmL rfl (by show cs.1 + 1 + 0 + 0 ≤ _; omega) (by show cs.2 + 6 + 0 + 0 ≤ _; omega)) (Nat.le_of_ble_eq_true rfl) dL_law_1924 (c_X9_thrown w2.1) (fun v5 h5 _ q5 => ?_)
    obtain ⟨rfl, rfl⟩ := q5
    refine r_iload dL_law_1927 rfl ?_
    refine r_icmp_eq 1934 dL_law_1929 (by decide) (fun _ => ?_) (fun c9 => absurd ht c9)
    refine r_iload dL_law_1934 rfl ?_
    refine r_if_ne 1958 dL_law_1936 (by decide) (fun _ => ?_) (fun c9 => absurd c9 (nI_nz hz (by have := (show cd1 (mbP r (gX G (6 * j + 1))).isSome ≤ 4 from Nat.le_trans cd1_le (by decide)); omega)))
    refine r_goto 4127 dL_law_1958 (by decide) ?_
    exact kk _ _ _ _ _ _ _ _ _ _ _ _ _ _ w2 hp.nx (by show cs.1 + 1 + 0 ≤ _; omega) (by show cs.2 + 6 + 0 ≤ _; omega)
theorem cs_L_grow : CStH RL 294 mL_grow 4 := ⟨ml_L_294, (tgI 1230 (by decide +kernel) rfl), (tgI 98 (by decide +kernel) rfl), (tgI 1231 (by decide +kernel) rfl), ok_L_grow⟩
set_option maxRecDepth 100000 in
set_option maxHeartbeats 4000000 in
theorem law_28 {l9 : Launch} {G : GC} {Fi : CX → State → Prop} {h : AH} {r s : Row} {L : List Row} {sv : Bool} {b : Nat → Int32} {n j : Nat} {o : Ob} {er eo : Int32} {l6 l7 l8 : Option Value} {cs : Nat × Nat} (hG : GOK G) (hj : 6 * j + 6 ≤ gL G) (hL3 : gL G ≤ 3072) (w : StL h r L r L s sv b n o er eo) (hp : LvP r L s sv b n (300 * j)) (hc1 : cs.1 ≤ 800 + 60 * j) (hc2 : cs.2 ≤ 40000 + 400 * j) (kk : LNx l9 G Fi j) : PW l9 G mL_law room_1 Fi NT 1961 [some (.ref 0), some (.ref 1), some (.ref 723), some (.ref 737), some (.ref 738), some (.int (nI (6 * j))), l6, l7, l8] [] cs h := by
  have hb9 : 300 * j + 300 < 2 ^ 23 := by omega
  refine r_aload_n dL_law_1961 rfl ?_
  refine r_aload_n dL_law_1962 rfl ?_
  refine r_iload dL_law_1963 rfl ?_
  refine r_iconst (1) dL_law_1965 (by decide) ?_
  refine r_iadd dL_law_1966 ?_
  refine r_sld (k := 6 * j + 1) (nadd rfl kn_1) (by omega) hL3 dL_law_1967 ?_
  refine r_aload_n dL_law_1968 rfl ?_
  refine r_iload dL_law_1969 rfl ?_
  refine r_iconst (2) dL_law_1971 (by decide) ?_
  refine r_iadd dL_law_1972 ?_
  refine r_sld (k := 6 * j + 2) (nadd rfl kn_2) (by omega) hL3 dL_law_1973 ?_
  refine r_aload_n dL_law_1974 rfl ?_
  refine r_callSH4 cs_L_grow (rmL rfl (by show cs.1 + 3 ≤ _; omega) (by show cs.2 + 18 ≤ _; omega)) (Nat.le_of_ble_eq_true rfl) dL_law_1975 (c_L_grow hG w.1 cd3_le (c_X8_grow (hW := w.1) (hs := w.2.1.1) (hO := hp.1.1) (hL := w.2.1.2.1) (hLO := hp.ls) (hb := hb9)) (fun _ e9 => e9.1.1.1)) (fun v1 h1 q1 => ?_)
  obtain ⟨rfl, q2, q3⟩ := q1
  by_cases hz : cd3 (okP r (gX G (6 * j + 1))) (rgB 1 5 (gX G (6 * j + 2))) (gwB (fP r (gX G (6 * j + 1))) (gX G (6 * j + 2))) = 0
  · obtain ⟨h3, q4, rfl⟩ := q3 hz
    have hp2 := hp.push w.2.1.2.1.2.1 (m' := 300 * (j + 1)) ((ok2_grow hp.1 hz hb9).wk (by omega)) (by omega)
    have w1 := st_out (v := ((getP (grR r (nn (gX G (6 * j + 1))) (nn (gX G (6 * j + 2)))).1 (nn (gX G (6 * j + 1))) 23)).toInt64) (st_cc w hp q4.1 q4.2.1 q4.2.2) hp2
    have ho : aJ (sJ h3 737 0 (((getP (grR r (nn (gX G (6 * j + 1))) (nn (gX G (6 * j + 2)))).1 (nn (gX G (6 * j + 1))) 23)).toInt64)) 737 0 = ((getP (grR r (nn (gX G (6 * j + 1))) (nn (gX G (6 * j + 2)))).1 (nn (gX G (6 * j + 1))) 23)).toInt64 := sJ_at0
    refine r_istore (ls2 := [some (.ref 0), some (.ref 1), some (.ref 723), some (.ref 737), some (.ref 738), some (.int (nI (6 * j))), some _, _, _]) dL_law_1978 (by decide) rfl ?_
    refine r_aload_n dL_law_1980 rfl ?_
    refine r_aload_n dL_law_1981 rfl ?_
    refine r_iload dL_law_1982 rfl ?_
    refine r_iconst (1) dL_law_1984 (by decide) ?_
    refine r_iadd dL_law_1985 ?_
    refine r_sld (k := 6 * j + 1) (nadd rfl kn_1) (by omega) hL3 dL_law_1986 ?_
    refine r_aload_n dL_law_1987 rfl ?_
    refine r_iload dL_law_1988 rfl ?_
    refine r_iconst (2) dL_law_1990 (by decide) ?_
    refine r_iadd dL_law_1991 ?_
    refine r_sld (k := 6 * j + 2) (nadd rfl kn_2) (by omega) hL3 dL_law_1992 ?_
    refine q_callT2 (cv_X9_grow ml_L_296) w1.1 kc_723 (by decide) rfl (rmL rfl (by show cs.1 + 3 + 0 ≤ _; omega) (by show cs.2 + 18 + 0 ≤ _; omega)) (Nat.le_of_ble_eq_true rfl) dL_law_1993 (c_X9_grow (hW := w1.1) (hm := w1.2.2.1) (hO := hp.1.1) (hm28 := (by omega)) (hL := w1.2.2.2.1) (hb := hb9)) (fun v2 h2 ty2 p2 => ?_)
    obtain ⟨rfl, p3, p4, p5⟩ := p2.2 hz
    have w2 := st_rc w1 hp2 p3 p4 p5
    have ht : aI h2 723 12 = nI (cd3 (okP r (gX G (6 * j + 1))) (rgB 1 5 (gX G (6 * j + 2))) (gwB (fP r (gX G (6 * j + 1))) (gX G (6 * j + 2)))) := by rw [hz]; exact p3.2.1
    have ho2 : aJ h2 737 0 = _ := (congrFun (p3.1.J (show ¬ RS 737 by unfold RS; omega)) 0).trans ho
    refine r_istore (ls2 := [some (.ref 0), some (.ref 1), some (.ref 723), some (.ref 737), some (.ref 738), some (.int (nI (6 * j))), _, some _, _]) dL_law_1996 (by decide) rfl ?_
    refine r_aload_n dL_law_1998 rfl ?_
    refine q_callT0 (cv_X9_thrown ml_L_222) w2.1 kc_723 (by decide) rfl (rmL rfl (by show cs.1 + 3 + 0 + 0 ≤ _; omega) (by show cs.2 + 18 + 0 + 0 ≤ _; omega)) (Nat.le_of_ble_eq_true rfl) dL_law_1999 (c_X9_thrown w2.1) (fun v5 h5 _ q5 => ?_)
    obtain ⟨rfl, rfl⟩ := q5
    refine r_iload dL_law_2002 rfl ?_
    refine r_icmp_eq 2009 dL_law_2004 (by decide) (fun _ => ?_) (fun c9 => absurd ht c9)
    refine r_iload dL_law_2009 rfl ?_
    refine r_if_ne 2026 dL_law_2011 (by decide) (fun c9 => absurd (by rw [hz]; rfl) c9) (fun _ => ?_)
    refine r_aload_n dL_law_2014 rfl ?_
    refine r_iconst (0) dL_law_2015 (by decide) ?_
    refine q_lald (k := 0) w2.1 kc_737 kn_0 (by decide) (by decide) dL_law_2016 ?_
    rw [ho2]
    refine r_iload dL_law_2017 rfl ?_
    refine r_i2l dL_law_2019 ?_
    refine r_lcmp dL_law_2020 ?_
    refine r_if_eq 2026 dL_law_2021 (by decide) (fun _ => ?_) (fun c9 => absurd lg_cmp_s c9)
    refine r_goto 4127 dL_law_2026 (by decide) ?_
    exact kk _ _ _ _ _ _ _ _ _ _ _ _ _ _ w2 hp2 (by show cs.1 + 3 + 0 ≤ _; omega) (by show cs.2 + 18 + 0 ≤ _; omega)
  · obtain rfl := q2 hz
    have w1 := w
    refine r_istore (ls2 := [some (.ref 0), some (.ref 1), some (.ref 723), some (.ref 737), some (.ref 738), some (.int (nI (6 * j))), some _, _, _]) dL_law_1978 (by decide) rfl ?_
    refine r_aload_n dL_law_1980 rfl ?_
    refine r_aload_n dL_law_1981 rfl ?_
    refine r_iload dL_law_1982 rfl ?_
    refine r_iconst (1) dL_law_1984 (by decide) ?_
    refine r_iadd dL_law_1985 ?_
    refine r_sld (k := 6 * j + 1) (nadd rfl kn_1) (by omega) hL3 dL_law_1986 ?_
    refine r_aload_n dL_law_1987 rfl ?_
    refine r_iload dL_law_1988 rfl ?_
    refine r_iconst (2) dL_law_1990 (by decide) ?_
    refine r_iadd dL_law_1991 ?_
    refine r_sld (k := 6 * j + 2) (nadd rfl kn_2) (by omega) hL3 dL_law_1992 ?_
    refine q_callT2 (cv_X9_grow ml_L_296) w1.1 kc_723 (by decide) rfl (rmL rfl (by show cs.1 + 3 + 0 ≤ _; omega) (by show cs.2 + 18 + 0 ≤ _; omega)) (Nat.le_of_ble_eq_true rfl) dL_law_1993 (c_X9_grow (hW := w1.1) (hm := w1.2.2.1) (hO := hp.1.1) (hm28 := (by omega)) (hL := w1.2.2.2.1) (hb := hb9)) (fun v2 h2 ty2 p2 => ?_)
    obtain ⟨y2, rfl⟩ : ∃ x, v2 = some (.int x) := ty2
    have p3 := p2.1 hz
    have w2 := st_rq w1 hp p3
    have ht := p3.2.1
    refine r_istore (ls2 := [some (.ref 0), some (.ref 1), some (.ref 723), some (.ref 737), some (.ref 738), some (.int (nI (6 * j))), _, some _, _]) dL_law_1996 (by decide) rfl ?_
    refine r_aload_n dL_law_1998 rfl ?_
    refine q_callT0 (cv_X9_thrown ml_L_222) w2.1 kc_723 (by decide) rfl (rmL rfl (by show cs.1 + 3 + 0 + 0 ≤ _; omega) (by show cs.2 + 18 + 0 + 0 ≤ _; omega)) (Nat.le_of_ble_eq_true rfl) dL_law_1999 (c_X9_thrown w2.1) (fun v5 h5 _ q5 => ?_)
    obtain ⟨rfl, rfl⟩ := q5
    refine r_iload dL_law_2002 rfl ?_
    refine r_icmp_eq 2009 dL_law_2004 (by decide) (fun _ => ?_) (fun c9 => absurd ht c9)
    refine r_iload dL_law_2009 rfl ?_
    refine r_if_ne 2026 dL_law_2011 (by decide) (fun _ => ?_) (fun c9 => absurd c9 (nI_nz hz (by have := (show cd3 (okP r (gX G (6 * j + 1))) (rgB 1 5 (gX G (6 * j + 2))) (gwB (fP r (gX G (6 * j + 1))) (gX G (6 * j + 2))) ≤ 4 from Nat.le_trans cd3_le (by decide)); omega)))
    refine r_goto 4127 dL_law_2026 (by decide) ?_
    exact kk _ _ _ _ _ _ _ _ _ _ _ _ _ _ w2 hp.nx (by show cs.1 + 3 + 0 ≤ _; omega) (by show cs.2 + 18 + 0 ≤ _; omega)
theorem cs_L_drop : CStH RL 297 mL_drop 3 := ⟨ml_L_297, (tgI 1255 (by decide +kernel) rfl), (tgI 98 (by decide +kernel) rfl), (tgI 1256 (by decide +kernel) rfl), ok_L_drop⟩
set_option maxRecDepth 100000 in
set_option maxHeartbeats 4000000 in
theorem law_29 {l9 : Launch} {G : GC} {Fi : CX → State → Prop} {h : AH} {r s : Row} {L : List Row} {sv : Bool} {b : Nat → Int32} {n j : Nat} {o : Ob} {er eo : Int32} {l6 l7 l8 : Option Value} {cs : Nat × Nat} (hG : GOK G) (hj : 6 * j + 6 ≤ gL G) (hL3 : gL G ≤ 3072) (w : StL h r L r L s sv b n o er eo) (hp : LvP r L s sv b n (300 * j)) (hc1 : cs.1 ≤ 800 + 60 * j) (hc2 : cs.2 ≤ 40000 + 400 * j) (kk : LNx l9 G Fi j) : PW l9 G mL_law room_1 Fi NT 2029 [some (.ref 0), some (.ref 1), some (.ref 723), some (.ref 737), some (.ref 738), some (.int (nI (6 * j))), l6, l7, l8] [] cs h := by
  have hb9 : 300 * j + 300 < 2 ^ 23 := by omega
  refine r_aload_n dL_law_2029 rfl ?_
  refine r_aload_n dL_law_2030 rfl ?_
  refine r_iload dL_law_2031 rfl ?_
  refine r_iconst (1) dL_law_2033 (by decide) ?_
  refine r_iadd dL_law_2034 ?_
  refine r_sld (k := 6 * j + 1) (nadd rfl kn_1) (by omega) hL3 dL_law_2035 ?_
  refine r_aload_n dL_law_2036 rfl ?_
  refine r_callSH3 cs_L_drop (rmL rfl (by show cs.1 + 2 ≤ _; omega) (by show cs.2 + 12 ≤ _; omega)) (Nat.le_of_ble_eq_true rfl) dL_law_2037 (c_L_drop hG w.1 dpC_le (c_X8_drop (hW := w.1) (hs := w.2.1.1) (hO := hp.1.1) (hL := w.2.1.2.1) (hLO := hp.ls) (hb := hb9)) (fun _ e9 => e9.1.1.1)) (fun v1 h1 q1 => ?_)
  obtain ⟨rfl, q2, q3⟩ := q1
  by_cases hz : dpC r (gX G (6 * j + 1)) = 0
  · obtain ⟨h3, q4, rfl⟩ := q3 hz
    have hp2 := hp.push w.2.1.2.1.2.1 (m' := 300 * (j + 1)) ((ok2_drop hp.1 hz hb9).wk (by omega)) (by omega)
    have w1 := st_out (v := ((dpA r (gX G (6 * j + 1)))).toInt64) (st_cc w hp q4.1 q4.2.1 q4.2.2) hp2
    have ho : aJ (sJ h3 737 0 (((dpA r (gX G (6 * j + 1)))).toInt64)) 737 0 = ((dpA r (gX G (6 * j + 1)))).toInt64 := sJ_at0
    refine r_istore (ls2 := [some (.ref 0), some (.ref 1), some (.ref 723), some (.ref 737), some (.ref 738), some (.int (nI (6 * j))), some _, _, _]) dL_law_2040 (by decide) rfl ?_
    refine r_aload_n dL_law_2042 rfl ?_
    refine r_aload_n dL_law_2043 rfl ?_
    refine r_iload dL_law_2044 rfl ?_
    refine r_iconst (1) dL_law_2046 (by decide) ?_
    refine r_iadd dL_law_2047 ?_
    refine r_sld (k := 6 * j + 1) (nadd rfl kn_1) (by omega) hL3 dL_law_2048 ?_
    refine q_callT1 (cv_X9_drop ml_L_299) w1.1 kc_723 (by decide) rfl (rmL rfl (by show cs.1 + 2 + 0 ≤ _; omega) (by show cs.2 + 12 + 0 ≤ _; omega)) (Nat.le_of_ble_eq_true rfl) dL_law_2049 (c_X9_drop (hW := w1.1) (hm := w1.2.2.1) (hO := hp.1.1) (hm28 := (by omega)) (hL := w1.2.2.2.1) (hb := hb9)) (fun v2 h2 ty2 p2 => ?_)
    obtain ⟨rfl, p3, p4, p5⟩ := p2.2 hz
    have w2 := st_rc w1 hp2 p3 p4 p5
    have ht : aI h2 723 12 = nI (dpC r (gX G (6 * j + 1))) := by rw [hz]; exact p3.2.1
    have ho2 : aJ h2 737 0 = _ := (congrFun (p3.1.J (show ¬ RS 737 by unfold RS; omega)) 0).trans ho
    refine r_istore (ls2 := [some (.ref 0), some (.ref 1), some (.ref 723), some (.ref 737), some (.ref 738), some (.int (nI (6 * j))), _, some _, _]) dL_law_2052 (by decide) rfl ?_
    refine r_aload_n dL_law_2054 rfl ?_
    refine q_callT0 (cv_X9_thrown ml_L_222) w2.1 kc_723 (by decide) rfl (rmL rfl (by show cs.1 + 2 + 0 + 0 ≤ _; omega) (by show cs.2 + 12 + 0 + 0 ≤ _; omega)) (Nat.le_of_ble_eq_true rfl) dL_law_2055 (c_X9_thrown w2.1) (fun v5 h5 _ q5 => ?_)
    obtain ⟨rfl, rfl⟩ := q5
    refine r_iload dL_law_2058 rfl ?_
    refine r_icmp_eq 2065 dL_law_2060 (by decide) (fun _ => ?_) (fun c9 => absurd ht c9)
    refine r_iload dL_law_2065 rfl ?_
    refine r_if_ne 2082 dL_law_2067 (by decide) (fun c9 => absurd (by rw [hz]; rfl) c9) (fun _ => ?_)
    refine r_aload_n dL_law_2070 rfl ?_
    refine r_iconst (0) dL_law_2071 (by decide) ?_
    refine q_lald (k := 0) w2.1 kc_737 kn_0 (by decide) (by decide) dL_law_2072 ?_
    rw [ho2]
    refine r_iload dL_law_2073 rfl ?_
    refine r_i2l dL_law_2075 ?_
    refine r_lcmp dL_law_2076 ?_
    refine r_if_eq 2082 dL_law_2077 (by decide) (fun _ => ?_) (fun c9 => absurd lg_cmp_s c9)
    refine r_goto 4127 dL_law_2082 (by decide) ?_
    exact kk _ _ _ _ _ _ _ _ _ _ _ _ _ _ w2 hp2 (by show cs.1 + 2 + 0 ≤ _; omega) (by show cs.2 + 12 + 0 ≤ _; omega)
  · obtain rfl := q2 hz
    have w1 := w
    refine r_istore (ls2 := [some (.ref 0), some (.ref 1), some (.ref 723), some (.ref 737), some (.ref 738), some (.int (nI (6 * j))), some _, _, _]) dL_law_2040 (by decide) rfl ?_
    refine r_aload_n dL_law_2042 rfl ?_
    refine r_aload_n dL_law_2043 rfl ?_
    refine r_iload dL_law_2044 rfl ?_
    refine r_iconst (1) dL_law_2046 (by decide) ?_
    refine r_iadd dL_law_2047 ?_
    refine r_sld (k := 6 * j + 1) (nadd rfl kn_1) (by omega) hL3 dL_law_2048 ?_
    refine q_callT1 (cv_X9_drop ml_L_299) w1.1 kc_723 (by decide) rfl (rmL rfl (by show cs.1 + 2 + 0 ≤ _; omega) (by show cs.2 + 12 + 0 ≤ _; omega)) (Nat.le_of_ble_eq_true rfl) dL_law_2049 (c_X9_drop (hW := w1.1) (hm := w1.2.2.1) (hO := hp.1.1) (hm28 := (by omega)) (hL := w1.2.2.2.1) (hb := hb9)) (fun v2 h2 ty2 p2 => ?_)
    obtain ⟨y2, rfl⟩ : ∃ x, v2 = some (.int x) := ty2
    have p3 := p2.1 hz
    have w2 := st_rq w1 hp p3
    have ht := p3.2.1
    refine r_istore (ls2 := [some (.ref 0), some (.ref 1), some (.ref 723), some (.ref 737), some (.ref 738), some (.int (nI (6 * j))), _, some _, _]) dL_law_2052 (by decide) rfl ?_
    refine r_aload_n dL_law_2054 rfl ?_
    refine q_callT0 (cv_X9_thrown ml_L_222) w2.1 kc_723 (by decide) rfl (rmL rfl (by show cs.1 + 2 + 0 + 0 ≤ _; omega) (by show cs.2 + 12 + 0 + 0 ≤ _; omega)) (Nat.le_of_ble_eq_true rfl) dL_law_2055 (c_X9_thrown w2.1) (fun v5 h5 _ q5 => ?_)
    obtain ⟨rfl, rfl⟩ := q5
    refine r_iload dL_law_2058 rfl ?_
    refine r_icmp_eq 2065 dL_law_2060 (by decide) (fun _ => ?_) (fun c9 => absurd ht c9)
    refine r_iload dL_law_2065 rfl ?_
    refine r_if_ne 2082 dL_law_2067 (by decide) (fun _ => ?_) (fun c9 => absurd c9 (nI_nz hz (by have := (show dpC r (gX G (6 * j + 1)) ≤ 4 from Nat.le_trans dpC_le (by decide)); omega)))
    refine r_goto 4127 dL_law_2082 (by decide) ?_
    exact kk _ _ _ _ _ _ _ _ _ _ _ _ _ _ w2 hp.nx (by show cs.1 + 2 + 0 ≤ _; omega) (by show cs.2 + 12 + 0 ≤ _; omega)
theorem cs_L_pause : CStH RL 300 mL_pause 4 := ⟨ml_L_300, (tgI 1269 (by decide +kernel) rfl), (tgI 98 (by decide +kernel) rfl), (tgI 1270 (by decide +kernel) rfl), ok_L_pause⟩
set_option maxRecDepth 100000 in
set_option maxHeartbeats 4000000 in
theorem law_30_0 {l9 : Launch} {G : GC} {Fi : CX → State → Prop} {h : AH} {r s : Row} {L : List Row} {sv : Bool} {b : Nat → Int32} {n j : Nat} {o : Ob} {er eo : Int32} {l6 l7 l8 : Option Value} {cs : Nat × Nat} (hG : GOK G) (hj : 6 * j + 6 ≤ gL G) (hL3 : gL G ≤ 3072) (hy : gX G (6 * j + 2) = 0) (w : StL h r L r L s sv b n o er eo) (hp : LvP r L s sv b n (300 * j)) (hc1 : cs.1 ≤ 800 + 60 * j) (hc2 : cs.2 ≤ 40000 + 400 * j) (kk : LNx l9 G Fi j) : PW l9 G mL_law room_1 Fi NT 2085 [some (.ref 0), some (.ref 1), some (.ref 723), some (.ref 737), some (.ref 738), some (.int (nI (6 * j))), l6, l7, l8] [] cs h := by
  have hb9 : 300 * j + 300 < 2 ^ 23 := by omega
  refine r_aload_n dL_law_2085 rfl ?_
  refine r_aload_n dL_law_2086 rfl ?_
  refine r_iload dL_law_2087 rfl ?_
  refine r_iconst (1) dL_law_2089 (by decide) ?_
  refine r_iadd dL_law_2090 ?_
  refine r_sld (k := 6 * j + 1) (nadd rfl kn_1) (by omega) hL3 dL_law_2091 ?_
  refine r_aload_n dL_law_2092 rfl ?_
  refine r_iload dL_law_2093 rfl ?_
  refine r_iconst (2) dL_law_2095 (by decide) ?_
  refine r_iadd dL_law_2096 ?_
  refine r_sld (k := 6 * j + 2) (nadd rfl kn_2) (by omega) hL3 dL_law_2097 ?_
  refine r_if_eq 2105 dL_law_2098 (by decide) (fun _ => ?_) (fun c9 => absurd hy c9)
  refine r_iconst (0) dL_law_2105 (by decide) ?_
  refine r_aload_n dL_law_2106 rfl ?_
  refine r_callSH4 cs_L_pause (rmL rfl (by show cs.1 + 1 ≤ _; omega) (by show cs.2 + 6 ≤ _; omega)) (Nat.le_of_ble_eq_true rfl) dL_law_2107 (c_L_pause hG w.1 cd1_le (c_X8_pause (hW := w.1) (hs := w.2.1.1) (hO := hp.1.1) (hL := w.2.1.2.1) (hLO := hp.ls) (hz := (by decide))) (fun _ e9 => e9.1.1.1)) (fun v1 h1 q1 => ?_)
  obtain ⟨rfl, q2, q3⟩ := q1
  by_cases hz : cd1 (okP r (gX G (6 * j + 1))) = 0
  · obtain ⟨h3, q4, rfl⟩ := q3 hz
    have hp2 := hp.push w.2.1.2.1.2.1 (m' := 300 * (j + 1)) ((ok2_pause (z := 0) hp.1 hz (by decide)).wk (by omega)) (by omega)
    have w1 := st_out (v := (if ((fP r (gX G (6 * j + 1)) 16)) = 0 then 0 else 1 : Int64)) (st_cc w hp q4.1 q4.2.1 q4.2.2) hp2
    have ho : aJ (sJ h3 737 0 ((if ((fP r (gX G (6 * j + 1)) 16)) = 0 then 0 else 1 : Int64))) 737 0 = (if ((fP r (gX G (6 * j + 1)) 16)) = 0 then 0 else 1 : Int64) := sJ_at0
    refine r_istore (ls2 := [some (.ref 0), some (.ref 1), some (.ref 723), some (.ref 737), some (.ref 738), some (.int (nI (6 * j))), some _, _, _]) dL_law_2110 (by decide) rfl ?_
    refine r_aload_n dL_law_2112 rfl ?_
    refine r_aload_n dL_law_2113 rfl ?_
    refine r_iload dL_law_2114 rfl ?_
    refine r_iconst (1) dL_law_2116 (by decide) ?_
    refine r_iadd dL_law_2117 ?_
    refine r_sld (k := 6 * j + 1) (nadd rfl kn_1) (by omega) hL3 dL_law_2118 ?_
    refine r_aload_n dL_law_2119 rfl ?_
    refine r_iload dL_law_2120 rfl ?_
    refine r_iconst (2) dL_law_2122 (by decide) ?_
    refine r_iadd dL_law_2123 ?_
    refine r_sld (k := 6 * j + 2) (nadd rfl kn_2) (by omega) hL3 dL_law_2124 ?_
    refine r_if_eq 2132 dL_law_2125 (by decide) (fun _ => ?_) (fun c9 => absurd hy c9)
    refine r_iconst (0) dL_law_2132 (by decide) ?_
    refine q_callT2 (cv_X9_pause ml_L_302) w1.1 kc_723 (by decide) rfl (rmL rfl (by show cs.1 + 1 + 0 ≤ _; omega) (by show cs.2 + 6 + 0 ≤ _; omega)) (Nat.le_of_ble_eq_true rfl) dL_law_2133 (c_X9_pause (hW := w1.1) (hm := w1.2.2.1) (hO := hp.1.1) (hm28 := (by omega)) (hL := w1.2.2.2.1) (hz := (by decide))) (fun v2 h2 ty2 p2 => ?_)
    obtain ⟨rfl, p3, p4, p5⟩ := p2.2 hz
    have w2 := st_rc w1 hp2 p3 p4 p5
    have ht : aI h2 723 12 = nI (cd1 (okP r (gX G (6 * j + 1)))) := by rw [hz]; exact p3.2.1
    have ho2 : aJ h2 737 0 = _ := (congrFun (p3.1.J (show ¬ RS 737 by unfold RS; omega)) 0).trans ho
    refine r_istore (ls2 := [some (.ref 0), some (.ref 1), some (.ref 723), some (.ref 737), some (.ref 738), some (.int (nI (6 * j))), _, some _, _]) dL_law_2136 (by decide) rfl ?_
    refine r_aload_n dL_law_2138 rfl ?_
    refine q_callT0 (cv_X9_thrown ml_L_222) w2.1 kc_723 (by decide) rfl (rmL rfl (by show cs.1 + 1 + 0 + 0 ≤ _; omega) (by show cs.2 + 6 + 0 + 0 ≤ _; omega)) (Nat.le_of_ble_eq_true rfl) dL_law_2139 (c_X9_thrown w2.1) (fun v5 h5 _ q5 => ?_)
    obtain ⟨rfl, rfl⟩ := q5
    refine r_iload dL_law_2142 rfl ?_
    refine r_icmp_eq 2149 dL_law_2144 (by decide) (fun _ => ?_) (fun c9 => absurd ht c9)
    refine r_iload dL_law_2149 rfl ?_
    refine r_if_ne 2173 dL_law_2151 (by decide) (fun c9 => absurd (by rw [hz]; rfl) c9) (fun _ => ?_)
    refine r_aload_n dL_law_2154 rfl ?_
    refine r_iconst (0) dL_law_2155 (by decide) ?_
    refine q_lald (k := 0) w2.1 kc_737 kn_0 (by decide) (by decide) dL_law_2156 ?_
    refine r_iload dL_law_2157 rfl ?_
    refine r_if_eq 2166 dL_law_2159 (by decide) (fun c0 => ?_) (fun c0 => ?_)
    · rw [ho2, if_pos c0]
      refine r_lconst (0) dL_law_2166 (by decide) ?_
      refine r_lcmp dL_law_2167 ?_
      refine r_if_eq 2173 dL_law_2168 (by decide) (fun _ => ?_) (fun c9 => absurd lg_cmp_s c9)
      refine r_goto 4127 dL_law_2173 (by decide) ?_
      exact kk _ _ _ _ _ _ _ _ _ _ _ _ _ _ w2 hp2 (by show cs.1 + 1 + 0 ≤ _; omega) (by show cs.2 + 6 + 0 ≤ _; omega)
    · rw [ho2, if_neg c0]
      refine r_lconst (1) dL_law_2162 (by decide) ?_
      refine r_goto 2167 dL_law_2163 (by decide) ?_
      refine r_lcmp dL_law_2167 ?_
      refine r_if_eq 2173 dL_law_2168 (by decide) (fun _ => ?_) (fun c9 => absurd lg_cmp_s c9)
      refine r_goto 4127 dL_law_2173 (by decide) ?_
      exact kk _ _ _ _ _ _ _ _ _ _ _ _ _ _ w2 hp2 (by show cs.1 + 1 + 0 ≤ _; omega) (by show cs.2 + 6 + 0 ≤ _; omega)
  · obtain rfl := q2 hz
    have w1 := w
    refine r_istore (ls2 := [some (.ref 0), some (.ref 1), some (.ref 723), some (.ref 737), some (.ref 738), some (.int (nI (6 * j))), some _, _, _]) dL_law_2110 (by decide) rfl ?_
    refine r_aload_n dL_law_2112 rfl ?_
    refine r_aload_n dL_law_2113 rfl ?_
    refine r_iload dL_law_2114 rfl ?_
    refine r_iconst (1) dL_law_2116 (by decide) ?_
    refine r_iadd dL_law_2117 ?_
    refine r_sld (k := 6 * j + 1) (nadd rfl kn_1) (by omega) hL3 dL_law_2118 ?_
    refine r_aload_n dL_law_2119 rfl ?_
    refine r_iload dL_law_2120 rfl ?_
    refine r_iconst (2) dL_law_2122 (by decide) ?_
    refine r_iadd dL_law_2123 ?_
    refine r_sld (k := 6 * j + 2) (nadd rfl kn_2) (by omega) hL3 dL_law_2124 ?_
    refine r_if_eq 2132 dL_law_2125 (by decide) (fun _ => ?_) (fun c9 => absurd hy c9)
    refine r_iconst (0) dL_law_2132 (by decide) ?_
    refine q_callT2 (cv_X9_pause ml_L_302) w1.1 kc_723 (by decide) rfl (rmL rfl (by show cs.1 + 1 + 0 ≤ _; omega) (by show cs.2 + 6 + 0 ≤ _; omega)) (Nat.le_of_ble_eq_true rfl) dL_law_2133 (c_X9_pause (hW := w1.1) (hm := w1.2.2.1) (hO := hp.1.1) (hm28 := (by omega)) (hL := w1.2.2.2.1) (hz := (by decide))) (fun v2 h2 ty2 p2 => ?_)
    obtain ⟨y2, rfl⟩ : ∃ x, v2 = some (.int x) := ty2
    have p3 := p2.1 hz
    have w2 := st_rq w1 hp p3
    have ht := p3.2.1
    refine r_istore (ls2 := [some (.ref 0), some (.ref 1), some (.ref 723), some (.ref 737), some (.ref 738), some (.int (nI (6 * j))), _, some _, _]) dL_law_2136 (by decide) rfl ?_
    refine r_aload_n dL_law_2138 rfl ?_
    refine q_callT0 (cv_X9_thrown ml_L_222) w2.1 kc_723 (by decide) rfl (rmL rfl (by show cs.1 + 1 + 0 + 0 ≤ _; omega) (by show cs.2 + 6 + 0 + 0 ≤ _; omega)) (Nat.le_of_ble_eq_true rfl) dL_law_2139 (c_X9_thrown w2.1) (fun v5 h5 _ q5 => ?_)
    obtain ⟨rfl, rfl⟩ := q5
    refine r_iload dL_law_2142 rfl ?_
    refine r_icmp_eq 2149 dL_law_2144 (by decide) (fun _ => ?_) (fun c9 => absurd ht c9)
    refine r_iload dL_law_2149 rfl ?_
    refine r_if_ne 2173 dL_law_2151 (by decide) (fun _ => ?_) (fun c9 => absurd c9 (nI_nz hz (by have := (show cd1 (okP r (gX G (6 * j + 1))) ≤ 4 from Nat.le_trans cd1_le (by decide)); omega)))
    refine r_goto 4127 dL_law_2173 (by decide) ?_
    exact kk _ _ _ _ _ _ _ _ _ _ _ _ _ _ w2 hp.nx (by show cs.1 + 1 + 0 ≤ _; omega) (by show cs.2 + 6 + 0 ≤ _; omega)
set_option maxRecDepth 100000 in
set_option maxHeartbeats 4000000 in
theorem law_30_1 {l9 : Launch} {G : GC} {Fi : CX → State → Prop} {h : AH} {r s : Row} {L : List Row} {sv : Bool} {b : Nat → Int32} {n j : Nat} {o : Ob} {er eo : Int32} {l6 l7 l8 : Option Value} {cs : Nat × Nat} (hG : GOK G) (hj : 6 * j + 6 ≤ gL G) (hL3 : gL G ≤ 3072) (hy : ¬ gX G (6 * j + 2) = 0) (w : StL h r L r L s sv b n o er eo) (hp : LvP r L s sv b n (300 * j)) (hc1 : cs.1 ≤ 800 + 60 * j) (hc2 : cs.2 ≤ 40000 + 400 * j) (kk : LNx l9 G Fi j) : PW l9 G mL_law room_1 Fi NT 2085 [some (.ref 0), some (.ref 1), some (.ref 723), some (.ref 737), some (.ref 738), some (.int (nI (6 * j))), l6, l7, l8] [] cs h := by
  have hb9 : 300 * j + 300 < 2 ^ 23 := by omega
  refine r_aload_n dL_law_2085 rfl ?_
  refine r_aload_n dL_law_2086 rfl ?_
  refine r_iload dL_law_2087 rfl ?_
  refine r_iconst (1) dL_law_2089 (by decide) ?_
  refine r_iadd dL_law_2090 ?_
  refine r_sld (k := 6 * j + 1) (nadd rfl kn_1) (by omega) hL3 dL_law_2091 ?_
  refine r_aload_n dL_law_2092 rfl ?_
  refine r_iload dL_law_2093 rfl ?_
  refine r_iconst (2) dL_law_2095 (by decide) ?_
  refine r_iadd dL_law_2096 ?_
  refine r_sld (k := 6 * j + 2) (nadd rfl kn_2) (by omega) hL3 dL_law_2097 ?_
  refine r_if_eq 2105 dL_law_2098 (by decide) (fun c9 => absurd c9 hy) (fun _ => ?_)
  refine r_iconst (1) dL_law_2101 (by decide) ?_
  refine r_goto 2106 dL_law_2102 (by decide) ?_
  refine r_aload_n dL_law_2106 rfl ?_
  refine r_callSH4 cs_L_pause (rmL rfl (by show cs.1 + 1 ≤ _; omega) (by show cs.2 + 6 ≤ _; omega)) (Nat.le_of_ble_eq_true rfl) dL_law_2107 (c_L_pause hG w.1 cd1_le (c_X8_pause (hW := w.1) (hs := w.2.1.1) (hO := hp.1.1) (hL := w.2.1.2.1) (hLO := hp.ls) (hz := (by decide))) (fun _ e9 => e9.1.1.1)) (fun v1 h1 q1 => ?_)
  obtain ⟨rfl, q2, q3⟩ := q1
  by_cases hz : cd1 (okP r (gX G (6 * j + 1))) = 0
  · obtain ⟨h3, q4, rfl⟩ := q3 hz
    have hp2 := hp.push w.2.1.2.1.2.1 (m' := 300 * (j + 1)) ((ok2_pause (z := 1) hp.1 hz (by decide)).wk (by omega)) (by omega)
    have w1 := st_out (v := (if ((fP r (gX G (6 * j + 1)) 16)) = 0 then 0 else 1 : Int64)) (st_cc w hp q4.1 q4.2.1 q4.2.2) hp2
    have ho : aJ (sJ h3 737 0 ((if ((fP r (gX G (6 * j + 1)) 16)) = 0 then 0 else 1 : Int64))) 737 0 = (if ((fP r (gX G (6 * j + 1)) 16)) = 0 then 0 else 1 : Int64) := sJ_at0
    refine r_istore (ls2 := [some (.ref 0), some (.ref 1), some (.ref 723), some (.ref 737), some (.ref 738), some (.int (nI (6 * j))), some _, _, _]) dL_law_2110 (by decide) rfl ?_
    refine r_aload_n dL_law_2112 rfl ?_
    refine r_aload_n dL_law_2113 rfl ?_
    refine r_iload dL_law_2114 rfl ?_
    refine r_iconst (1) dL_law_2116 (by decide) ?_
    refine r_iadd dL_law_2117 ?_
    refine r_sld (k := 6 * j + 1) (nadd rfl kn_1) (by omega) hL3 dL_law_2118 ?_
    refine r_aload_n dL_law_2119 rfl ?_
    refine r_iload dL_law_2120 rfl ?_
    refine r_iconst (2) dL_law_2122 (by decide) ?_
    refine r_iadd dL_law_2123 ?_
    refine r_sld (k := 6 * j + 2) (nadd rfl kn_2) (by omega) hL3 dL_law_2124 ?_
    refine r_if_eq 2132 dL_law_2125 (by decide) (fun c9 => absurd c9 hy) (fun _ => ?_)
    refine r_iconst (1) dL_law_2128 (by decide) ?_
    refine r_goto 2133 dL_law_2129 (by decide) ?_
    refine q_callT2 (cv_X9_pause ml_L_302) w1.1 kc_723 (by decide) rfl (rmL rfl (by show cs.1 + 1 + 0 ≤ _; omega) (by show cs.2 + 6 + 0 ≤ _; omega)) (Nat.le_of_ble_eq_true rfl) dL_law_2133 (c_X9_pause (hW := w1.1) (hm := w1.2.2.1) (hO := hp.1.1) (hm28 := (by omega)) (hL := w1.2.2.2.1) (hz := (by decide))) (fun v2 h2 ty2 p2 => ?_)
    obtain ⟨rfl, p3, p4, p5⟩ := p2.2 hz
    have w2 := st_rc w1 hp2 p3 p4 p5
    have ht : aI h2 723 12 = nI (cd1 (okP r (gX G (6 * j + 1)))) := by rw [hz]; exact p3.2.1
    have ho2 : aJ h2 737 0 = _ := (congrFun (p3.1.J (show ¬ RS 737 by unfold RS; omega)) 0).trans ho
    refine r_istore (ls2 := [some (.ref 0), some (.ref 1), some (.ref 723), some (.ref 737), some (.ref 738), some (.int (nI (6 * j))), _, some _, _]) dL_law_2136 (by decide) rfl ?_
    refine r_aload_n dL_law_2138 rfl ?_
    refine q_callT0 (cv_X9_thrown ml_L_222) w2.1 kc_723 (by decide) rfl (rmL rfl (by show cs.1 + 1 + 0 + 0 ≤ _; omega) (by show cs.2 + 6 + 0 + 0 ≤ _; omega)) (Nat.le_of_ble_eq_true rfl) dL_law_2139 (c_X9_thrown w2.1) (fun v5 h5 _ q5 => ?_)
    obtain ⟨rfl, rfl⟩ := q5
    refine r_iload dL_law_2142 rfl ?_
    refine r_icmp_eq 2149 dL_law_2144 (by decide) (fun _ => ?_) (fun c9 => absurd ht c9)
    refine r_iload dL_law_2149 rfl ?_
    refine r_if_ne 2173 dL_law_2151 (by decide) (fun c9 => absurd (by rw [hz]; rfl) c9) (fun _ => ?_)
    refine r_aload_n dL_law_2154 rfl ?_
    refine r_iconst (0) dL_law_2155 (by decide) ?_
    refine q_lald (k := 0) w2.1 kc_737 kn_0 (by decide) (by decide) dL_law_2156 ?_
    refine r_iload dL_law_2157 rfl ?_
    refine r_if_eq 2166 dL_law_2159 (by decide) (fun c0 => ?_) (fun c0 => ?_)
    · rw [ho2, if_pos c0]
      refine r_lconst (0) dL_law_2166 (by decide) ?_
      refine r_lcmp dL_law_2167 ?_
      refine r_if_eq 2173 dL_law_2168 (by decide) (fun _ => ?_) (fun c9 => absurd lg_cmp_s c9)
      refine r_goto 4127 dL_law_2173 (by decide) ?_
      exact kk _ _ _ _ _ _ _ _ _ _ _ _ _ _ w2 hp2 (by show cs.1 + 1 + 0 ≤ _; omega) (by show cs.2 + 6 + 0 ≤ _; omega)
    · rw [ho2, if_neg c0]
      refine r_lconst (1) dL_law_2162 (by decide) ?_
      refine r_goto 2167 dL_law_2163 (by decide) ?_
      refine r_lcmp dL_law_2167 ?_
      refine r_if_eq 2173 dL_law_2168 (by decide) (fun _ => ?_) (fun c9 => absurd lg_cmp_s c9)
      refine r_goto 4127 dL_law_2173 (by decide) ?_
      exact kk _ _ _ _ _ _ _ _ _ _ _ _ _ _ w2 hp2 (by show cs.1 + 1 + 0 ≤ _; omega) (by show cs.2 + 6 + 0 ≤ _; omega)
  · obtain rfl := q2 hz
    have w1 := w
    refine r_istore (ls2 := [some (.ref 0), some (.ref 1), some (.ref 723), some (.ref 737), some (.ref 738), some (.int (nI (6 * j))), some _, _, _]) dL_law_2110 (by decide) rfl ?_
    refine r_aload_n dL_law_2112 rfl ?_
    refine r_aload_n dL_law_2113 rfl ?_
    refine r_iload dL_law_2114 rfl ?_
    refine r_iconst (1) dL_law_2116 (by decide) ?_
    refine r_iadd dL_law_2117 ?_
    refine r_sld (k := 6 * j + 1) (nadd rfl kn_1) (by omega) hL3 dL_law_2118 ?_
    refine r_aload_n dL_law_2119 rfl ?_
    refine r_iload dL_law_2120 rfl ?_
    refine r_iconst (2) dL_law_2122 (by decide) ?_
    refine r_iadd dL_law_2123 ?_
    refine r_sld (k := 6 * j + 2) (nadd rfl kn_2) (by omega) hL3 dL_law_2124 ?_
    refine r_if_eq 2132 dL_law_2125 (by decide) (fun c9 => absurd c9 hy) (fun _ => ?_)
    refine r_iconst (1) dL_law_2128 (by decide) ?_
    refine r_goto 2133 dL_law_2129 (by decide) ?_
    refine q_callT2 (cv_X9_pause ml_L_302) w1.1 kc_723 (by decide) rfl (rmL rfl (by show cs.1 + 1 + 0 ≤ _; omega) (by show cs.2 + 6 + 0 ≤ _; omega)) (Nat.le_of_ble_eq_true rfl) dL_law_2133 (c_X9_pause (hW := w1.1) (hm := w1.2.2.1) (hO := hp.1.1) (hm28 := (by omega)) (hL := w1.2.2.2.1) (hz := (by decide))) (fun v2 h2 ty2 p2 => ?_)
    obtain ⟨y2, rfl⟩ : ∃ x, v2 = some (.int x) := ty2
    have p3 := p2.1 hz
    have w2 := st_rq w1 hp p3
    have ht := p3.2.1
    refine r_istore (ls2 := [some (.ref 0), some (.ref 1), some (.ref 723), some (.ref 737), some (.ref 738), some (.int (nI (6 * j))), _, some _, _]) dL_law_2136 (by decide) rfl ?_
    refine r_aload_n dL_law_2138 rfl ?_
    refine q_callT0 (cv_X9_thrown ml_L_222) w2.1 kc_723 (by decide) rfl (rmL rfl (by show cs.1 + 1 + 0 + 0 ≤ _; omega) (by show cs.2 + 6 + 0 + 0 ≤ _; omega)) (Nat.le_of_ble_eq_true rfl) dL_law_2139 (c_X9_thrown w2.1) (fun v5 h5 _ q5 => ?_)
    obtain ⟨rfl, rfl⟩ := q5
    refine r_iload dL_law_2142 rfl ?_
    refine r_icmp_eq 2149 dL_law_2144 (by decide) (fun _ => ?_) (fun c9 => absurd ht c9)
    refine r_iload dL_law_2149 rfl ?_
    refine r_if_ne 2173 dL_law_2151 (by decide) (fun _ => ?_) (fun c9 => absurd c9 (nI_nz hz (by have := (show cd1 (okP r (gX G (6 * j + 1))) ≤ 4 from Nat.le_trans cd1_le (by decide)); omega)))
    refine r_goto 4127 dL_law_2173 (by decide) ?_
    exact kk _ _ _ _ _ _ _ _ _ _ _ _ _ _ w2 hp.nx (by show cs.1 + 1 + 0 ≤ _; omega) (by show cs.2 + 6 + 0 ≤ _; omega)
theorem cs_L_setPolicy : CStH RL 303 mL_setPolicy 5 := ⟨ml_L_303, (tgI 1276 (by decide +kernel) rfl), (tgI 98 (by decide +kernel) rfl), (tgI 1277 (by decide +kernel) rfl), ok_L_setPolicy⟩
set_option maxRecDepth 100000 in
set_option maxHeartbeats 4000000 in
theorem law_31 {l9 : Launch} {G : GC} {Fi : CX → State → Prop} {h : AH} {r s : Row} {L : List Row} {sv : Bool} {b : Nat → Int32} {n j : Nat} {o : Ob} {er eo : Int32} {l6 l7 l8 : Option Value} {cs : Nat × Nat} (hG : GOK G) (hj : 6 * j + 6 ≤ gL G) (hL3 : gL G ≤ 3072) (w : StL h r L r L s sv b n o er eo) (hp : LvP r L s sv b n (300 * j)) (hc1 : cs.1 ≤ 800 + 60 * j) (hc2 : cs.2 ≤ 40000 + 400 * j) (kk : LNx l9 G Fi j) : PW l9 G mL_law room_1 Fi NT 2176 [some (.ref 0), some (.ref 1), some (.ref 723), some (.ref 737), some (.ref 738), some (.int (nI (6 * j))), l6, l7, l8] [] cs h := by
  have hb9 : 300 * j + 300 < 2 ^ 23 := by omega
  refine r_aload_n dL_law_2176 rfl ?_
  refine r_aload_n dL_law_2177 rfl ?_
  refine r_iload dL_law_2178 rfl ?_
  refine r_iconst (1) dL_law_2180 (by decide) ?_
  refine r_iadd dL_law_2181 ?_
  refine r_sld (k := 6 * j + 1) (nadd rfl kn_1) (by omega) hL3 dL_law_2182 ?_
  refine r_aload_n dL_law_2183 rfl ?_
  refine r_iload dL_law_2184 rfl ?_
  refine r_iconst (2) dL_law_2186 (by decide) ?_
  refine r_iadd dL_law_2187 ?_
  refine r_sld (k := 6 * j + 2) (nadd rfl kn_2) (by omega) hL3 dL_law_2188 ?_
  refine r_aload_n dL_law_2189 rfl ?_
  refine r_iload dL_law_2190 rfl ?_
  refine r_iconst (3) dL_law_2192 (by decide) ?_
  refine r_iadd dL_law_2193 ?_
  refine r_sld (k := 6 * j + 3) (nadd rfl kn_3) (by omega) hL3 dL_law_2194 ?_
  refine r_aload_n dL_law_2195 rfl ?_
  refine r_callSH5 cs_L_setPolicy (rmL rfl (by show cs.1 + 3 ≤ _; omega) (by show cs.2 + 18 ≤ _; omega)) (Nat.le_of_ble_eq_true rfl) dL_law_2196 (c_L_setPolicy hG w.1 cd2_le (c_X8_setPolicy (hW := w.1) (hs := w.2.1.1) (hO := hp.1.1) (hL := w.2.1.2.1) (hLO := hp.ls)) (fun _ e9 => e9.1.1.1)) (fun v1 h1 q1 => ?_)
  obtain ⟨rfl, q2, q3⟩ := q1
  by_cases hz : cd2 (okP r (gX G (6 * j + 1))) (rgB 0 2 (gX G (6 * j + 2)) && plB (gX G (6 * j + 2)) (gX G (6 * j + 3))) = 0
  · obtain ⟨h3, q4, rfl⟩ := q3 hz
    have hp2 := hp.push w.2.1.2.1.2.1 (m' := 300 * (j + 1)) ((ok2_policy hp.1 hz).wk (by omega)) (by omega)
    have w1 := st_out (v := ((fP r (gX G (6 * j + 1)) 7)).toInt64) (st_cc w hp q4.1 q4.2.1 q4.2.2) hp2
    have ho : aJ (sJ h3 737 0 (((fP r (gX G (6 * j + 1)) 7)).toInt64)) 737 0 = ((fP r (gX G (6 * j + 1)) 7)).toInt64 := sJ_at0
    refine r_istore (ls2 := [some (.ref 0), some (.ref 1), some (.ref 723), some (.ref 737), some (.ref 738), some (.int (nI (6 * j))), some _, _, _]) dL_law_2199 (by decide) rfl ?_
    refine r_aload_n dL_law_2201 rfl ?_
    refine r_aload_n dL_law_2202 rfl ?_
    refine r_iload dL_law_2203 rfl ?_
    refine r_iconst (1) dL_law_2205 (by decide) ?_
    refine r_iadd dL_law_2206 ?_
    refine r_sld (k := 6 * j + 1) (nadd rfl kn_1) (by omega) hL3 dL_law_2207 ?_
    refine r_aload_n dL_law_2208 rfl ?_
    refine r_iload dL_law_2209 rfl ?_
    refine r_iconst (2) dL_law_2211 (by decide) ?_
    refine r_iadd dL_law_2212 ?_
    refine r_sld (k := 6 * j + 2) (nadd rfl kn_2) (by omega) hL3 dL_law_2213 ?_
    refine r_aload_n dL_law_2214 rfl ?_
    refine r_iload dL_law_2215 rfl ?_
    refine r_iconst (3) dL_law_2217 (by decide) ?_
    refine r_iadd dL_law_2218 ?_
    refine r_sld (k := 6 * j + 3) (nadd rfl kn_3) (by omega) hL3 dL_law_2219 ?_
    refine q_callT3 (cv_X9_setPolicy ml_L_306) w1.1 kc_723 (by decide) rfl (rmL rfl (by show cs.1 + 3 + 0 ≤ _; omega) (by show cs.2 + 18 + 0 ≤ _; omega)) (Nat.le_of_ble_eq_true rfl) dL_law_2220 (c_X9_setPolicy (hW := w1.1) (hm := w1.2.2.1) (hO := hp.1.1) (hm28 := (by omega)) (hL := w1.2.2.2.1)) (fun v2 h2 ty2 p2 => ?_)
    obtain ⟨rfl, p3, p4, p5⟩ := p2.2 hz
    have w2 := st_rc w1 hp2 p3 p4 p5
    have ht : aI h2 723 12 = nI (cd2 (okP r (gX G (6 * j + 1))) (rgB 0 2 (gX G (6 * j + 2)) && plB (gX G (6 * j + 2)) (gX G (6 * j + 3)))) := by rw [hz]; exact p3.2.1
    have ho2 : aJ h2 737 0 = _ := (congrFun (p3.1.J (show ¬ RS 737 by unfold RS; omega)) 0).trans ho
    refine r_istore (ls2 := [some (.ref 0), some (.ref 1), some (.ref 723), some (.ref 737), some (.ref 738), some (.int (nI (6 * j))), _, some _, _]) dL_law_2223 (by decide) rfl ?_
    refine r_aload_n dL_law_2225 rfl ?_
    refine q_callT0 (cv_X9_thrown ml_L_222) w2.1 kc_723 (by decide) rfl (rmL rfl (by show cs.1 + 3 + 0 + 0 ≤ _; omega) (by show cs.2 + 18 + 0 + 0 ≤ _; omega)) (Nat.le_of_ble_eq_true rfl) dL_law_2226 (c_X9_thrown w2.1) (fun v5 h5 _ q5 => ?_)
    obtain ⟨rfl, rfl⟩ := q5
    refine r_iload dL_law_2229 rfl ?_
    refine r_icmp_eq 2236 dL_law_2231 (by decide) (fun _ => ?_) (fun c9 => absurd ht c9)
    refine r_iload dL_law_2236 rfl ?_
    refine r_if_ne 2253 dL_law_2238 (by decide) (fun c9 => absurd (by rw [hz]; rfl) c9) (fun _ => ?_)
    refine r_aload_n dL_law_2241 rfl ?_
    refine r_iconst (0) dL_law_2242 (by decide) ?_
    refine q_lald (k := 0) w2.1 kc_737 kn_0 (by decide) (by decide) dL_law_2243 ?_
    rw [ho2]
    refine r_iload dL_law_2244 rfl ?_
    refine r_i2l dL_law_2246 ?_
    refine r_lcmp dL_law_2247 ?_
    refine r_if_eq 2253 dL_law_2248 (by decide) (fun _ => ?_) (fun c9 => absurd lg_cmp_s c9)
    refine r_goto 4127 dL_law_2253 (by decide) ?_
    exact kk _ _ _ _ _ _ _ _ _ _ _ _ _ _ w2 hp2 (by show cs.1 + 3 + 0 ≤ _; omega) (by show cs.2 + 18 + 0 ≤ _; omega)
  · obtain rfl := q2 hz
    have w1 := w
    refine r_istore (ls2 := [some (.ref 0), some (.ref 1), some (.ref 723), some (.ref 737), some (.ref 738), some (.int (nI (6 * j))), some _, _, _]) dL_law_2199 (by decide) rfl ?_
    refine r_aload_n dL_law_2201 rfl ?_
    refine r_aload_n dL_law_2202 rfl ?_
    refine r_iload dL_law_2203 rfl ?_
    refine r_iconst (1) dL_law_2205 (by decide) ?_
    refine r_iadd dL_law_2206 ?_
    refine r_sld (k := 6 * j + 1) (nadd rfl kn_1) (by omega) hL3 dL_law_2207 ?_
    refine r_aload_n dL_law_2208 rfl ?_
    refine r_iload dL_law_2209 rfl ?_
    refine r_iconst (2) dL_law_2211 (by decide) ?_
    refine r_iadd dL_law_2212 ?_
    refine r_sld (k := 6 * j + 2) (nadd rfl kn_2) (by omega) hL3 dL_law_2213 ?_
    refine r_aload_n dL_law_2214 rfl ?_
    refine r_iload dL_law_2215 rfl ?_
    refine r_iconst (3) dL_law_2217 (by decide) ?_
    refine r_iadd dL_law_2218 ?_
    refine r_sld (k := 6 * j + 3) (nadd rfl kn_3) (by omega) hL3 dL_law_2219 ?_
    refine q_callT3 (cv_X9_setPolicy ml_L_306) w1.1 kc_723 (by decide) rfl (rmL rfl (by show cs.1 + 3 + 0 ≤ _; omega) (by show cs.2 + 18 + 0 ≤ _; omega)) (Nat.le_of_ble_eq_true rfl) dL_law_2220 (c_X9_setPolicy (hW := w1.1) (hm := w1.2.2.1) (hO := hp.1.1) (hm28 := (by omega)) (hL := w1.2.2.2.1)) (fun v2 h2 ty2 p2 => ?_)
    obtain ⟨y2, rfl⟩ : ∃ x, v2 = some (.int x) := ty2
    have p3 := p2.1 hz
    have w2 := st_rq w1 hp p3
    have ht := p3.2.1
    refine r_istore (ls2 := [some (.ref 0), some (.ref 1), some (.ref 723), some (.ref 737), some (.ref 738), some (.int (nI (6 * j))), _, some _, _]) dL_law_2223 (by decide) rfl ?_
    refine r_aload_n dL_law_2225 rfl ?_
    refine q_callT0 (cv_X9_thrown ml_L_222) w2.1 kc_723 (by decide) rfl (rmL rfl (by show cs.1 + 3 + 0 + 0 ≤ _; omega) (by show cs.2 + 18 + 0 + 0 ≤ _; omega)) (Nat.le_of_ble_eq_true rfl) dL_law_2226 (c_X9_thrown w2.1) (fun v5 h5 _ q5 => ?_)
    obtain ⟨rfl, rfl⟩ := q5
    refine r_iload dL_law_2229 rfl ?_
    refine r_icmp_eq 2236 dL_law_2231 (by decide) (fun _ => ?_) (fun c9 => absurd ht c9)
    refine r_iload dL_law_2236 rfl ?_
    refine r_if_ne 2253 dL_law_2238 (by decide) (fun _ => ?_) (fun c9 => absurd c9 (nI_nz hz (by have := (show cd2 (okP r (gX G (6 * j + 1))) (rgB 0 2 (gX G (6 * j + 2)) && plB (gX G (6 * j + 2)) (gX G (6 * j + 3))) ≤ 4 from Nat.le_trans cd2_le (by decide)); omega)))
    refine r_goto 4127 dL_law_2253 (by decide) ?_
    exact kk _ _ _ _ _ _ _ _ _ _ _ _ _ _ w2 hp.nx (by show cs.1 + 3 + 0 ≤ _; omega) (by show cs.2 + 18 + 0 ≤ _; omega)
theorem cs_L_setTarget : CStH RL 307 mL_setTarget 4 := ⟨ml_L_307, (tgI 1283 (by decide +kernel) rfl), (tgI 98 (by decide +kernel) rfl), (tgI 1284 (by decide +kernel) rfl), ok_L_setTarget⟩
set_option maxRecDepth 100000 in
set_option maxHeartbeats 4000000 in
theorem law_32 {l9 : Launch} {G : GC} {Fi : CX → State → Prop} {h : AH} {r s : Row} {L : List Row} {sv : Bool} {b : Nat → Int32} {n j : Nat} {o : Ob} {er eo : Int32} {l6 l7 l8 : Option Value} {cs : Nat × Nat} (hG : GOK G) (hj : 6 * j + 6 ≤ gL G) (hL3 : gL G ≤ 3072) (w : StL h r L r L s sv b n o er eo) (hp : LvP r L s sv b n (300 * j)) (hc1 : cs.1 ≤ 800 + 60 * j) (hc2 : cs.2 ≤ 40000 + 400 * j) (kk : LNx l9 G Fi j) : PW l9 G mL_law room_1 Fi NT 2256 [some (.ref 0), some (.ref 1), some (.ref 723), some (.ref 737), some (.ref 738), some (.int (nI (6 * j))), l6, l7, l8] [] cs h := by
  have hb9 : 300 * j + 300 < 2 ^ 23 := by omega
  refine r_aload_n dL_law_2256 rfl ?_
  refine r_aload_n dL_law_2257 rfl ?_
  refine r_iload dL_law_2258 rfl ?_
  refine r_iconst (1) dL_law_2260 (by decide) ?_
  refine r_iadd dL_law_2261 ?_
  refine r_sld (k := 6 * j + 1) (nadd rfl kn_1) (by omega) hL3 dL_law_2262 ?_
  refine r_aload_n dL_law_2263 rfl ?_
  refine r_iload dL_law_2264 rfl ?_
  refine r_iconst (2) dL_law_2266 (by decide) ?_
  refine r_iadd dL_law_2267 ?_
  refine r_sld (k := 6 * j + 2) (nadd rfl kn_2) (by omega) hL3 dL_law_2268 ?_
  refine r_aload_n dL_law_2269 rfl ?_
  refine r_callSH4 cs_L_setTarget (rmL rfl (by show cs.1 + 2 ≤ _; omega) (by show cs.2 + 12 ≤ _; omega)) (Nat.le_of_ble_eq_true rfl) dL_law_2270 (c_L_setTarget hG w.1 cd2_le (c_X8_setTarget (hW := w.1) (hs := w.2.1.1) (hO := hp.1.1) (hL := w.2.1.2.1) (hLO := hp.ls)) (fun _ e9 => e9.1.1.1)) (fun v1 h1 q1 => ?_)
  obtain ⟨rfl, q2, q3⟩ := q1
  by_cases hz : cd2 (okP r (gX G (6 * j + 1))) (rgB 10 100 (gX G (6 * j + 2))) = 0
  · obtain ⟨h3, q4, rfl⟩ := q3 hz
    have hp2 := hp.push w.2.1.2.1.2.1 (m' := 300 * (j + 1)) ((ok2_target hp.1 hz).wk (by omega)) (by omega)
    have w1 := st_out (v := ((fP r (gX G (6 * j + 1)) 3)).toInt64) (st_cc w hp q4.1 q4.2.1 q4.2.2) hp2
    have ho : aJ (sJ h3 737 0 (((fP r (gX G (6 * j + 1)) 3)).toInt64)) 737 0 = ((fP r (gX G (6 * j + 1)) 3)).toInt64 := sJ_at0
    refine r_istore (ls2 := [some (.ref 0), some (.ref 1), some (.ref 723), some (.ref 737), some (.ref 738), some (.int (nI (6 * j))), some _, _, _]) dL_law_2273 (by decide) rfl ?_
    refine r_aload_n dL_law_2275 rfl ?_
    refine r_aload_n dL_law_2276 rfl ?_
    refine r_iload dL_law_2277 rfl ?_
    refine r_iconst (1) dL_law_2279 (by decide) ?_
    refine r_iadd dL_law_2280 ?_
    refine r_sld (k := 6 * j + 1) (nadd rfl kn_1) (by omega) hL3 dL_law_2281 ?_
    refine r_aload_n dL_law_2282 rfl ?_
    refine r_iload dL_law_2283 rfl ?_
    refine r_iconst (2) dL_law_2285 (by decide) ?_
    refine r_iadd dL_law_2286 ?_
    refine r_sld (k := 6 * j + 2) (nadd rfl kn_2) (by omega) hL3 dL_law_2287 ?_
    refine q_callT2 (cv_X9_setTarget ml_L_309) w1.1 kc_723 (by decide) rfl (rmL rfl (by show cs.1 + 2 + 0 ≤ _; omega) (by show cs.2 + 12 + 0 ≤ _; omega)) (Nat.le_of_ble_eq_true rfl) dL_law_2288 (c_X9_setTarget (hW := w1.1) (hm := w1.2.2.1) (hO := hp.1.1) (hm28 := (by omega)) (hL := w1.2.2.2.1)) (fun v2 h2 ty2 p2 => ?_)
    obtain ⟨rfl, p3, p4, p5⟩ := p2.2 hz
    have w2 := st_rc w1 hp2 p3 p4 p5
    have ht : aI h2 723 12 = nI (cd2 (okP r (gX G (6 * j + 1))) (rgB 10 100 (gX G (6 * j + 2)))) := by rw [hz]; exact p3.2.1
    have ho2 : aJ h2 737 0 = _ := (congrFun (p3.1.J (show ¬ RS 737 by unfold RS; omega)) 0).trans ho
    refine r_istore (ls2 := [some (.ref 0), some (.ref 1), some (.ref 723), some (.ref 737), some (.ref 738), some (.int (nI (6 * j))), _, some _, _]) dL_law_2291 (by decide) rfl ?_
    refine r_aload_n dL_law_2293 rfl ?_
    refine q_callT0 (cv_X9_thrown ml_L_222) w2.1 kc_723 (by decide) rfl (rmL rfl (by show cs.1 + 2 + 0 + 0 ≤ _; omega) (by show cs.2 + 12 + 0 + 0 ≤ _; omega)) (Nat.le_of_ble_eq_true rfl) dL_law_2294 (c_X9_thrown w2.1) (fun v5 h5 _ q5 => ?_)
    obtain ⟨rfl, rfl⟩ := q5
    refine r_iload dL_law_2297 rfl ?_
    refine r_icmp_eq 2304 dL_law_2299 (by decide) (fun _ => ?_) (fun c9 => absurd ht c9)
    refine r_iload dL_law_2304 rfl ?_
    refine r_if_ne 2321 dL_law_2306 (by decide) (fun c9 => absurd (by rw [hz]; rfl) c9) (fun _ => ?_)
    refine r_aload_n dL_law_2309 rfl ?_
    refine r_iconst (0) dL_law_2310 (by decide) ?_
    refine q_lald (k := 0) w2.1 kc_737 kn_0 (by decide) (by decide) dL_law_2311 ?_
    rw [ho2]
    refine r_iload dL_law_2312 rfl ?_
    refine r_i2l dL_law_2314 ?_
    refine r_lcmp dL_law_2315 ?_
    refine r_if_eq 2321 dL_law_2316 (by decide) (fun _ => ?_) (fun c9 => absurd lg_cmp_s c9)
    refine r_goto 4127 dL_law_2321 (by decide) ?_
    exact kk _ _ _ _ _ _ _ _ _ _ _ _ _ _ w2 hp2 (by show cs.1 + 2 + 0 ≤ _; omega) (by show cs.2 + 12 + 0 ≤ _; omega)
  · obtain rfl := q2 hz
    have w1 := w
    refine r_istore (ls2 := [some (.ref 0), some (.ref 1), some (.ref 723), some (.ref 737), some (.ref 738), some (.int (nI (6 * j))), some _, _, _]) dL_law_2273 (by decide) rfl ?_
    refine r_aload_n dL_law_2275 rfl ?_
    refine r_aload_n dL_law_2276 rfl ?_
    refine r_iload dL_law_2277 rfl ?_
    refine r_iconst (1) dL_law_2279 (by decide) ?_
    refine r_iadd dL_law_2280 ?_
    refine r_sld (k := 6 * j + 1) (nadd rfl kn_1) (by omega) hL3 dL_law_2281 ?_
    refine r_aload_n dL_law_2282 rfl ?_
    refine r_iload dL_law_2283 rfl ?_
    refine r_iconst (2) dL_law_2285 (by decide) ?_
    refine r_iadd dL_law_2286 ?_
    refine r_sld (k := 6 * j + 2) (nadd rfl kn_2) (by omega) hL3 dL_law_2287 ?_
    refine q_callT2 (cv_X9_setTarget ml_L_309) w1.1 kc_723 (by decide) rfl (rmL rfl (by show cs.1 + 2 + 0 ≤ _; omega) (by show cs.2 + 12 + 0 ≤ _; omega)) (Nat.le_of_ble_eq_true rfl) dL_law_2288 (c_X9_setTarget (hW := w1.1) (hm := w1.2.2.1) (hO := hp.1.1) (hm28 := (by omega)) (hL := w1.2.2.2.1)) (fun v2 h2 ty2 p2 => ?_)
    obtain ⟨y2, rfl⟩ : ∃ x, v2 = some (.int x) := ty2
    have p3 := p2.1 hz
    have w2 := st_rq w1 hp p3
    have ht := p3.2.1
    refine r_istore (ls2 := [some (.ref 0), some (.ref 1), some (.ref 723), some (.ref 737), some (.ref 738), some (.int (nI (6 * j))), _, some _, _]) dL_law_2291 (by decide) rfl ?_
    refine r_aload_n dL_law_2293 rfl ?_
    refine q_callT0 (cv_X9_thrown ml_L_222) w2.1 kc_723 (by decide) rfl (rmL rfl (by show cs.1 + 2 + 0 + 0 ≤ _; omega) (by show cs.2 + 12 + 0 + 0 ≤ _; omega)) (Nat.le_of_ble_eq_true rfl) dL_law_2294 (c_X9_thrown w2.1) (fun v5 h5 _ q5 => ?_)
    obtain ⟨rfl, rfl⟩ := q5
    refine r_iload dL_law_2297 rfl ?_
    refine r_icmp_eq 2304 dL_law_2299 (by decide) (fun _ => ?_) (fun c9 => absurd ht c9)
    refine r_iload dL_law_2304 rfl ?_
    refine r_if_ne 2321 dL_law_2306 (by decide) (fun _ => ?_) (fun c9 => absurd c9 (nI_nz hz (by have := (show cd2 (okP r (gX G (6 * j + 1))) (rgB 10 100 (gX G (6 * j + 2))) ≤ 4 from Nat.le_trans cd2_le (by decide)); omega)))
    refine r_goto 4127 dL_law_2321 (by decide) ?_
    exact kk _ _ _ _ _ _ _ _ _ _ _ _ _ _ w2 hp.nx (by show cs.1 + 2 + 0 ≤ _; omega) (by show cs.2 + 12 + 0 ≤ _; omega)
theorem cs_L_setCool : CStH RL 310 mL_setCool 5 := ⟨ml_L_310, (tgI 1290 (by decide +kernel) rfl), (tgI 98 (by decide +kernel) rfl), (tgI 1291 (by decide +kernel) rfl), ok_L_setCool⟩
set_option maxRecDepth 100000 in
set_option maxHeartbeats 4000000 in
theorem law_33 {l9 : Launch} {G : GC} {Fi : CX → State → Prop} {h : AH} {r s : Row} {L : List Row} {sv : Bool} {b : Nat → Int32} {n j : Nat} {o : Ob} {er eo : Int32} {l6 l7 l8 : Option Value} {cs : Nat × Nat} (hG : GOK G) (hj : 6 * j + 6 ≤ gL G) (hL3 : gL G ≤ 3072) (w : StL h r L r L s sv b n o er eo) (hp : LvP r L s sv b n (300 * j)) (hc1 : cs.1 ≤ 800 + 60 * j) (hc2 : cs.2 ≤ 40000 + 400 * j) (kk : LNx l9 G Fi j) : PW l9 G mL_law room_1 Fi NT 2324 [some (.ref 0), some (.ref 1), some (.ref 723), some (.ref 737), some (.ref 738), some (.int (nI (6 * j))), l6, l7, l8] [] cs h := by
  have hb9 : 300 * j + 300 < 2 ^ 23 := by omega
  refine r_aload_n dL_law_2324 rfl ?_
  refine r_aload_n dL_law_2325 rfl ?_
  refine r_iload dL_law_2326 rfl ?_
  refine r_iconst (1) dL_law_2328 (by decide) ?_
  refine r_iadd dL_law_2329 ?_
  refine r_sld (k := 6 * j + 1) (nadd rfl kn_1) (by omega) hL3 dL_law_2330 ?_
  refine r_aload_n dL_law_2331 rfl ?_
  refine r_iload dL_law_2332 rfl ?_
  refine r_iconst (2) dL_law_2334 (by decide) ?_
  refine r_iadd dL_law_2335 ?_
  refine r_sld (k := 6 * j + 2) (nadd rfl kn_2) (by omega) hL3 dL_law_2336 ?_
  refine r_aload_n dL_law_2337 rfl ?_
  refine r_iload dL_law_2338 rfl ?_
  refine r_iconst (3) dL_law_2340 (by decide) ?_
  refine r_iadd dL_law_2341 ?_
  refine r_sld (k := 6 * j + 3) (nadd rfl kn_3) (by omega) hL3 dL_law_2342 ?_
  refine r_aload_n dL_law_2343 rfl ?_
  refine r_callSH5 cs_L_setCool (rmL rfl (by show cs.1 + 3 ≤ _; omega) (by show cs.2 + 18 ≤ _; omega)) (Nat.le_of_ble_eq_true rfl) dL_law_2344 (c_L_setCool hG w.1 cd2_le (c_X8_setCool (hW := w.1) (hs := w.2.1.1) (hO := hp.1.1) (hL := w.2.1.2.1) (hLO := hp.ls)) (fun _ e9 => e9.1.1.1)) (fun v1 h1 q1 => ?_)
  obtain ⟨rfl, q2, q3⟩ := q1
  by_cases hz : cd2 (okP r (gX G (6 * j + 1))) (rgB 0 30 (gX G (6 * j + 2)) && rgB 0 30 (gX G (6 * j + 3))) = 0
  · obtain ⟨h3, q4, rfl⟩ := q3 hz
    have hp2 := hp.push w.2.1.2.1.2.1 (m' := 300 * (j + 1)) ((ok2_cool hp.1 hz).wk (by omega)) (by omega)
    have w1 := st_out (v := ((100 * fP r (gX G (6 * j + 1)) 12 + fP r (gX G (6 * j + 1)) 13)).toInt64) (st_cc w hp q4.1 q4.2.1 q4.2.2) hp2
    have ho : aJ (sJ h3 737 0 (((100 * fP r (gX G (6 * j + 1)) 12 + fP r (gX G (6 * j + 1)) 13)).toInt64)) 737 0 = ((100 * fP r (gX G (6 * j + 1)) 12 + fP r (gX G (6 * j + 1)) 13)).toInt64 := sJ_at0
    refine r_istore (ls2 := [some (.ref 0), some (.ref 1), some (.ref 723), some (.ref 737), some (.ref 738), some (.int (nI (6 * j))), some _, _, _]) dL_law_2347 (by decide) rfl ?_
    refine r_aload_n dL_law_2349 rfl ?_
    refine r_aload_n dL_law_2350 rfl ?_
    refine r_iload dL_law_2351 rfl ?_
    refine r_iconst (1) dL_law_2353 (by decide) ?_
    refine r_iadd dL_law_2354 ?_
    refine r_sld (k := 6 * j + 1) (nadd rfl kn_1) (by omega) hL3 dL_law_2355 ?_
    refine r_aload_n dL_law_2356 rfl ?_
    refine r_iload dL_law_2357 rfl ?_
    refine r_iconst (2) dL_law_2359 (by decide) ?_
    refine r_iadd dL_law_2360 ?_
    refine r_sld (k := 6 * j + 2) (nadd rfl kn_2) (by omega) hL3 dL_law_2361 ?_
    refine r_aload_n dL_law_2362 rfl ?_
    refine r_iload dL_law_2363 rfl ?_
    refine r_iconst (3) dL_law_2365 (by decide) ?_
    refine r_iadd dL_law_2366 ?_
    refine r_sld (k := 6 * j + 3) (nadd rfl kn_3) (by omega) hL3 dL_law_2367 ?_
    refine q_callT3 (cv_X9_setCool ml_L_312) w1.1 kc_723 (by decide) rfl (rmL rfl (by show cs.1 + 3 + 0 ≤ _; omega) (by show cs.2 + 18 + 0 ≤ _; omega)) (Nat.le_of_ble_eq_true rfl) dL_law_2368 (c_X9_setCool (hW := w1.1) (hm := w1.2.2.1) (hO := hp.1.1) (hm28 := (by omega)) (hL := w1.2.2.2.1)) (fun v2 h2 ty2 p2 => ?_)
    obtain ⟨rfl, p3, p4, p5⟩ := p2.2 hz
    have w2 := st_rc w1 hp2 p3 p4 p5
    have ht : aI h2 723 12 = nI (cd2 (okP r (gX G (6 * j + 1))) (rgB 0 30 (gX G (6 * j + 2)) && rgB 0 30 (gX G (6 * j + 3)))) := by rw [hz]; exact p3.2.1
    have ho2 : aJ h2 737 0 = _ := (congrFun (p3.1.J (show ¬ RS 737 by unfold RS; omega)) 0).trans ho
    refine r_istore (ls2 := [some (.ref 0), some (.ref 1), some (.ref 723), some (.ref 737), some (.ref 738), some (.int (nI (6 * j))), _, some _, _]) dL_law_2371 (by decide) rfl ?_
    refine r_aload_n dL_law_2373 rfl ?_
    refine q_callT0 (cv_X9_thrown ml_L_222) w2.1 kc_723 (by decide) rfl (rmL rfl (by show cs.1 + 3 + 0 + 0 ≤ _; omega) (by show cs.2 + 18 + 0 + 0 ≤ _; omega)) (Nat.le_of_ble_eq_true rfl) dL_law_2374 (c_X9_thrown w2.1) (fun v5 h5 _ q5 => ?_)
    obtain ⟨rfl, rfl⟩ := q5
    refine r_iload dL_law_2377 rfl ?_
    refine r_icmp_eq 2384 dL_law_2379 (by decide) (fun _ => ?_) (fun c9 => absurd ht c9)
    refine r_iload dL_law_2384 rfl ?_
    refine r_if_ne 2401 dL_law_2386 (by decide) (fun c9 => absurd (by rw [hz]; rfl) c9) (fun _ => ?_)
    refine r_aload_n dL_law_2389 rfl ?_
    refine r_iconst (0) dL_law_2390 (by decide) ?_
    refine q_lald (k := 0) w2.1 kc_737 kn_0 (by decide) (by decide) dL_law_2391 ?_
    rw [ho2]
    refine r_iload dL_law_2392 rfl ?_
    refine r_i2l dL_law_2394 ?_
    refine r_lcmp dL_law_2395 ?_
    refine r_if_eq 2401 dL_law_2396 (by decide) (fun _ => ?_) (fun c9 => absurd lg_cmp_s c9)
    refine r_goto 4127 dL_law_2401 (by decide) ?_
    exact kk _ _ _ _ _ _ _ _ _ _ _ _ _ _ w2 hp2 (by show cs.1 + 3 + 0 ≤ _; omega) (by show cs.2 + 18 + 0 ≤ _; omega)
  · obtain rfl := q2 hz
    have w1 := w
    refine r_istore (ls2 := [some (.ref 0), some (.ref 1), some (.ref 723), some (.ref 737), some (.ref 738), some (.int (nI (6 * j))), some _, _, _]) dL_law_2347 (by decide) rfl ?_
    refine r_aload_n dL_law_2349 rfl ?_
    refine r_aload_n dL_law_2350 rfl ?_
    refine r_iload dL_law_2351 rfl ?_
    refine r_iconst (1) dL_law_2353 (by decide) ?_
    refine r_iadd dL_law_2354 ?_
    refine r_sld (k := 6 * j + 1) (nadd rfl kn_1) (by omega) hL3 dL_law_2355 ?_
    refine r_aload_n dL_law_2356 rfl ?_
    refine r_iload dL_law_2357 rfl ?_
    refine r_iconst (2) dL_law_2359 (by decide) ?_
    refine r_iadd dL_law_2360 ?_
    refine r_sld (k := 6 * j + 2) (nadd rfl kn_2) (by omega) hL3 dL_law_2361 ?_
    refine r_aload_n dL_law_2362 rfl ?_
    refine r_iload dL_law_2363 rfl ?_
    refine r_iconst (3) dL_law_2365 (by decide) ?_
    refine r_iadd dL_law_2366 ?_
    refine r_sld (k := 6 * j + 3) (nadd rfl kn_3) (by omega) hL3 dL_law_2367 ?_
    refine q_callT3 (cv_X9_setCool ml_L_312) w1.1 kc_723 (by decide) rfl (rmL rfl (by show cs.1 + 3 + 0 ≤ _; omega) (by show cs.2 + 18 + 0 ≤ _; omega)) (Nat.le_of_ble_eq_true rfl) dL_law_2368 (c_X9_setCool (hW := w1.1) (hm := w1.2.2.1) (hO := hp.1.1) (hm28 := (by omega)) (hL := w1.2.2.2.1)) (fun v2 h2 ty2 p2 => ?_)
    obtain ⟨y2, rfl⟩ : ∃ x, v2 = some (.int x) := ty2
    have p3 := p2.1 hz
    have w2 := st_rq w1 hp p3
    have ht := p3.2.1
    refine r_istore (ls2 := [some (.ref 0), some (.ref 1), some (.ref 723), some (.ref 737), some (.ref 738), some (.int (nI (6 * j))), _, some _, _]) dL_law_2371 (by decide) rfl ?_
    refine r_aload_n dL_law_2373 rfl ?_
    refine q_callT0 (cv_X9_thrown ml_L_222) w2.1 kc_723 (by decide) rfl (rmL rfl (by show cs.1 + 3 + 0 + 0 ≤ _; omega) (by show cs.2 + 18 + 0 + 0 ≤ _; omega)) (Nat.le_of_ble_eq_true rfl) dL_law_2374 (c_X9_thrown w2.1) (fun v5 h5 _ q5 => ?_)
    obtain ⟨rfl, rfl⟩ := q5
    refine r_iload dL_law_2377 rfl ?_
    refine r_icmp_eq 2384 dL_law_2379 (by decide) (fun _ => ?_) (fun c9 => absurd ht c9)
    refine r_iload dL_law_2384 rfl ?_
    refine r_if_ne 2401 dL_law_2386 (by decide) (fun _ => ?_) (fun c9 => absurd c9 (nI_nz hz (by have := (show cd2 (okP r (gX G (6 * j + 1))) (rgB 0 30 (gX G (6 * j + 2)) && rgB 0 30 (gX G (6 * j + 3))) ≤ 4 from Nat.le_trans cd2_le (by decide)); omega)))
    refine r_goto 4127 dL_law_2401 (by decide) ?_
    exact kk _ _ _ _ _ _ _ _ _ _ _ _ _ _ w2 hp.nx (by show cs.1 + 3 + 0 ≤ _; omega) (by show cs.2 + 18 + 0 ≤ _; omega)
theorem cs_L_setBounds : CStH RL 313 mL_setBounds 5 := ⟨ml_L_313, (tgI 1297 (by decide +kernel) rfl), (tgI 98 (by decide +kernel) rfl), (tgI 1298 (by decide +kernel) rfl), ok_L_setBounds⟩
set_option maxRecDepth 100000 in
set_option maxHeartbeats 4000000 in
theorem law_34 {l9 : Launch} {G : GC} {Fi : CX → State → Prop} {h : AH} {r s : Row} {L : List Row} {sv : Bool} {b : Nat → Int32} {n j : Nat} {o : Ob} {er eo : Int32} {l6 l7 l8 : Option Value} {cs : Nat × Nat} (hG : GOK G) (hj : 6 * j + 6 ≤ gL G) (hL3 : gL G ≤ 3072) (w : StL h r L r L s sv b n o er eo) (hp : LvP r L s sv b n (300 * j)) (hc1 : cs.1 ≤ 800 + 60 * j) (hc2 : cs.2 ≤ 40000 + 400 * j) (kk : LNx l9 G Fi j) : PW l9 G mL_law room_1 Fi NT 2404 [some (.ref 0), some (.ref 1), some (.ref 723), some (.ref 737), some (.ref 738), some (.int (nI (6 * j))), l6, l7, l8] [] cs h := by
  have hb9 : 300 * j + 300 < 2 ^ 23 := by omega
  refine r_aload_n dL_law_2404 rfl ?_
  refine r_aload_n dL_law_2405 rfl ?_
  refine r_iload dL_law_2406 rfl ?_
  refine r_iconst (1) dL_law_2408 (by decide) ?_
  refine r_iadd dL_law_2409 ?_
  refine r_sld (k := 6 * j + 1) (nadd rfl kn_1) (by omega) hL3 dL_law_2410 ?_
  refine r_aload_n dL_law_2411 rfl ?_
  refine r_iload dL_law_2412 rfl ?_
  refine r_iconst (2) dL_law_2414 (by decide) ?_
  refine r_iadd dL_law_2415 ?_
  refine r_sld (k := 6 * j + 2) (nadd rfl kn_2) (by omega) hL3 dL_law_2416 ?_
  refine r_aload_n dL_law_2417 rfl ?_
  refine r_iload dL_law_2418 rfl ?_
  refine r_iconst (3) dL_law_2420 (by decide) ?_
  refine r_iadd dL_law_2421 ?_
  refine r_sld (k := 6 * j + 3) (nadd rfl kn_3) (by omega) hL3 dL_law_2422 ?_
  refine r_aload_n dL_law_2423 rfl ?_
  refine r_callSH5 cs_L_setBounds (rmL rfl (by show cs.1 + 3 ≤ _; omega) (by show cs.2 + 18 ≤ _; omega)) (Nat.le_of_ble_eq_true rfl) dL_law_2424 (c_L_setBounds hG w.1 cd2_le (c_X8_setBounds (hW := w.1) (hs := w.2.1.1) (hO := hp.1.1) (hL := w.2.1.2.1) (hLO := hp.ls)) (fun _ e9 => e9.1.1.1)) (fun v1 h1 q1 => ?_)
  obtain ⟨rfl, q2, q3⟩ := q1
  by_cases hz : cd2 (okP r (gX G (6 * j + 1))) (rgB 0 20 (gX G (6 * j + 2)) && rgB (imx 1 (gX G (6 * j + 2))) 20 (gX G (6 * j + 3))) = 0
  · obtain ⟨h3, q4, rfl⟩ := q3 hz
    have hp2 := hp.push w.2.1.2.1.2.1 (m' := 300 * (j + 1)) ((ok2_bounds hp.1 hz).wk (by omega)) (by omega)
    have w1 := st_out (v := ((100 * fP r (gX G (6 * j + 1)) 0 + fP r (gX G (6 * j + 1)) 1)).toInt64) (st_cc w hp q4.1 q4.2.1 q4.2.2) hp2
    have ho : aJ (sJ h3 737 0 (((100 * fP r (gX G (6 * j + 1)) 0 + fP r (gX G (6 * j + 1)) 1)).toInt64)) 737 0 = ((100 * fP r (gX G (6 * j + 1)) 0 + fP r (gX G (6 * j + 1)) 1)).toInt64 := sJ_at0
    refine r_istore (ls2 := [some (.ref 0), some (.ref 1), some (.ref 723), some (.ref 737), some (.ref 738), some (.int (nI (6 * j))), some _, _, _]) dL_law_2427 (by decide) rfl ?_
    refine r_aload_n dL_law_2429 rfl ?_
    refine r_aload_n dL_law_2430 rfl ?_
    refine r_iload dL_law_2431 rfl ?_
    refine r_iconst (1) dL_law_2433 (by decide) ?_
    refine r_iadd dL_law_2434 ?_
    refine r_sld (k := 6 * j + 1) (nadd rfl kn_1) (by omega) hL3 dL_law_2435 ?_
    refine r_aload_n dL_law_2436 rfl ?_
    refine r_iload dL_law_2437 rfl ?_
    refine r_iconst (2) dL_law_2439 (by decide) ?_
    refine r_iadd dL_law_2440 ?_
    refine r_sld (k := 6 * j + 2) (nadd rfl kn_2) (by omega) hL3 dL_law_2441 ?_
    refine r_aload_n dL_law_2442 rfl ?_
    refine r_iload dL_law_2443 rfl ?_
    refine r_iconst (3) dL_law_2445 (by decide) ?_
    refine r_iadd dL_law_2446 ?_
    refine r_sld (k := 6 * j + 3) (nadd rfl kn_3) (by omega) hL3 dL_law_2447 ?_
    refine q_callT3 (cv_X9_setBounds ml_L_315) w1.1 kc_723 (by decide) rfl (rmL rfl (by show cs.1 + 3 + 0 ≤ _; omega) (by show cs.2 + 18 + 0 ≤ _; omega)) (Nat.le_of_ble_eq_true rfl) dL_law_2448 (c_X9_setBounds (hW := w1.1) (hm := w1.2.2.1) (hO := hp.1.1) (hm28 := (by omega)) (hL := w1.2.2.2.1)) (fun v2 h2 ty2 p2 => ?_)
    obtain ⟨rfl, p3, p4, p5⟩ := p2.2 hz
    have w2 := st_rc w1 hp2 p3 p4 p5
    have ht : aI h2 723 12 = nI (cd2 (okP r (gX G (6 * j + 1))) (rgB 0 20 (gX G (6 * j + 2)) && rgB (imx 1 (gX G (6 * j + 2))) 20 (gX G (6 * j + 3)))) := by rw [hz]; exact p3.2.1
    have ho2 : aJ h2 737 0 = _ := (congrFun (p3.1.J (show ¬ RS 737 by unfold RS; omega)) 0).trans ho
    refine r_istore (ls2 := [some (.ref 0), some (.ref 1), some (.ref 723), some (.ref 737), some (.ref 738), some (.int (nI (6 * j))), _, some _, _]) dL_law_2451 (by decide) rfl ?_
    refine r_aload_n dL_law_2453 rfl ?_
    refine q_callT0 (cv_X9_thrown ml_L_222) w2.1 kc_723 (by decide) rfl (rmL rfl (by show cs.1 + 3 + 0 + 0 ≤ _; omega) (by show cs.2 + 18 + 0 + 0 ≤ _; omega)) (Nat.le_of_ble_eq_true rfl) dL_law_2454 (c_X9_thrown w2.1) (fun v5 h5 _ q5 => ?_)
    obtain ⟨rfl, rfl⟩ := q5
    refine r_iload dL_law_2457 rfl ?_
    refine r_icmp_eq 2464 dL_law_2459 (by decide) (fun _ => ?_) (fun c9 => absurd ht c9)
    refine r_iload dL_law_2464 rfl ?_
    refine r_if_ne 2481 dL_law_2466 (by decide) (fun c9 => absurd (by rw [hz]; rfl) c9) (fun _ => ?_)
    refine r_aload_n dL_law_2469 rfl ?_
    refine r_iconst (0) dL_law_2470 (by decide) ?_
    refine q_lald (k := 0) w2.1 kc_737 kn_0 (by decide) (by decide) dL_law_2471 ?_
    rw [ho2]
    refine r_iload dL_law_2472 rfl ?_
    refine r_i2l dL_law_2474 ?_
    refine r_lcmp dL_law_2475 ?_
    refine r_if_eq 2481 dL_law_2476 (by decide) (fun _ => ?_) (fun c9 => absurd lg_cmp_s c9)
    refine r_goto 4127 dL_law_2481 (by decide) ?_
    exact kk _ _ _ _ _ _ _ _ _ _ _ _ _ _ w2 hp2 (by show cs.1 + 3 + 0 ≤ _; omega) (by show cs.2 + 18 + 0 ≤ _; omega)
  · obtain rfl := q2 hz
    have w1 := w
    refine r_istore (ls2 := [some (.ref 0), some (.ref 1), some (.ref 723), some (.ref 737), some (.ref 738), some (.int (nI (6 * j))), some _, _, _]) dL_law_2427 (by decide) rfl ?_
    refine r_aload_n dL_law_2429 rfl ?_
    refine r_aload_n dL_law_2430 rfl ?_
    refine r_iload dL_law_2431 rfl ?_
    refine r_iconst (1) dL_law_2433 (by decide) ?_
    refine r_iadd dL_law_2434 ?_
    refine r_sld (k := 6 * j + 1) (nadd rfl kn_1) (by omega) hL3 dL_law_2435 ?_
    refine r_aload_n dL_law_2436 rfl ?_
    refine r_iload dL_law_2437 rfl ?_
    refine r_iconst (2) dL_law_2439 (by decide) ?_
    refine r_iadd dL_law_2440 ?_
    refine r_sld (k := 6 * j + 2) (nadd rfl kn_2) (by omega) hL3 dL_law_2441 ?_
    refine r_aload_n dL_law_2442 rfl ?_
    refine r_iload dL_law_2443 rfl ?_
    refine r_iconst (3) dL_law_2445 (by decide) ?_
    refine r_iadd dL_law_2446 ?_
    refine r_sld (k := 6 * j + 3) (nadd rfl kn_3) (by omega) hL3 dL_law_2447 ?_
    refine q_callT3 (cv_X9_setBounds ml_L_315) w1.1 kc_723 (by decide) rfl (rmL rfl (by show cs.1 + 3 + 0 ≤ _; omega) (by show cs.2 + 18 + 0 ≤ _; omega)) (Nat.le_of_ble_eq_true rfl) dL_law_2448 (c_X9_setBounds (hW := w1.1) (hm := w1.2.2.1) (hO := hp.1.1) (hm28 := (by omega)) (hL := w1.2.2.2.1)) (fun v2 h2 ty2 p2 => ?_)
    obtain ⟨y2, rfl⟩ : ∃ x, v2 = some (.int x) := ty2
    have p3 := p2.1 hz
    have w2 := st_rq w1 hp p3
    have ht := p3.2.1
    refine r_istore (ls2 := [some (.ref 0), some (.ref 1), some (.ref 723), some (.ref 737), some (.ref 738), some (.int (nI (6 * j))), _, some _, _]) dL_law_2451 (by decide) rfl ?_
    refine r_aload_n dL_law_2453 rfl ?_
    refine q_callT0 (cv_X9_thrown ml_L_222) w2.1 kc_723 (by decide) rfl (rmL rfl (by show cs.1 + 3 + 0 + 0 ≤ _; omega) (by show cs.2 + 18 + 0 + 0 ≤ _; omega)) (Nat.le_of_ble_eq_true rfl) dL_law_2454 (c_X9_thrown w2.1) (fun v5 h5 _ q5 => ?_)
    obtain ⟨rfl, rfl⟩ := q5
    refine r_iload dL_law_2457 rfl ?_
    refine r_icmp_eq 2464 dL_law_2459 (by decide) (fun _ => ?_) (fun c9 => absurd ht c9)
    refine r_iload dL_law_2464 rfl ?_
    refine r_if_ne 2481 dL_law_2466 (by decide) (fun _ => ?_) (fun c9 => absurd c9 (nI_nz hz (by have := (show cd2 (okP r (gX G (6 * j + 1))) (rgB 0 20 (gX G (6 * j + 2)) && rgB (imx 1 (gX G (6 * j + 2))) 20 (gX G (6 * j + 3))) ≤ 4 from Nat.le_trans cd2_le (by decide)); omega)))
    refine r_goto 4127 dL_law_2481 (by decide) ?_
    exact kk _ _ _ _ _ _ _ _ _ _ _ _ _ _ w2 hp.nx (by show cs.1 + 3 + 0 ≤ _; omega) (by show cs.2 + 18 + 0 ≤ _; omega)
theorem cs_L_sizeIn : CStH RL 316 mL_sizeIn 4 := ⟨ml_L_316, (tgI 1304 (by decide +kernel) rfl), (tgI 98 (by decide +kernel) rfl), (tgI 1305 (by decide +kernel) rfl), ok_L_sizeIn⟩
set_option maxRecDepth 100000 in
set_option maxHeartbeats 4000000 in
theorem law_35 {l9 : Launch} {G : GC} {Fi : CX → State → Prop} {h : AH} {r s : Row} {L : List Row} {sv : Bool} {b : Nat → Int32} {n j : Nat} {o : Ob} {er eo : Int32} {l6 l7 l8 : Option Value} {cs : Nat × Nat} (hG : GOK G) (hj : 6 * j + 6 ≤ gL G) (hL3 : gL G ≤ 3072) (w : StL h r L r L s sv b n o er eo) (hp : LvP r L s sv b n (300 * j)) (hc1 : cs.1 ≤ 800 + 60 * j) (hc2 : cs.2 ≤ 40000 + 400 * j) (kk : LNx l9 G Fi j) : PW l9 G mL_law room_1 Fi NT 2484 [some (.ref 0), some (.ref 1), some (.ref 723), some (.ref 737), some (.ref 738), some (.int (nI (6 * j))), l6, l7, l8] [] cs h := by
  have hb9 : 300 * j + 300 < 2 ^ 23 := by omega
  refine r_aload_n dL_law_2484 rfl ?_
  refine r_aload_n dL_law_2485 rfl ?_
  refine r_iload dL_law_2486 rfl ?_
  refine r_iconst (1) dL_law_2488 (by decide) ?_
  refine r_iadd dL_law_2489 ?_
  refine r_sld (k := 6 * j + 1) (nadd rfl kn_1) (by omega) hL3 dL_law_2490 ?_
  refine r_aload_n dL_law_2491 rfl ?_
  refine r_iload dL_law_2492 rfl ?_
  refine r_iconst (2) dL_law_2494 (by decide) ?_
  refine r_iadd dL_law_2495 ?_
  refine r_sld (k := 6 * j + 2) (nadd rfl kn_2) (by omega) hL3 dL_law_2496 ?_
  refine r_aload_n dL_law_2497 rfl ?_
  refine r_callSH4 cs_L_sizeIn (rmL rfl (by show cs.1 + 2 ≤ _; omega) (by show cs.2 + 12 ≤ _; omega)) (Nat.le_of_ble_eq_true rfl) dL_law_2498 (c_L_sizeIn hG w.1 cd2_le (c_X8_sizeIn (hW := w.1) (hs := w.2.1.1) (hO := hp.1.1) (hb := hb9)) (fun _ e9 => e9.W w.1)) (fun v1 h1 q1 => ?_)
  obtain ⟨rfl, q2, q3⟩ := q1
  by_cases hz : cd2 (okP r (gX G (6 * j + 1))) (rgB 1 300 (gX G (6 * j + 2))) = 0
  · obtain ⟨h3, q4, rfl⟩ := q3 hz
    have hp2 := hp.nx
    have w1 := st_out (v := ((qF (TN r (gX G (6 * j + 1)) (nn (gX G (6 * j + 2)))).1 23)).toInt64) (st_eqx w hp q4 (fun i q => Or.inl q)) hp
    have ho : aJ (sJ h3 737 0 (((qF (TN r (gX G (6 * j + 1)) (nn (gX G (6 * j + 2)))).1 23)).toInt64)) 737 0 = ((qF (TN r (gX G (6 * j + 1)) (nn (gX G (6 * j + 2)))).1 23)).toInt64 := sJ_at0
    refine r_istore (ls2 := [some (.ref 0), some (.ref 1), some (.ref 723), some (.ref 737), some (.ref 738), some (.int (nI (6 * j))), some _, _, _]) dL_law_2501 (by decide) rfl ?_
    refine r_aload_n dL_law_2503 rfl ?_
    refine r_aload_n dL_law_2504 rfl ?_
    refine r_iload dL_law_2505 rfl ?_
    refine r_iconst (1) dL_law_2507 (by decide) ?_
    refine r_iadd dL_law_2508 ?_
    refine r_sld (k := 6 * j + 1) (nadd rfl kn_1) (by omega) hL3 dL_law_2509 ?_
    refine r_aload_n dL_law_2510 rfl ?_
    refine r_iload dL_law_2511 rfl ?_
    refine r_iconst (2) dL_law_2513 (by decide) ?_
    refine r_iadd dL_law_2514 ?_
    refine r_sld (k := 6 * j + 2) (nadd rfl kn_2) (by omega) hL3 dL_law_2515 ?_
    refine q_callT2 (cv_X9_sizeIn ml_L_318) w1.1 kc_723 (by decide) rfl (rmL rfl (by show cs.1 + 2 + 0 ≤ _; omega) (by show cs.2 + 12 + 0 ≤ _; omega)) (Nat.le_of_ble_eq_true rfl) dL_law_2516 (c_X9_sizeIn (hW := w1.1) (hm := w1.2.2.1) (hO := hp.1.1) (hm28 := (by omega)) (hb := hb9)) (fun v2 h2 ty2 p2 => ?_)
    obtain ⟨rfl, p3, p4⟩ := p2.2 hz
    have w2 := st_rt w1 hp p3 p4
    have ht : aI h2 723 12 = nI (cd2 (okP r (gX G (6 * j + 1))) (rgB 1 300 (gX G (6 * j + 2)))) := by rw [hz]; exact p3.2.1
    have ho2 : aJ h2 737 0 = _ := (congrFun (p3.1.J (show ¬ RTs 737 by unfold RTs; omega)) 0).trans ho
    refine r_istore (ls2 := [some (.ref 0), some (.ref 1), some (.ref 723), some (.ref 737), some (.ref 738), some (.int (nI (6 * j))), _, some _, _]) dL_law_2519 (by decide) rfl ?_
    refine r_aload_n dL_law_2521 rfl ?_
    refine q_callT0 (cv_X9_thrown ml_L_222) w2.1 kc_723 (by decide) rfl (rmL rfl (by show cs.1 + 2 + 0 + 0 ≤ _; omega) (by show cs.2 + 12 + 0 + 0 ≤ _; omega)) (Nat.le_of_ble_eq_true rfl) dL_law_2522 (c_X9_thrown w2.1) (fun v5 h5 _ q5 => ?_)
    obtain ⟨rfl, rfl⟩ := q5
    refine r_iload dL_law_2525 rfl ?_
    refine r_icmp_eq 2532 dL_law_2527 (by decide) (fun _ => ?_) (fun c9 => absurd ht c9)
    refine r_iload dL_law_2532 rfl ?_
    refine r_if_ne 2549 dL_law_2534 (by decide) (fun c9 => absurd (by rw [hz]; rfl) c9) (fun _ => ?_)
    refine r_aload_n dL_law_2537 rfl ?_
    refine r_iconst (0) dL_law_2538 (by decide) ?_
    refine q_lald (k := 0) w2.1 kc_737 kn_0 (by decide) (by decide) dL_law_2539 ?_
    rw [ho2]
    refine r_iload dL_law_2540 rfl ?_
    refine r_i2l dL_law_2542 ?_
    refine r_lcmp dL_law_2543 ?_
    refine r_if_eq 2549 dL_law_2544 (by decide) (fun _ => ?_) (fun c9 => absurd lg_cmp_s c9)
    refine r_goto 4127 dL_law_2549 (by decide) ?_
    exact kk _ _ _ _ _ _ _ _ _ _ _ _ _ _ w2 hp2 (by show cs.1 + 2 + 0 ≤ _; omega) (by show cs.2 + 12 + 0 ≤ _; omega)
  · obtain rfl := q2 hz
    have w1 := w
    refine r_istore (ls2 := [some (.ref 0), some (.ref 1), some (.ref 723), some (.ref 737), some (.ref 738), some (.int (nI (6 * j))), some _, _, _]) dL_law_2501 (by decide) rfl ?_
    refine r_aload_n dL_law_2503 rfl ?_
    refine r_aload_n dL_law_2504 rfl ?_
    refine r_iload dL_law_2505 rfl ?_
    refine r_iconst (1) dL_law_2507 (by decide) ?_
    refine r_iadd dL_law_2508 ?_
    refine r_sld (k := 6 * j + 1) (nadd rfl kn_1) (by omega) hL3 dL_law_2509 ?_
    refine r_aload_n dL_law_2510 rfl ?_
    refine r_iload dL_law_2511 rfl ?_
    refine r_iconst (2) dL_law_2513 (by decide) ?_
    refine r_iadd dL_law_2514 ?_
    refine r_sld (k := 6 * j + 2) (nadd rfl kn_2) (by omega) hL3 dL_law_2515 ?_
    refine q_callT2 (cv_X9_sizeIn ml_L_318) w1.1 kc_723 (by decide) rfl (rmL rfl (by show cs.1 + 2 + 0 ≤ _; omega) (by show cs.2 + 12 + 0 ≤ _; omega)) (Nat.le_of_ble_eq_true rfl) dL_law_2516 (c_X9_sizeIn (hW := w1.1) (hm := w1.2.2.1) (hO := hp.1.1) (hm28 := (by omega)) (hb := hb9)) (fun v2 h2 ty2 p2 => ?_)
    obtain ⟨y2, rfl⟩ : ∃ x, v2 = some (.int x) := ty2
    have p3 := p2.1 hz
    have w2 := st_rq w1 hp p3
    have ht := p3.2.1
    refine r_istore (ls2 := [some (.ref 0), some (.ref 1), some (.ref 723), some (.ref 737), some (.ref 738), some (.int (nI (6 * j))), _, some _, _]) dL_law_2519 (by decide) rfl ?_
    refine r_aload_n dL_law_2521 rfl ?_
    refine q_callT0 (cv_X9_thrown ml_L_222) w2.1 kc_723 (by decide) rfl (rmL rfl (by show cs.1 + 2 + 0 + 0 ≤ _; omega) (by show cs.2 + 12 + 0 + 0 ≤ _; omega)) (Nat.le_of_ble_eq_true rfl) dL_law_2522 (c_X9_thrown w2.1) (fun v5 h5 _ q5 => ?_)
    obtain ⟨rfl, rfl⟩ := q5
    refine r_iload dL_law_2525 rfl ?_
    refine r_icmp_eq 2532 dL_law_2527 (by decide) (fun _ => ?_) (fun c9 => absurd ht c9)
    refine r_iload dL_law_2532 rfl ?_
    refine r_if_ne 2549 dL_law_2534 (by decide) (fun _ => ?_) (fun c9 => absurd c9 (nI_nz hz (by have := (show cd2 (okP r (gX G (6 * j + 1))) (rgB 1 300 (gX G (6 * j + 2))) ≤ 4 from Nat.le_trans cd2_le (by decide)); omega)))
    refine r_goto 4127 dL_law_2549 (by decide) ?_
    exact kk _ _ _ _ _ _ _ _ _ _ _ _ _ _ w2 hp.nx (by show cs.1 + 2 + 0 ≤ _; omega) (by show cs.2 + 12 + 0 ≤ _; omega)
theorem cs_L_missedIn : CStH RL 319 mL_missedIn 4 := ⟨ml_L_319, (tgI 1324 (by decide +kernel) rfl), (tgI 98 (by decide +kernel) rfl), (tgI 1325 (by decide +kernel) rfl), ok_L_missedIn⟩
set_option maxRecDepth 100000 in
set_option maxHeartbeats 4000000 in
theorem law_36 {l9 : Launch} {G : GC} {Fi : CX → State → Prop} {h : AH} {r s : Row} {L : List Row} {sv : Bool} {b : Nat → Int32} {n j : Nat} {o : Ob} {er eo : Int32} {l6 l7 l8 : Option Value} {cs : Nat × Nat} (hG : GOK G) (hj : 6 * j + 6 ≤ gL G) (hL3 : gL G ≤ 3072) (w : StL h r L r L s sv b n o er eo) (hp : LvP r L s sv b n (300 * j)) (hc1 : cs.1 ≤ 800 + 60 * j) (hc2 : cs.2 ≤ 40000 + 400 * j) (kk : LNx l9 G Fi j) : PW l9 G mL_law room_1 Fi NT 2552 [some (.ref 0), some (.ref 1), some (.ref 723), some (.ref 737), some (.ref 738), some (.int (nI (6 * j))), l6, l7, l8] [] cs h := by
  have hb9 : 300 * j + 300 < 2 ^ 23 := by omega
  refine r_aload_n dL_law_2552 rfl ?_
  refine r_aload_n dL_law_2553 rfl ?_
  refine r_iload dL_law_2554 rfl ?_
  refine r_iconst (1) dL_law_2556 (by decide) ?_
  refine r_iadd dL_law_2557 ?_
  refine r_sld (k := 6 * j + 1) (nadd rfl kn_1) (by omega) hL3 dL_law_2558 ?_
  refine r_aload_n dL_law_2559 rfl ?_
  refine r_iload dL_law_2560 rfl ?_
  refine r_iconst (2) dL_law_2562 (by decide) ?_
  refine r_iadd dL_law_2563 ?_
  refine r_sld (k := 6 * j + 2) (nadd rfl kn_2) (by omega) hL3 dL_law_2564 ?_
  refine r_aload_n dL_law_2565 rfl ?_
  refine r_callSH4 cs_L_missedIn (rmL rfl (by show cs.1 + 2 ≤ _; omega) (by show cs.2 + 12 ≤ _; omega)) (Nat.le_of_ble_eq_true rfl) dL_law_2566 (c_L_missedIn hG w.1 cd2_le (c_X8_missedIn (hW := w.1) (hs := w.2.1.1) (hO := hp.1.1) (hb := hb9)) (fun _ e9 => e9.W w.1)) (fun v1 h1 q1 => ?_)
  obtain ⟨rfl, q2, q3⟩ := q1
  by_cases hz : cd2 (okP r (gX G (6 * j + 1))) (rgB 1 300 (gX G (6 * j + 2))) = 0
  · obtain ⟨h3, q4, rfl⟩ := q3 hz
    have hp2 := hp.nx
    have w1 := st_out (v := ((TN r (gX G (6 * j + 1)) (nn (gX G (6 * j + 2)))).2 1 - gP r (gX G (6 * j + 1)) 1)) (st_eqx w hp q4 (fun i q => Or.inl q)) hp
    have ho : aJ (sJ h3 737 0 (((TN r (gX G (6 * j + 1)) (nn (gX G (6 * j + 2)))).2 1 - gP r (gX G (6 * j + 1)) 1))) 737 0 = ((TN r (gX G (6 * j + 1)) (nn (gX G (6 * j + 2)))).2 1 - gP r (gX G (6 * j + 1)) 1) := sJ_at0
    refine r_istore (ls2 := [some (.ref 0), some (.ref 1), some (.ref 723), some (.ref 737), some (.ref 738), some (.int (nI (6 * j))), some _, _, _]) dL_law_2569 (by decide) rfl ?_
    refine r_aload_n dL_law_2571 rfl ?_
    refine r_aload_n dL_law_2572 rfl ?_
    refine r_iload dL_law_2573 rfl ?_
    refine r_iconst (1) dL_law_2575 (by decide) ?_
    refine r_iadd dL_law_2576 ?_
    refine r_sld (k := 6 * j + 1) (nadd rfl kn_1) (by omega) hL3 dL_law_2577 ?_
    refine r_aload_n dL_law_2578 rfl ?_
    refine r_iload dL_law_2579 rfl ?_
    refine r_iconst (2) dL_law_2581 (by decide) ?_
    refine r_iadd dL_law_2582 ?_
    refine r_sld (k := 6 * j + 2) (nadd rfl kn_2) (by omega) hL3 dL_law_2583 ?_
    refine q_callT2 (cv_X9_missedIn ml_L_321) w1.1 kc_723 (by decide) rfl (rmL rfl (by show cs.1 + 2 + 0 ≤ _; omega) (by show cs.2 + 12 + 0 ≤ _; omega)) (Nat.le_of_ble_eq_true rfl) dL_law_2584 (c_X9_missedIn (hW := w1.1) (hm := w1.2.2.1) (hO := hp.1.1) (hm28 := (by omega)) (hb := hb9)) (fun v2 h2 ty2 p2 => ?_)
    obtain ⟨rfl, p3, p4⟩ := p2.2 hz
    have w2 := st_rt w1 hp p3 p4
    have ht : aI h2 723 12 = nI (cd2 (okP r (gX G (6 * j + 1))) (rgB 1 300 (gX G (6 * j + 2)))) := by rw [hz]; exact p3.2.1
    have ho2 : aJ h2 737 0 = _ := (congrFun (p3.1.J (show ¬ RTs 737 by unfold RTs; omega)) 0).trans ho
    refine r_lstore (ls2 := [some (.ref 0), some (.ref 1), some (.ref 723), some (.ref 737), some (.ref 738), some (.int (nI (6 * j))), _, some _, none]) dL_law_2587 (by decide) rfl ?_
    refine r_aload_n dL_law_2589 rfl ?_
    refine q_callT0 (cv_X9_thrown ml_L_222) w2.1 kc_723 (by decide) rfl (rmL rfl (by show cs.1 + 2 + 0 + 0 ≤ _; omega) (by show cs.2 + 12 + 0 + 0 ≤ _; omega)) (Nat.le_of_ble_eq_true rfl) dL_law_2590 (c_X9_thrown w2.1) (fun v5 h5 _ q5 => ?_)
    obtain ⟨rfl, rfl⟩ := q5
    refine r_iload dL_law_2593 rfl ?_
    refine r_icmp_eq 2600 dL_law_2595 (by decide) (fun _ => ?_) (fun c9 => absurd ht c9)
    refine r_iload dL_law_2600 rfl ?_
    refine r_if_ne 2616 dL_law_2602 (by decide) (fun c9 => absurd (by rw [hz]; rfl) c9) (fun _ => ?_)
    refine r_aload_n dL_law_2605 rfl ?_
    refine r_iconst (0) dL_law_2606 (by decide) ?_
    refine q_lald (k := 0) w2.1 kc_737 kn_0 (by decide) (by decide) dL_law_2607 ?_
    rw [ho2]
    refine r_lload dL_law_2608 rfl ?_
    refine r_lcmp dL_law_2610 ?_
    refine r_if_eq 2616 dL_law_2611 (by decide) (fun _ => ?_) (fun c9 => absurd lg_cmp_s c9)
    refine r_goto 4127 dL_law_2616 (by decide) ?_
    exact kk _ _ _ _ _ _ _ _ _ _ _ _ _ _ w2 hp2 (by show cs.1 + 2 + 0 ≤ _; omega) (by show cs.2 + 12 + 0 ≤ _; omega)
  · obtain rfl := q2 hz
    have w1 := w
    refine r_istore (ls2 := [some (.ref 0), some (.ref 1), some (.ref 723), some (.ref 737), some (.ref 738), some (.int (nI (6 * j))), some _, _, _]) dL_law_2569 (by decide) rfl ?_
    refine r_aload_n dL_law_2571 rfl ?_
    refine r_aload_n dL_law_2572 rfl ?_
    refine r_iload dL_law_2573 rfl ?_
    refine r_iconst (1) dL_law_2575 (by decide) ?_
    refine r_iadd dL_law_2576 ?_
    refine r_sld (k := 6 * j + 1) (nadd rfl kn_1) (by omega) hL3 dL_law_2577 ?_
    refine r_aload_n dL_law_2578 rfl ?_
    refine r_iload dL_law_2579 rfl ?_
    refine r_iconst (2) dL_law_2581 (by decide) ?_
    refine r_iadd dL_law_2582 ?_
    refine r_sld (k := 6 * j + 2) (nadd rfl kn_2) (by omega) hL3 dL_law_2583 ?_
    refine q_callT2 (cv_X9_missedIn ml_L_321) w1.1 kc_723 (by decide) rfl (rmL rfl (by show cs.1 + 2 + 0 ≤ _; omega) (by show cs.2 + 12 + 0 ≤ _; omega)) (Nat.le_of_ble_eq_true rfl) dL_law_2584 (c_X9_missedIn (hW := w1.1) (hm := w1.2.2.1) (hO := hp.1.1) (hm28 := (by omega)) (hb := hb9)) (fun v2 h2 ty2 p2 => ?_)
    obtain ⟨y2, rfl⟩ : ∃ x, v2 = some (.long x) := ty2
    have p3 := p2.1 hz
    have w2 := st_rq w1 hp p3
    have ht := p3.2.1
    refine r_lstore (ls2 := [some (.ref 0), some (.ref 1), some (.ref 723), some (.ref 737), some (.ref 738), some (.int (nI (6 * j))), _, some _, none]) dL_law_2587 (by decide) rfl ?_
    refine r_aload_n dL_law_2589 rfl ?_
    refine q_callT0 (cv_X9_thrown ml_L_222) w2.1 kc_723 (by decide) rfl (rmL rfl (by show cs.1 + 2 + 0 + 0 ≤ _; omega) (by show cs.2 + 12 + 0 + 0 ≤ _; omega)) (Nat.le_of_ble_eq_true rfl) dL_law_2590 (c_X9_thrown w2.1) (fun v5 h5 _ q5 => ?_)
    obtain ⟨rfl, rfl⟩ := q5
    refine r_iload dL_law_2593 rfl ?_
    refine r_icmp_eq 2600 dL_law_2595 (by decide) (fun _ => ?_) (fun c9 => absurd ht c9)
    refine r_iload dL_law_2600 rfl ?_
    refine r_if_ne 2616 dL_law_2602 (by decide) (fun _ => ?_) (fun c9 => absurd c9 (nI_nz hz (by have := (show cd2 (okP r (gX G (6 * j + 1))) (rgB 1 300 (gX G (6 * j + 2))) ≤ 4 from Nat.le_trans cd2_le (by decide)); omega)))
    refine r_goto 4127 dL_law_2616 (by decide) ?_
    exact kk _ _ _ _ _ _ _ _ _ _ _ _ _ _ w2 hp.nx (by show cs.1 + 2 + 0 ≤ _; omega) (by show cs.2 + 12 + 0 ≤ _; omega)
theorem cs_L_costIn : CStH RL 322 mL_costIn 4 := ⟨ml_L_322, (tgI 1331 (by decide +kernel) rfl), (tgI 98 (by decide +kernel) rfl), (tgI 1332 (by decide +kernel) rfl), ok_L_costIn⟩
set_option maxRecDepth 100000 in
set_option maxHeartbeats 4000000 in
theorem law_37 {l9 : Launch} {G : GC} {Fi : CX → State → Prop} {h : AH} {r s : Row} {L : List Row} {sv : Bool} {b : Nat → Int32} {n j : Nat} {o : Ob} {er eo : Int32} {l6 l7 l8 : Option Value} {cs : Nat × Nat} (hG : GOK G) (hj : 6 * j + 6 ≤ gL G) (hL3 : gL G ≤ 3072) (w : StL h r L r L s sv b n o er eo) (hp : LvP r L s sv b n (300 * j)) (hc1 : cs.1 ≤ 800 + 60 * j) (hc2 : cs.2 ≤ 40000 + 400 * j) (kk : LNx l9 G Fi j) : PW l9 G mL_law room_1 Fi NT 2619 [some (.ref 0), some (.ref 1), some (.ref 723), some (.ref 737), some (.ref 738), some (.int (nI (6 * j))), l6, l7, l8] [] cs h := by
  have hb9 : 300 * j + 300 < 2 ^ 23 := by omega
  refine r_aload_n dL_law_2619 rfl ?_
  refine r_aload_n dL_law_2620 rfl ?_
  refine r_iload dL_law_2621 rfl ?_
  refine r_iconst (1) dL_law_2623 (by decide) ?_
  refine r_iadd dL_law_2624 ?_
  refine r_sld (k := 6 * j + 1) (nadd rfl kn_1) (by omega) hL3 dL_law_2625 ?_
  refine r_aload_n dL_law_2626 rfl ?_
  refine r_iload dL_law_2627 rfl ?_
  refine r_iconst (2) dL_law_2629 (by decide) ?_
  refine r_iadd dL_law_2630 ?_
  refine r_sld (k := 6 * j + 2) (nadd rfl kn_2) (by omega) hL3 dL_law_2631 ?_
  refine r_aload_n dL_law_2632 rfl ?_
  refine r_callSH4 cs_L_costIn (rmL rfl (by show cs.1 + 2 ≤ _; omega) (by show cs.2 + 12 ≤ _; omega)) (Nat.le_of_ble_eq_true rfl) dL_law_2633 (c_L_costIn hG w.1 cd2_le (c_X8_costIn (hW := w.1) (hs := w.2.1.1) (hO := hp.1.1) (hb := hb9)) (fun _ e9 => e9.W w.1)) (fun v1 h1 q1 => ?_)
  obtain ⟨rfl, q2, q3⟩ := q1
  by_cases hz : cd2 (okP r (gX G (6 * j + 1))) (rgB 1 300 (gX G (6 * j + 2))) = 0
  · obtain ⟨h3, q4, rfl⟩ := q3 hz
    have hp2 := hp.nx
    have w1 := st_out (v := ((TN r (gX G (6 * j + 1)) (nn (gX G (6 * j + 2)))).2 2 - gP r (gX G (6 * j + 1)) 2)) (st_eqx w hp q4 (fun i q => Or.inl q)) hp
    have ho : aJ (sJ h3 737 0 (((TN r (gX G (6 * j + 1)) (nn (gX G (6 * j + 2)))).2 2 - gP r (gX G (6 * j + 1)) 2))) 737 0 = ((TN r (gX G (6 * j + 1)) (nn (gX G (6 * j + 2)))).2 2 - gP r (gX G (6 * j + 1)) 2) := sJ_at0
    refine r_istore (ls2 := [some (.ref 0), some (.ref 1), some (.ref 723), some (.ref 737), some (.ref 738), some (.int (nI (6 * j))), some _, _, _]) dL_law_2636 (by decide) rfl ?_
    refine r_aload_n dL_law_2638 rfl ?_
    refine r_aload_n dL_law_2639 rfl ?_
    refine r_iload dL_law_2640 rfl ?_
    refine r_iconst (1) dL_law_2642 (by decide) ?_
    refine r_iadd dL_law_2643 ?_
    refine r_sld (k := 6 * j + 1) (nadd rfl kn_1) (by omega) hL3 dL_law_2644 ?_
    refine r_aload_n dL_law_2645 rfl ?_
    refine r_iload dL_law_2646 rfl ?_
    refine r_iconst (2) dL_law_2648 (by decide) ?_
    refine r_iadd dL_law_2649 ?_
    refine r_sld (k := 6 * j + 2) (nadd rfl kn_2) (by omega) hL3 dL_law_2650 ?_
    refine q_callT2 (cv_X9_costIn ml_L_324) w1.1 kc_723 (by decide) rfl (rmL rfl (by show cs.1 + 2 + 0 ≤ _; omega) (by show cs.2 + 12 + 0 ≤ _; omega)) (Nat.le_of_ble_eq_true rfl) dL_law_2651 (c_X9_costIn (hW := w1.1) (hm := w1.2.2.1) (hO := hp.1.1) (hm28 := (by omega)) (hb := hb9)) (fun v2 h2 ty2 p2 => ?_)
    obtain ⟨rfl, p3, p4⟩ := p2.2 hz
    have w2 := st_rt w1 hp p3 p4
    have ht : aI h2 723 12 = nI (cd2 (okP r (gX G (6 * j + 1))) (rgB 1 300 (gX G (6 * j + 2)))) := by rw [hz]; exact p3.2.1
    have ho2 : aJ h2 737 0 = _ := (congrFun (p3.1.J (show ¬ RTs 737 by unfold RTs; omega)) 0).trans ho
    refine r_lstore (ls2 := [some (.ref 0), some (.ref 1), some (.ref 723), some (.ref 737), some (.ref 738), some (.int (nI (6 * j))), _, some _, none]) dL_law_2654 (by decide) rfl ?_
    refine r_aload_n dL_law_2656 rfl ?_
    refine q_callT0 (cv_X9_thrown ml_L_222) w2.1 kc_723 (by decide) rfl (rmL rfl (by show cs.1 + 2 + 0 + 0 ≤ _; omega) (by show cs.2 + 12 + 0 + 0 ≤ _; omega)) (Nat.le_of_ble_eq_true rfl) dL_law_2657 (c_X9_thrown w2.1) (fun v5 h5 _ q5 => ?_)
    obtain ⟨rfl, rfl⟩ := q5
    refine r_iload dL_law_2660 rfl ?_
    refine r_icmp_eq 2667 dL_law_2662 (by decide) (fun _ => ?_) (fun c9 => absurd ht c9)
    refine r_iload dL_law_2667 rfl ?_
    refine r_if_ne 2683 dL_law_2669 (by decide) (fun c9 => absurd (by rw [hz]; rfl) c9) (fun _ => ?_)
    refine r_aload_n dL_law_2672 rfl ?_
    refine r_iconst (0) dL_law_2673 (by decide) ?_
    refine q_lald (k := 0) w2.1 kc_737 kn_0 (by decide) (by decide) dL_law_2674 ?_
    rw [ho2]
    refine r_lload dL_law_2675 rfl ?_
    refine r_lcmp dL_law_2677 ?_
    refine r_if_eq 2683 dL_law_2678 (by decide) (fun _ => ?_) (fun c9 => absurd lg_cmp_s c9)
    refine r_goto 4127 dL_law_2683 (by decide) ?_
    exact kk _ _ _ _ _ _ _ _ _ _ _ _ _ _ w2 hp2 (by show cs.1 + 2 + 0 ≤ _; omega) (by show cs.2 + 12 + 0 ≤ _; omega)
  · obtain rfl := q2 hz
    have w1 := w
    refine r_istore (ls2 := [some (.ref 0), some (.ref 1), some (.ref 723), some (.ref 737), some (.ref 738), some (.int (nI (6 * j))), some _, _, _]) dL_law_2636 (by decide) rfl ?_
    refine r_aload_n dL_law_2638 rfl ?_
    refine r_aload_n dL_law_2639 rfl ?_
    refine r_iload dL_law_2640 rfl ?_
    refine r_iconst (1) dL_law_2642 (by decide) ?_
    refine r_iadd dL_law_2643 ?_
    refine r_sld (k := 6 * j + 1) (nadd rfl kn_1) (by omega) hL3 dL_law_2644 ?_
    refine r_aload_n dL_law_2645 rfl ?_
    refine r_iload dL_law_2646 rfl ?_
    refine r_iconst (2) dL_law_2648 (by decide) ?_
    refine r_iadd dL_law_2649 ?_
    refine r_sld (k := 6 * j + 2) (nadd rfl kn_2) (by omega) hL3 dL_law_2650 ?_
    refine q_callT2 (cv_X9_costIn ml_L_324) w1.1 kc_723 (by decide) rfl (rmL rfl (by show cs.1 + 2 + 0 ≤ _; omega) (by show cs.2 + 12 + 0 ≤ _; omega)) (Nat.le_of_ble_eq_true rfl) dL_law_2651 (c_X9_costIn (hW := w1.1) (hm := w1.2.2.1) (hO := hp.1.1) (hm28 := (by omega)) (hb := hb9)) (fun v2 h2 ty2 p2 => ?_)
    obtain ⟨y2, rfl⟩ : ∃ x, v2 = some (.long x) := ty2
    have p3 := p2.1 hz
    have w2 := st_rq w1 hp p3
    have ht := p3.2.1
    refine r_lstore (ls2 := [some (.ref 0), some (.ref 1), some (.ref 723), some (.ref 737), some (.ref 738), some (.int (nI (6 * j))), _, some _, none]) dL_law_2654 (by decide) rfl ?_
    refine r_aload_n dL_law_2656 rfl ?_
    refine q_callT0 (cv_X9_thrown ml_L_222) w2.1 kc_723 (by decide) rfl (rmL rfl (by show cs.1 + 2 + 0 + 0 ≤ _; omega) (by show cs.2 + 12 + 0 + 0 ≤ _; omega)) (Nat.le_of_ble_eq_true rfl) dL_law_2657 (c_X9_thrown w2.1) (fun v5 h5 _ q5 => ?_)
    obtain ⟨rfl, rfl⟩ := q5
    refine r_iload dL_law_2660 rfl ?_
    refine r_icmp_eq 2667 dL_law_2662 (by decide) (fun _ => ?_) (fun c9 => absurd ht c9)
    refine r_iload dL_law_2667 rfl ?_
    refine r_if_ne 2683 dL_law_2669 (by decide) (fun _ => ?_) (fun c9 => absurd c9 (nI_nz hz (by have := (show cd2 (okP r (gX G (6 * j + 1))) (rgB 1 300 (gX G (6 * j + 2))) ≤ 4 from Nat.le_trans cd2_le (by decide)); omega)))
    refine r_goto 4127 dL_law_2683 (by decide) ?_
    exact kk _ _ _ _ _ _ _ _ _ _ _ _ _ _ w2 hp.nx (by show cs.1 + 2 + 0 ≤ _; omega) (by show cs.2 + 12 + 0 ≤ _; omega)
theorem cs_L_missesIn : CStH RL 325 mL_missesIn 4 := ⟨ml_L_325, (tgI 1342 (by decide +kernel) rfl), (tgI 98 (by decide +kernel) rfl), (tgI 1343 (by decide +kernel) rfl), ok_L_missesIn⟩
set_option maxRecDepth 100000 in
set_option maxHeartbeats 4000000 in
theorem law_38 {l9 : Launch} {G : GC} {Fi : CX → State → Prop} {h : AH} {r s : Row} {L : List Row} {sv : Bool} {b : Nat → Int32} {n j : Nat} {o : Ob} {er eo : Int32} {l6 l7 l8 : Option Value} {cs : Nat × Nat} (hG : GOK G) (hj : 6 * j + 6 ≤ gL G) (hL3 : gL G ≤ 3072) (w : StL h r L r L s sv b n o er eo) (hp : LvP r L s sv b n (300 * j)) (hc1 : cs.1 ≤ 800 + 60 * j) (hc2 : cs.2 ≤ 40000 + 400 * j) (kk : LNx l9 G Fi j) : PW l9 G mL_law room_1 Fi NT 2686 [some (.ref 0), some (.ref 1), some (.ref 723), some (.ref 737), some (.ref 738), some (.int (nI (6 * j))), l6, l7, l8] [] cs h := by
  have hb9 : 300 * j + 300 < 2 ^ 23 := by omega
  refine r_aload_n dL_law_2686 rfl ?_
  refine r_aload_n dL_law_2687 rfl ?_
  refine r_iload dL_law_2688 rfl ?_
  refine r_iconst (1) dL_law_2690 (by decide) ?_
  refine r_iadd dL_law_2691 ?_
  refine r_sld (k := 6 * j + 1) (nadd rfl kn_1) (by omega) hL3 dL_law_2692 ?_
  refine r_aload_n dL_law_2693 rfl ?_
  refine r_iload dL_law_2694 rfl ?_
  refine r_iconst (2) dL_law_2696 (by decide) ?_
  refine r_iadd dL_law_2697 ?_
  refine r_sld (k := 6 * j + 2) (nadd rfl kn_2) (by omega) hL3 dL_law_2698 ?_
  refine r_aload_n dL_law_2699 rfl ?_
  refine r_callSH4 cs_L_missesIn (rmL rfl (by show cs.1 + 2 ≤ _; omega) (by show cs.2 + 12 ≤ _; omega)) (Nat.le_of_ble_eq_true rfl) dL_law_2700 (c_L_missesIn hG w.1 cd2_le (c_X8_missesIn (hW := w.1) (hs := w.2.1.1) (hO := hp.1.1) (hb := hb9)) (fun _ e9 => e9.W w.1)) (fun v1 h1 q1 => ?_)
  obtain ⟨rfl, q2, q3⟩ := q1
  by_cases hz : cd2 (okP r (gX G (6 * j + 1))) (rgB 1 300 (gX G (6 * j + 2))) = 0
  · obtain ⟨h3, q4, rfl⟩ := q3 hz
    have hp2 := hp.nx
    have w1 := st_out (v := ((f1A (fi (msB r (gX G (6 * j + 1))) (nn (gX G (6 * j + 2)))))).toInt64) (st_eqx w hp q4 (fun i q => Or.inl q)) hp
    have ho : aJ (sJ h3 737 0 (((f1A (fi (msB r (gX G (6 * j + 1))) (nn (gX G (6 * j + 2)))))).toInt64)) 737 0 = ((f1A (fi (msB r (gX G (6 * j + 1))) (nn (gX G (6 * j + 2)))))).toInt64 := sJ_at0
    refine r_istore (ls2 := [some (.ref 0), some (.ref 1), some (.ref 723), some (.ref 737), some (.ref 738), some (.int (nI (6 * j))), some _, _, _]) dL_law_2703 (by decide) rfl ?_
    refine r_aload_n dL_law_2705 rfl ?_
    refine r_aload_n dL_law_2706 rfl ?_
    refine r_iload dL_law_2707 rfl ?_
    refine r_iconst (1) dL_law_2709 (by decide) ?_
    refine r_iadd dL_law_2710 ?_
    refine r_sld (k := 6 * j + 1) (nadd rfl kn_1) (by omega) hL3 dL_law_2711 ?_
    refine r_aload_n dL_law_2712 rfl ?_
    refine r_iload dL_law_2713 rfl ?_
    refine r_iconst (2) dL_law_2715 (by decide) ?_
    refine r_iadd dL_law_2716 ?_
    refine r_sld (k := 6 * j + 2) (nadd rfl kn_2) (by omega) hL3 dL_law_2717 ?_
    refine q_callT2 (cv_X9_missesIn ml_L_327) w1.1 kc_723 (by decide) rfl (rmL rfl (by show cs.1 + 2 + 0 ≤ _; omega) (by show cs.2 + 12 + 0 ≤ _; omega)) (Nat.le_of_ble_eq_true rfl) dL_law_2718 (c_X9_missesIn (hW := w1.1) (hm := w1.2.2.1) (hO := hp.1.1) (hm28 := (by omega)) (hb := hb9) (hI := hp.1.2)) (fun v2 h2 ty2 p2 => ?_)
    obtain ⟨rfl, p3, p4⟩ := p2.2 hz
    have w2 := st_rt w1 hp p3 p4
    have ht : aI h2 723 12 = nI (cd2 (okP r (gX G (6 * j + 1))) (rgB 1 300 (gX G (6 * j + 2)))) := by rw [hz]; exact p3.2.1
    have ho2 : aJ h2 737 0 = _ := (congrFun (p3.1.J (show ¬ RTs 737 by unfold RTs; omega)) 0).trans ho
    refine r_istore (ls2 := [some (.ref 0), some (.ref 1), some (.ref 723), some (.ref 737), some (.ref 738), some (.int (nI (6 * j))), _, some _, _]) dL_law_2721 (by decide) rfl ?_
    refine r_aload_n dL_law_2723 rfl ?_
    refine q_callT0 (cv_X9_thrown ml_L_222) w2.1 kc_723 (by decide) rfl (rmL rfl (by show cs.1 + 2 + 0 + 0 ≤ _; omega) (by show cs.2 + 12 + 0 + 0 ≤ _; omega)) (Nat.le_of_ble_eq_true rfl) dL_law_2724 (c_X9_thrown w2.1) (fun v5 h5 _ q5 => ?_)
    obtain ⟨rfl, rfl⟩ := q5
    refine r_iload dL_law_2727 rfl ?_
    refine r_icmp_eq 2734 dL_law_2729 (by decide) (fun _ => ?_) (fun c9 => absurd ht c9)
    refine r_iload dL_law_2734 rfl ?_
    refine r_if_ne 2751 dL_law_2736 (by decide) (fun c9 => absurd (by rw [hz]; rfl) c9) (fun _ => ?_)
    refine r_aload_n dL_law_2739 rfl ?_
    refine r_iconst (0) dL_law_2740 (by decide) ?_
    refine q_lald (k := 0) w2.1 kc_737 kn_0 (by decide) (by decide) dL_law_2741 ?_
    rw [ho2]
    refine r_iload dL_law_2742 rfl ?_
    refine r_i2l dL_law_2744 ?_
    refine r_lcmp dL_law_2745 ?_
    refine r_if_eq 2751 dL_law_2746 (by decide) (fun _ => ?_) (fun c9 => absurd lg_cmp_s c9)
    refine r_goto 4127 dL_law_2751 (by decide) ?_
    exact kk _ _ _ _ _ _ _ _ _ _ _ _ _ _ w2 hp2 (by show cs.1 + 2 + 0 ≤ _; omega) (by show cs.2 + 12 + 0 ≤ _; omega)
  · obtain rfl := q2 hz
    have w1 := w
    refine r_istore (ls2 := [some (.ref 0), some (.ref 1), some (.ref 723), some (.ref 737), some (.ref 738), some (.int (nI (6 * j))), some _, _, _]) dL_law_2703 (by decide) rfl ?_
    refine r_aload_n dL_law_2705 rfl ?_
    refine r_aload_n dL_law_2706 rfl ?_
    refine r_iload dL_law_2707 rfl ?_
    refine r_iconst (1) dL_law_2709 (by decide) ?_
    refine r_iadd dL_law_2710 ?_
    refine r_sld (k := 6 * j + 1) (nadd rfl kn_1) (by omega) hL3 dL_law_2711 ?_
    refine r_aload_n dL_law_2712 rfl ?_
    refine r_iload dL_law_2713 rfl ?_
    refine r_iconst (2) dL_law_2715 (by decide) ?_
    refine r_iadd dL_law_2716 ?_
    refine r_sld (k := 6 * j + 2) (nadd rfl kn_2) (by omega) hL3 dL_law_2717 ?_
    refine q_callT2 (cv_X9_missesIn ml_L_327) w1.1 kc_723 (by decide) rfl (rmL rfl (by show cs.1 + 2 + 0 ≤ _; omega) (by show cs.2 + 12 + 0 ≤ _; omega)) (Nat.le_of_ble_eq_true rfl) dL_law_2718 (c_X9_missesIn (hW := w1.1) (hm := w1.2.2.1) (hO := hp.1.1) (hm28 := (by omega)) (hb := hb9) (hI := hp.1.2)) (fun v2 h2 ty2 p2 => ?_)
    obtain ⟨y2, rfl⟩ : ∃ x, v2 = some (.int x) := ty2
    have p3 := p2.1 hz
    have w2 := st_rq w1 hp p3
    have ht := p3.2.1
    refine r_istore (ls2 := [some (.ref 0), some (.ref 1), some (.ref 723), some (.ref 737), some (.ref 738), some (.int (nI (6 * j))), _, some _, _]) dL_law_2721 (by decide) rfl ?_
    refine r_aload_n dL_law_2723 rfl ?_
    refine q_callT0 (cv_X9_thrown ml_L_222) w2.1 kc_723 (by decide) rfl (rmL rfl (by show cs.1 + 2 + 0 + 0 ≤ _; omega) (by show cs.2 + 12 + 0 + 0 ≤ _; omega)) (Nat.le_of_ble_eq_true rfl) dL_law_2724 (c_X9_thrown w2.1) (fun v5 h5 _ q5 => ?_)
    obtain ⟨rfl, rfl⟩ := q5
    refine r_iload dL_law_2727 rfl ?_
    refine r_icmp_eq 2734 dL_law_2729 (by decide) (fun _ => ?_) (fun c9 => absurd ht c9)
    refine r_iload dL_law_2734 rfl ?_
    refine r_if_ne 2751 dL_law_2736 (by decide) (fun _ => ?_) (fun c9 => absurd c9 (nI_nz hz (by have := (show cd2 (okP r (gX G (6 * j + 1))) (rgB 1 300 (gX G (6 * j + 2))) ≤ 4 from Nat.le_trans cd2_le (by decide)); omega)))
    refine r_goto 4127 dL_law_2751 (by decide) ?_
    exact kk _ _ _ _ _ _ _ _ _ _ _ _ _ _ w2 hp.nx (by show cs.1 + 2 + 0 ≤ _; omega) (by show cs.2 + 12 + 0 ≤ _; omega)
theorem cs_L_bestPolicy : CStH RL 328 mL_bestPolicy 4 := ⟨ml_L_328, (tgI 1349 (by decide +kernel) rfl), (tgI 98 (by decide +kernel) rfl), (tgI 1350 (by decide +kernel) rfl), ok_L_bestPolicy⟩
set_option maxRecDepth 100000 in
set_option maxHeartbeats 4000000 in
theorem law_39 {l9 : Launch} {G : GC} {Fi : CX → State → Prop} {h : AH} {r s : Row} {L : List Row} {sv : Bool} {b : Nat → Int32} {n j : Nat} {o : Ob} {er eo : Int32} {l6 l7 l8 : Option Value} {cs : Nat × Nat} (hG : GOK G) (hj : 6 * j + 6 ≤ gL G) (hL3 : gL G ≤ 3072) (w : StL h r L r L s sv b n o er eo) (hp : LvP r L s sv b n (300 * j)) (hc1 : cs.1 ≤ 800 + 60 * j) (hc2 : cs.2 ≤ 40000 + 400 * j) (kk : LNx l9 G Fi j) : PW l9 G mL_law room_1 Fi NT 2754 [some (.ref 0), some (.ref 1), some (.ref 723), some (.ref 737), some (.ref 738), some (.int (nI (6 * j))), l6, l7, l8] [] cs h := by
  have hb9 : 300 * j + 300 < 2 ^ 23 := by omega
  refine r_aload_n dL_law_2754 rfl ?_
  refine r_aload_n dL_law_2755 rfl ?_
  refine r_iload dL_law_2756 rfl ?_
  refine r_iconst (1) dL_law_2758 (by decide) ?_
  refine r_iadd dL_law_2759 ?_
  refine r_sld (k := 6 * j + 1) (nadd rfl kn_1) (by omega) hL3 dL_law_2760 ?_
  refine r_aload_n dL_law_2761 rfl ?_
  refine r_iload dL_law_2762 rfl ?_
  refine r_iconst (2) dL_law_2764 (by decide) ?_
  refine r_iadd dL_law_2765 ?_
  refine r_sld (k := 6 * j + 2) (nadd rfl kn_2) (by omega) hL3 dL_law_2766 ?_
  refine r_aload_n dL_law_2767 rfl ?_
  refine r_callSH4 cs_L_bestPolicy (rmL rfl (by show cs.1 + 6 ≤ _; omega) (by show cs.2 + 36 ≤ _; omega)) (Nat.le_of_ble_eq_true rfl) dL_law_2768 (c_L_bestPolicy hG w.1 cd2_le (c_X8_bestPolicy (hW := w.1) (hs := w.2.1.1) (hO := hp.1.1) (hb := hb9)) (fun _ e9 => e9.W w.1)) (fun v1 h1 q1 => ?_)
  obtain ⟨rfl, q2, q3⟩ := q1
  by_cases hz : cd2 (okP r (gX G (6 * j + 1))) (rgB 1 300 (gX G (6 * j + 2))) = 0
  · obtain ⟨h3, q4, rfl⟩ := q3 hz
    have hp2 := hp.nx
    have w1 := st_out (v := ((boPolicy_3 r (gX G (6 * j + 1)) (nn (gX G (6 * j + 2)))).1).toInt64) (st_eqx w hp q4 (fun i q => Or.inl q)) hp
    have ho : aJ (sJ h3 737 0 (((boPolicy_3 r (gX G (6 * j + 1)) (nn (gX G (6 * j + 2)))).1).toInt64)) 737 0 = ((boPolicy_3 r (gX G (6 * j + 1)) (nn (gX G (6 * j + 2)))).1).toInt64 := sJ_at0
    refine r_istore (ls2 := [some (.ref 0), some (.ref 1), some (.ref 723), some (.ref 737), some (.ref 738), some (.int (nI (6 * j))), some _, _, _]) dL_law_2771 (by decide) rfl ?_
    refine r_aload_n dL_law_2773 rfl ?_
    refine r_aload_n dL_law_2774 rfl ?_
    refine r_iload dL_law_2775 rfl ?_
    refine r_iconst (1) dL_law_2777 (by decide) ?_
    refine r_iadd dL_law_2778 ?_
    refine r_sld (k := 6 * j + 1) (nadd rfl kn_1) (by omega) hL3 dL_law_2779 ?_
    refine r_aload_n dL_law_2780 rfl ?_
    refine r_iload dL_law_2781 rfl ?_
    refine r_iconst (2) dL_law_2783 (by decide) ?_
    refine r_iadd dL_law_2784 ?_
    refine r_sld (k := 6 * j + 2) (nadd rfl kn_2) (by omega) hL3 dL_law_2785 ?_
    refine q_callT2 (cv_X9_bestPolicy ml_L_330) w1.1 kc_723 (by decide) rfl (rmL rfl (by show cs.1 + 6 + 0 ≤ _; omega) (by show cs.2 + 36 + 0 ≤ _; omega)) (Nat.le_of_ble_eq_true rfl) dL_law_2786 (c_X9_bestPolicy (hW := w1.1) (hm := w1.2.2.1) (hO := hp.1.1) (hm28 := (by omega)) (hb := hb9) (hI := hp.1.2)) (fun v2 h2 ty2 p2 => ?_)
    obtain ⟨rfl, p3, p4⟩ := p2.2 hz
    have w2 := st_rt w1 hp p3 p4
    have ht : aI h2 723 12 = nI (cd2 (okP r (gX G (6 * j + 1))) (rgB 1 300 (gX G (6 * j + 2)))) := by rw [hz]; exact p3.2.1
    have ho2 : aJ h2 737 0 = _ := (congrFun (p3.1.J (show ¬ RTs 737 by unfold RTs; omega)) 0).trans ho
    refine r_istore (ls2 := [some (.ref 0), some (.ref 1), some (.ref 723), some (.ref 737), some (.ref 738), some (.int (nI (6 * j))), _, some _, _]) dL_law_2789 (by decide) rfl ?_
    refine r_aload_n dL_law_2791 rfl ?_
    refine q_callT0 (cv_X9_thrown ml_L_222) w2.1 kc_723 (by decide) rfl (rmL rfl (by show cs.1 + 6 + 0 + 0 ≤ _; omega) (by show cs.2 + 36 + 0 + 0 ≤ _; omega)) (Nat.le_of_ble_eq_true rfl) dL_law_2792 (c_X9_thrown w2.1) (fun v5 h5 _ q5 => ?_)
    obtain ⟨rfl, rfl⟩ := q5
    refine r_iload dL_law_2795 rfl ?_
    refine r_icmp_eq 2802 dL_law_2797 (by decide) (fun _ => ?_) (fun c9 => absurd ht c9)
    refine r_iload dL_law_2802 rfl ?_
    refine r_if_ne 2819 dL_law_2804 (by decide) (fun c9 => absurd (by rw [hz]; rfl) c9) (fun _ => ?_)
    refine r_aload_n dL_law_2807 rfl ?_
    refine r_iconst (0) dL_law_2808 (by decide) ?_
    refine q_lald (k := 0) w2.1 kc_737 kn_0 (by decide) (by decide) dL_law_2809 ?_
    rw [ho2]
    refine r_iload dL_law_2810 rfl ?_
    refine r_i2l dL_law_2812 ?_
    refine r_lcmp dL_law_2813 ?_
    refine r_if_eq 2819 dL_law_2814 (by decide) (fun _ => ?_) (fun c9 => absurd lg_cmp_s c9)
    refine r_goto 4127 dL_law_2819 (by decide) ?_
    exact kk _ _ _ _ _ _ _ _ _ _ _ _ _ _ w2 hp2 (by show cs.1 + 6 + 0 ≤ _; omega) (by show cs.2 + 36 + 0 ≤ _; omega)
  · obtain rfl := q2 hz
    have w1 := w
    refine r_istore (ls2 := [some (.ref 0), some (.ref 1), some (.ref 723), some (.ref 737), some (.ref 738), some (.int (nI (6 * j))), some _, _, _]) dL_law_2771 (by decide) rfl ?_
    refine r_aload_n dL_law_2773 rfl ?_
    refine r_aload_n dL_law_2774 rfl ?_
    refine r_iload dL_law_2775 rfl ?_
    refine r_iconst (1) dL_law_2777 (by decide) ?_
    refine r_iadd dL_law_2778 ?_
    refine r_sld (k := 6 * j + 1) (nadd rfl kn_1) (by omega) hL3 dL_law_2779 ?_
    refine r_aload_n dL_law_2780 rfl ?_
    refine r_iload dL_law_2781 rfl ?_
    refine r_iconst (2) dL_law_2783 (by decide) ?_
    refine r_iadd dL_law_2784 ?_
    refine r_sld (k := 6 * j + 2) (nadd rfl kn_2) (by omega) hL3 dL_law_2785 ?_
    refine q_callT2 (cv_X9_bestPolicy ml_L_330) w1.1 kc_723 (by decide) rfl (rmL rfl (by show cs.1 + 6 + 0 ≤ _; omega) (by show cs.2 + 36 + 0 ≤ _; omega)) (Nat.le_of_ble_eq_true rfl) dL_law_2786 (c_X9_bestPolicy (hW := w1.1) (hm := w1.2.2.1) (hO := hp.1.1) (hm28 := (by omega)) (hb := hb9) (hI := hp.1.2)) (fun v2 h2 ty2 p2 => ?_)
    obtain ⟨y2, rfl⟩ : ∃ x, v2 = some (.int x) := ty2
    have p3 := p2.1 hz
    have w2 := st_rq w1 hp p3
    have ht := p3.2.1
    refine r_istore (ls2 := [some (.ref 0), some (.ref 1), some (.ref 723), some (.ref 737), some (.ref 738), some (.int (nI (6 * j))), _, some _, _]) dL_law_2789 (by decide) rfl ?_
    refine r_aload_n dL_law_2791 rfl ?_
    refine q_callT0 (cv_X9_thrown ml_L_222) w2.1 kc_723 (by decide) rfl (rmL rfl (by show cs.1 + 6 + 0 + 0 ≤ _; omega) (by show cs.2 + 36 + 0 + 0 ≤ _; omega)) (Nat.le_of_ble_eq_true rfl) dL_law_2792 (c_X9_thrown w2.1) (fun v5 h5 _ q5 => ?_)
    obtain ⟨rfl, rfl⟩ := q5
    refine r_iload dL_law_2795 rfl ?_
    refine r_icmp_eq 2802 dL_law_2797 (by decide) (fun _ => ?_) (fun c9 => absurd ht c9)
    refine r_iload dL_law_2802 rfl ?_
    refine r_if_ne 2819 dL_law_2804 (by decide) (fun _ => ?_) (fun c9 => absurd c9 (nI_nz hz (by have := (show cd2 (okP r (gX G (6 * j + 1))) (rgB 1 300 (gX G (6 * j + 2))) ≤ 4 from Nat.le_trans cd2_le (by decide)); omega)))
    refine r_goto 4127 dL_law_2819 (by decide) ?_
    exact kk _ _ _ _ _ _ _ _ _ _ _ _ _ _ w2 hp.nx (by show cs.1 + 6 + 0 ≤ _; omega) (by show cs.2 + 36 + 0 ≤ _; omega)
theorem cs_L_bestTarget : CStH RL 331 mL_bestTarget 4 := ⟨ml_L_331, (tgI 1360 (by decide +kernel) rfl), (tgI 98 (by decide +kernel) rfl), (tgI 1361 (by decide +kernel) rfl), ok_L_bestTarget⟩
set_option maxRecDepth 100000 in
set_option maxHeartbeats 4000000 in
theorem law_40 {l9 : Launch} {G : GC} {Fi : CX → State → Prop} {h : AH} {r s : Row} {L : List Row} {sv : Bool} {b : Nat → Int32} {n j : Nat} {o : Ob} {er eo : Int32} {l6 l7 l8 : Option Value} {cs : Nat × Nat} (hG : GOK G) (hj : 6 * j + 6 ≤ gL G) (hL3 : gL G ≤ 3072) (w : StL h r L r L s sv b n o er eo) (hp : LvP r L s sv b n (300 * j)) (hc1 : cs.1 ≤ 800 + 60 * j) (hc2 : cs.2 ≤ 40000 + 400 * j) (kk : LNx l9 G Fi j) : PW l9 G mL_law room_1 Fi NT 2822 [some (.ref 0), some (.ref 1), some (.ref 723), some (.ref 737), some (.ref 738), some (.int (nI (6 * j))), l6, l7, l8] [] cs h := by
  have hb9 : 300 * j + 300 < 2 ^ 23 := by omega
  refine r_aload_n dL_law_2822 rfl ?_
  refine r_aload_n dL_law_2823 rfl ?_
  refine r_iload dL_law_2824 rfl ?_
  refine r_iconst (1) dL_law_2826 (by decide) ?_
  refine r_iadd dL_law_2827 ?_
  refine r_sld (k := 6 * j + 1) (nadd rfl kn_1) (by omega) hL3 dL_law_2828 ?_
  refine r_aload_n dL_law_2829 rfl ?_
  refine r_iload dL_law_2830 rfl ?_
  refine r_iconst (2) dL_law_2832 (by decide) ?_
  refine r_iadd dL_law_2833 ?_
  refine r_sld (k := 6 * j + 2) (nadd rfl kn_2) (by omega) hL3 dL_law_2834 ?_
  refine r_aload_n dL_law_2835 rfl ?_
  refine r_callSH4 cs_L_bestTarget (rmL rfl (by show cs.1 + 20 ≤ _; omega) (by show cs.2 + 120 ≤ _; omega)) (Nat.le_of_ble_eq_true rfl) dL_law_2836 (c_L_bestTarget hG w.1 cd2_le (c_X8_bestTarget (hW := w.1) (hs := w.2.1.1) (hO := hp.1.1) (hb := hb9)) (fun _ e9 => e9.W w.1)) (fun v1 h1 q1 => ?_)
  obtain ⟨rfl, q2, q3⟩ := q1
  by_cases hz : cd2 (okP r (gX G (6 * j + 1))) (rgB 1 300 (gX G (6 * j + 2))) = 0
  · obtain ⟨h3, q4, rfl⟩ := q3 hz
    have hp2 := hp.nx
    have w1 := st_out (v := ((boTarget_10 r (gX G (6 * j + 1)) (nn (gX G (6 * j + 2)))).1).toInt64) (st_eqx w hp q4 (fun i q => Or.inl q)) hp
    have ho : aJ (sJ h3 737 0 (((boTarget_10 r (gX G (6 * j + 1)) (nn (gX G (6 * j + 2)))).1).toInt64)) 737 0 = ((boTarget_10 r (gX G (6 * j + 1)) (nn (gX G (6 * j + 2)))).1).toInt64 := sJ_at0
    refine r_istore (ls2 := [some (.ref 0), some (.ref 1), some (.ref 723), some (.ref 737), some (.ref 738), some (.int (nI (6 * j))), some _, _, _]) dL_law_2839 (by decide) rfl ?_
    refine r_aload_n dL_law_2841 rfl ?_
    refine r_aload_n dL_law_2842 rfl ?_
    refine r_iload dL_law_2843 rfl ?_
    refine r_iconst (1) dL_law_2845 (by decide) ?_
    refine r_iadd dL_law_2846 ?_
    refine r_sld (k := 6 * j + 1) (nadd rfl kn_1) (by omega) hL3 dL_law_2847 ?_
    refine r_aload_n dL_law_2848 rfl ?_
    refine r_iload dL_law_2849 rfl ?_
    refine r_iconst (2) dL_law_2851 (by decide) ?_
    refine r_iadd dL_law_2852 ?_
    refine r_sld (k := 6 * j + 2) (nadd rfl kn_2) (by omega) hL3 dL_law_2853 ?_
    refine q_callT2 (cv_X9_bestTarget ml_L_333) w1.1 kc_723 (by decide) rfl (rmL rfl (by show cs.1 + 20 + 0 ≤ _; omega) (by show cs.2 + 120 + 0 ≤ _; omega)) (Nat.le_of_ble_eq_true rfl) dL_law_2854 (c_X9_bestTarget (hW := w1.1) (hm := w1.2.2.1) (hO := hp.1.1) (hm28 := (by omega)) (hb := hb9)) (fun v2 h2 ty2 p2 => ?_)
    obtain ⟨rfl, p3, p4⟩ := p2.2 hz
    have w2 := st_rt w1 hp p3 p4
    have ht : aI h2 723 12 = nI (cd2 (okP r (gX G (6 * j + 1))) (rgB 1 300 (gX G (6 * j + 2)))) := by rw [hz]; exact p3.2.1
    have ho2 : aJ h2 737 0 = _ := (congrFun (p3.1.J (show ¬ RTs 737 by unfold RTs; omega)) 0).trans ho
    refine r_istore (ls2 := [some (.ref 0), some (.ref 1), some (.ref 723), some (.ref 737), some (.ref 738), some (.int (nI (6 * j))), _, some _, _]) dL_law_2857 (by decide) rfl ?_
    refine r_aload_n dL_law_2859 rfl ?_
    refine q_callT0 (cv_X9_thrown ml_L_222) w2.1 kc_723 (by decide) rfl (rmL rfl (by show cs.1 + 20 + 0 + 0 ≤ _; omega) (by show cs.2 + 120 + 0 + 0 ≤ _; omega)) (Nat.le_of_ble_eq_true rfl) dL_law_2860 (c_X9_thrown w2.1) (fun v5 h5 _ q5 => ?_)
    obtain ⟨rfl, rfl⟩ := q5
    refine r_iload dL_law_2863 rfl ?_
    refine r_icmp_eq 2870 dL_law_2865 (by decide) (fun _ => ?_) (fun c9 => absurd ht c9)
    refine r_iload dL_law_2870 rfl ?_
    refine r_if_ne 2887 dL_law_2872 (by decide) (fun c9 => absurd (by rw [hz]; rfl) c9) (fun _ => ?_)
    refine r_aload_n dL_law_2875 rfl ?_
    refine r_iconst (0) dL_law_2876 (by decide) ?_
    refine q_lald (k := 0) w2.1 kc_737 kn_0 (by decide) (by decide) dL_law_2877 ?_
    rw [ho2]
    refine r_iload dL_law_2878 rfl ?_
    refine r_i2l dL_law_2880 ?_
    refine r_lcmp dL_law_2881 ?_
    refine r_if_eq 2887 dL_law_2882 (by decide) (fun _ => ?_) (fun c9 => absurd lg_cmp_s c9)
    refine r_goto 4127 dL_law_2887 (by decide) ?_
    exact kk _ _ _ _ _ _ _ _ _ _ _ _ _ _ w2 hp2 (by show cs.1 + 20 + 0 ≤ _; omega) (by show cs.2 + 120 + 0 ≤ _; omega)
  · obtain rfl := q2 hz
    have w1 := w
    refine r_istore (ls2 := [some (.ref 0), some (.ref 1), some (.ref 723), some (.ref 737), some (.ref 738), some (.int (nI (6 * j))), some _, _, _]) dL_law_2839 (by decide) rfl ?_
    refine r_aload_n dL_law_2841 rfl ?_
    refine r_aload_n dL_law_2842 rfl ?_
    refine r_iload dL_law_2843 rfl ?_
    refine r_iconst (1) dL_law_2845 (by decide) ?_
    refine r_iadd dL_law_2846 ?_
    refine r_sld (k := 6 * j + 1) (nadd rfl kn_1) (by omega) hL3 dL_law_2847 ?_
    refine r_aload_n dL_law_2848 rfl ?_
    refine r_iload dL_law_2849 rfl ?_
    refine r_iconst (2) dL_law_2851 (by decide) ?_
    refine r_iadd dL_law_2852 ?_
    refine r_sld (k := 6 * j + 2) (nadd rfl kn_2) (by omega) hL3 dL_law_2853 ?_
    refine q_callT2 (cv_X9_bestTarget ml_L_333) w1.1 kc_723 (by decide) rfl (rmL rfl (by show cs.1 + 20 + 0 ≤ _; omega) (by show cs.2 + 120 + 0 ≤ _; omega)) (Nat.le_of_ble_eq_true rfl) dL_law_2854 (c_X9_bestTarget (hW := w1.1) (hm := w1.2.2.1) (hO := hp.1.1) (hm28 := (by omega)) (hb := hb9)) (fun v2 h2 ty2 p2 => ?_)
    obtain ⟨y2, rfl⟩ : ∃ x, v2 = some (.int x) := ty2
    have p3 := p2.1 hz
    have w2 := st_rq w1 hp p3
    have ht := p3.2.1
    refine r_istore (ls2 := [some (.ref 0), some (.ref 1), some (.ref 723), some (.ref 737), some (.ref 738), some (.int (nI (6 * j))), _, some _, _]) dL_law_2857 (by decide) rfl ?_
    refine r_aload_n dL_law_2859 rfl ?_
    refine q_callT0 (cv_X9_thrown ml_L_222) w2.1 kc_723 (by decide) rfl (rmL rfl (by show cs.1 + 20 + 0 + 0 ≤ _; omega) (by show cs.2 + 120 + 0 + 0 ≤ _; omega)) (Nat.le_of_ble_eq_true rfl) dL_law_2860 (c_X9_thrown w2.1) (fun v5 h5 _ q5 => ?_)
    obtain ⟨rfl, rfl⟩ := q5
    refine r_iload dL_law_2863 rfl ?_
    refine r_icmp_eq 2870 dL_law_2865 (by decide) (fun _ => ?_) (fun c9 => absurd ht c9)
    refine r_iload dL_law_2870 rfl ?_
    refine r_if_ne 2887 dL_law_2872 (by decide) (fun _ => ?_) (fun c9 => absurd c9 (nI_nz hz (by have := (show cd2 (okP r (gX G (6 * j + 1))) (rgB 1 300 (gX G (6 * j + 2))) ≤ 4 from Nat.le_trans cd2_le (by decide)); omega)))
    refine r_goto 4127 dL_law_2887 (by decide) ?_
    exact kk _ _ _ _ _ _ _ _ _ _ _ _ _ _ w2 hp.nx (by show cs.1 + 20 + 0 ≤ _; omega) (by show cs.2 + 120 + 0 ≤ _; omega)
theorem cs_L_bestPeriod : CStH RL 334 mL_bestPeriod 3 := ⟨ml_L_334, (tgI 1367 (by decide +kernel) rfl), (tgI 98 (by decide +kernel) rfl), (tgI 1368 (by decide +kernel) rfl), ok_L_bestPeriod⟩
set_option maxRecDepth 100000 in
set_option maxHeartbeats 4000000 in
theorem law_41 {l9 : Launch} {G : GC} {Fi : CX → State → Prop} {h : AH} {r s : Row} {L : List Row} {sv : Bool} {b : Nat → Int32} {n j : Nat} {o : Ob} {er eo : Int32} {l6 l7 l8 : Option Value} {cs : Nat × Nat} (hG : GOK G) (hj : 6 * j + 6 ≤ gL G) (hL3 : gL G ≤ 3072) (w : StL h r L r L s sv b n o er eo) (hp : LvP r L s sv b n (300 * j)) (hc1 : cs.1 ≤ 800 + 60 * j) (hc2 : cs.2 ≤ 40000 + 400 * j) (kk : LNx l9 G Fi j) : PW l9 G mL_law room_1 Fi NT 2890 [some (.ref 0), some (.ref 1), some (.ref 723), some (.ref 737), some (.ref 738), some (.int (nI (6 * j))), l6, l7, l8] [] cs h := by
  have hb9 : 300 * j + 300 < 2 ^ 23 := by omega
  refine r_aload_n dL_law_2890 rfl ?_
  refine r_aload_n dL_law_2891 rfl ?_
  refine r_iload dL_law_2892 rfl ?_
  refine r_iconst (1) dL_law_2894 (by decide) ?_
  refine r_iadd dL_law_2895 ?_
  refine r_sld (k := 6 * j + 1) (nadd rfl kn_1) (by omega) hL3 dL_law_2896 ?_
  refine r_aload_n dL_law_2897 rfl ?_
  refine r_callSH3 cs_L_bestPeriod (rmL rfl (by show cs.1 + 1 ≤ _; omega) (by show cs.2 + 6 ≤ _; omega)) (Nat.le_of_ble_eq_true rfl) dL_law_2898 (c_L_bestPeriod hG w.1 cd1_le (c_X8_bestPeriod (hW := w.1) (hs := w.2.1.1) (hO := hp.1.1)) (fun _ e9 => by rw [e9]; exact w.1)) (fun v1 h1 q1 => ?_)
  obtain ⟨rfl, q2, q3⟩ := q1
  by_cases hz : cd1 (okP r (gX G (6 * j + 1))) = 0
  · obtain ⟨h3, q4, rfl⟩ := q3 hz
    obtain rfl := q4
    have hp2 := hp.nx
    have w1 := st_out (v := ((oI (bpS (fP r (gX G (6 * j + 1))) (tP r) 25))).toInt64) w hp
    have ho2 : ∀ {H : AH}, aJ (sI (sJ H 737 0 (((oI (bpS (fP r (gX G (6 * j + 1))) (tP r) 25))).toInt64)) 723 12 (nI (cd1 (okP r (gX G (6 * j + 1)))))) 737 0 = ((oI (bpS (fP r (gX G (6 * j + 1))) (tP r) 25))).toInt64 := sJ_at0
    refine r_istore (ls2 := [some (.ref 0), some (.ref 1), some (.ref 723), some (.ref 737), some (.ref 738), some (.int (nI (6 * j))), some _, _, _]) dL_law_2901 (by decide) rfl ?_
    refine r_aload_n dL_law_2903 rfl ?_
    refine r_aload_n dL_law_2904 rfl ?_
    refine r_iload dL_law_2905 rfl ?_
    refine r_iconst (1) dL_law_2907 (by decide) ?_
    refine r_iadd dL_law_2908 ?_
    refine r_sld (k := 6 * j + 1) (nadd rfl kn_1) (by omega) hL3 dL_law_2909 ?_
    refine q_callT1 (cv_X9_bestPeriod ml_L_336) w1.1 kc_723 (by decide) rfl (rmL rfl (by show cs.1 + 1 + 0 ≤ _; omega) (by show cs.2 + 6 + 0 ≤ _; omega)) (Nat.le_of_ble_eq_true rfl) dL_law_2910 (c_X9_bestPeriod (hW := w1.1) (hm := w1.2.2.1) (hO := hp.1.1) (hm28 := (by omega))) (fun v2 h2 ty2 p2 => ?_)
    obtain ⟨rfl, p3⟩ := p2
    obtain rfl := p3 hz
    have w2 := st_si (c := cd1 (okP r (gX G (6 * j + 1)))) w1 hp
    have ht : ∀ {H : AH}, aI (sI H 723 12 (nI (cd1 (okP r (gX G (6 * j + 1)))))) 723 12 = nI (cd1 (okP r (gX G (6 * j + 1)))) := sI_s
    refine r_istore (ls2 := [some (.ref 0), some (.ref 1), some (.ref 723), some (.ref 737), some (.ref 738), some (.int (nI (6 * j))), _, some _, _]) dL_law_2913 (by decide) rfl ?_
    refine r_aload_n dL_law_2915 rfl ?_
    refine q_callT0 (cv_X9_thrown ml_L_222) w2.1 kc_723 (by decide) rfl (rmL rfl (by show cs.1 + 1 + 0 + 0 ≤ _; omega) (by show cs.2 + 6 + 0 + 0 ≤ _; omega)) (Nat.le_of_ble_eq_true rfl) dL_law_2916 (c_X9_thrown w2.1) (fun v5 h5 _ q5 => ?_)
    obtain ⟨rfl, rfl⟩ := q5
    refine r_iload dL_law_2919 rfl ?_
    refine r_icmp_eq 2926 dL_law_2921 (by decide) (fun _ => ?_) (fun c9 => absurd ht c9)
    refine r_iload dL_law_2926 rfl ?_
    refine r_if_ne 2943 dL_law_2928 (by decide) (fun c9 => absurd (by rw [hz]; rfl) c9) (fun _ => ?_)
    refine r_aload_n dL_law_2931 rfl ?_
    refine r_iconst (0) dL_law_2932 (by decide) ?_
    refine q_lald (k := 0) w2.1 kc_737 kn_0 (by decide) (by decide) dL_law_2933 ?_
    rw [ho2]
    refine r_iload dL_law_2934 rfl ?_
    refine r_i2l dL_law_2936 ?_
    refine r_lcmp dL_law_2937 ?_
    refine r_if_eq 2943 dL_law_2938 (by decide) (fun _ => ?_) (fun c9 => absurd lg_cmp_s c9)
    refine r_goto 4127 dL_law_2943 (by decide) ?_
    exact kk _ _ _ _ _ _ _ _ _ _ _ _ _ _ w2 hp2 (by show cs.1 + 1 + 0 ≤ _; omega) (by show cs.2 + 6 + 0 ≤ _; omega)
  · obtain rfl := q2 hz
    have w1 := w
    refine r_istore (ls2 := [some (.ref 0), some (.ref 1), some (.ref 723), some (.ref 737), some (.ref 738), some (.int (nI (6 * j))), some _, _, _]) dL_law_2901 (by decide) rfl ?_
    refine r_aload_n dL_law_2903 rfl ?_
    refine r_aload_n dL_law_2904 rfl ?_
    refine r_iload dL_law_2905 rfl ?_
    refine r_iconst (1) dL_law_2907 (by decide) ?_
    refine r_iadd dL_law_2908 ?_
    refine r_sld (k := 6 * j + 1) (nadd rfl kn_1) (by omega) hL3 dL_law_2909 ?_
    refine q_callT1 (cv_X9_bestPeriod ml_L_336) w1.1 kc_723 (by decide) rfl (rmL rfl (by show cs.1 + 1 + 0 ≤ _; omega) (by show cs.2 + 6 + 0 ≤ _; omega)) (Nat.le_of_ble_eq_true rfl) dL_law_2910 (c_X9_bestPeriod (hW := w1.1) (hm := w1.2.2.1) (hO := hp.1.1) (hm28 := (by omega))) (fun v2 h2 ty2 p2 => ?_)
    obtain ⟨y2, rfl⟩ : ∃ x, v2 = some (.int x) := ty2
    obtain ⟨rfl, -⟩ := p2
    have w2 := st_si (c := cd1 (okP r (gX G (6 * j + 1)))) w1 hp
    have ht : ∀ {H : AH}, aI (sI H 723 12 (nI (cd1 (okP r (gX G (6 * j + 1)))))) 723 12 = nI (cd1 (okP r (gX G (6 * j + 1)))) := sI_s
    refine r_istore (ls2 := [some (.ref 0), some (.ref 1), some (.ref 723), some (.ref 737), some (.ref 738), some (.int (nI (6 * j))), _, some _, _]) dL_law_2913 (by decide) rfl ?_
    refine r_aload_n dL_law_2915 rfl ?_
    refine q_callT0 (cv_X9_thrown ml_L_222) w2.1 kc_723 (by decide) rfl (rmL rfl (by show cs.1 + 1 + 0 + 0 ≤ _; omega) (by show cs.2 + 6 + 0 + 0 ≤ _; omega)) (Nat.le_of_ble_eq_true rfl) dL_law_2916 (c_X9_thrown w2.1) (fun v5 h5 _ q5 => ?_)
    obtain ⟨rfl, rfl⟩ := q5
    refine r_iload dL_law_2919 rfl ?_
    refine r_icmp_eq 2926 dL_law_2921 (by decide) (fun _ => ?_) (fun c9 => absurd ht c9)
    refine r_iload dL_law_2926 rfl ?_
    refine r_if_ne 2943 dL_law_2928 (by decide) (fun _ => ?_) (fun c9 => absurd c9 (nI_nz hz (by have := (show cd1 (okP r (gX G (6 * j + 1))) ≤ 4 from Nat.le_trans cd1_le (by decide)); omega)))
    refine r_goto 4127 dL_law_2943 (by decide) ?_
    exact kk _ _ _ _ _ _ _ _ _ _ _ _ _ _ w2 hp.nx (by show cs.1 + 1 + 0 ≤ _; omega) (by show cs.2 + 6 + 0 ≤ _; omega)
theorem cs_L_needed : CStH RL 337 mL_needed 4 := ⟨ml_L_337, (tgI 1383 (by decide +kernel) rfl), (tgI 98 (by decide +kernel) rfl), (tgI 1384 (by decide +kernel) rfl), ok_L_needed⟩
set_option maxRecDepth 100000 in
set_option maxHeartbeats 4000000 in
theorem law_42 {l9 : Launch} {G : GC} {Fi : CX → State → Prop} {h : AH} {r s : Row} {L : List Row} {sv : Bool} {b : Nat → Int32} {n j : Nat} {o : Ob} {er eo : Int32} {l6 l7 l8 : Option Value} {cs : Nat × Nat} (hG : GOK G) (hj : 6 * j + 6 ≤ gL G) (hL3 : gL G ≤ 3072) (w : StL h r L r L s sv b n o er eo) (hp : LvP r L s sv b n (300 * j)) (hc1 : cs.1 ≤ 800 + 60 * j) (hc2 : cs.2 ≤ 40000 + 400 * j) (kk : LNx l9 G Fi j) : PW l9 G mL_law room_1 Fi NT 2946 [some (.ref 0), some (.ref 1), some (.ref 723), some (.ref 737), some (.ref 738), some (.int (nI (6 * j))), l6, l7, l8] [] cs h := by
  have hb9 : 300 * j + 300 < 2 ^ 23 := by omega
  refine r_aload_n dL_law_2946 rfl ?_
  refine r_aload_n dL_law_2947 rfl ?_
  refine r_iload dL_law_2948 rfl ?_
  refine r_iconst (1) dL_law_2950 (by decide) ?_
  refine r_iadd dL_law_2951 ?_
  refine r_sld (k := 6 * j + 1) (nadd rfl kn_1) (by omega) hL3 dL_law_2952 ?_
  refine r_aload_n dL_law_2953 rfl ?_
  refine r_iload dL_law_2954 rfl ?_
  refine r_iconst (2) dL_law_2956 (by decide) ?_
  refine r_iadd dL_law_2957 ?_
  refine r_sld (k := 6 * j + 2) (nadd rfl kn_2) (by omega) hL3 dL_law_2958 ?_
  refine r_aload_n dL_law_2959 rfl ?_
  refine r_callSH4 cs_L_needed (rmL rfl (by show cs.1 + 2 ≤ _; omega) (by show cs.2 + 12 ≤ _; omega)) (Nat.le_of_ble_eq_true rfl) dL_law_2960 (c_L_needed hG w.1 cd2_le (c_X8_needed (hW := w.1) (hs := w.2.1.1) (hO := hp.1.1)) (fun _ e9 => by rw [e9]; exact w.1)) (fun v1 h1 q1 => ?_)
  obtain ⟨rfl, q2, q3⟩ := q1
  by_cases hz : cd2 (okP r (gX G (6 * j + 1))) (rgB 1 300 (gX G (6 * j + 2))) = 0
  · obtain ⟨h3, q4, rfl⟩ := q3 hz
    obtain rfl := q4
    have hp2 := hp.nx
    have w1 := st_out (v := ((ndP (fP r (gX G (6 * j + 1))) (tP r) (nn (gX G (6 * j + 2))))).toInt64) w hp
    have ho2 : ∀ {H : AH}, aJ (sI (sJ H 737 0 (((ndP (fP r (gX G (6 * j + 1))) (tP r) (nn (gX G (6 * j + 2))))).toInt64)) 723 12 (nI (cd2 (okP r (gX G (6 * j + 1))) (rgB 1 300 (gX G (6 * j + 2)))))) 737 0 = ((ndP (fP r (gX G (6 * j + 1))) (tP r) (nn (gX G (6 * j + 2))))).toInt64 := sJ_at0
    refine r_istore (ls2 := [some (.ref 0), some (.ref 1), some (.ref 723), some (.ref 737), some (.ref 738), some (.int (nI (6 * j))), some _, _, _]) dL_law_2963 (by decide) rfl ?_
    refine r_aload_n dL_law_2965 rfl ?_
    refine r_aload_n dL_law_2966 rfl ?_
    refine r_iload dL_law_2967 rfl ?_
    refine r_iconst (1) dL_law_2969 (by decide) ?_
    refine r_iadd dL_law_2970 ?_
    refine r_sld (k := 6 * j + 1) (nadd rfl kn_1) (by omega) hL3 dL_law_2971 ?_
    refine r_aload_n dL_law_2972 rfl ?_
    refine r_iload dL_law_2973 rfl ?_
    refine r_iconst (2) dL_law_2975 (by decide) ?_
    refine r_iadd dL_law_2976 ?_
    refine r_sld (k := 6 * j + 2) (nadd rfl kn_2) (by omega) hL3 dL_law_2977 ?_
    refine q_callT2 (cv_X9_needed ml_L_339) w1.1 kc_723 (by decide) rfl (rmL rfl (by show cs.1 + 2 + 0 ≤ _; omega) (by show cs.2 + 12 + 0 ≤ _; omega)) (Nat.le_of_ble_eq_true rfl) dL_law_2978 (c_X9_needed (hW := w1.1) (hm := w1.2.2.1) (hO := hp.1.1) (hm28 := (by omega))) (fun v2 h2 ty2 p2 => ?_)
    obtain ⟨rfl, p3⟩ := p2
    obtain rfl := p3 hz
    have w2 := st_si (c := cd2 (okP r (gX G (6 * j + 1))) (rgB 1 300 (gX G (6 * j + 2)))) w1 hp
    have ht : ∀ {H : AH}, aI (sI H 723 12 (nI (cd2 (okP r (gX G (6 * j + 1))) (rgB 1 300 (gX G (6 * j + 2)))))) 723 12 = nI (cd2 (okP r (gX G (6 * j + 1))) (rgB 1 300 (gX G (6 * j + 2)))) := sI_s
    refine r_istore (ls2 := [some (.ref 0), some (.ref 1), some (.ref 723), some (.ref 737), some (.ref 738), some (.int (nI (6 * j))), _, some _, _]) dL_law_2981 (by decide) rfl ?_
    refine r_aload_n dL_law_2983 rfl ?_
    refine q_callT0 (cv_X9_thrown ml_L_222) w2.1 kc_723 (by decide) rfl (rmL rfl (by show cs.1 + 2 + 0 + 0 ≤ _; omega) (by show cs.2 + 12 + 0 + 0 ≤ _; omega)) (Nat.le_of_ble_eq_true rfl) dL_law_2984 (c_X9_thrown w2.1) (fun v5 h5 _ q5 => ?_)
    obtain ⟨rfl, rfl⟩ := q5
    refine r_iload dL_law_2987 rfl ?_
    refine r_icmp_eq 2994 dL_law_2989 (by decide) (fun _ => ?_) (fun c9 => absurd ht c9)
    refine r_iload dL_law_2994 rfl ?_
    refine r_if_ne 3011 dL_law_2996 (by decide) (fun c9 => absurd (by rw [hz]; rfl) c9) (fun _ => ?_)
    refine r_aload_n dL_law_2999 rfl ?_
    refine r_iconst (0) dL_law_3000 (by decide) ?_
    refine q_lald (k := 0) w2.1 kc_737 kn_0 (by decide) (by decide) dL_law_3001 ?_
    rw [ho2]
    refine r_iload dL_law_3002 rfl ?_
    refine r_i2l dL_law_3004 ?_
    refine r_lcmp dL_law_3005 ?_
    refine r_if_eq 3011 dL_law_3006 (by decide) (fun _ => ?_) (fun c9 => absurd lg_cmp_s c9)
    refine r_goto 4127 dL_law_3011 (by decide) ?_
    exact kk _ _ _ _ _ _ _ _ _ _ _ _ _ _ w2 hp2 (by show cs.1 + 2 + 0 ≤ _; omega) (by show cs.2 + 12 + 0 ≤ _; omega)
  · obtain rfl := q2 hz
    have w1 := w
    refine r_istore (ls2 := [some (.ref 0), some (.ref 1), some (.ref 723), some (.ref 737), some (.ref 738), some (.int (nI (6 * j))), some _, _, _]) dL_law_2963 (by decide) rfl ?_
    refine r_aload_n dL_law_2965 rfl ?_
    refine r_aload_n dL_law_2966 rfl ?_
    refine r_iload dL_law_2967 rfl ?_
    refine r_iconst (1) dL_law_2969 (by decide) ?_
    refine r_iadd dL_law_2970 ?_
    refine r_sld (k := 6 * j + 1) (nadd rfl kn_1) (by omega) hL3 dL_law_2971 ?_
    refine r_aload_n dL_law_2972 rfl ?_
    refine r_iload dL_law_2973 rfl ?_
    refine r_iconst (2) dL_law_2975 (by decide) ?_
    refine r_iadd dL_law_2976 ?_
    refine r_sld (k := 6 * j + 2) (nadd rfl kn_2) (by omega) hL3 dL_law_2977 ?_
    refine q_callT2 (cv_X9_needed ml_L_339) w1.1 kc_723 (by decide) rfl (rmL rfl (by show cs.1 + 2 + 0 ≤ _; omega) (by show cs.2 + 12 + 0 ≤ _; omega)) (Nat.le_of_ble_eq_true rfl) dL_law_2978 (c_X9_needed (hW := w1.1) (hm := w1.2.2.1) (hO := hp.1.1) (hm28 := (by omega))) (fun v2 h2 ty2 p2 => ?_)
    obtain ⟨y2, rfl⟩ : ∃ x, v2 = some (.int x) := ty2
    obtain ⟨rfl, -⟩ := p2
    have w2 := st_si (c := cd2 (okP r (gX G (6 * j + 1))) (rgB 1 300 (gX G (6 * j + 2)))) w1 hp
    have ht : ∀ {H : AH}, aI (sI H 723 12 (nI (cd2 (okP r (gX G (6 * j + 1))) (rgB 1 300 (gX G (6 * j + 2)))))) 723 12 = nI (cd2 (okP r (gX G (6 * j + 1))) (rgB 1 300 (gX G (6 * j + 2)))) := sI_s
    refine r_istore (ls2 := [some (.ref 0), some (.ref 1), some (.ref 723), some (.ref 737), some (.ref 738), some (.int (nI (6 * j))), _, some _, _]) dL_law_2981 (by decide) rfl ?_
    refine r_aload_n dL_law_2983 rfl ?_
    refine q_callT0 (cv_X9_thrown ml_L_222) w2.1 kc_723 (by decide) rfl (rmL rfl (by show cs.1 + 2 + 0 + 0 ≤ _; omega) (by show cs.2 + 12 + 0 + 0 ≤ _; omega)) (Nat.le_of_ble_eq_true rfl) dL_law_2984 (c_X9_thrown w2.1) (fun v5 h5 _ q5 => ?_)
    obtain ⟨rfl, rfl⟩ := q5
    refine r_iload dL_law_2987 rfl ?_
    refine r_icmp_eq 2994 dL_law_2989 (by decide) (fun _ => ?_) (fun c9 => absurd ht c9)
    refine r_iload dL_law_2994 rfl ?_
    refine r_if_ne 3011 dL_law_2996 (by decide) (fun _ => ?_) (fun c9 => absurd c9 (nI_nz hz (by have := (show cd2 (okP r (gX G (6 * j + 1))) (rgB 1 300 (gX G (6 * j + 2))) ≤ 4 from Nat.le_trans cd2_le (by decide)); omega)))
    refine r_goto 4127 dL_law_3011 (by decide) ?_
    exact kk _ _ _ _ _ _ _ _ _ _ _ _ _ _ w2 hp.nx (by show cs.1 + 2 + 0 ≤ _; omega) (by show cs.2 + 12 + 0 ≤ _; omega)
theorem cs_L_transfer : CStH RL 340 mL_transfer 4 := ⟨ml_L_340, (tgI 1391 (by decide +kernel) rfl), (tgI 98 (by decide +kernel) rfl), (tgI 1392 (by decide +kernel) rfl), ok_L_transfer⟩
set_option maxRecDepth 100000 in
set_option maxHeartbeats 4000000 in
theorem law_43 {l9 : Launch} {G : GC} {Fi : CX → State → Prop} {h : AH} {r s : Row} {L : List Row} {sv : Bool} {b : Nat → Int32} {n j : Nat} {o : Ob} {er eo : Int32} {l6 l7 l8 : Option Value} {cs : Nat × Nat} (hG : GOK G) (hj : 6 * j + 6 ≤ gL G) (hL3 : gL G ≤ 3072) (w : StL h r L r L s sv b n o er eo) (hp : LvP r L s sv b n (300 * j)) (hc1 : cs.1 ≤ 800 + 60 * j) (hc2 : cs.2 ≤ 40000 + 400 * j) (kk : LNx l9 G Fi j) : PW l9 G mL_law room_1 Fi NT 3014 [some (.ref 0), some (.ref 1), some (.ref 723), some (.ref 737), some (.ref 738), some (.int (nI (6 * j))), l6, l7, l8] [] cs h := by
  have hb9 : 300 * j + 300 < 2 ^ 23 := by omega
  refine r_aload_n dL_law_3014 rfl ?_
  refine r_aload_n dL_law_3015 rfl ?_
  refine r_iload dL_law_3016 rfl ?_
  refine r_iconst (1) dL_law_3018 (by decide) ?_
  refine r_iadd dL_law_3019 ?_
  refine r_sld (k := 6 * j + 1) (nadd rfl kn_1) (by omega) hL3 dL_law_3020 ?_
  refine r_aload_n dL_law_3021 rfl ?_
  refine r_iload dL_law_3022 rfl ?_
  refine r_iconst (2) dL_law_3024 (by decide) ?_
  refine r_iadd dL_law_3025 ?_
  refine r_sld (k := 6 * j + 2) (nadd rfl kn_2) (by omega) hL3 dL_law_3026 ?_
  refine r_aload_n dL_law_3027 rfl ?_
  refine r_callSH4 cs_L_transfer (rmL rfl (by show cs.1 + 5 ≤ _; omega) (by show cs.2 + 30 ≤ _; omega)) (Nat.le_of_ble_eq_true rfl) dL_law_3028 (c_L_transfer hG w.1 tfC_le (c_X8_transfer (hW := w.1) (hs := w.2.1.1) (hO := hp.1.1) (hL := w.2.1.2.1) (hLO := hp.ls) (hb := hb9)) (fun _ e9 => e9.1.1.1)) (fun v1 h1 q1 => ?_)
  obtain ⟨rfl, q2, q3⟩ := q1
  by_cases hz : tfC r (gX G (6 * j + 1)) (gX G (6 * j + 2)) = 0
  · obtain ⟨h3, q4, rfl⟩ := q3 hz
    have hp2 := hp.push w.2.1.2.1.2.1 (m' := 300 * (j + 1)) ((ok2_trans hp.1 hz hb9).wk (by omega)) (by omega)
    have w1 := st_out (v := ((r.1 2)).toInt64) (st_cc w hp q4.1 q4.2.1 q4.2.2) hp2
    have ho : aJ (sJ h3 737 0 (((r.1 2)).toInt64)) 737 0 = ((r.1 2)).toInt64 := sJ_at0
    refine r_istore (ls2 := [some (.ref 0), some (.ref 1), some (.ref 723), some (.ref 737), some (.ref 738), some (.int (nI (6 * j))), some _, _, _]) dL_law_3031 (by decide) rfl ?_
    refine r_aload_n dL_law_3033 rfl ?_
    refine r_aload_n dL_law_3034 rfl ?_
    refine r_iload dL_law_3035 rfl ?_
    refine r_iconst (1) dL_law_3037 (by decide) ?_
    refine r_iadd dL_law_3038 ?_
    refine r_sld (k := 6 * j + 1) (nadd rfl kn_1) (by omega) hL3 dL_law_3039 ?_
    refine r_aload_n dL_law_3040 rfl ?_
    refine r_iload dL_law_3041 rfl ?_
    refine r_iconst (2) dL_law_3043 (by decide) ?_
    refine r_iadd dL_law_3044 ?_
    refine r_sld (k := 6 * j + 2) (nadd rfl kn_2) (by omega) hL3 dL_law_3045 ?_
    refine q_callT2 (cv_X9_transfer ml_L_342) w1.1 kc_723 (by decide) rfl (rmL rfl (by show cs.1 + 5 + 0 ≤ _; omega) (by show cs.2 + 30 + 0 ≤ _; omega)) (Nat.le_of_ble_eq_true rfl) dL_law_3046 (c_X9_transfer (hW := w1.1) (hm := w1.2.2.1) (hO := hp.1.1) (hm28 := (by omega)) (hL := w1.2.2.2.1) (hb := hb9)) (fun v2 h2 ty2 p2 => ?_)
    obtain ⟨rfl, p3, p4, p5⟩ := p2.2 hz
    have w2 := st_rc w1 hp2 p3 p4 p5
    have ht : aI h2 723 12 = nI (tfC r (gX G (6 * j + 1)) (gX G (6 * j + 2))) := by rw [hz]; exact p3.2.1
    have ho2 : aJ h2 737 0 = _ := (congrFun (p3.1.J (show ¬ RS 737 by unfold RS; omega)) 0).trans ho
    refine r_istore (ls2 := [some (.ref 0), some (.ref 1), some (.ref 723), some (.ref 737), some (.ref 738), some (.int (nI (6 * j))), _, some _, _]) dL_law_3049 (by decide) rfl ?_
    refine r_aload_n dL_law_3051 rfl ?_
    refine q_callT0 (cv_X9_thrown ml_L_222) w2.1 kc_723 (by decide) rfl (rmL rfl (by show cs.1 + 5 + 0 + 0 ≤ _; omega) (by show cs.2 + 30 + 0 + 0 ≤ _; omega)) (Nat.le_of_ble_eq_true rfl) dL_law_3052 (c_X9_thrown w2.1) (fun v5 h5 _ q5 => ?_)
    obtain ⟨rfl, rfl⟩ := q5
    refine r_iload dL_law_3055 rfl ?_
    refine r_icmp_eq 3062 dL_law_3057 (by decide) (fun _ => ?_) (fun c9 => absurd ht c9)
    refine r_iload dL_law_3062 rfl ?_
    refine r_if_ne 3079 dL_law_3064 (by decide) (fun c9 => absurd (by rw [hz]; rfl) c9) (fun _ => ?_)
    refine r_aload_n dL_law_3067 rfl ?_
    refine r_iconst (0) dL_law_3068 (by decide) ?_
    refine q_lald (k := 0) w2.1 kc_737 kn_0 (by decide) (by decide) dL_law_3069 ?_
    rw [ho2]
    refine r_iload dL_law_3070 rfl ?_
    refine r_i2l dL_law_3072 ?_
    refine r_lcmp dL_law_3073 ?_
    refine r_if_eq 3079 dL_law_3074 (by decide) (fun _ => ?_) (fun c9 => absurd lg_cmp_s c9)
    refine r_goto 4127 dL_law_3079 (by decide) ?_
    exact kk _ _ _ _ _ _ _ _ _ _ _ _ _ _ w2 hp2 (by show cs.1 + 5 + 0 ≤ _; omega) (by show cs.2 + 30 + 0 ≤ _; omega)
  · obtain rfl := q2 hz
    have w1 := w
    refine r_istore (ls2 := [some (.ref 0), some (.ref 1), some (.ref 723), some (.ref 737), some (.ref 738), some (.int (nI (6 * j))), some _, _, _]) dL_law_3031 (by decide) rfl ?_
    refine r_aload_n dL_law_3033 rfl ?_
    refine r_aload_n dL_law_3034 rfl ?_
    refine r_iload dL_law_3035 rfl ?_
    refine r_iconst (1) dL_law_3037 (by decide) ?_
    refine r_iadd dL_law_3038 ?_
    refine r_sld (k := 6 * j + 1) (nadd rfl kn_1) (by omega) hL3 dL_law_3039 ?_
    refine r_aload_n dL_law_3040 rfl ?_
    refine r_iload dL_law_3041 rfl ?_
    refine r_iconst (2) dL_law_3043 (by decide) ?_
    refine r_iadd dL_law_3044 ?_
    refine r_sld (k := 6 * j + 2) (nadd rfl kn_2) (by omega) hL3 dL_law_3045 ?_
    refine q_callT2 (cv_X9_transfer ml_L_342) w1.1 kc_723 (by decide) rfl (rmL rfl (by show cs.1 + 5 + 0 ≤ _; omega) (by show cs.2 + 30 + 0 ≤ _; omega)) (Nat.le_of_ble_eq_true rfl) dL_law_3046 (c_X9_transfer (hW := w1.1) (hm := w1.2.2.1) (hO := hp.1.1) (hm28 := (by omega)) (hL := w1.2.2.2.1) (hb := hb9)) (fun v2 h2 ty2 p2 => ?_)
    obtain ⟨y2, rfl⟩ : ∃ x, v2 = some (.int x) := ty2
    have p3 := p2.1 hz
    have w2 := st_rq w1 hp p3
    have ht := p3.2.1
    refine r_istore (ls2 := [some (.ref 0), some (.ref 1), some (.ref 723), some (.ref 737), some (.ref 738), some (.int (nI (6 * j))), _, some _, _]) dL_law_3049 (by decide) rfl ?_
    refine r_aload_n dL_law_3051 rfl ?_
    refine q_callT0 (cv_X9_thrown ml_L_222) w2.1 kc_723 (by decide) rfl (rmL rfl (by show cs.1 + 5 + 0 + 0 ≤ _; omega) (by show cs.2 + 30 + 0 + 0 ≤ _; omega)) (Nat.le_of_ble_eq_true rfl) dL_law_3052 (c_X9_thrown w2.1) (fun v5 h5 _ q5 => ?_)
    obtain ⟨rfl, rfl⟩ := q5
    refine r_iload dL_law_3055 rfl ?_
    refine r_icmp_eq 3062 dL_law_3057 (by decide) (fun _ => ?_) (fun c9 => absurd ht c9)
    refine r_iload dL_law_3062 rfl ?_
    refine r_if_ne 3079 dL_law_3064 (by decide) (fun _ => ?_) (fun c9 => absurd c9 (nI_nz hz (by have := (show tfC r (gX G (6 * j + 1)) (gX G (6 * j + 2)) ≤ 4 from Nat.le_trans tfC_le (by decide)); omega)))
    refine r_goto 4127 dL_law_3079 (by decide) ?_
    exact kk _ _ _ _ _ _ _ _ _ _ _ _ _ _ w2 hp.nx (by show cs.1 + 5 + 0 ≤ _; omega) (by show cs.2 + 30 + 0 ≤ _; omega)
theorem cs_L_setLoad : CStH RL 343 mL_setLoad 5 := ⟨ml_L_343, (tgI 1400 (by decide +kernel) rfl), (tgI 98 (by decide +kernel) rfl), (tgI 1401 (by decide +kernel) rfl), ok_L_setLoad⟩
set_option maxRecDepth 100000 in
set_option maxHeartbeats 4000000 in
theorem law_44 {l9 : Launch} {G : GC} {Fi : CX → State → Prop} {h : AH} {r s : Row} {L : List Row} {sv : Bool} {b : Nat → Int32} {n j : Nat} {o : Ob} {er eo : Int32} {l6 l7 l8 : Option Value} {cs : Nat × Nat} (hG : GOK G) (hj : 6 * j + 6 ≤ gL G) (hL3 : gL G ≤ 3072) (w : StL h r L r L s sv b n o er eo) (hp : LvP r L s sv b n (300 * j)) (hc1 : cs.1 ≤ 800 + 60 * j) (hc2 : cs.2 ≤ 40000 + 400 * j) (kk : LNx l9 G Fi j) : PW l9 G mL_law room_1 Fi NT 3082 [some (.ref 0), some (.ref 1), some (.ref 723), some (.ref 737), some (.ref 738), some (.int (nI (6 * j))), l6, l7, l8] [] cs h := by
  have hb9 : 300 * j + 300 < 2 ^ 23 := by omega
  refine r_aload_n dL_law_3082 rfl ?_
  refine r_aload_n dL_law_3083 rfl ?_
  refine r_iload dL_law_3084 rfl ?_
  refine r_iconst (1) dL_law_3086 (by decide) ?_
  refine r_iadd dL_law_3087 ?_
  refine r_sld (k := 6 * j + 1) (nadd rfl kn_1) (by omega) hL3 dL_law_3088 ?_
  refine r_aload_n dL_law_3089 rfl ?_
  refine r_iload dL_law_3090 rfl ?_
  refine r_iconst (2) dL_law_3092 (by decide) ?_
  refine r_iadd dL_law_3093 ?_
  refine r_sld (k := 6 * j + 2) (nadd rfl kn_2) (by omega) hL3 dL_law_3094 ?_
  refine r_aload_n dL_law_3095 rfl ?_
  refine r_iload dL_law_3096 rfl ?_
  refine r_iconst (3) dL_law_3098 (by decide) ?_
  refine r_iadd dL_law_3099 ?_
  refine r_sld (k := 6 * j + 3) (nadd rfl kn_3) (by omega) hL3 dL_law_3100 ?_
  refine r_aload_n dL_law_3101 rfl ?_
  refine r_callSH5 cs_L_setLoad (rmL rfl (by show cs.1 + 3 ≤ _; omega) (by show cs.2 + 18 ≤ _; omega)) (Nat.le_of_ble_eq_true rfl) dL_law_3102 (c_L_setLoad hG w.1 cd3_le (c_X8_setLoad (hW := w.1) (hs := w.2.1.1) (hO := hp.1.1) (hL := w.2.1.2.1) (hLO := hp.ls)) (fun _ e9 => e9.1.1.1)) (fun v1 h1 q1 => ?_)
  obtain ⟨rfl, q2, q3⟩ := q1
  by_cases hz : cd3 (okP r (gX G (6 * j + 1))) (rgB 0 999 (gX G (6 * j + 3))) (ltB (fP r (gX G (6 * j + 1)) 24) (gX G (6 * j + 2))) = 0
  · obtain ⟨h3, q4, rfl⟩ := q3 hz
    have hp2 := hp.push w.2.1.2.1.2.1 (m' := 300 * (j + 1)) ((ok2_load hp.1 hz).wk (by omega)) (by omega)
    have w1 := st_out (v := ((fP r (gX G (6 * j + 1)) (36 + nn (gX G (6 * j + 2))))).toInt64) (st_cc w hp q4.1 q4.2.1 q4.2.2) hp2
    have ho : aJ (sJ h3 737 0 (((fP r (gX G (6 * j + 1)) (36 + nn (gX G (6 * j + 2))))).toInt64)) 737 0 = ((fP r (gX G (6 * j + 1)) (36 + nn (gX G (6 * j + 2))))).toInt64 := sJ_at0
    refine r_istore (ls2 := [some (.ref 0), some (.ref 1), some (.ref 723), some (.ref 737), some (.ref 738), some (.int (nI (6 * j))), some _, _, _]) dL_law_3105 (by decide) rfl ?_
    refine r_aload_n dL_law_3107 rfl ?_
    refine r_aload_n dL_law_3108 rfl ?_
    refine r_iload dL_law_3109 rfl ?_
    refine r_iconst (1) dL_law_3111 (by decide) ?_
    refine r_iadd dL_law_3112 ?_
    refine r_sld (k := 6 * j + 1) (nadd rfl kn_1) (by omega) hL3 dL_law_3113 ?_
    refine r_aload_n dL_law_3114 rfl ?_
    refine r_iload dL_law_3115 rfl ?_
    refine r_iconst (2) dL_law_3117 (by decide) ?_
    refine r_iadd dL_law_3118 ?_
    refine r_sld (k := 6 * j + 2) (nadd rfl kn_2) (by omega) hL3 dL_law_3119 ?_
    refine r_aload_n dL_law_3120 rfl ?_
    refine r_iload dL_law_3121 rfl ?_
    refine r_iconst (3) dL_law_3123 (by decide) ?_
    refine r_iadd dL_law_3124 ?_
    refine r_sld (k := 6 * j + 3) (nadd rfl kn_3) (by omega) hL3 dL_law_3125 ?_
    refine q_callT3 (cv_X9_setLoad ml_L_345) w1.1 kc_723 (by decide) rfl (rmL rfl (by show cs.1 + 3 + 0 ≤ _; omega) (by show cs.2 + 18 + 0 ≤ _; omega)) (Nat.le_of_ble_eq_true rfl) dL_law_3126 (c_X9_setLoad (hW := w1.1) (hm := w1.2.2.1) (hO := hp.1.1) (hm28 := (by omega)) (hL := w1.2.2.2.1)) (fun v2 h2 ty2 p2 => ?_)
    obtain ⟨rfl, p3, p4, p5⟩ := p2.2 hz
    have w2 := st_rc w1 hp2 p3 p4 p5
    have ht : aI h2 723 12 = nI (cd3 (okP r (gX G (6 * j + 1))) (rgB 0 999 (gX G (6 * j + 3))) (ltB (fP r (gX G (6 * j + 1)) 24) (gX G (6 * j + 2)))) := by rw [hz]; exact p3.2.1
    have ho2 : aJ h2 737 0 = _ := (congrFun (p3.1.J (show ¬ RS 737 by unfold RS; omega)) 0).trans ho
    refine r_istore (ls2 := [some (.ref 0), some (.ref 1), some (.ref 723), some (.ref 737), some (.ref 738), some (.int (nI (6 * j))), _, some _, _]) dL_law_3129 (by decide) rfl ?_
    refine r_aload_n dL_law_3131 rfl ?_
    refine q_callT0 (cv_X9_thrown ml_L_222) w2.1 kc_723 (by decide) rfl (rmL rfl (by show cs.1 + 3 + 0 + 0 ≤ _; omega) (by show cs.2 + 18 + 0 + 0 ≤ _; omega)) (Nat.le_of_ble_eq_true rfl) dL_law_3132 (c_X9_thrown w2.1) (fun v5 h5 _ q5 => ?_)
    obtain ⟨rfl, rfl⟩ := q5
    refine r_iload dL_law_3135 rfl ?_
    refine r_icmp_eq 3142 dL_law_3137 (by decide) (fun _ => ?_) (fun c9 => absurd ht c9)
    refine r_iload dL_law_3142 rfl ?_
    refine r_if_ne 3159 dL_law_3144 (by decide) (fun c9 => absurd (by rw [hz]; rfl) c9) (fun _ => ?_)
    refine r_aload_n dL_law_3147 rfl ?_
    refine r_iconst (0) dL_law_3148 (by decide) ?_
    refine q_lald (k := 0) w2.1 kc_737 kn_0 (by decide) (by decide) dL_law_3149 ?_
    rw [ho2]
    refine r_iload dL_law_3150 rfl ?_
    refine r_i2l dL_law_3152 ?_
    refine r_lcmp dL_law_3153 ?_
    refine r_if_eq 3159 dL_law_3154 (by decide) (fun _ => ?_) (fun c9 => absurd lg_cmp_s c9)
    refine r_goto 4127 dL_law_3159 (by decide) ?_
    exact kk _ _ _ _ _ _ _ _ _ _ _ _ _ _ w2 hp2 (by show cs.1 + 3 + 0 ≤ _; omega) (by show cs.2 + 18 + 0 ≤ _; omega)
  · obtain rfl := q2 hz
    have w1 := w
    refine r_istore (ls2 := [some (.ref 0), some (.ref 1), some (.ref 723), some (.ref 737), some (.ref 738), some (.int (nI (6 * j))), some _, _, _]) dL_law_3105 (by decide) rfl ?_
    refine r_aload_n dL_law_3107 rfl ?_
    refine r_aload_n dL_law_3108 rfl ?_
    refine r_iload dL_law_3109 rfl ?_
    refine r_iconst (1) dL_law_3111 (by decide) ?_
    refine r_iadd dL_law_3112 ?_
    refine r_sld (k := 6 * j + 1) (nadd rfl kn_1) (by omega) hL3 dL_law_3113 ?_
    refine r_aload_n dL_law_3114 rfl ?_
    refine r_iload dL_law_3115 rfl ?_
    refine r_iconst (2) dL_law_3117 (by decide) ?_
    refine r_iadd dL_law_3118 ?_
    refine r_sld (k := 6 * j + 2) (nadd rfl kn_2) (by omega) hL3 dL_law_3119 ?_
    refine r_aload_n dL_law_3120 rfl ?_
    refine r_iload dL_law_3121 rfl ?_
    refine r_iconst (3) dL_law_3123 (by decide) ?_
    refine r_iadd dL_law_3124 ?_
    refine r_sld (k := 6 * j + 3) (nadd rfl kn_3) (by omega) hL3 dL_law_3125 ?_
    refine q_callT3 (cv_X9_setLoad ml_L_345) w1.1 kc_723 (by decide) rfl (rmL rfl (by show cs.1 + 3 + 0 ≤ _; omega) (by show cs.2 + 18 + 0 ≤ _; omega)) (Nat.le_of_ble_eq_true rfl) dL_law_3126 (c_X9_setLoad (hW := w1.1) (hm := w1.2.2.1) (hO := hp.1.1) (hm28 := (by omega)) (hL := w1.2.2.2.1)) (fun v2 h2 ty2 p2 => ?_)
    obtain ⟨y2, rfl⟩ : ∃ x, v2 = some (.int x) := ty2
    have p3 := p2.1 hz
    have w2 := st_rq w1 hp p3
    have ht := p3.2.1
    refine r_istore (ls2 := [some (.ref 0), some (.ref 1), some (.ref 723), some (.ref 737), some (.ref 738), some (.int (nI (6 * j))), _, some _, _]) dL_law_3129 (by decide) rfl ?_
    refine r_aload_n dL_law_3131 rfl ?_
    refine q_callT0 (cv_X9_thrown ml_L_222) w2.1 kc_723 (by decide) rfl (rmL rfl (by show cs.1 + 3 + 0 + 0 ≤ _; omega) (by show cs.2 + 18 + 0 + 0 ≤ _; omega)) (Nat.le_of_ble_eq_true rfl) dL_law_3132 (c_X9_thrown w2.1) (fun v5 h5 _ q5 => ?_)
    obtain ⟨rfl, rfl⟩ := q5
    refine r_iload dL_law_3135 rfl ?_
    refine r_icmp_eq 3142 dL_law_3137 (by decide) (fun _ => ?_) (fun c9 => absurd ht c9)
    refine r_iload dL_law_3142 rfl ?_
    refine r_if_ne 3159 dL_law_3144 (by decide) (fun _ => ?_) (fun c9 => absurd c9 (nI_nz hz (by have := (show cd3 (okP r (gX G (6 * j + 1))) (rgB 0 999 (gX G (6 * j + 3))) (ltB (fP r (gX G (6 * j + 1)) 24) (gX G (6 * j + 2))) ≤ 4 from Nat.le_trans cd3_le (by decide)); omega)))
    refine r_goto 4127 dL_law_3159 (by decide) ?_
    exact kk _ _ _ _ _ _ _ _ _ _ _ _ _ _ w2 hp.nx (by show cs.1 + 3 + 0 ≤ _; omega) (by show cs.2 + 18 + 0 ≤ _; omega)
theorem cs_L_longestMiss : CStH RL 346 mL_longestMiss 3 := ⟨ml_L_346, (tgI 1407 (by decide +kernel) rfl), (tgI 98 (by decide +kernel) rfl), (tgI 1408 (by decide +kernel) rfl), ok_L_longestMiss⟩
set_option maxRecDepth 100000 in
set_option maxHeartbeats 4000000 in
theorem law_45 {l9 : Launch} {G : GC} {Fi : CX → State → Prop} {h : AH} {r s : Row} {L : List Row} {sv : Bool} {b : Nat → Int32} {n j : Nat} {o : Ob} {er eo : Int32} {l6 l7 l8 : Option Value} {cs : Nat × Nat} (hG : GOK G) (hj : 6 * j + 6 ≤ gL G) (hL3 : gL G ≤ 3072) (w : StL h r L r L s sv b n o er eo) (hp : LvP r L s sv b n (300 * j)) (hc1 : cs.1 ≤ 800 + 60 * j) (hc2 : cs.2 ≤ 40000 + 400 * j) (kk : LNx l9 G Fi j) : PW l9 G mL_law room_1 Fi NT 3162 [some (.ref 0), some (.ref 1), some (.ref 723), some (.ref 737), some (.ref 738), some (.int (nI (6 * j))), l6, l7, l8] [] cs h := by
  have hb9 : 300 * j + 300 < 2 ^ 23 := by omega
  refine r_aload_n dL_law_3162 rfl ?_
  refine r_aload_n dL_law_3163 rfl ?_
  refine r_iload dL_law_3164 rfl ?_
  refine r_iconst (1) dL_law_3166 (by decide) ?_
  refine r_iadd dL_law_3167 ?_
  refine r_sld (k := 6 * j + 1) (nadd rfl kn_1) (by omega) hL3 dL_law_3168 ?_
  refine r_aload_n dL_law_3169 rfl ?_
  refine r_callSH3 cs_L_longestMiss (rmL rfl (by show cs.1 + 1 ≤ _; omega) (by show cs.2 + 6 ≤ _; omega)) (Nat.le_of_ble_eq_true rfl) dL_law_3170 (c_L_longestMiss hG w.1 cd1_le (c_X8_longestMiss (hW := w.1) (hs := w.2.1.1) (hO := hp.1.1)) (fun _ e9 => by rw [e9]; exact w.1)) (fun v1 h1 q1 => ?_)
  obtain ⟨rfl, q2, q3⟩ := q1
  by_cases hz : cd1 (okP r (gX G (6 * j + 1))) = 0
  · obtain ⟨h3, q4, rfl⟩ := q3 hz
    obtain rfl := q4
    have hp2 := hp.nx
    have w1 := st_out (v := (((fP r (gX G (6 * j + 1))) 27)).toInt64) w hp
    have ho2 : ∀ {H : AH}, aJ (sI (sJ H 737 0 ((((fP r (gX G (6 * j + 1))) 27)).toInt64)) 723 12 (nI (cd1 (okP r (gX G (6 * j + 1)))))) 737 0 = (((fP r (gX G (6 * j + 1))) 27)).toInt64 := sJ_at0
    refine r_istore (ls2 := [some (.ref 0), some (.ref 1), some (.ref 723), some (.ref 737), some (.ref 738), some (.int (nI (6 * j))), some _, _, _]) dL_law_3173 (by decide) rfl ?_
    refine r_aload_n dL_law_3175 rfl ?_
    refine r_aload_n dL_law_3176 rfl ?_
    refine r_iload dL_law_3177 rfl ?_
    refine r_iconst (1) dL_law_3179 (by decide) ?_
    refine r_iadd dL_law_3180 ?_
    refine r_sld (k := 6 * j + 1) (nadd rfl kn_1) (by omega) hL3 dL_law_3181 ?_
    refine q_callT1 (cv_X9_longestMiss ml_L_348) w1.1 kc_723 (by decide) rfl (rmL rfl (by show cs.1 + 1 + 0 ≤ _; omega) (by show cs.2 + 6 + 0 ≤ _; omega)) (Nat.le_of_ble_eq_true rfl) dL_law_3182 (c_X9_longestMiss (hW := w1.1) (hm := w1.2.2.1) (hO := hp.1.1) (hm28 := (by omega))) (fun v2 h2 ty2 p2 => ?_)
    obtain ⟨rfl, p3⟩ := p2
    obtain rfl := p3 hz
    have w2 := st_si (c := cd1 (okP r (gX G (6 * j + 1)))) w1 hp
    have ht : ∀ {H : AH}, aI (sI H 723 12 (nI (cd1 (okP r (gX G (6 * j + 1)))))) 723 12 = nI (cd1 (okP r (gX G (6 * j + 1)))) := sI_s
    refine r_istore (ls2 := [some (.ref 0), some (.ref 1), some (.ref 723), some (.ref 737), some (.ref 738), some (.int (nI (6 * j))), _, some _, _]) dL_law_3185 (by decide) rfl ?_
    refine r_aload_n dL_law_3187 rfl ?_
    refine q_callT0 (cv_X9_thrown ml_L_222) w2.1 kc_723 (by decide) rfl (rmL rfl (by show cs.1 + 1 + 0 + 0 ≤ _; omega) (by show cs.2 + 6 + 0 + 0 ≤ _; omega)) (Nat.le_of_ble_eq_true rfl) dL_law_3188 (c_X9_thrown w2.1) (fun v5 h5 _ q5 => ?_)
    obtain ⟨rfl, rfl⟩ := q5
    refine r_iload dL_law_3191 rfl ?_
    refine r_icmp_eq 3198 dL_law_3193 (by decide) (fun _ => ?_) (fun c9 => absurd ht c9)
    refine r_iload dL_law_3198 rfl ?_
    refine r_if_ne 3215 dL_law_3200 (by decide) (fun c9 => absurd (by rw [hz]; rfl) c9) (fun _ => ?_)
    refine r_aload_n dL_law_3203 rfl ?_
    refine r_iconst (0) dL_law_3204 (by decide) ?_
    refine q_lald (k := 0) w2.1 kc_737 kn_0 (by decide) (by decide) dL_law_3205 ?_
    rw [ho2]
    refine r_iload dL_law_3206 rfl ?_
    refine r_i2l dL_law_3208 ?_
    refine r_lcmp dL_law_3209 ?_
    refine r_if_eq 3215 dL_law_3210 (by decide) (fun _ => ?_) (fun c9 => absurd lg_cmp_s c9)
    refine r_goto 4127 dL_law_3215 (by decide) ?_
    exact kk _ _ _ _ _ _ _ _ _ _ _ _ _ _ w2 hp2 (by show cs.1 + 1 + 0 ≤ _; omega) (by show cs.2 + 6 + 0 ≤ _; omega)
  · obtain rfl := q2 hz
    have w1 := w
    refine r_istore (ls2 := [some (.ref 0), some (.ref 1), some (.ref 723), some (.ref 737), some (.ref 738), some (.int (nI (6 * j))), some _, _, _]) dL_law_3173 (by decide) rfl ?_
    refine r_aload_n dL_law_3175 rfl ?_
    refine r_aload_n dL_law_3176 rfl ?_
    refine r_iload dL_law_3177 rfl ?_
    refine r_iconst (1) dL_law_3179 (by decide) ?_
    refine r_iadd dL_law_3180 ?_
    refine r_sld (k := 6 * j + 1) (nadd rfl kn_1) (by omega) hL3 dL_law_3181 ?_
    refine q_callT1 (cv_X9_longestMiss ml_L_348) w1.1 kc_723 (by decide) rfl (rmL rfl (by show cs.1 + 1 + 0 ≤ _; omega) (by show cs.2 + 6 + 0 ≤ _; omega)) (Nat.le_of_ble_eq_true rfl) dL_law_3182 (c_X9_longestMiss (hW := w1.1) (hm := w1.2.2.1) (hO := hp.1.1) (hm28 := (by omega))) (fun v2 h2 ty2 p2 => ?_)
    obtain ⟨y2, rfl⟩ : ∃ x, v2 = some (.int x) := ty2
    obtain ⟨rfl, -⟩ := p2
    have w2 := st_si (c := cd1 (okP r (gX G (6 * j + 1)))) w1 hp
    have ht : ∀ {H : AH}, aI (sI H 723 12 (nI (cd1 (okP r (gX G (6 * j + 1)))))) 723 12 = nI (cd1 (okP r (gX G (6 * j + 1)))) := sI_s
    refine r_istore (ls2 := [some (.ref 0), some (.ref 1), some (.ref 723), some (.ref 737), some (.ref 738), some (.int (nI (6 * j))), _, some _, _]) dL_law_3185 (by decide) rfl ?_
    refine r_aload_n dL_law_3187 rfl ?_
    refine q_callT0 (cv_X9_thrown ml_L_222) w2.1 kc_723 (by decide) rfl (rmL rfl (by show cs.1 + 1 + 0 + 0 ≤ _; omega) (by show cs.2 + 6 + 0 + 0 ≤ _; omega)) (Nat.le_of_ble_eq_true rfl) dL_law_3188 (c_X9_thrown w2.1) (fun v5 h5 _ q5 => ?_)
    obtain ⟨rfl, rfl⟩ := q5
    refine r_iload dL_law_3191 rfl ?_
    refine r_icmp_eq 3198 dL_law_3193 (by decide) (fun _ => ?_) (fun c9 => absurd ht c9)
    refine r_iload dL_law_3198 rfl ?_
    refine r_if_ne 3215 dL_law_3200 (by decide) (fun _ => ?_) (fun c9 => absurd c9 (nI_nz hz (by have := (show cd1 (okP r (gX G (6 * j + 1))) ≤ 4 from Nat.le_trans cd1_le (by decide)); omega)))
    refine r_goto 4127 dL_law_3215 (by decide) ?_
    exact kk _ _ _ _ _ _ _ _ _ _ _ _ _ _ w2 hp.nx (by show cs.1 + 1 + 0 ≤ _; omega) (by show cs.2 + 6 + 0 ≤ _; omega)
theorem cs_L_headroom : CStH RL 349 mL_headroom 3 := ⟨ml_L_349, (tgI 1414 (by decide +kernel) rfl), (tgI 98 (by decide +kernel) rfl), (tgI 1415 (by decide +kernel) rfl), ok_L_headroom⟩
set_option maxRecDepth 100000 in
set_option maxHeartbeats 4000000 in
theorem law_46 {l9 : Launch} {G : GC} {Fi : CX → State → Prop} {h : AH} {r s : Row} {L : List Row} {sv : Bool} {b : Nat → Int32} {n j : Nat} {o : Ob} {er eo : Int32} {l6 l7 l8 : Option Value} {cs : Nat × Nat} (hG : GOK G) (hj : 6 * j + 6 ≤ gL G) (hL3 : gL G ≤ 3072) (w : StL h r L r L s sv b n o er eo) (hp : LvP r L s sv b n (300 * j)) (hc1 : cs.1 ≤ 800 + 60 * j) (hc2 : cs.2 ≤ 40000 + 400 * j) (kk : LNx l9 G Fi j) : PW l9 G mL_law room_1 Fi NT 3218 [some (.ref 0), some (.ref 1), some (.ref 723), some (.ref 737), some (.ref 738), some (.int (nI (6 * j))), l6, l7, l8] [] cs h := by
  have hb9 : 300 * j + 300 < 2 ^ 23 := by omega
  refine r_aload_n dL_law_3218 rfl ?_
  refine r_aload_n dL_law_3219 rfl ?_
  refine r_iload dL_law_3220 rfl ?_
  refine r_iconst (1) dL_law_3222 (by decide) ?_
  refine r_iadd dL_law_3223 ?_
  refine r_sld (k := 6 * j + 1) (nadd rfl kn_1) (by omega) hL3 dL_law_3224 ?_
  refine r_aload_n dL_law_3225 rfl ?_
  refine r_callSH3 cs_L_headroom (rmL rfl (by show cs.1 + 1 ≤ _; omega) (by show cs.2 + 6 ≤ _; omega)) (Nat.le_of_ble_eq_true rfl) dL_law_3226 (c_L_headroom hG w.1 cd1_le (c_X8_headroom (hW := w.1) (hs := w.2.1.1) (hO := hp.1.1)) (fun _ e9 => by rw [e9]; exact w.1)) (fun v1 h1 q1 => ?_)
  obtain ⟨rfl, q2, q3⟩ := q1
  by_cases hz : cd1 (okP r (gX G (6 * j + 1))) = 0
  · obtain ⟨h3, q4, rfl⟩ := q3 hz
    obtain rfl := q4
    have hp2 := hp.nx
    have w1 := st_out (v := ((pwF (fP r (gX G (6 * j + 1))) (r.1 1) - bkz (fP r (gX G (6 * j + 1))) (tP r) 0)).toInt64) w hp
    have ho2 : ∀ {H : AH}, aJ (sI (sJ H 737 0 (((pwF (fP r (gX G (6 * j + 1))) (r.1 1) - bkz (fP r (gX G (6 * j + 1))) (tP r) 0)).toInt64)) 723 12 (nI (cd1 (okP r (gX G (6 * j + 1)))))) 737 0 = ((pwF (fP r (gX G (6 * j + 1))) (r.1 1) - bkz (fP r (gX G (6 * j + 1))) (tP r) 0)).toInt64 := sJ_at0
    refine r_istore (ls2 := [some (.ref 0), some (.ref 1), some (.ref 723), some (.ref 737), some (.ref 738), some (.int (nI (6 * j))), some _, _, _]) dL_law_3229 (by decide) rfl ?_
    refine r_aload_n dL_law_3231 rfl ?_
    refine r_aload_n dL_law_3232 rfl ?_
    refine r_iload dL_law_3233 rfl ?_
    refine r_iconst (1) dL_law_3235 (by decide) ?_
    refine r_iadd dL_law_3236 ?_
    refine r_sld (k := 6 * j + 1) (nadd rfl kn_1) (by omega) hL3 dL_law_3237 ?_
    refine q_callT1 (cv_X9_headroom ml_L_351) w1.1 kc_723 (by decide) rfl (rmL rfl (by show cs.1 + 1 + 0 ≤ _; omega) (by show cs.2 + 6 + 0 ≤ _; omega)) (Nat.le_of_ble_eq_true rfl) dL_law_3238 (c_X9_headroom (hW := w1.1) (hm := w1.2.2.1) (hO := hp.1.1) (hm28 := (by omega))) (fun v2 h2 ty2 p2 => ?_)
    obtain ⟨rfl, p3⟩ := p2
    obtain rfl := p3 hz
    have w2 := st_si (c := cd1 (okP r (gX G (6 * j + 1)))) w1 hp
    have ht : ∀ {H : AH}, aI (sI H 723 12 (nI (cd1 (okP r (gX G (6 * j + 1)))))) 723 12 = nI (cd1 (okP r (gX G (6 * j + 1)))) := sI_s
    refine r_istore (ls2 := [some (.ref 0), some (.ref 1), some (.ref 723), some (.ref 737), some (.ref 738), some (.int (nI (6 * j))), _, some _, _]) dL_law_3241 (by decide) rfl ?_
    refine r_aload_n dL_law_3243 rfl ?_
    refine q_callT0 (cv_X9_thrown ml_L_222) w2.1 kc_723 (by decide) rfl (rmL rfl (by show cs.1 + 1 + 0 + 0 ≤ _; omega) (by show cs.2 + 6 + 0 + 0 ≤ _; omega)) (Nat.le_of_ble_eq_true rfl) dL_law_3244 (c_X9_thrown w2.1) (fun v5 h5 _ q5 => ?_)
    obtain ⟨rfl, rfl⟩ := q5
    refine r_iload dL_law_3247 rfl ?_
    refine r_icmp_eq 3254 dL_law_3249 (by decide) (fun _ => ?_) (fun c9 => absurd ht c9)
    refine r_iload dL_law_3254 rfl ?_
    refine r_if_ne 3271 dL_law_3256 (by decide) (fun c9 => absurd (by rw [hz]; rfl) c9) (fun _ => ?_)
    refine r_aload_n dL_law_3259 rfl ?_
    refine r_iconst (0) dL_law_3260 (by decide) ?_
    refine q_lald (k := 0) w2.1 kc_737 kn_0 (by decide) (by decide) dL_law_3261 ?_
    rw [ho2]
    refine r_iload dL_law_3262 rfl ?_
    refine r_i2l dL_law_3264 ?_
    refine r_lcmp dL_law_3265 ?_
    refine r_if_eq 3271 dL_law_3266 (by decide) (fun _ => ?_) (fun c9 => absurd lg_cmp_s c9)
    refine r_goto 4127 dL_law_3271 (by decide) ?_
    exact kk _ _ _ _ _ _ _ _ _ _ _ _ _ _ w2 hp2 (by show cs.1 + 1 + 0 ≤ _; omega) (by show cs.2 + 6 + 0 ≤ _; omega)
  · obtain rfl := q2 hz
    have w1 := w
    refine r_istore (ls2 := [some (.ref 0), some (.ref 1), some (.ref 723), some (.ref 737), some (.ref 738), some (.int (nI (6 * j))), some _, _, _]) dL_law_3229 (by decide) rfl ?_
    refine r_aload_n dL_law_3231 rfl ?_
    refine r_aload_n dL_law_3232 rfl ?_
    refine r_iload dL_law_3233 rfl ?_
    refine r_iconst (1) dL_law_3235 (by decide) ?_
    refine r_iadd dL_law_3236 ?_
    refine r_sld (k := 6 * j + 1) (nadd rfl kn_1) (by omega) hL3 dL_law_3237 ?_
    refine q_callT1 (cv_X9_headroom ml_L_351) w1.1 kc_723 (by decide) rfl (rmL rfl (by show cs.1 + 1 + 0 ≤ _; omega) (by show cs.2 + 6 + 0 ≤ _; omega)) (Nat.le_of_ble_eq_true rfl) dL_law_3238 (c_X9_headroom (hW := w1.1) (hm := w1.2.2.1) (hO := hp.1.1) (hm28 := (by omega))) (fun v2 h2 ty2 p2 => ?_)
    obtain ⟨y2, rfl⟩ : ∃ x, v2 = some (.int x) := ty2
    obtain ⟨rfl, -⟩ := p2
    have w2 := st_si (c := cd1 (okP r (gX G (6 * j + 1)))) w1 hp
    have ht : ∀ {H : AH}, aI (sI H 723 12 (nI (cd1 (okP r (gX G (6 * j + 1)))))) 723 12 = nI (cd1 (okP r (gX G (6 * j + 1)))) := sI_s
    refine r_istore (ls2 := [some (.ref 0), some (.ref 1), some (.ref 723), some (.ref 737), some (.ref 738), some (.int (nI (6 * j))), _, some _, _]) dL_law_3241 (by decide) rfl ?_
    refine r_aload_n dL_law_3243 rfl ?_
    refine q_callT0 (cv_X9_thrown ml_L_222) w2.1 kc_723 (by decide) rfl (rmL rfl (by show cs.1 + 1 + 0 + 0 ≤ _; omega) (by show cs.2 + 6 + 0 + 0 ≤ _; omega)) (Nat.le_of_ble_eq_true rfl) dL_law_3244 (c_X9_thrown w2.1) (fun v5 h5 _ q5 => ?_)
    obtain ⟨rfl, rfl⟩ := q5
    refine r_iload dL_law_3247 rfl ?_
    refine r_icmp_eq 3254 dL_law_3249 (by decide) (fun _ => ?_) (fun c9 => absurd ht c9)
    refine r_iload dL_law_3254 rfl ?_
    refine r_if_ne 3271 dL_law_3256 (by decide) (fun _ => ?_) (fun c9 => absurd c9 (nI_nz hz (by have := (show cd1 (okP r (gX G (6 * j + 1))) ≤ 4 from Nat.le_trans cd1_le (by decide)); omega)))
    refine r_goto 4127 dL_law_3271 (by decide) ?_
    exact kk _ _ _ _ _ _ _ _ _ _ _ _ _ _ w2 hp.nx (by show cs.1 + 1 + 0 ≤ _; omega) (by show cs.2 + 6 + 0 ≤ _; omega)
theorem cs_L_changesIn : CStH RL 356 mL_changesIn 4 := ⟨ml_L_356, (tgI 1422 (by decide +kernel) rfl), (tgI 98 (by decide +kernel) rfl), (tgI 1423 (by decide +kernel) rfl), ok_L_changesIn⟩
set_option maxRecDepth 100000 in
set_option maxHeartbeats 4000000 in
theorem law_48 {l9 : Launch} {G : GC} {Fi : CX → State → Prop} {h : AH} {r s : Row} {L : List Row} {sv : Bool} {b : Nat → Int32} {n j : Nat} {o : Ob} {er eo : Int32} {l6 l7 l8 : Option Value} {cs : Nat × Nat} (hG : GOK G) (hj : 6 * j + 6 ≤ gL G) (hL3 : gL G ≤ 3072) (w : StL h r L r L s sv b n o er eo) (hp : LvP r L s sv b n (300 * j)) (hc1 : cs.1 ≤ 800 + 60 * j) (hc2 : cs.2 ≤ 40000 + 400 * j) (kk : LNx l9 G Fi j) : PW l9 G mL_law room_1 Fi NT 3287 [some (.ref 0), some (.ref 1), some (.ref 723), some (.ref 737), some (.ref 738), some (.int (nI (6 * j))), l6, l7, l8] [] cs h := by
  have hb9 : 300 * j + 300 < 2 ^ 23 := by omega
  refine r_aload_n dL_law_3287 rfl ?_
  refine r_aload_n dL_law_3288 rfl ?_
  refine r_iload dL_law_3289 rfl ?_
  refine r_iconst (1) dL_law_3291 (by decide) ?_
  refine r_iadd dL_law_3292 ?_
  refine r_sld (k := 6 * j + 1) (nadd rfl kn_1) (by omega) hL3 dL_law_3293 ?_
  refine r_aload_n dL_law_3294 rfl ?_
  refine r_iload dL_law_3295 rfl ?_
  refine r_iconst (2) dL_law_3297 (by decide) ?_
  refine r_iadd dL_law_3298 ?_
  refine r_sld (k := 6 * j + 2) (nadd rfl kn_2) (by omega) hL3 dL_law_3299 ?_
  refine r_aload_n dL_law_3300 rfl ?_
  refine r_callSH4 cs_L_changesIn (rmL rfl (by show cs.1 + 2 ≤ _; omega) (by show cs.2 + 12 ≤ _; omega)) (Nat.le_of_ble_eq_true rfl) dL_law_3301 (c_L_changesIn hG w.1 cd2_le (c_X8_changesIn (hW := w.1) (hs := w.2.1.1) (hO := hp.1.1) (hb := hb9)) (fun _ e9 => e9.W w.1)) (fun v1 h1 q1 => ?_)
  obtain ⟨rfl, q2, q3⟩ := q1
  by_cases hz : cd2 (okP r (gX G (6 * j + 1))) (rgB 1 300 (gX G (6 * j + 2))) = 0
  · obtain ⟨h3, q4, rfl⟩ := q3 hz
    have hp2 := hp.nx
    have w1 := st_out (v := ((nI (qE (TN r (gX G (6 * j + 1)) (nn (gX G (6 * j + 2)))).1) - r.1 3)).toInt64) (st_eqx w hp q4 (fun i q => Or.inl q)) hp
    have ho : aJ (sJ h3 737 0 (((nI (qE (TN r (gX G (6 * j + 1)) (nn (gX G (6 * j + 2)))).1) - r.1 3)).toInt64)) 737 0 = ((nI (qE (TN r (gX G (6 * j + 1)) (nn (gX G (6 * j + 2)))).1) - r.1 3)).toInt64 := sJ_at0
    refine r_istore (ls2 := [some (.ref 0), some (.ref 1), some (.ref 723), some (.ref 737), some (.ref 738), some (.int (nI (6 * j))), some _, _, _]) dL_law_3304 (by decide) rfl ?_
    refine r_aload_n dL_law_3306 rfl ?_
    refine r_aload_n dL_law_3307 rfl ?_
    refine r_iload dL_law_3308 rfl ?_
    refine r_iconst (1) dL_law_3310 (by decide) ?_
    refine r_iadd dL_law_3311 ?_
    refine r_sld (k := 6 * j + 1) (nadd rfl kn_1) (by omega) hL3 dL_law_3312 ?_
    refine r_aload_n dL_law_3313 rfl ?_
    refine r_iload dL_law_3314 rfl ?_
    refine r_iconst (2) dL_law_3316 (by decide) ?_
    refine r_iadd dL_law_3317 ?_
    refine r_sld (k := 6 * j + 2) (nadd rfl kn_2) (by omega) hL3 dL_law_3318 ?_
    refine q_callT2 (cv_X9_changesIn ml_L_358) w1.1 kc_723 (by decide) rfl (rmL rfl (by show cs.1 + 2 + 0 ≤ _; omega) (by show cs.2 + 12 + 0 ≤ _; omega)) (Nat.le_of_ble_eq_true rfl) dL_law_3319 (c_X9_changesIn (hW := w1.1) (hm := w1.2.2.1) (hO := hp.1.1) (hm28 := (by omega)) (hb := hb9)) (fun v2 h2 ty2 p2 => ?_)
    obtain ⟨rfl, p3, p4⟩ := p2.2 hz
    have w2 := st_rt w1 hp p3 p4
    have ht : aI h2 723 12 = nI (cd2 (okP r (gX G (6 * j + 1))) (rgB 1 300 (gX G (6 * j + 2)))) := by rw [hz]; exact p3.2.1
    have ho2 : aJ h2 737 0 = _ := (congrFun (p3.1.J (show ¬ RTs 737 by unfold RTs; omega)) 0).trans ho
    refine r_istore (ls2 := [some (.ref 0), some (.ref 1), some (.ref 723), some (.ref 737), some (.ref 738), some (.int (nI (6 * j))), _, some _, _]) dL_law_3322 (by decide) rfl ?_
    refine r_aload_n dL_law_3324 rfl ?_
    refine q_callT0 (cv_X9_thrown ml_L_222) w2.1 kc_723 (by decide) rfl (rmL rfl (by show cs.1 + 2 + 0 + 0 ≤ _; omega) (by show cs.2 + 12 + 0 + 0 ≤ _; omega)) (Nat.le_of_ble_eq_true rfl) dL_law_3325 (c_X9_thrown w2.1) (fun v5 h5 _ q5 => ?_)
    obtain ⟨rfl, rfl⟩ := q5
    refine r_iload dL_law_3328 rfl ?_
    refine r_icmp_eq 3335 dL_law_3330 (by decide) (fun _ => ?_) (fun c9 => absurd ht c9)
    refine r_iload dL_law_3335 rfl ?_
    refine r_if_ne 3352 dL_law_3337 (by decide) (fun c9 => absurd (by rw [hz]; rfl) c9) (fun _ => ?_)
    refine r_aload_n dL_law_3340 rfl ?_
    refine r_iconst (0) dL_law_3341 (by decide) ?_
    refine q_lald (k := 0) w2.1 kc_737 kn_0 (by decide) (by decide) dL_law_3342 ?_
    rw [ho2]
    refine r_iload dL_law_3343 rfl ?_
    refine r_i2l dL_law_3345 ?_
    refine r_lcmp dL_law_3346 ?_
    refine r_if_eq 3352 dL_law_3347 (by decide) (fun _ => ?_) (fun c9 => absurd lg_cmp_s c9)
    refine r_goto 4127 dL_law_3352 (by decide) ?_
    exact kk _ _ _ _ _ _ _ _ _ _ _ _ _ _ w2 hp2 (by show cs.1 + 2 + 0 ≤ _; omega) (by show cs.2 + 12 + 0 ≤ _; omega)
  · obtain rfl := q2 hz
    have w1 := w
    refine r_istore (ls2 := [some (.ref 0), some (.ref 1), some (.ref 723), some (.ref 737), some (.ref 738), some (.int (nI (6 * j))), some _, _, _]) dL_law_3304 (by decide) rfl ?_
    refine r_aload_n dL_law_3306 rfl ?_
    refine r_aload_n dL_law_3307 rfl ?_
    refine r_iload dL_law_3308 rfl ?_
    refine r_iconst (1) dL_law_3310 (by decide) ?_
    refine r_iadd dL_law_3311 ?_
    refine r_sld (k := 6 * j + 1) (nadd rfl kn_1) (by omega) hL3 dL_law_3312 ?_
    refine r_aload_n dL_law_3313 rfl ?_
    refine r_iload dL_law_3314 rfl ?_
    refine r_iconst (2) dL_law_3316 (by decide) ?_
    refine r_iadd dL_law_3317 ?_
    refine r_sld (k := 6 * j + 2) (nadd rfl kn_2) (by omega) hL3 dL_law_3318 ?_
    refine q_callT2 (cv_X9_changesIn ml_L_358) w1.1 kc_723 (by decide) rfl (rmL rfl (by show cs.1 + 2 + 0 ≤ _; omega) (by show cs.2 + 12 + 0 ≤ _; omega)) (Nat.le_of_ble_eq_true rfl) dL_law_3319 (c_X9_changesIn (hW := w1.1) (hm := w1.2.2.1) (hO := hp.1.1) (hm28 := (by omega)) (hb := hb9)) (fun v2 h2 ty2 p2 => ?_)
    obtain ⟨y2, rfl⟩ : ∃ x, v2 = some (.int x) := ty2
    have p3 := p2.1 hz
    have w2 := st_rq w1 hp p3
    have ht := p3.2.1
    refine r_istore (ls2 := [some (.ref 0), some (.ref 1), some (.ref 723), some (.ref 737), some (.ref 738), some (.int (nI (6 * j))), _, some _, _]) dL_law_3322 (by decide) rfl ?_
    refine r_aload_n dL_law_3324 rfl ?_
    refine q_callT0 (cv_X9_thrown ml_L_222) w2.1 kc_723 (by decide) rfl (rmL rfl (by show cs.1 + 2 + 0 + 0 ≤ _; omega) (by show cs.2 + 12 + 0 + 0 ≤ _; omega)) (Nat.le_of_ble_eq_true rfl) dL_law_3325 (c_X9_thrown w2.1) (fun v5 h5 _ q5 => ?_)
    obtain ⟨rfl, rfl⟩ := q5
    refine r_iload dL_law_3328 rfl ?_
    refine r_icmp_eq 3335 dL_law_3330 (by decide) (fun _ => ?_) (fun c9 => absurd ht c9)
    refine r_iload dL_law_3335 rfl ?_
    refine r_if_ne 3352 dL_law_3337 (by decide) (fun _ => ?_) (fun c9 => absurd c9 (nI_nz hz (by have := (show cd2 (okP r (gX G (6 * j + 1))) (rgB 1 300 (gX G (6 * j + 2))) ≤ 4 from Nat.le_trans cd2_le (by decide)); omega)))
    refine r_goto 4127 dL_law_3352 (by decide) ?_
    exact kk _ _ _ _ _ _ _ _ _ _ _ _ _ _ w2 hp.nx (by show cs.1 + 2 + 0 ≤ _; omega) (by show cs.2 + 12 + 0 ≤ _; omega)
theorem cs_L_settlesIn : CStH RL 359 mL_settlesIn 4 := ⟨ml_L_359, (tgI 1429 (by decide +kernel) rfl), (tgI 98 (by decide +kernel) rfl), (tgI 1430 (by decide +kernel) rfl), ok_L_settlesIn⟩
set_option maxRecDepth 100000 in
set_option maxHeartbeats 4000000 in
theorem law_49 {l9 : Launch} {G : GC} {Fi : CX → State → Prop} {h : AH} {r s : Row} {L : List Row} {sv : Bool} {b : Nat → Int32} {n j : Nat} {o : Ob} {er eo : Int32} {l6 l7 l8 : Option Value} {cs : Nat × Nat} (hG : GOK G) (hj : 6 * j + 6 ≤ gL G) (hL3 : gL G ≤ 3072) (w : StL h r L r L s sv b n o er eo) (hp : LvP r L s sv b n (300 * j)) (hc1 : cs.1 ≤ 800 + 60 * j) (hc2 : cs.2 ≤ 40000 + 400 * j) (kk : LNx l9 G Fi j) : PW l9 G mL_law room_1 Fi NT 3355 [some (.ref 0), some (.ref 1), some (.ref 723), some (.ref 737), some (.ref 738), some (.int (nI (6 * j))), l6, l7, l8] [] cs h := by
  have hb9 : 300 * j + 300 < 2 ^ 23 := by omega
  refine r_aload_n dL_law_3355 rfl ?_
  refine r_aload_n dL_law_3356 rfl ?_
  refine r_iload dL_law_3357 rfl ?_
  refine r_iconst (1) dL_law_3359 (by decide) ?_
  refine r_iadd dL_law_3360 ?_
  refine r_sld (k := 6 * j + 1) (nadd rfl kn_1) (by omega) hL3 dL_law_3361 ?_
  refine r_aload_n dL_law_3362 rfl ?_
  refine r_iload dL_law_3363 rfl ?_
  refine r_iconst (2) dL_law_3365 (by decide) ?_
  refine r_iadd dL_law_3366 ?_
  refine r_sld (k := 6 * j + 2) (nadd rfl kn_2) (by omega) hL3 dL_law_3367 ?_
  refine r_aload_n dL_law_3368 rfl ?_
  refine r_callSH4 cs_L_settlesIn (rmL rfl (by show cs.1 + 2 ≤ _; omega) (by show cs.2 + 12 ≤ _; omega)) (Nat.le_of_ble_eq_true rfl) dL_law_3369 (c_L_settlesIn hG w.1 cd2_le (c_X8_settlesIn (hW := w.1) (hs := w.2.1.1) (hO := hp.1.1) (hb := hb9)) (fun _ e9 => e9.W w.1)) (fun v1 h1 q1 => ?_)
  obtain ⟨rfl, q2, q3⟩ := q1
  by_cases hz : cd2 (okP r (gX G (6 * j + 1))) (rgB 1 300 (gX G (6 * j + 2))) = 0
  · obtain ⟨h3, q4, rfl⟩ := q3 hz
    have hp2 := hp.nx
    have w1 := st_out (v := ((f1A (fi (stB r (gX G (6 * j + 1))) (nn (gX G (6 * j + 2)))))).toInt64) (st_eqx w hp q4 (fun i q => Or.inl q)) hp
    have ho : aJ (sJ h3 737 0 (((f1A (fi (stB r (gX G (6 * j + 1))) (nn (gX G (6 * j + 2)))))).toInt64)) 737 0 = ((f1A (fi (stB r (gX G (6 * j + 1))) (nn (gX G (6 * j + 2)))))).toInt64 := sJ_at0
    refine r_istore (ls2 := [some (.ref 0), some (.ref 1), some (.ref 723), some (.ref 737), some (.ref 738), some (.int (nI (6 * j))), some _, _, _]) dL_law_3372 (by decide) rfl ?_
    refine r_aload_n dL_law_3374 rfl ?_
    refine r_aload_n dL_law_3375 rfl ?_
    refine r_iload dL_law_3376 rfl ?_
    refine r_iconst (1) dL_law_3378 (by decide) ?_
    refine r_iadd dL_law_3379 ?_
    refine r_sld (k := 6 * j + 1) (nadd rfl kn_1) (by omega) hL3 dL_law_3380 ?_
    refine r_aload_n dL_law_3381 rfl ?_
    refine r_iload dL_law_3382 rfl ?_
    refine r_iconst (2) dL_law_3384 (by decide) ?_
    refine r_iadd dL_law_3385 ?_
    refine r_sld (k := 6 * j + 2) (nadd rfl kn_2) (by omega) hL3 dL_law_3386 ?_
    refine q_callT2 (cv_X9_settlesIn ml_L_361) w1.1 kc_723 (by decide) rfl (rmL rfl (by show cs.1 + 2 + 0 ≤ _; omega) (by show cs.2 + 12 + 0 ≤ _; omega)) (Nat.le_of_ble_eq_true rfl) dL_law_3387 (c_X9_settlesIn (hW := w1.1) (hm := w1.2.2.1) (hO := hp.1.1) (hm28 := (by omega)) (hb := hb9)) (fun v2 h2 ty2 p2 => ?_)
    obtain ⟨rfl, p3, p4⟩ := p2.2 hz
    have w2 := st_rt w1 hp p3 p4
    have ht : aI h2 723 12 = nI (cd2 (okP r (gX G (6 * j + 1))) (rgB 1 300 (gX G (6 * j + 2)))) := by rw [hz]; exact p3.2.1
    have ho2 : aJ h2 737 0 = _ := (congrFun (p3.1.J (show ¬ RTs 737 by unfold RTs; omega)) 0).trans ho
    refine r_istore (ls2 := [some (.ref 0), some (.ref 1), some (.ref 723), some (.ref 737), some (.ref 738), some (.int (nI (6 * j))), _, some _, _]) dL_law_3390 (by decide) rfl ?_
    refine r_aload_n dL_law_3392 rfl ?_
    refine q_callT0 (cv_X9_thrown ml_L_222) w2.1 kc_723 (by decide) rfl (rmL rfl (by show cs.1 + 2 + 0 + 0 ≤ _; omega) (by show cs.2 + 12 + 0 + 0 ≤ _; omega)) (Nat.le_of_ble_eq_true rfl) dL_law_3393 (c_X9_thrown w2.1) (fun v5 h5 _ q5 => ?_)
    obtain ⟨rfl, rfl⟩ := q5
    refine r_iload dL_law_3396 rfl ?_
    refine r_icmp_eq 3403 dL_law_3398 (by decide) (fun _ => ?_) (fun c9 => absurd ht c9)
    refine r_iload dL_law_3403 rfl ?_
    refine r_if_ne 3420 dL_law_3405 (by decide) (fun c9 => absurd (by rw [hz]; rfl) c9) (fun _ => ?_)
    refine r_aload_n dL_law_3408 rfl ?_
    refine r_iconst (0) dL_law_3409 (by decide) ?_
    refine q_lald (k := 0) w2.1 kc_737 kn_0 (by decide) (by decide) dL_law_3410 ?_
    rw [ho2]
    refine r_iload dL_law_3411 rfl ?_
    refine r_i2l dL_law_3413 ?_
    refine r_lcmp dL_law_3414 ?_
    refine r_if_eq 3420 dL_law_3415 (by decide) (fun _ => ?_) (fun c9 => absurd lg_cmp_s c9)
    refine r_goto 4127 dL_law_3420 (by decide) ?_
    exact kk _ _ _ _ _ _ _ _ _ _ _ _ _ _ w2 hp2 (by show cs.1 + 2 + 0 ≤ _; omega) (by show cs.2 + 12 + 0 ≤ _; omega)
  · obtain rfl := q2 hz
    have w1 := w
    refine r_istore (ls2 := [some (.ref 0), some (.ref 1), some (.ref 723), some (.ref 737), some (.ref 738), some (.int (nI (6 * j))), some _, _, _]) dL_law_3372 (by decide) rfl ?_
    refine r_aload_n dL_law_3374 rfl ?_
    refine r_aload_n dL_law_3375 rfl ?_
    refine r_iload dL_law_3376 rfl ?_
    refine r_iconst (1) dL_law_3378 (by decide) ?_
    refine r_iadd dL_law_3379 ?_
    refine r_sld (k := 6 * j + 1) (nadd rfl kn_1) (by omega) hL3 dL_law_3380 ?_
    refine r_aload_n dL_law_3381 rfl ?_
    refine r_iload dL_law_3382 rfl ?_
    refine r_iconst (2) dL_law_3384 (by decide) ?_
    refine r_iadd dL_law_3385 ?_
    refine r_sld (k := 6 * j + 2) (nadd rfl kn_2) (by omega) hL3 dL_law_3386 ?_
    refine q_callT2 (cv_X9_settlesIn ml_L_361) w1.1 kc_723 (by decide) rfl (rmL rfl (by show cs.1 + 2 + 0 ≤ _; omega) (by show cs.2 + 12 + 0 ≤ _; omega)) (Nat.le_of_ble_eq_true rfl) dL_law_3387 (c_X9_settlesIn (hW := w1.1) (hm := w1.2.2.1) (hO := hp.1.1) (hm28 := (by omega)) (hb := hb9)) (fun v2 h2 ty2 p2 => ?_)
    obtain ⟨y2, rfl⟩ : ∃ x, v2 = some (.int x) := ty2
    have p3 := p2.1 hz
    have w2 := st_rq w1 hp p3
    have ht := p3.2.1
    refine r_istore (ls2 := [some (.ref 0), some (.ref 1), some (.ref 723), some (.ref 737), some (.ref 738), some (.int (nI (6 * j))), _, some _, _]) dL_law_3390 (by decide) rfl ?_
    refine r_aload_n dL_law_3392 rfl ?_
    refine q_callT0 (cv_X9_thrown ml_L_222) w2.1 kc_723 (by decide) rfl (rmL rfl (by show cs.1 + 2 + 0 + 0 ≤ _; omega) (by show cs.2 + 12 + 0 + 0 ≤ _; omega)) (Nat.le_of_ble_eq_true rfl) dL_law_3393 (c_X9_thrown w2.1) (fun v5 h5 _ q5 => ?_)
    obtain ⟨rfl, rfl⟩ := q5
    refine r_iload dL_law_3396 rfl ?_
    refine r_icmp_eq 3403 dL_law_3398 (by decide) (fun _ => ?_) (fun c9 => absurd ht c9)
    refine r_iload dL_law_3403 rfl ?_
    refine r_if_ne 3420 dL_law_3405 (by decide) (fun _ => ?_) (fun c9 => absurd c9 (nI_nz hz (by have := (show cd2 (okP r (gX G (6 * j + 1))) (rgB 1 300 (gX G (6 * j + 2))) ≤ 4 from Nat.le_trans cd2_le (by decide)); omega)))
    refine r_goto 4127 dL_law_3420 (by decide) ?_
    exact kk _ _ _ _ _ _ _ _ _ _ _ _ _ _ w2 hp.nx (by show cs.1 + 2 + 0 ≤ _; omega) (by show cs.2 + 12 + 0 ≤ _; omega)
theorem cs_L_bestCool : CStH RL 362 mL_bestCool 4 := ⟨ml_L_362, (tgI 1436 (by decide +kernel) rfl), (tgI 98 (by decide +kernel) rfl), (tgI 1437 (by decide +kernel) rfl), ok_L_bestCool⟩
set_option maxRecDepth 100000 in
set_option maxHeartbeats 4000000 in
theorem law_50 {l9 : Launch} {G : GC} {Fi : CX → State → Prop} {h : AH} {r s : Row} {L : List Row} {sv : Bool} {b : Nat → Int32} {n j : Nat} {o : Ob} {er eo : Int32} {l6 l7 l8 : Option Value} {cs : Nat × Nat} (hG : GOK G) (hj : 6 * j + 6 ≤ gL G) (hL3 : gL G ≤ 3072) (w : StL h r L r L s sv b n o er eo) (hp : LvP r L s sv b n (300 * j)) (hc1 : cs.1 ≤ 800 + 60 * j) (hc2 : cs.2 ≤ 40000 + 400 * j) (kk : LNx l9 G Fi j) : PW l9 G mL_law room_1 Fi NT 3423 [some (.ref 0), some (.ref 1), some (.ref 723), some (.ref 737), some (.ref 738), some (.int (nI (6 * j))), l6, l7, l8] [] cs h := by
  have hb9 : 300 * j + 300 < 2 ^ 23 := by omega
  refine r_aload_n dL_law_3423 rfl ?_
  refine r_aload_n dL_law_3424 rfl ?_
  refine r_iload dL_law_3425 rfl ?_
  refine r_iconst (1) dL_law_3427 (by decide) ?_
  refine r_iadd dL_law_3428 ?_
  refine r_sld (k := 6 * j + 1) (nadd rfl kn_1) (by omega) hL3 dL_law_3429 ?_
  refine r_aload_n dL_law_3430 rfl ?_
  refine r_iload dL_law_3431 rfl ?_
  refine r_iconst (2) dL_law_3433 (by decide) ?_
  refine r_iadd dL_law_3434 ?_
  refine r_sld (k := 6 * j + 2) (nadd rfl kn_2) (by omega) hL3 dL_law_3435 ?_
  refine r_aload_n dL_law_3436 rfl ?_
  refine r_callSH4 cs_L_bestCool (rmL rfl (by show cs.1 + 14 ≤ _; omega) (by show cs.2 + 84 ≤ _; omega)) (Nat.le_of_ble_eq_true rfl) dL_law_3437 (c_L_bestCool hG w.1 cd2_le (c_X8_bestCool (hW := w.1) (hs := w.2.1.1) (hO := hp.1.1) (hb := hb9)) (fun _ e9 => e9.W w.1)) (fun v1 h1 q1 => ?_)
  obtain ⟨rfl, q2, q3⟩ := q1
  by_cases hz : cd2 (okP r (gX G (6 * j + 1))) (rgB 1 300 (gX G (6 * j + 2))) = 0
  · obtain ⟨h3, q4, rfl⟩ := q3 hz
    have hp2 := hp.nx
    have w1 := st_out (v := ((boCool_7 r (gX G (6 * j + 1)) (nn (gX G (6 * j + 2)))).1).toInt64) (st_eqx w hp q4 (fun i q => Or.inl q)) hp
    have ho : aJ (sJ h3 737 0 (((boCool_7 r (gX G (6 * j + 1)) (nn (gX G (6 * j + 2)))).1).toInt64)) 737 0 = ((boCool_7 r (gX G (6 * j + 1)) (nn (gX G (6 * j + 2)))).1).toInt64 := sJ_at0
    refine r_istore (ls2 := [some (.ref 0), some (.ref 1), some (.ref 723), some (.ref 737), some (.ref 738), some (.int (nI (6 * j))), some _, _, _]) dL_law_3440 (by decide) rfl ?_
    refine r_aload_n dL_law_3442 rfl ?_
    refine r_aload_n dL_law_3443 rfl ?_
    refine r_iload dL_law_3444 rfl ?_
    refine r_iconst (1) dL_law_3446 (by decide) ?_
    refine r_iadd dL_law_3447 ?_
    refine r_sld (k := 6 * j + 1) (nadd rfl kn_1) (by omega) hL3 dL_law_3448 ?_
    refine r_aload_n dL_law_3449 rfl ?_
    refine r_iload dL_law_3450 rfl ?_
    refine r_iconst (2) dL_law_3452 (by decide) ?_
    refine r_iadd dL_law_3453 ?_
    refine r_sld (k := 6 * j + 2) (nadd rfl kn_2) (by omega) hL3 dL_law_3454 ?_
    refine q_callT2 (cv_X9_bestCool ml_L_364) w1.1 kc_723 (by decide) rfl (rmL rfl (by show cs.1 + 14 + 0 ≤ _; omega) (by show cs.2 + 84 + 0 ≤ _; omega)) (Nat.le_of_ble_eq_true rfl) dL_law_3455 (c_X9_bestCool (hW := w1.1) (hm := w1.2.2.1) (hO := hp.1.1) (hm28 := (by omega)) (hb := hb9)) (fun v2 h2 ty2 p2 => ?_)
    obtain ⟨rfl, p3, p4⟩ := p2.2 hz
    have w2 := st_rt w1 hp p3 p4
    have ht : aI h2 723 12 = nI (cd2 (okP r (gX G (6 * j + 1))) (rgB 1 300 (gX G (6 * j + 2)))) := by rw [hz]; exact p3.2.1
    have ho2 : aJ h2 737 0 = _ := (congrFun (p3.1.J (show ¬ RTs 737 by unfold RTs; omega)) 0).trans ho
    refine r_istore (ls2 := [some (.ref 0), some (.ref 1), some (.ref 723), some (.ref 737), some (.ref 738), some (.int (nI (6 * j))), _, some _, _]) dL_law_3458 (by decide) rfl ?_
    refine r_aload_n dL_law_3460 rfl ?_
    refine q_callT0 (cv_X9_thrown ml_L_222) w2.1 kc_723 (by decide) rfl (rmL rfl (by show cs.1 + 14 + 0 + 0 ≤ _; omega) (by show cs.2 + 84 + 0 + 0 ≤ _; omega)) (Nat.le_of_ble_eq_true rfl) dL_law_3461 (c_X9_thrown w2.1) (fun v5 h5 _ q5 => ?_)
    obtain ⟨rfl, rfl⟩ := q5
    refine r_iload dL_law_3464 rfl ?_
    refine r_icmp_eq 3471 dL_law_3466 (by decide) (fun _ => ?_) (fun c9 => absurd ht c9)
    refine r_iload dL_law_3471 rfl ?_
    refine r_if_ne 3488 dL_law_3473 (by decide) (fun c9 => absurd (by rw [hz]; rfl) c9) (fun _ => ?_)
    refine r_aload_n dL_law_3476 rfl ?_
    refine r_iconst (0) dL_law_3477 (by decide) ?_
    refine q_lald (k := 0) w2.1 kc_737 kn_0 (by decide) (by decide) dL_law_3478 ?_
    rw [ho2]
    refine r_iload dL_law_3479 rfl ?_
    refine r_i2l dL_law_3481 ?_
    refine r_lcmp dL_law_3482 ?_
    refine r_if_eq 3488 dL_law_3483 (by decide) (fun _ => ?_) (fun c9 => absurd lg_cmp_s c9)
    refine r_goto 4127 dL_law_3488 (by decide) ?_
    exact kk _ _ _ _ _ _ _ _ _ _ _ _ _ _ w2 hp2 (by show cs.1 + 14 + 0 ≤ _; omega) (by show cs.2 + 84 + 0 ≤ _; omega)
  · obtain rfl := q2 hz
    have w1 := w
    refine r_istore (ls2 := [some (.ref 0), some (.ref 1), some (.ref 723), some (.ref 737), some (.ref 738), some (.int (nI (6 * j))), some _, _, _]) dL_law_3440 (by decide) rfl ?_
    refine r_aload_n dL_law_3442 rfl ?_
    refine r_aload_n dL_law_3443 rfl ?_
    refine r_iload dL_law_3444 rfl ?_
    refine r_iconst (1) dL_law_3446 (by decide) ?_
    refine r_iadd dL_law_3447 ?_
    refine r_sld (k := 6 * j + 1) (nadd rfl kn_1) (by omega) hL3 dL_law_3448 ?_
    refine r_aload_n dL_law_3449 rfl ?_
    refine r_iload dL_law_3450 rfl ?_
    refine r_iconst (2) dL_law_3452 (by decide) ?_
    refine r_iadd dL_law_3453 ?_
    refine r_sld (k := 6 * j + 2) (nadd rfl kn_2) (by omega) hL3 dL_law_3454 ?_
    refine q_callT2 (cv_X9_bestCool ml_L_364) w1.1 kc_723 (by decide) rfl (rmL rfl (by show cs.1 + 14 + 0 ≤ _; omega) (by show cs.2 + 84 + 0 ≤ _; omega)) (Nat.le_of_ble_eq_true rfl) dL_law_3455 (c_X9_bestCool (hW := w1.1) (hm := w1.2.2.1) (hO := hp.1.1) (hm28 := (by omega)) (hb := hb9)) (fun v2 h2 ty2 p2 => ?_)
    obtain ⟨y2, rfl⟩ : ∃ x, v2 = some (.int x) := ty2
    have p3 := p2.1 hz
    have w2 := st_rq w1 hp p3
    have ht := p3.2.1
    refine r_istore (ls2 := [some (.ref 0), some (.ref 1), some (.ref 723), some (.ref 737), some (.ref 738), some (.int (nI (6 * j))), _, some _, _]) dL_law_3458 (by decide) rfl ?_
    refine r_aload_n dL_law_3460 rfl ?_
    refine q_callT0 (cv_X9_thrown ml_L_222) w2.1 kc_723 (by decide) rfl (rmL rfl (by show cs.1 + 14 + 0 + 0 ≤ _; omega) (by show cs.2 + 84 + 0 + 0 ≤ _; omega)) (Nat.le_of_ble_eq_true rfl) dL_law_3461 (c_X9_thrown w2.1) (fun v5 h5 _ q5 => ?_)
    obtain ⟨rfl, rfl⟩ := q5
    refine r_iload dL_law_3464 rfl ?_
    refine r_icmp_eq 3471 dL_law_3466 (by decide) (fun _ => ?_) (fun c9 => absurd ht c9)
    refine r_iload dL_law_3471 rfl ?_
    refine r_if_ne 3488 dL_law_3473 (by decide) (fun _ => ?_) (fun c9 => absurd c9 (nI_nz hz (by have := (show cd2 (okP r (gX G (6 * j + 1))) (rgB 1 300 (gX G (6 * j + 2))) ≤ 4 from Nat.le_trans cd2_le (by decide)); omega)))
    refine r_goto 4127 dL_law_3488 (by decide) ?_
    exact kk _ _ _ _ _ _ _ _ _ _ _ _ _ _ w2 hp.nx (by show cs.1 + 14 + 0 ≤ _; omega) (by show cs.2 + 84 + 0 ≤ _; omega)
theorem cs_L_meanAge : CStH RL 365 mL_meanAge 3 := ⟨ml_L_365, (tgI 1443 (by decide +kernel) rfl), (tgI 98 (by decide +kernel) rfl), (tgI 1444 (by decide +kernel) rfl), ok_L_meanAge⟩
set_option maxRecDepth 100000 in
set_option maxHeartbeats 4000000 in
theorem law_51 {l9 : Launch} {G : GC} {Fi : CX → State → Prop} {h : AH} {r s : Row} {L : List Row} {sv : Bool} {b : Nat → Int32} {n j : Nat} {o : Ob} {er eo : Int32} {l6 l7 l8 : Option Value} {cs : Nat × Nat} (hG : GOK G) (hj : 6 * j + 6 ≤ gL G) (hL3 : gL G ≤ 3072) (w : StL h r L r L s sv b n o er eo) (hp : LvP r L s sv b n (300 * j)) (hc1 : cs.1 ≤ 800 + 60 * j) (hc2 : cs.2 ≤ 40000 + 400 * j) (kk : LNx l9 G Fi j) : PW l9 G mL_law room_1 Fi NT 3491 [some (.ref 0), some (.ref 1), some (.ref 723), some (.ref 737), some (.ref 738), some (.int (nI (6 * j))), l6, l7, l8] [] cs h := by
  have hb9 : 300 * j + 300 < 2 ^ 23 := by omega
  refine r_aload_n dL_law_3491 rfl ?_
  refine r_aload_n dL_law_3492 rfl ?_
  refine r_iload dL_law_3493 rfl ?_
  refine r_iconst (1) dL_law_3495 (by decide) ?_
  refine r_iadd dL_law_3496 ?_
  refine r_sld (k := 6 * j + 1) (nadd rfl kn_1) (by omega) hL3 dL_law_3497 ?_
  refine r_aload dL_law_3498 rfl ?_
  refine r_callSH3 cs_L_meanAge (rmL rfl (by show cs.1 + 1 ≤ _; omega) (by show cs.2 + 6 ≤ _; omega)) (Nat.le_of_ble_eq_true rfl) dL_law_3500 (c_L_meanAge hG w.1 cd1_le (c_X8_meanAge (hW := w.1) (hs := w.2.1.1) (hO := hp.1.1)) (fun _ e9 => by rw [e9]; exact w.1)) (fun v1 h1 q1 => ?_)
  obtain ⟨rfl, q2, q3⟩ := q1
  by_cases hz : cd1 (okP r (gX G (6 * j + 1))) = 0
  · obtain ⟨h3, q4, rfl⟩ := q3 hz
    obtain rfl := q4
    have hp2 := hp.nx
    have w1 := st_outD (v := (mAge (fP r (gX G (6 * j + 1))) (r.1 1))) w
    have ho2 : ∀ {H : AH}, aD (sI (sD H 738 0 ((mAge (fP r (gX G (6 * j + 1))) (r.1 1)))) 723 12 (nI (cd1 (okP r (gX G (6 * j + 1)))))) 738 0 = (mAge (fP r (gX G (6 * j + 1))) (r.1 1)) := sD_at0
    refine r_istore (ls2 := [some (.ref 0), some (.ref 1), some (.ref 723), some (.ref 737), some (.ref 738), some (.int (nI (6 * j))), some _, _, _]) dL_law_3503 (by decide) rfl ?_
    refine r_aload_n dL_law_3505 rfl ?_
    refine r_aload_n dL_law_3506 rfl ?_
    refine r_iload dL_law_3507 rfl ?_
    refine r_iconst (1) dL_law_3509 (by decide) ?_
    refine r_iadd dL_law_3510 ?_
    refine r_sld (k := 6 * j + 1) (nadd rfl kn_1) (by omega) hL3 dL_law_3511 ?_
    refine q_callT1 (cv_X9_meanAge ml_L_367) w1.1 kc_723 (by decide) rfl (rmL rfl (by show cs.1 + 1 + 0 ≤ _; omega) (by show cs.2 + 6 + 0 ≤ _; omega)) (Nat.le_of_ble_eq_true rfl) dL_law_3512 (c_X9_meanAge (hW := w1.1) (hm := w1.2.2.1) (hO := hp.1.1) (hm28 := (by omega)) (hC := (fun p h9 k hk => ((hp.1.2 p h9).1 k hk).2)) (hm26 := (by omega))) (fun v2 h2 ty2 p2 => ?_)
    obtain ⟨rfl, p3⟩ := p2
    obtain rfl := p3 hz
    have w2 := st_si (c := cd1 (okP r (gX G (6 * j + 1)))) w1 hp
    have ht : ∀ {H : AH}, aI (sI H 723 12 (nI (cd1 (okP r (gX G (6 * j + 1)))))) 723 12 = nI (cd1 (okP r (gX G (6 * j + 1)))) := sI_s
    refine r_dstore (ls2 := [some (.ref 0), some (.ref 1), some (.ref 723), some (.ref 737), some (.ref 738), some (.int (nI (6 * j))), _, some _, none]) dL_law_3515 (by decide) rfl ?_
    refine r_aload_n dL_law_3517 rfl ?_
    refine q_callT0 (cv_X9_thrown ml_L_222) w2.1 kc_723 (by decide) rfl (rmL rfl (by show cs.1 + 1 + 0 + 0 ≤ _; omega) (by show cs.2 + 6 + 0 + 0 ≤ _; omega)) (Nat.le_of_ble_eq_true rfl) dL_law_3518 (c_X9_thrown w2.1) (fun v5 h5 _ q5 => ?_)
    obtain ⟨rfl, rfl⟩ := q5
    refine r_iload dL_law_3521 rfl ?_
    refine r_icmp_eq 3528 dL_law_3523 (by decide) (fun _ => ?_) (fun c9 => absurd ht c9)
    refine r_iload dL_law_3528 rfl ?_
    refine r_if_ne 3565 dL_law_3530 (by decide) (fun c9 => absurd (by rw [hz]; rfl) c9) (fun _ => ?_)
    refine r_aload dL_law_3533 rfl ?_
    refine r_iconst (0) dL_law_3535 (by decide) ?_
    refine q_dald (k := 0) w2.1 kc_738 kn_0 (by decide) (by decide) dL_law_3536 ?_
    rw [ho2]
    refine r_dload dL_law_3537 rfl ?_
    refine r_dcmp dL_law_3539 ?_
    refine r_if_eq 3565 dL_law_3540 (by decide) (fun c0 => ?_) (fun c0 => ?_)
    · skip
      refine r_goto 4127 dL_law_3565 (by decide) ?_
      exact kk _ _ _ _ _ _ _ _ _ _ _ _ _ _ w2 hp2 (by show cs.1 + 1 + 0 ≤ _; omega) (by show cs.2 + 6 + 0 ≤ _; omega)
    · skip
      refine r_aload dL_law_3543 rfl ?_
      refine r_iconst (0) dL_law_3545 (by decide) ?_
      refine q_dald (k := 0) w2.1 kc_738 kn_0 (by decide) (by decide) dL_law_3546 ?_
      rw [ho2]
      refine r_aload dL_law_3547 rfl ?_
      refine r_iconst (0) dL_law_3549 (by decide) ?_
      refine q_dald (k := 0) w2.1 kc_738 kn_0 (by decide) (by decide) dL_law_3550 ?_
      rw [ho2]
      refine r_dcmp dL_law_3551 ?_
      refine r_if_eq 3563 dL_law_3552 (by decide) (fun c9 => absurd c9 c0) (fun _ => ?_)
      refine r_dload dL_law_3555 rfl ?_
      refine r_dload dL_law_3557 rfl ?_
      refine r_dcmp dL_law_3559 ?_
      refine r_if_ne 3565 dL_law_3560 (by decide) (fun _ => ?_) (fun c9 => absurd c9 c0)
      refine r_goto 4127 dL_law_3565 (by decide) ?_
      exact kk _ _ _ _ _ _ _ _ _ _ _ _ _ _ w2 hp2 (by show cs.1 + 1 + 0 ≤ _; omega) (by show cs.2 + 6 + 0 ≤ _; omega)
  · obtain rfl := q2 hz
    have w1 := w
    refine r_istore (ls2 := [some (.ref 0), some (.ref 1), some (.ref 723), some (.ref 737), some (.ref 738), some (.int (nI (6 * j))), some _, _, _]) dL_law_3503 (by decide) rfl ?_
    refine r_aload_n dL_law_3505 rfl ?_
    refine r_aload_n dL_law_3506 rfl ?_
    refine r_iload dL_law_3507 rfl ?_
    refine r_iconst (1) dL_law_3509 (by decide) ?_
    refine r_iadd dL_law_3510 ?_
    refine r_sld (k := 6 * j + 1) (nadd rfl kn_1) (by omega) hL3 dL_law_3511 ?_
    refine q_callT1 (cv_X9_meanAge ml_L_367) w1.1 kc_723 (by decide) rfl (rmL rfl (by show cs.1 + 1 + 0 ≤ _; omega) (by show cs.2 + 6 + 0 ≤ _; omega)) (Nat.le_of_ble_eq_true rfl) dL_law_3512 (c_X9_meanAge (hW := w1.1) (hm := w1.2.2.1) (hO := hp.1.1) (hm28 := (by omega)) (hC := (fun p h9 k hk => ((hp.1.2 p h9).1 k hk).2)) (hm26 := (by omega))) (fun v2 h2 ty2 p2 => ?_)
    obtain ⟨y2, rfl⟩ : ∃ x, v2 = some (.double x) := ty2
    obtain ⟨rfl, -⟩ := p2
    have w2 := st_si (c := cd1 (okP r (gX G (6 * j + 1)))) w1 hp
    have ht : ∀ {H : AH}, aI (sI H 723 12 (nI (cd1 (okP r (gX G (6 * j + 1)))))) 723 12 = nI (cd1 (okP r (gX G (6 * j + 1)))) := sI_s
    refine r_dstore (ls2 := [some (.ref 0), some (.ref 1), some (.ref 723), some (.ref 737), some (.ref 738), some (.int (nI (6 * j))), _, some _, none]) dL_law_3515 (by decide) rfl ?_
    refine r_aload_n dL_law_3517 rfl ?_
    refine q_callT0 (cv_X9_thrown ml_L_222) w2.1 kc_723 (by decide) rfl (rmL rfl (by show cs.1 + 1 + 0 + 0 ≤ _; omega) (by show cs.2 + 6 + 0 + 0 ≤ _; omega)) (Nat.le_of_ble_eq_true rfl) dL_law_3518 (c_X9_thrown w2.1) (fun v5 h5 _ q5 => ?_)
    obtain ⟨rfl, rfl⟩ := q5
    refine r_iload dL_law_3521 rfl ?_
    refine r_icmp_eq 3528 dL_law_3523 (by decide) (fun _ => ?_) (fun c9 => absurd ht c9)
    refine r_iload dL_law_3528 rfl ?_
    refine r_if_ne 3565 dL_law_3530 (by decide) (fun _ => ?_) (fun c9 => absurd c9 (nI_nz hz (by have := (show cd1 (okP r (gX G (6 * j + 1))) ≤ 4 from Nat.le_trans cd1_le (by decide)); omega)))
    refine r_goto 4127 dL_law_3565 (by decide) ?_
    exact kk _ _ _ _ _ _ _ _ _ _ _ _ _ _ w2 hp.nx (by show cs.1 + 1 + 0 ≤ _; omega) (by show cs.2 + 6 + 0 ≤ _; omega)
theorem cs_L_dropCold : CStH RL 368 mL_dropCold 3 := ⟨ml_L_368, (tgI 1454 (by decide +kernel) rfl), (tgI 98 (by decide +kernel) rfl), (tgI 1455 (by decide +kernel) rfl), ok_L_dropCold⟩
set_option maxRecDepth 100000 in
set_option maxHeartbeats 4000000 in
theorem law_52 {l9 : Launch} {G : GC} {Fi : CX → State → Prop} {h : AH} {r s : Row} {L : List Row} {sv : Bool} {b : Nat → Int32} {n j : Nat} {o : Ob} {er eo : Int32} {l6 l7 l8 : Option Value} {cs : Nat × Nat} (hG : GOK G) (hj : 6 * j + 6 ≤ gL G) (hL3 : gL G ≤ 3072) (w : StL h r L r L s sv b n o er eo) (hp : LvP r L s sv b n (300 * j)) (hc1 : cs.1 ≤ 800 + 60 * j) (hc2 : cs.2 ≤ 40000 + 400 * j) (kk : LNx l9 G Fi j) : PW l9 G mL_law room_1 Fi NT 3568 [some (.ref 0), some (.ref 1), some (.ref 723), some (.ref 737), some (.ref 738), some (.int (nI (6 * j))), l6, l7, l8] [] cs h := by
  have hb9 : 300 * j + 300 < 2 ^ 23 := by omega
  refine r_aload_n dL_law_3568 rfl ?_
  refine r_aload_n dL_law_3569 rfl ?_
  refine r_iload dL_law_3570 rfl ?_
  refine r_iconst (1) dL_law_3572 (by decide) ?_
  refine r_iadd dL_law_3573 ?_
  refine r_sld (k := 6 * j + 1) (nadd rfl kn_1) (by omega) hL3 dL_law_3574 ?_
  refine r_aload_n dL_law_3575 rfl ?_
  refine r_callSH3 cs_L_dropCold (rmL rfl (by show cs.1 + 1 ≤ _; omega) (by show cs.2 + 6 ≤ _; omega)) (Nat.le_of_ble_eq_true rfl) dL_law_3576 (c_L_dropCold hG w.1 cd1_le (c_X8_dropCold (hW := w.1) (hs := w.2.1.1) (hO := hp.1.1) (hL := w.2.1.2.1) (hLO := hp.ls) (hb := hb9)) (fun _ e9 => e9.1.1.1)) (fun v1 h1 q1 => ?_)
  obtain ⟨rfl, q2, q3⟩ := q1
  by_cases hz : cd1 (okP r (gX G (6 * j + 1))) = 0
  · obtain ⟨h3, q4, rfl⟩ := q3 hz
    have hp2 := hp.push w.2.1.2.1.2.1 (m' := 300 * (j + 1)) ((ok2_dc hp.1 hz hb9).wk (by omega)) (by omega)
    have w1 := st_out (v := ((getP r.1 (nn (gX G (6 * j + 1))) 23 - getP (dcR r (nn (gX G (6 * j + 1)))).1 (nn (gX G (6 * j + 1))) 23)).toInt64) (st_cc w hp q4.1 q4.2.1 q4.2.2) hp2
    have ho : aJ (sJ h3 737 0 (((getP r.1 (nn (gX G (6 * j + 1))) 23 - getP (dcR r (nn (gX G (6 * j + 1)))).1 (nn (gX G (6 * j + 1))) 23)).toInt64)) 737 0 = ((getP r.1 (nn (gX G (6 * j + 1))) 23 - getP (dcR r (nn (gX G (6 * j + 1)))).1 (nn (gX G (6 * j + 1))) 23)).toInt64 := sJ_at0
    refine r_istore (ls2 := [some (.ref 0), some (.ref 1), some (.ref 723), some (.ref 737), some (.ref 738), some (.int (nI (6 * j))), some _, _, _]) dL_law_3579 (by decide) rfl ?_
    refine r_aload_n dL_law_3581 rfl ?_
    refine r_aload_n dL_law_3582 rfl ?_
    refine r_iload dL_law_3583 rfl ?_
    refine r_iconst (1) dL_law_3585 (by decide) ?_
    refine r_iadd dL_law_3586 ?_
    refine r_sld (k := 6 * j + 1) (nadd rfl kn_1) (by omega) hL3 dL_law_3587 ?_
    refine q_callT1 (cv_X9_dropCold ml_L_370) w1.1 kc_723 (by decide) rfl (rmL rfl (by show cs.1 + 1 + 0 ≤ _; omega) (by show cs.2 + 6 + 0 ≤ _; omega)) (Nat.le_of_ble_eq_true rfl) dL_law_3588 (c_X9_dropCold (hW := w1.1) (hm := w1.2.2.1) (hO := hp.1.1) (hm28 := (by omega)) (hL := w1.2.2.2.1) (hb := hb9)) (fun v2 h2 ty2 p2 => ?_)
    obtain ⟨rfl, p3, p4, p5⟩ := p2.2 hz
    have w2 := st_rc w1 hp2 p3 p4 p5
    have ht : aI h2 723 12 = nI (cd1 (okP r (gX G (6 * j + 1)))) := by rw [hz]; exact p3.2.1
    have ho2 : aJ h2 737 0 = _ := (congrFun (p3.1.J (show ¬ RS 737 by unfold RS; omega)) 0).trans ho
    refine r_istore (ls2 := [some (.ref 0), some (.ref 1), some (.ref 723), some (.ref 737), some (.ref 738), some (.int (nI (6 * j))), _, some _, _]) dL_law_3591 (by decide) rfl ?_
    refine r_aload_n dL_law_3593 rfl ?_
    refine q_callT0 (cv_X9_thrown ml_L_222) w2.1 kc_723 (by decide) rfl (rmL rfl (by show cs.1 + 1 + 0 + 0 ≤ _; omega) (by show cs.2 + 6 + 0 + 0 ≤ _; omega)) (Nat.le_of_ble_eq_true rfl) dL_law_3594 (c_X9_thrown w2.1) (fun v5 h5 _ q5 => ?_)
    obtain ⟨rfl, rfl⟩ := q5
    refine r_iload dL_law_3597 rfl ?_
    refine r_icmp_eq 3604 dL_law_3599 (by decide) (fun _ => ?_) (fun c9 => absurd ht c9)
    refine r_iload dL_law_3604 rfl ?_
    refine r_if_ne 3621 dL_law_3606 (by decide) (fun c9 => absurd (by rw [hz]; rfl) c9) (fun _ => ?_)
    refine r_aload_n dL_law_3609 rfl ?_
    refine r_iconst (0) dL_law_3610 (by decide) ?_
    refine q_lald (k := 0) w2.1 kc_737 kn_0 (by decide) (by decide) dL_law_3611 ?_
    rw [ho2]
    refine r_iload dL_law_3612 rfl ?_
    refine r_i2l dL_law_3614 ?_
    refine r_lcmp dL_law_3615 ?_
    refine r_if_eq 3621 dL_law_3616 (by decide) (fun _ => ?_) (fun c9 => absurd lg_cmp_s c9)
    refine r_goto 4127 dL_law_3621 (by decide) ?_
    exact kk _ _ _ _ _ _ _ _ _ _ _ _ _ _ w2 hp2 (by show cs.1 + 1 + 0 ≤ _; omega) (by show cs.2 + 6 + 0 ≤ _; omega)
  · obtain rfl := q2 hz
    have w1 := w
    refine r_istore (ls2 := [some (.ref 0), some (.ref 1), some (.ref 723), some (.ref 737), some (.ref 738), some (.int (nI (6 * j))), some _, _, _]) dL_law_3579 (by decide) rfl ?_
    refine r_aload_n dL_law_3581 rfl ?_
    refine r_aload_n dL_law_3582 rfl ?_
    refine r_iload dL_law_3583 rfl ?_
    refine r_iconst (1) dL_law_3585 (by decide) ?_
    refine r_iadd dL_law_3586 ?_
    refine r_sld (k := 6 * j + 1) (nadd rfl kn_1) (by omega) hL3 dL_law_3587 ?_
    refine q_callT1 (cv_X9_dropCold ml_L_370) w1.1 kc_723 (by decide) rfl (rmL rfl (by show cs.1 + 1 + 0 ≤ _; omega) (by show cs.2 + 6 + 0 ≤ _; omega)) (Nat.le_of_ble_eq_true rfl) dL_law_3588 (c_X9_dropCold (hW := w1.1) (hm := w1.2.2.1) (hO := hp.1.1) (hm28 := (by omega)) (hL := w1.2.2.2.1) (hb := hb9)) (fun v2 h2 ty2 p2 => ?_)
    obtain ⟨y2, rfl⟩ : ∃ x, v2 = some (.int x) := ty2
    have p3 := p2.1 hz
    have w2 := st_rq w1 hp p3
    have ht := p3.2.1
    refine r_istore (ls2 := [some (.ref 0), some (.ref 1), some (.ref 723), some (.ref 737), some (.ref 738), some (.int (nI (6 * j))), _, some _, _]) dL_law_3591 (by decide) rfl ?_
    refine r_aload_n dL_law_3593 rfl ?_
    refine q_callT0 (cv_X9_thrown ml_L_222) w2.1 kc_723 (by decide) rfl (rmL rfl (by show cs.1 + 1 + 0 + 0 ≤ _; omega) (by show cs.2 + 6 + 0 + 0 ≤ _; omega)) (Nat.le_of_ble_eq_true rfl) dL_law_3594 (c_X9_thrown w2.1) (fun v5 h5 _ q5 => ?_)
    obtain ⟨rfl, rfl⟩ := q5
    refine r_iload dL_law_3597 rfl ?_
    refine r_icmp_eq 3604 dL_law_3599 (by decide) (fun _ => ?_) (fun c9 => absurd ht c9)
    refine r_iload dL_law_3604 rfl ?_
    refine r_if_ne 3621 dL_law_3606 (by decide) (fun _ => ?_) (fun c9 => absurd c9 (nI_nz hz (by have := (show cd1 (okP r (gX G (6 * j + 1))) ≤ 4 from Nat.le_trans cd1_le (by decide)); omega)))
    refine r_goto 4127 dL_law_3621 (by decide) ?_
    exact kk _ _ _ _ _ _ _ _ _ _ _ _ _ _ w2 hp.nx (by show cs.1 + 1 + 0 ≤ _; omega) (by show cs.2 + 6 + 0 ≤ _; omega)
theorem cs_L_hurry : CStH RL 371 mL_hurry 3 := ⟨ml_L_371, (tgI 1461 (by decide +kernel) rfl), (tgI 98 (by decide +kernel) rfl), (tgI 1462 (by decide +kernel) rfl), ok_L_hurry⟩
set_option maxRecDepth 100000 in
set_option maxHeartbeats 4000000 in
theorem law_53 {l9 : Launch} {G : GC} {Fi : CX → State → Prop} {h : AH} {r s : Row} {L : List Row} {sv : Bool} {b : Nat → Int32} {n j : Nat} {o : Ob} {er eo : Int32} {l6 l7 l8 : Option Value} {cs : Nat × Nat} (hG : GOK G) (hj : 6 * j + 6 ≤ gL G) (hL3 : gL G ≤ 3072) (w : StL h r L r L s sv b n o er eo) (hp : LvP r L s sv b n (300 * j)) (hc1 : cs.1 ≤ 800 + 60 * j) (hc2 : cs.2 ≤ 40000 + 400 * j) (kk : LNx l9 G Fi j) : PW l9 G mL_law room_1 Fi NT 3624 [some (.ref 0), some (.ref 1), some (.ref 723), some (.ref 737), some (.ref 738), some (.int (nI (6 * j))), l6, l7, l8] [] cs h := by
  have hb9 : 300 * j + 300 < 2 ^ 23 := by omega
  refine r_aload_n dL_law_3624 rfl ?_
  refine r_aload_n dL_law_3625 rfl ?_
  refine r_iload dL_law_3626 rfl ?_
  refine r_iconst (1) dL_law_3628 (by decide) ?_
  refine r_iadd dL_law_3629 ?_
  refine r_sld (k := 6 * j + 1) (nadd rfl kn_1) (by omega) hL3 dL_law_3630 ?_
  refine r_aload_n dL_law_3631 rfl ?_
  refine r_callSH3 cs_L_hurry (rmL rfl (by show cs.1 + 1 ≤ _; omega) (by show cs.2 + 6 ≤ _; omega)) (Nat.le_of_ble_eq_true rfl) dL_law_3632 (c_L_hurry hG w.1 cd1_le (c_X8_hurry (hW := w.1) (hs := w.2.1.1) (hO := hp.1.1) (hL := w.2.1.2.1) (hLO := hp.ls) (hb := hb9)) (fun _ e9 => e9.1.1.1)) (fun v1 h1 q1 => ?_)
  obtain ⟨rfl, q2, q3⟩ := q1
  by_cases hz : cd1 (okP r (gX G (6 * j + 1))) = 0
  · obtain ⟨h3, q4, rfl⟩ := q3 hz
    have hp2 := hp.push w.2.1.2.1.2.1 (m' := 300 * (j + 1)) ((ok2_hurry hp.1 hz hb9).wk (by omega)) (by omega)
    have w1 := st_out (v := ((getP (huR r (nn (gX G (6 * j + 1)))).1 (nn (gX G (6 * j + 1))) 17)).toInt64) (st_cc w hp q4.1 q4.2.1 q4.2.2) hp2
    have ho : aJ (sJ h3 737 0 (((getP (huR r (nn (gX G (6 * j + 1)))).1 (nn (gX G (6 * j + 1))) 17)).toInt64)) 737 0 = ((getP (huR r (nn (gX G (6 * j + 1)))).1 (nn (gX G (6 * j + 1))) 17)).toInt64 := sJ_at0
    refine r_istore (ls2 := [some (.ref 0), some (.ref 1), some (.ref 723), some (.ref 737), some (.ref 738), some (.int (nI (6 * j))), some _, _, _]) dL_law_3635 (by decide) rfl ?_
    refine r_aload_n dL_law_3637 rfl ?_
    refine r_aload_n dL_law_3638 rfl ?_
    refine r_iload dL_law_3639 rfl ?_
    refine r_iconst (1) dL_law_3641 (by decide) ?_
    refine r_iadd dL_law_3642 ?_
    refine r_sld (k := 6 * j + 1) (nadd rfl kn_1) (by omega) hL3 dL_law_3643 ?_
    refine q_callT1 (cv_X9_hurry ml_L_373) w1.1 kc_723 (by decide) rfl (rmL rfl (by show cs.1 + 1 + 0 ≤ _; omega) (by show cs.2 + 6 + 0 ≤ _; omega)) (Nat.le_of_ble_eq_true rfl) dL_law_3644 (c_X9_hurry (hW := w1.1) (hm := w1.2.2.1) (hO := hp.1.1) (hm28 := (by omega)) (hL := w1.2.2.2.1) (hb := hb9)) (fun v2 h2 ty2 p2 => ?_)
    obtain ⟨rfl, p3, p4, p5⟩ := p2.2 hz
    have w2 := st_rc w1 hp2 p3 p4 p5
    have ht : aI h2 723 12 = nI (cd1 (okP r (gX G (6 * j + 1)))) := by rw [hz]; exact p3.2.1
    have ho2 : aJ h2 737 0 = _ := (congrFun (p3.1.J (show ¬ RS 737 by unfold RS; omega)) 0).trans ho
    refine r_istore (ls2 := [some (.ref 0), some (.ref 1), some (.ref 723), some (.ref 737), some (.ref 738), some (.int (nI (6 * j))), _, some _, _]) dL_law_3647 (by decide) rfl ?_
    refine r_aload_n dL_law_3649 rfl ?_
    refine q_callT0 (cv_X9_thrown ml_L_222) w2.1 kc_723 (by decide) rfl (rmL rfl (by show cs.1 + 1 + 0 + 0 ≤ _; omega) (by show cs.2 + 6 + 0 + 0 ≤ _; omega)) (Nat.le_of_ble_eq_true rfl) dL_law_3650 (c_X9_thrown w2.1) (fun v5 h5 _ q5 => ?_)
    obtain ⟨rfl, rfl⟩ := q5
    refine r_iload dL_law_3653 rfl ?_
    refine r_icmp_eq 3660 dL_law_3655 (by decide) (fun _ => ?_) (fun c9 => absurd ht c9)
    refine r_iload dL_law_3660 rfl ?_
    refine r_if_ne 3677 dL_law_3662 (by decide) (fun c9 => absurd (by rw [hz]; rfl) c9) (fun _ => ?_)
    refine r_aload_n dL_law_3665 rfl ?_
    refine r_iconst (0) dL_law_3666 (by decide) ?_
    refine q_lald (k := 0) w2.1 kc_737 kn_0 (by decide) (by decide) dL_law_3667 ?_
    rw [ho2]
    refine r_iload dL_law_3668 rfl ?_
    refine r_i2l dL_law_3670 ?_
    refine r_lcmp dL_law_3671 ?_
    refine r_if_eq 3677 dL_law_3672 (by decide) (fun _ => ?_) (fun c9 => absurd lg_cmp_s c9)
    refine r_goto 4127 dL_law_3677 (by decide) ?_
    exact kk _ _ _ _ _ _ _ _ _ _ _ _ _ _ w2 hp2 (by show cs.1 + 1 + 0 ≤ _; omega) (by show cs.2 + 6 + 0 ≤ _; omega)
  · obtain rfl := q2 hz
    have w1 := w
    refine r_istore (ls2 := [some (.ref 0), some (.ref 1), some (.ref 723), some (.ref 737), some (.ref 738), some (.int (nI (6 * j))), some _, _, _]) dL_law_3635 (by decide) rfl ?_
    refine r_aload_n dL_law_3637 rfl ?_
    refine r_aload_n dL_law_3638 rfl ?_
    refine r_iload dL_law_3639 rfl ?_
    refine r_iconst (1) dL_law_3641 (by decide) ?_
    refine r_iadd dL_law_3642 ?_
    refine r_sld (k := 6 * j + 1) (nadd rfl kn_1) (by omega) hL3 dL_law_3643 ?_
    refine q_callT1 (cv_X9_hurry ml_L_373) w1.1 kc_723 (by decide) rfl (rmL rfl (by show cs.1 + 1 + 0 ≤ _; omega) (by show cs.2 + 6 + 0 ≤ _; omega)) (Nat.le_of_ble_eq_true rfl) dL_law_3644 (c_X9_hurry (hW := w1.1) (hm := w1.2.2.1) (hO := hp.1.1) (hm28 := (by omega)) (hL := w1.2.2.2.1) (hb := hb9)) (fun v2 h2 ty2 p2 => ?_)
    obtain ⟨y2, rfl⟩ : ∃ x, v2 = some (.int x) := ty2
    have p3 := p2.1 hz
    have w2 := st_rq w1 hp p3
    have ht := p3.2.1
    refine r_istore (ls2 := [some (.ref 0), some (.ref 1), some (.ref 723), some (.ref 737), some (.ref 738), some (.int (nI (6 * j))), _, some _, _]) dL_law_3647 (by decide) rfl ?_
    refine r_aload_n dL_law_3649 rfl ?_
    refine q_callT0 (cv_X9_thrown ml_L_222) w2.1 kc_723 (by decide) rfl (rmL rfl (by show cs.1 + 1 + 0 + 0 ≤ _; omega) (by show cs.2 + 6 + 0 + 0 ≤ _; omega)) (Nat.le_of_ble_eq_true rfl) dL_law_3650 (c_X9_thrown w2.1) (fun v5 h5 _ q5 => ?_)
    obtain ⟨rfl, rfl⟩ := q5
    refine r_iload dL_law_3653 rfl ?_
    refine r_icmp_eq 3660 dL_law_3655 (by decide) (fun _ => ?_) (fun c9 => absurd ht c9)
    refine r_iload dL_law_3660 rfl ?_
    refine r_if_ne 3677 dL_law_3662 (by decide) (fun _ => ?_) (fun c9 => absurd c9 (nI_nz hz (by have := (show cd1 (okP r (gX G (6 * j + 1))) ≤ 4 from Nat.le_trans cd1_le (by decide)); omega)))
    refine r_goto 4127 dL_law_3677 (by decide) ?_
    exact kk _ _ _ _ _ _ _ _ _ _ _ _ _ _ w2 hp.nx (by show cs.1 + 1 + 0 ≤ _; omega) (by show cs.2 + 6 + 0 ≤ _; omega)
theorem cs_L_greatestIn : CStH RL 374 mL_greatestIn 4 := ⟨ml_L_374, (tgI 1468 (by decide +kernel) rfl), (tgI 98 (by decide +kernel) rfl), (tgI 1469 (by decide +kernel) rfl), ok_L_greatestIn⟩
set_option maxRecDepth 100000 in
set_option maxHeartbeats 4000000 in
theorem law_54 {l9 : Launch} {G : GC} {Fi : CX → State → Prop} {h : AH} {r s : Row} {L : List Row} {sv : Bool} {b : Nat → Int32} {n j : Nat} {o : Ob} {er eo : Int32} {l6 l7 l8 : Option Value} {cs : Nat × Nat} (hG : GOK G) (hj : 6 * j + 6 ≤ gL G) (hL3 : gL G ≤ 3072) (w : StL h r L r L s sv b n o er eo) (hp : LvP r L s sv b n (300 * j)) (hc1 : cs.1 ≤ 800 + 60 * j) (hc2 : cs.2 ≤ 40000 + 400 * j) (kk : LNx l9 G Fi j) : PW l9 G mL_law room_1 Fi NT 3680 [some (.ref 0), some (.ref 1), some (.ref 723), some (.ref 737), some (.ref 738), some (.int (nI (6 * j))), l6, l7, l8] [] cs h := by
  have hb9 : 300 * j + 300 < 2 ^ 23 := by omega
  refine r_aload_n dL_law_3680 rfl ?_
  refine r_aload_n dL_law_3681 rfl ?_
  refine r_iload dL_law_3682 rfl ?_
  refine r_iconst (1) dL_law_3684 (by decide) ?_
  refine r_iadd dL_law_3685 ?_
  refine r_sld (k := 6 * j + 1) (nadd rfl kn_1) (by omega) hL3 dL_law_3686 ?_
  refine r_aload_n dL_law_3687 rfl ?_
  refine r_iload dL_law_3688 rfl ?_
  refine r_iconst (2) dL_law_3690 (by decide) ?_
  refine r_iadd dL_law_3691 ?_
  refine r_sld (k := 6 * j + 2) (nadd rfl kn_2) (by omega) hL3 dL_law_3692 ?_
  refine r_aload_n dL_law_3693 rfl ?_
  refine r_callSH4 cs_L_greatestIn (rmL rfl (by show cs.1 + 2 ≤ _; omega) (by show cs.2 + 12 ≤ _; omega)) (Nat.le_of_ble_eq_true rfl) dL_law_3694 (c_L_greatestIn hG w.1 cd2_le (c_X8_greatestIn (hW := w.1) (hs := w.2.1.1) (hO := hp.1.1) (hb := hb9)) (fun _ e9 => e9.W w.1)) (fun v1 h1 q1 => ?_)
  obtain ⟨rfl, q2, q3⟩ := q1
  by_cases hz : cd2 (okP r (gX G (6 * j + 1))) (rgB 1 300 (gX G (6 * j + 2))) = 0
  · obtain ⟨h3, q4, rfl⟩ := q3 hz
    have hp2 := hp.nx
    have w1 := st_out (v := ((gtS r (gX G (6 * j + 1)) (nn (gX G (6 * j + 2))))).toInt64) (st_eqx w hp q4 (fun i q => Or.inl q)) hp
    have ho : aJ (sJ h3 737 0 (((gtS r (gX G (6 * j + 1)) (nn (gX G (6 * j + 2))))).toInt64)) 737 0 = ((gtS r (gX G (6 * j + 1)) (nn (gX G (6 * j + 2))))).toInt64 := sJ_at0
    refine r_istore (ls2 := [some (.ref 0), some (.ref 1), some (.ref 723), some (.ref 737), some (.ref 738), some (.int (nI (6 * j))), some _, _, _]) dL_law_3697 (by decide) rfl ?_
    refine r_aload_n dL_law_3699 rfl ?_
    refine r_aload_n dL_law_3700 rfl ?_
    refine r_iload dL_law_3701 rfl ?_
    refine r_iconst (1) dL_law_3703 (by decide) ?_
    refine r_iadd dL_law_3704 ?_
    refine r_sld (k := 6 * j + 1) (nadd rfl kn_1) (by omega) hL3 dL_law_3705 ?_
    refine r_aload_n dL_law_3706 rfl ?_
    refine r_iload dL_law_3707 rfl ?_
    refine r_iconst (2) dL_law_3709 (by decide) ?_
    refine r_iadd dL_law_3710 ?_
    refine r_sld (k := 6 * j + 2) (nadd rfl kn_2) (by omega) hL3 dL_law_3711 ?_
    refine q_callT2 (cv_X9_greatestIn ml_L_376) w1.1 kc_723 (by decide) rfl (rmL rfl (by show cs.1 + 2 + 0 ≤ _; omega) (by show cs.2 + 12 + 0 ≤ _; omega)) (Nat.le_of_ble_eq_true rfl) dL_law_3712 (c_X9_greatestIn (hW := w1.1) (hm := w1.2.2.1) (hO := hp.1.1) (hm28 := (by omega)) (hb := hb9)) (fun v2 h2 ty2 p2 => ?_)
    obtain ⟨rfl, p3, p4⟩ := p2.2 hz
    have w2 := st_rt w1 hp p3 p4
    have ht : aI h2 723 12 = nI (cd2 (okP r (gX G (6 * j + 1))) (rgB 1 300 (gX G (6 * j + 2)))) := by rw [hz]; exact p3.2.1
    have ho2 : aJ h2 737 0 = _ := (congrFun (p3.1.J (show ¬ RTs 737 by unfold RTs; omega)) 0).trans ho
    refine r_istore (ls2 := [some (.ref 0), some (.ref 1), some (.ref 723), some (.ref 737), some (.ref 738), some (.int (nI (6 * j))), _, some _, _]) dL_law_3715 (by decide) rfl ?_
    refine r_aload_n dL_law_3717 rfl ?_
    refine q_callT0 (cv_X9_thrown ml_L_222) w2.1 kc_723 (by decide) rfl (rmL rfl (by show cs.1 + 2 + 0 + 0 ≤ _; omega) (by show cs.2 + 12 + 0 + 0 ≤ _; omega)) (Nat.le_of_ble_eq_true rfl) dL_law_3718 (c_X9_thrown w2.1) (fun v5 h5 _ q5 => ?_)
    obtain ⟨rfl, rfl⟩ := q5
    refine r_iload dL_law_3721 rfl ?_
    refine r_icmp_eq 3728 dL_law_3723 (by decide) (fun _ => ?_) (fun c9 => absurd ht c9)
    refine r_iload dL_law_3728 rfl ?_
    refine r_if_ne 3745 dL_law_3730 (by decide) (fun c9 => absurd (by rw [hz]; rfl) c9) (fun _ => ?_)
    refine r_aload_n dL_law_3733 rfl ?_
    refine r_iconst (0) dL_law_3734 (by decide) ?_
    refine q_lald (k := 0) w2.1 kc_737 kn_0 (by decide) (by decide) dL_law_3735 ?_
    rw [ho2]
    refine r_iload dL_law_3736 rfl ?_
    refine r_i2l dL_law_3738 ?_
    refine r_lcmp dL_law_3739 ?_
    refine r_if_eq 3745 dL_law_3740 (by decide) (fun _ => ?_) (fun c9 => absurd lg_cmp_s c9)
    refine r_goto 4127 dL_law_3745 (by decide) ?_
    exact kk _ _ _ _ _ _ _ _ _ _ _ _ _ _ w2 hp2 (by show cs.1 + 2 + 0 ≤ _; omega) (by show cs.2 + 12 + 0 ≤ _; omega)
  · obtain rfl := q2 hz
    have w1 := w
    refine r_istore (ls2 := [some (.ref 0), some (.ref 1), some (.ref 723), some (.ref 737), some (.ref 738), some (.int (nI (6 * j))), some _, _, _]) dL_law_3697 (by decide) rfl ?_
    refine r_aload_n dL_law_3699 rfl ?_
    refine r_aload_n dL_law_3700 rfl ?_
    refine r_iload dL_law_3701 rfl ?_
    refine r_iconst (1) dL_law_3703 (by decide) ?_
    refine r_iadd dL_law_3704 ?_
    refine r_sld (k := 6 * j + 1) (nadd rfl kn_1) (by omega) hL3 dL_law_3705 ?_
    refine r_aload_n dL_law_3706 rfl ?_
    refine r_iload dL_law_3707 rfl ?_
    refine r_iconst (2) dL_law_3709 (by decide) ?_
    refine r_iadd dL_law_3710 ?_
    refine r_sld (k := 6 * j + 2) (nadd rfl kn_2) (by omega) hL3 dL_law_3711 ?_
    refine q_callT2 (cv_X9_greatestIn ml_L_376) w1.1 kc_723 (by decide) rfl (rmL rfl (by show cs.1 + 2 + 0 ≤ _; omega) (by show cs.2 + 12 + 0 ≤ _; omega)) (Nat.le_of_ble_eq_true rfl) dL_law_3712 (c_X9_greatestIn (hW := w1.1) (hm := w1.2.2.1) (hO := hp.1.1) (hm28 := (by omega)) (hb := hb9)) (fun v2 h2 ty2 p2 => ?_)
    obtain ⟨y2, rfl⟩ : ∃ x, v2 = some (.int x) := ty2
    have p3 := p2.1 hz
    have w2 := st_rq w1 hp p3
    have ht := p3.2.1
    refine r_istore (ls2 := [some (.ref 0), some (.ref 1), some (.ref 723), some (.ref 737), some (.ref 738), some (.int (nI (6 * j))), _, some _, _]) dL_law_3715 (by decide) rfl ?_
    refine r_aload_n dL_law_3717 rfl ?_
    refine q_callT0 (cv_X9_thrown ml_L_222) w2.1 kc_723 (by decide) rfl (rmL rfl (by show cs.1 + 2 + 0 + 0 ≤ _; omega) (by show cs.2 + 12 + 0 + 0 ≤ _; omega)) (Nat.le_of_ble_eq_true rfl) dL_law_3718 (c_X9_thrown w2.1) (fun v5 h5 _ q5 => ?_)
    obtain ⟨rfl, rfl⟩ := q5
    refine r_iload dL_law_3721 rfl ?_
    refine r_icmp_eq 3728 dL_law_3723 (by decide) (fun _ => ?_) (fun c9 => absurd ht c9)
    refine r_iload dL_law_3728 rfl ?_
    refine r_if_ne 3745 dL_law_3730 (by decide) (fun _ => ?_) (fun c9 => absurd c9 (nI_nz hz (by have := (show cd2 (okP r (gX G (6 * j + 1))) (rgB 1 300 (gX G (6 * j + 2))) ≤ 4 from Nat.le_trans cd2_le (by decide)); omega)))
    refine r_goto 4127 dL_law_3745 (by decide) ?_
    exact kk _ _ _ _ _ _ _ _ _ _ _ _ _ _ w2 hp.nx (by show cs.1 + 2 + 0 ≤ _; omega) (by show cs.2 + 12 + 0 ≤ _; omega)
theorem cs_L_errorsWith : CStH RL 377 mL_errorsWith 5 := ⟨ml_L_377, (tgI 1475 (by decide +kernel) rfl), (tgI 98 (by decide +kernel) rfl), (tgI 1476 (by decide +kernel) rfl), ok_L_errorsWith⟩
set_option maxRecDepth 100000 in
set_option maxHeartbeats 4000000 in
theorem law_55 {l9 : Launch} {G : GC} {Fi : CX → State → Prop} {h : AH} {r s : Row} {L : List Row} {sv : Bool} {b : Nat → Int32} {n j : Nat} {o : Ob} {er eo : Int32} {l6 l7 l8 : Option Value} {cs : Nat × Nat} (hG : GOK G) (hj : 6 * j + 6 ≤ gL G) (hL3 : gL G ≤ 3072) (w : StL h r L r L s sv b n o er eo) (hp : LvP r L s sv b n (300 * j)) (hc1 : cs.1 ≤ 800 + 60 * j) (hc2 : cs.2 ≤ 40000 + 400 * j) (kk : LNx l9 G Fi j) : PW l9 G mL_law room_1 Fi NT 3748 [some (.ref 0), some (.ref 1), some (.ref 723), some (.ref 737), some (.ref 738), some (.int (nI (6 * j))), l6, l7, l8] [] cs h := by
  have hb9 : 300 * j + 300 < 2 ^ 23 := by omega
  refine r_aload_n dL_law_3748 rfl ?_
  refine r_aload_n dL_law_3749 rfl ?_
  refine r_iload dL_law_3750 rfl ?_
  refine r_iconst (1) dL_law_3752 (by decide) ?_
  refine r_iadd dL_law_3753 ?_
  refine r_sld (k := 6 * j + 1) (nadd rfl kn_1) (by omega) hL3 dL_law_3754 ?_
  refine r_aload_n dL_law_3755 rfl ?_
  refine r_iload dL_law_3756 rfl ?_
  refine r_iconst (2) dL_law_3758 (by decide) ?_
  refine r_iadd dL_law_3759 ?_
  refine r_sld (k := 6 * j + 2) (nadd rfl kn_2) (by omega) hL3 dL_law_3760 ?_
  refine r_aload_n dL_law_3761 rfl ?_
  refine r_iload dL_law_3762 rfl ?_
  refine r_iconst (3) dL_law_3764 (by decide) ?_
  refine r_iadd dL_law_3765 ?_
  refine r_sld (k := 6 * j + 3) (nadd rfl kn_3) (by omega) hL3 dL_law_3766 ?_
  refine r_aload_n dL_law_3767 rfl ?_
  refine r_callSH5 cs_L_errorsWith (rmL rfl (by show cs.1 + 4 ≤ _; omega) (by show cs.2 + 24 ≤ _; omega)) (Nat.le_of_ble_eq_true rfl) dL_law_3768 (c_L_errorsWith hG w.1 cd2_le (c_X8_errorsWith (hW := w.1) (hs := w.2.1.1) (hO := hp.1.1) (hb := hb9)) (fun _ e9 => e9.W w.1)) (fun v1 h1 q1 => ?_)
  obtain ⟨rfl, q2, q3⟩ := q1
  by_cases hz : cd2 (okP r (gX G (6 * j + 1))) (rgB 0 2 (gX G (6 * j + 2)) && rgB 1 300 (gX G (6 * j + 3))) = 0
  · obtain ⟨h3, q4, rfl⟩ := q3 hz
    have hp2 := hp.nx
    have w1 := st_out (v := ((TQ r (gX G (6 * j + 1)) (tpS (fP r (gX G (6 * j + 1))) (gX G (6 * j + 2))) (nn (gX G (6 * j + 3)))).2 3 - gP r (gX G (6 * j + 1)) 3)) (st_eqx w hp q4 (fun i q => Or.inl q)) hp
    have ho : aJ (sJ h3 737 0 (((TQ r (gX G (6 * j + 1)) (tpS (fP r (gX G (6 * j + 1))) (gX G (6 * j + 2))) (nn (gX G (6 * j + 3)))).2 3 - gP r (gX G (6 * j + 1)) 3))) 737 0 = ((TQ r (gX G (6 * j + 1)) (tpS (fP r (gX G (6 * j + 1))) (gX G (6 * j + 2))) (nn (gX G (6 * j + 3)))).2 3 - gP r (gX G (6 * j + 1)) 3) := sJ_at0
    refine r_istore (ls2 := [some (.ref 0), some (.ref 1), some (.ref 723), some (.ref 737), some (.ref 738), some (.int (nI (6 * j))), some _, _, _]) dL_law_3771 (by decide) rfl ?_
    refine r_aload_n dL_law_3773 rfl ?_
    refine r_aload_n dL_law_3774 rfl ?_
    refine r_iload dL_law_3775 rfl ?_
    refine r_iconst (1) dL_law_3777 (by decide) ?_
    refine r_iadd dL_law_3778 ?_
    refine r_sld (k := 6 * j + 1) (nadd rfl kn_1) (by omega) hL3 dL_law_3779 ?_
    refine r_aload_n dL_law_3780 rfl ?_
    refine r_iload dL_law_3781 rfl ?_
    refine r_iconst (2) dL_law_3783 (by decide) ?_
    refine r_iadd dL_law_3784 ?_
    refine r_sld (k := 6 * j + 2) (nadd rfl kn_2) (by omega) hL3 dL_law_3785 ?_
    refine r_aload_n dL_law_3786 rfl ?_
    refine r_iload dL_law_3787 rfl ?_
    refine r_iconst (3) dL_law_3789 (by decide) ?_
    refine r_iadd dL_law_3790 ?_
    refine r_sld (k := 6 * j + 3) (nadd rfl kn_3) (by omega) hL3 dL_law_3791 ?_
    refine q_callT3 (cv_X9_errorsWith ml_L_379) w1.1 kc_723 (by decide) rfl (rmL rfl (by show cs.1 + 4 + 0 ≤ _; omega) (by show cs.2 + 24 + 0 ≤ _; omega)) (Nat.le_of_ble_eq_true rfl) dL_law_3792 (c_X9_errorsWith (hW := w1.1) (hm := w1.2.2.1) (hO := hp.1.1) (hm28 := (by omega)) (hb := hb9) (hpl := (fun p h9 => (hp.1.2 p h9).2.1))) (fun v2 h2 ty2 p2 => ?_)
    obtain ⟨rfl, p3, p4⟩ := p2.2 hz
    have w2 := st_rt w1 hp p3 p4
    have ht : aI h2 723 12 = nI (cd2 (okP r (gX G (6 * j + 1))) (rgB 0 2 (gX G (6 * j + 2)) && rgB 1 300 (gX G (6 * j + 3)))) := by rw [hz]; exact p3.2.1
    have ho2 : aJ h2 737 0 = _ := (congrFun (p3.1.J (show ¬ RTs 737 by unfold RTs; omega)) 0).trans ho
    refine r_lstore (ls2 := [some (.ref 0), some (.ref 1), some (.ref 723), some (.ref 737), some (.ref 738), some (.int (nI (6 * j))), _, some _, none]) dL_law_3795 (by decide) rfl ?_
    refine r_aload_n dL_law_3797 rfl ?_
    refine q_callT0 (cv_X9_thrown ml_L_222) w2.1 kc_723 (by decide) rfl (rmL rfl (by show cs.1 + 4 + 0 + 0 ≤ _; omega) (by show cs.2 + 24 + 0 + 0 ≤ _; omega)) (Nat.le_of_ble_eq_true rfl) dL_law_3798 (c_X9_thrown w2.1) (fun v5 h5 _ q5 => ?_)
    obtain ⟨rfl, rfl⟩ := q5
    refine r_iload dL_law_3801 rfl ?_
    refine r_icmp_eq 3808 dL_law_3803 (by decide) (fun _ => ?_) (fun c9 => absurd ht c9)
    refine r_iload dL_law_3808 rfl ?_
    refine r_if_ne 3824 dL_law_3810 (by decide) (fun c9 => absurd (by rw [hz]; rfl) c9) (fun _ => ?_)
    refine r_aload_n dL_law_3813 rfl ?_
    refine r_iconst (0) dL_law_3814 (by decide) ?_
    refine q_lald (k := 0) w2.1 kc_737 kn_0 (by decide) (by decide) dL_law_3815 ?_
    rw [ho2]
    refine r_lload dL_law_3816 rfl ?_
    refine r_lcmp dL_law_3818 ?_
    refine r_if_eq 3824 dL_law_3819 (by decide) (fun _ => ?_) (fun c9 => absurd lg_cmp_s c9)
    refine r_goto 4127 dL_law_3824 (by decide) ?_
    exact kk _ _ _ _ _ _ _ _ _ _ _ _ _ _ w2 hp2 (by show cs.1 + 4 + 0 ≤ _; omega) (by show cs.2 + 24 + 0 ≤ _; omega)
  · obtain rfl := q2 hz
    have w1 := w
    refine r_istore (ls2 := [some (.ref 0), some (.ref 1), some (.ref 723), some (.ref 737), some (.ref 738), some (.int (nI (6 * j))), some _, _, _]) dL_law_3771 (by decide) rfl ?_
    refine r_aload_n dL_law_3773 rfl ?_
    refine r_aload_n dL_law_3774 rfl ?_
    refine r_iload dL_law_3775 rfl ?_
    refine r_iconst (1) dL_law_3777 (by decide) ?_
    refine r_iadd dL_law_3778 ?_
    refine r_sld (k := 6 * j + 1) (nadd rfl kn_1) (by omega) hL3 dL_law_3779 ?_
    refine r_aload_n dL_law_3780 rfl ?_
    refine r_iload dL_law_3781 rfl ?_
    refine r_iconst (2) dL_law_3783 (by decide) ?_
    refine r_iadd dL_law_3784 ?_
    refine r_sld (k := 6 * j + 2) (nadd rfl kn_2) (by omega) hL3 dL_law_3785 ?_
    refine r_aload_n dL_law_3786 rfl ?_
    refine r_iload dL_law_3787 rfl ?_
    refine r_iconst (3) dL_law_3789 (by decide) ?_
    refine r_iadd dL_law_3790 ?_
    refine r_sld (k := 6 * j + 3) (nadd rfl kn_3) (by omega) hL3 dL_law_3791 ?_
    refine q_callT3 (cv_X9_errorsWith ml_L_379) w1.1 kc_723 (by decide) rfl (rmL rfl (by show cs.1 + 4 + 0 ≤ _; omega) (by show cs.2 + 24 + 0 ≤ _; omega)) (Nat.le_of_ble_eq_true rfl) dL_law_3792 (c_X9_errorsWith (hW := w1.1) (hm := w1.2.2.1) (hO := hp.1.1) (hm28 := (by omega)) (hb := hb9) (hpl := (fun p h9 => (hp.1.2 p h9).2.1))) (fun v2 h2 ty2 p2 => ?_)
    obtain ⟨y2, rfl⟩ : ∃ x, v2 = some (.long x) := ty2
    have p3 := p2.1 hz
    have w2 := st_rq w1 hp p3
    have ht := p3.2.1
    refine r_lstore (ls2 := [some (.ref 0), some (.ref 1), some (.ref 723), some (.ref 737), some (.ref 738), some (.int (nI (6 * j))), _, some _, none]) dL_law_3795 (by decide) rfl ?_
    refine r_aload_n dL_law_3797 rfl ?_
    refine q_callT0 (cv_X9_thrown ml_L_222) w2.1 kc_723 (by decide) rfl (rmL rfl (by show cs.1 + 4 + 0 + 0 ≤ _; omega) (by show cs.2 + 24 + 0 + 0 ≤ _; omega)) (Nat.le_of_ble_eq_true rfl) dL_law_3798 (c_X9_thrown w2.1) (fun v5 h5 _ q5 => ?_)
    obtain ⟨rfl, rfl⟩ := q5
    refine r_iload dL_law_3801 rfl ?_
    refine r_icmp_eq 3808 dL_law_3803 (by decide) (fun _ => ?_) (fun c9 => absurd ht c9)
    refine r_iload dL_law_3808 rfl ?_
    refine r_if_ne 3824 dL_law_3810 (by decide) (fun _ => ?_) (fun c9 => absurd c9 (nI_nz hz (by have := (show cd2 (okP r (gX G (6 * j + 1))) (rgB 0 2 (gX G (6 * j + 2)) && rgB 1 300 (gX G (6 * j + 3))) ≤ 4 from Nat.le_trans cd2_le (by decide)); omega)))
    refine r_goto 4127 dL_law_3824 (by decide) ?_
    exact kk _ _ _ _ _ _ _ _ _ _ _ _ _ _ w2 hp.nx (by show cs.1 + 4 + 0 ≤ _; omega) (by show cs.2 + 24 + 0 ≤ _; omega)
theorem cs_L_median : CStH RL 380 mL_median 3 := ⟨ml_L_380, (tgI 1482 (by decide +kernel) rfl), (tgI 98 (by decide +kernel) rfl), (tgI 1483 (by decide +kernel) rfl), ok_L_median⟩
set_option maxRecDepth 100000 in
set_option maxHeartbeats 4000000 in
theorem law_56 {l9 : Launch} {G : GC} {Fi : CX → State → Prop} {h : AH} {r s : Row} {L : List Row} {sv : Bool} {b : Nat → Int32} {n j : Nat} {o : Ob} {er eo : Int32} {l6 l7 l8 : Option Value} {cs : Nat × Nat} (hG : GOK G) (hj : 6 * j + 6 ≤ gL G) (hL3 : gL G ≤ 3072) (w : StL h r L r L s sv b n o er eo) (hp : LvP r L s sv b n (300 * j)) (hc1 : cs.1 ≤ 800 + 60 * j) (hc2 : cs.2 ≤ 40000 + 400 * j) (kk : LNx l9 G Fi j) : PW l9 G mL_law room_1 Fi NT 3827 [some (.ref 0), some (.ref 1), some (.ref 723), some (.ref 737), some (.ref 738), some (.int (nI (6 * j))), l6, l7, l8] [] cs h := by
  have hb9 : 300 * j + 300 < 2 ^ 23 := by omega
  refine r_aload_n dL_law_3827 rfl ?_
  refine r_aload_n dL_law_3828 rfl ?_
  refine r_iload dL_law_3829 rfl ?_
  refine r_iconst (1) dL_law_3831 (by decide) ?_
  refine r_iadd dL_law_3832 ?_
  refine r_sld (k := 6 * j + 1) (nadd rfl kn_1) (by omega) hL3 dL_law_3833 ?_
  refine r_aload_n dL_law_3834 rfl ?_
  refine r_callSH3 cs_L_median (rmL rfl (by show cs.1 + 1 ≤ _; omega) (by show cs.2 + 6 ≤ _; omega)) (Nat.le_of_ble_eq_true rfl) dL_law_3835 (c_L_median hG w.1 cd1_le (c_X8_median (hW := w.1) (hs := w.2.1.1) (hO := hp.1.1)) (fun _ e9 => by rw [e9]; exact w.1)) (fun v1 h1 q1 => ?_)
  obtain ⟨rfl, q2, q3⟩ := q1
  by_cases hz : cd1 (okP r (gX G (6 * j + 1))) = 0
  · obtain ⟨h3, q4, rfl⟩ := q3 hz
    obtain rfl := q4
    have hp2 := hp.nx
    have w1 := st_out (v := ((mdF (fP r (gX G (6 * j + 1))) (tP r))).toInt64) w hp
    have ho2 : ∀ {H : AH}, aJ (sI (sJ H 737 0 (((mdF (fP r (gX G (6 * j + 1))) (tP r))).toInt64)) 723 12 (nI (cd1 (okP r (gX G (6 * j + 1)))))) 737 0 = ((mdF (fP r (gX G (6 * j + 1))) (tP r))).toInt64 := sJ_at0
    refine r_istore (ls2 := [some (.ref 0), some (.ref 1), some (.ref 723), some (.ref 737), some (.ref 738), some (.int (nI (6 * j))), some _, _, _]) dL_law_3838 (by decide) rfl ?_
    refine r_aload_n dL_law_3840 rfl ?_
    refine r_aload_n dL_law_3841 rfl ?_
    refine r_iload dL_law_3842 rfl ?_
    refine r_iconst (1) dL_law_3844 (by decide) ?_
    refine r_iadd dL_law_3845 ?_
    refine r_sld (k := 6 * j + 1) (nadd rfl kn_1) (by omega) hL3 dL_law_3846 ?_
    refine q_callT1 (cv_X9_median ml_L_382) w1.1 kc_723 (by decide) rfl (rmL rfl (by show cs.1 + 1 + 0 ≤ _; omega) (by show cs.2 + 6 + 0 ≤ _; omega)) (Nat.le_of_ble_eq_true rfl) dL_law_3847 (c_X9_median (hW := w1.1) (hm := w1.2.2.1) (hO := hp.1.1) (hm28 := (by omega))) (fun v2 h2 ty2 p2 => ?_)
    obtain ⟨rfl, p3⟩ := p2
    obtain rfl := p3 hz
    have w2 := st_si (c := cd1 (okP r (gX G (6 * j + 1)))) w1 hp
    have ht : ∀ {H : AH}, aI (sI H 723 12 (nI (cd1 (okP r (gX G (6 * j + 1)))))) 723 12 = nI (cd1 (okP r (gX G (6 * j + 1)))) := sI_s
    refine r_istore (ls2 := [some (.ref 0), some (.ref 1), some (.ref 723), some (.ref 737), some (.ref 738), some (.int (nI (6 * j))), _, some _, _]) dL_law_3850 (by decide) rfl ?_
    refine r_aload_n dL_law_3852 rfl ?_
    refine q_callT0 (cv_X9_thrown ml_L_222) w2.1 kc_723 (by decide) rfl (rmL rfl (by show cs.1 + 1 + 0 + 0 ≤ _; omega) (by show cs.2 + 6 + 0 + 0 ≤ _; omega)) (Nat.le_of_ble_eq_true rfl) dL_law_3853 (c_X9_thrown w2.1) (fun v5 h5 _ q5 => ?_)
    obtain ⟨rfl, rfl⟩ := q5
    refine r_iload dL_law_3856 rfl ?_
    refine r_icmp_eq 3863 dL_law_3858 (by decide) (fun _ => ?_) (fun c9 => absurd ht c9)
    refine r_iload dL_law_3863 rfl ?_
    refine r_if_ne 3880 dL_law_3865 (by decide) (fun c9 => absurd (by rw [hz]; rfl) c9) (fun _ => ?_)
    refine r_aload_n dL_law_3868 rfl ?_
    refine r_iconst (0) dL_law_3869 (by decide) ?_
    refine q_lald (k := 0) w2.1 kc_737 kn_0 (by decide) (by decide) dL_law_3870 ?_
    rw [ho2]
    refine r_iload dL_law_3871 rfl ?_
    refine r_i2l dL_law_3873 ?_
    refine r_lcmp dL_law_3874 ?_
    refine r_if_eq 3880 dL_law_3875 (by decide) (fun _ => ?_) (fun c9 => absurd lg_cmp_s c9)
    refine r_goto 4127 dL_law_3880 (by decide) ?_
    exact kk _ _ _ _ _ _ _ _ _ _ _ _ _ _ w2 hp2 (by show cs.1 + 1 + 0 ≤ _; omega) (by show cs.2 + 6 + 0 ≤ _; omega)
  · obtain rfl := q2 hz
    have w1 := w
    refine r_istore (ls2 := [some (.ref 0), some (.ref 1), some (.ref 723), some (.ref 737), some (.ref 738), some (.int (nI (6 * j))), some _, _, _]) dL_law_3838 (by decide) rfl ?_
    refine r_aload_n dL_law_3840 rfl ?_
    refine r_aload_n dL_law_3841 rfl ?_
    refine r_iload dL_law_3842 rfl ?_
    refine r_iconst (1) dL_law_3844 (by decide) ?_
    refine r_iadd dL_law_3845 ?_
    refine r_sld (k := 6 * j + 1) (nadd rfl kn_1) (by omega) hL3 dL_law_3846 ?_
    refine q_callT1 (cv_X9_median ml_L_382) w1.1 kc_723 (by decide) rfl (rmL rfl (by show cs.1 + 1 + 0 ≤ _; omega) (by show cs.2 + 6 + 0 ≤ _; omega)) (Nat.le_of_ble_eq_true rfl) dL_law_3847 (c_X9_median (hW := w1.1) (hm := w1.2.2.1) (hO := hp.1.1) (hm28 := (by omega))) (fun v2 h2 ty2 p2 => ?_)
    obtain ⟨y2, rfl⟩ : ∃ x, v2 = some (.int x) := ty2
    obtain ⟨rfl, -⟩ := p2
    have w2 := st_si (c := cd1 (okP r (gX G (6 * j + 1)))) w1 hp
    have ht : ∀ {H : AH}, aI (sI H 723 12 (nI (cd1 (okP r (gX G (6 * j + 1)))))) 723 12 = nI (cd1 (okP r (gX G (6 * j + 1)))) := sI_s
    refine r_istore (ls2 := [some (.ref 0), some (.ref 1), some (.ref 723), some (.ref 737), some (.ref 738), some (.int (nI (6 * j))), _, some _, _]) dL_law_3850 (by decide) rfl ?_
    refine r_aload_n dL_law_3852 rfl ?_
    refine q_callT0 (cv_X9_thrown ml_L_222) w2.1 kc_723 (by decide) rfl (rmL rfl (by show cs.1 + 1 + 0 + 0 ≤ _; omega) (by show cs.2 + 6 + 0 + 0 ≤ _; omega)) (Nat.le_of_ble_eq_true rfl) dL_law_3853 (c_X9_thrown w2.1) (fun v5 h5 _ q5 => ?_)
    obtain ⟨rfl, rfl⟩ := q5
    refine r_iload dL_law_3856 rfl ?_
    refine r_icmp_eq 3863 dL_law_3858 (by decide) (fun _ => ?_) (fun c9 => absurd ht c9)
    refine r_iload dL_law_3863 rfl ?_
    refine r_if_ne 3880 dL_law_3865 (by decide) (fun _ => ?_) (fun c9 => absurd c9 (nI_nz hz (by have := (show cd1 (okP r (gX G (6 * j + 1))) ≤ 4 from Nat.le_trans cd1_le (by decide)); omega)))
    refine r_goto 4127 dL_law_3880 (by decide) ?_
    exact kk _ _ _ _ _ _ _ _ _ _ _ _ _ _ w2 hp.nx (by show cs.1 + 1 + 0 ≤ _; omega) (by show cs.2 + 6 + 0 ≤ _; omega)
theorem cs_L_demandsWithin : CStH RL 383 mL_demandsWithin 5 := ⟨ml_L_383, (tgI 1497 (by decide +kernel) rfl), (tgI 98 (by decide +kernel) rfl), (tgI 1498 (by decide +kernel) rfl), ok_L_demandsWithin⟩
set_option maxRecDepth 100000 in
set_option maxHeartbeats 4000000 in
theorem law_57 {l9 : Launch} {G : GC} {Fi : CX → State → Prop} {h : AH} {r s : Row} {L : List Row} {sv : Bool} {b : Nat → Int32} {n j : Nat} {o : Ob} {er eo : Int32} {l6 l7 l8 : Option Value} {cs : Nat × Nat} (hG : GOK G) (hj : 6 * j + 6 ≤ gL G) (hL3 : gL G ≤ 3072) (w : StL h r L r L s sv b n o er eo) (hp : LvP r L s sv b n (300 * j)) (hc1 : cs.1 ≤ 800 + 60 * j) (hc2 : cs.2 ≤ 40000 + 400 * j) (kk : LNx l9 G Fi j) : PW l9 G mL_law room_1 Fi NT 3883 [some (.ref 0), some (.ref 1), some (.ref 723), some (.ref 737), some (.ref 738), some (.int (nI (6 * j))), l6, l7, l8] [] cs h := by
  have hb9 : 300 * j + 300 < 2 ^ 23 := by omega
  refine r_aload_n dL_law_3883 rfl ?_
  refine r_aload_n dL_law_3884 rfl ?_
  refine r_iload dL_law_3885 rfl ?_
  refine r_iconst (1) dL_law_3887 (by decide) ?_
  refine r_iadd dL_law_3888 ?_
  refine r_sld (k := 6 * j + 1) (nadd rfl kn_1) (by omega) hL3 dL_law_3889 ?_
  refine r_aload_n dL_law_3890 rfl ?_
  refine r_iload dL_law_3891 rfl ?_
  refine r_iconst (2) dL_law_3893 (by decide) ?_
  refine r_iadd dL_law_3894 ?_
  refine r_sld (k := 6 * j + 2) (nadd rfl kn_2) (by omega) hL3 dL_law_3895 ?_
  refine r_aload_n dL_law_3896 rfl ?_
  refine r_iload dL_law_3897 rfl ?_
  refine r_iconst (3) dL_law_3899 (by decide) ?_
  refine r_iadd dL_law_3900 ?_
  refine r_sld (k := 6 * j + 3) (nadd rfl kn_3) (by omega) hL3 dL_law_3901 ?_
  refine r_aload_n dL_law_3902 rfl ?_
  refine r_callSH5 cs_L_demandsWithin (rmL rfl (by show cs.1 + 1 ≤ _; omega) (by show cs.2 + 6 ≤ _; omega)) (Nat.le_of_ble_eq_true rfl) dL_law_3903 (c_L_demandsWithin hG w.1 cd1_le (c_X8_demandsWithin (hW := w.1) (hs := w.2.1.1) (hO := hp.1.1)) (fun _ e9 => by rw [e9]; exact w.1)) (fun v1 h1 q1 => ?_)
  obtain ⟨rfl, q2, q3⟩ := q1
  by_cases hz : cd1 (okP r (gX G (6 * j + 1))) = 0
  · obtain ⟨h3, q4, rfl⟩ := q3 hz
    obtain rfl := q4
    have hp2 := hp.nx
    have w1 := st_out (v := ((nI (cdN (fP r (gX G (6 * j + 1))) (tP r) (gX G (6 * j + 2)) (gX G (6 * j + 3))))).toInt64) w hp
    have ho2 : ∀ {H : AH}, aJ (sI (sJ H 737 0 (((nI (cdN (fP r (gX G (6 * j + 1))) (tP r) (gX G (6 * j + 2)) (gX G (6 * j + 3))))).toInt64)) 723 12 (nI (cd1 (okP r (gX G (6 * j + 1)))))) 737 0 = ((nI (cdN (fP r (gX G (6 * j + 1))) (tP r) (gX G (6 * j + 2)) (gX G (6 * j + 3))))).toInt64 := sJ_at0
    refine r_istore (ls2 := [some (.ref 0), some (.ref 1), some (.ref 723), some (.ref 737), some (.ref 738), some (.int (nI (6 * j))), some _, _, _]) dL_law_3906 (by decide) rfl ?_
    refine r_aload_n dL_law_3908 rfl ?_
    refine r_aload_n dL_law_3909 rfl ?_
    refine r_iload dL_law_3910 rfl ?_
    refine r_iconst (1) dL_law_3912 (by decide) ?_
    refine r_iadd dL_law_3913 ?_
    refine r_sld (k := 6 * j + 1) (nadd rfl kn_1) (by omega) hL3 dL_law_3914 ?_
    refine r_aload_n dL_law_3915 rfl ?_
    refine r_iload dL_law_3916 rfl ?_
    refine r_iconst (2) dL_law_3918 (by decide) ?_
    refine r_iadd dL_law_3919 ?_
    refine r_sld (k := 6 * j + 2) (nadd rfl kn_2) (by omega) hL3 dL_law_3920 ?_
    refine r_aload_n dL_law_3921 rfl ?_
    refine r_iload dL_law_3922 rfl ?_
    refine r_iconst (3) dL_law_3924 (by decide) ?_
    refine r_iadd dL_law_3925 ?_
    refine r_sld (k := 6 * j + 3) (nadd rfl kn_3) (by omega) hL3 dL_law_3926 ?_
    refine q_callT3 (cv_X9_demandsWithin ml_L_385) w1.1 kc_723 (by decide) rfl (rmL rfl (by show cs.1 + 1 + 0 ≤ _; omega) (by show cs.2 + 6 + 0 ≤ _; omega)) (Nat.le_of_ble_eq_true rfl) dL_law_3927 (c_X9_demandsWithin (hW := w1.1) (hm := w1.2.2.1) (hO := hp.1.1) (hm28 := (by omega))) (fun v2 h2 ty2 p2 => ?_)
    obtain ⟨rfl, p3⟩ := p2
    obtain rfl := p3 hz
    have w2 := st_si (c := cd1 (okP r (gX G (6 * j + 1)))) w1 hp
    have ht : ∀ {H : AH}, aI (sI H 723 12 (nI (cd1 (okP r (gX G (6 * j + 1)))))) 723 12 = nI (cd1 (okP r (gX G (6 * j + 1)))) := sI_s
    refine r_istore (ls2 := [some (.ref 0), some (.ref 1), some (.ref 723), some (.ref 737), some (.ref 738), some (.int (nI (6 * j))), _, some _, _]) dL_law_3930 (by decide) rfl ?_
    refine r_aload_n dL_law_3932 rfl ?_
    refine q_callT0 (cv_X9_thrown ml_L_222) w2.1 kc_723 (by decide) rfl (rmL rfl (by show cs.1 + 1 + 0 + 0 ≤ _; omega) (by show cs.2 + 6 + 0 + 0 ≤ _; omega)) (Nat.le_of_ble_eq_true rfl) dL_law_3933 (c_X9_thrown w2.1) (fun v5 h5 _ q5 => ?_)
    obtain ⟨rfl, rfl⟩ := q5
    refine r_iload dL_law_3936 rfl ?_
    refine r_icmp_eq 3943 dL_law_3938 (by decide) (fun _ => ?_) (fun c9 => absurd ht c9)
    refine r_iload dL_law_3943 rfl ?_
    refine r_if_ne 3960 dL_law_3945 (by decide) (fun c9 => absurd (by rw [hz]; rfl) c9) (fun _ => ?_)
    refine r_aload_n dL_law_3948 rfl ?_
    refine r_iconst (0) dL_law_3949 (by decide) ?_
    refine q_lald (k := 0) w2.1 kc_737 kn_0 (by decide) (by decide) dL_law_3950 ?_
    rw [ho2]
    refine r_iload dL_law_3951 rfl ?_
    refine r_i2l dL_law_3953 ?_
    refine r_lcmp dL_law_3954 ?_
    refine r_if_eq 3960 dL_law_3955 (by decide) (fun _ => ?_) (fun c9 => absurd lg_cmp_s c9)
    refine r_goto 4127 dL_law_3960 (by decide) ?_
    exact kk _ _ _ _ _ _ _ _ _ _ _ _ _ _ w2 hp2 (by show cs.1 + 1 + 0 ≤ _; omega) (by show cs.2 + 6 + 0 ≤ _; omega)
  · obtain rfl := q2 hz
    have w1 := w
    refine r_istore (ls2 := [some (.ref 0), some (.ref 1), some (.ref 723), some (.ref 737), some (.ref 738), some (.int (nI (6 * j))), some _, _, _]) dL_law_3906 (by decide) rfl ?_
    refine r_aload_n dL_law_3908 rfl ?_
    refine r_aload_n dL_law_3909 rfl ?_
    refine r_iload dL_law_3910 rfl ?_
    refine r_iconst (1) dL_law_3912 (by decide) ?_
    refine r_iadd dL_law_3913 ?_
    refine r_sld (k := 6 * j + 1) (nadd rfl kn_1) (by omega) hL3 dL_law_3914 ?_
    refine r_aload_n dL_law_3915 rfl ?_
    refine r_iload dL_law_3916 rfl ?_
    refine r_iconst (2) dL_law_3918 (by decide) ?_
    refine r_iadd dL_law_3919 ?_
    refine r_sld (k := 6 * j + 2) (nadd rfl kn_2) (by omega) hL3 dL_law_3920 ?_
    refine r_aload_n dL_law_3921 rfl ?_
    refine r_iload dL_law_3922 rfl ?_
    refine r_iconst (3) dL_law_3924 (by decide) ?_
    refine r_iadd dL_law_3925 ?_
    refine r_sld (k := 6 * j + 3) (nadd rfl kn_3) (by omega) hL3 dL_law_3926 ?_
    refine q_callT3 (cv_X9_demandsWithin ml_L_385) w1.1 kc_723 (by decide) rfl (rmL rfl (by show cs.1 + 1 + 0 ≤ _; omega) (by show cs.2 + 6 + 0 ≤ _; omega)) (Nat.le_of_ble_eq_true rfl) dL_law_3927 (c_X9_demandsWithin (hW := w1.1) (hm := w1.2.2.1) (hO := hp.1.1) (hm28 := (by omega))) (fun v2 h2 ty2 p2 => ?_)
    obtain ⟨y2, rfl⟩ : ∃ x, v2 = some (.int x) := ty2
    obtain ⟨rfl, -⟩ := p2
    have w2 := st_si (c := cd1 (okP r (gX G (6 * j + 1)))) w1 hp
    have ht : ∀ {H : AH}, aI (sI H 723 12 (nI (cd1 (okP r (gX G (6 * j + 1)))))) 723 12 = nI (cd1 (okP r (gX G (6 * j + 1)))) := sI_s
    refine r_istore (ls2 := [some (.ref 0), some (.ref 1), some (.ref 723), some (.ref 737), some (.ref 738), some (.int (nI (6 * j))), _, some _, _]) dL_law_3930 (by decide) rfl ?_
    refine r_aload_n dL_law_3932 rfl ?_
    refine q_callT0 (cv_X9_thrown ml_L_222) w2.1 kc_723 (by decide) rfl (rmL rfl (by show cs.1 + 1 + 0 + 0 ≤ _; omega) (by show cs.2 + 6 + 0 + 0 ≤ _; omega)) (Nat.le_of_ble_eq_true rfl) dL_law_3933 (c_X9_thrown w2.1) (fun v5 h5 _ q5 => ?_)
    obtain ⟨rfl, rfl⟩ := q5
    refine r_iload dL_law_3936 rfl ?_
    refine r_icmp_eq 3943 dL_law_3938 (by decide) (fun _ => ?_) (fun c9 => absurd ht c9)
    refine r_iload dL_law_3943 rfl ?_
    refine r_if_ne 3960 dL_law_3945 (by decide) (fun _ => ?_) (fun c9 => absurd c9 (nI_nz hz (by have := (show cd1 (okP r (gX G (6 * j + 1))) ≤ 4 from Nat.le_trans cd1_le (by decide)); omega)))
    refine r_goto 4127 dL_law_3960 (by decide) ?_
    exact kk _ _ _ _ _ _ _ _ _ _ _ _ _ _ w2 hp.nx (by show cs.1 + 1 + 0 ≤ _; omega) (by show cs.2 + 6 + 0 ≤ _; omega)
