-- the law: questions without a wrapper
set_option maxRecDepth 100000 in
set_option maxHeartbeats 4000000 in
theorem law_3 {l9 : Launch} {G : GC} {Fi : CX → State → Prop} {h : AH} {r s : Row} {L : List Row} {sv : Bool} {b : Nat → Int32} {n j : Nat} {o : Ob} {er eo : Int32} {l6 l7 l8 : Option Value} {cs : Nat × Nat} (hG : GOK G) (hj : 6 * j + 6 ≤ gL G) (hL3 : gL G ≤ 3072) (w : StL h r L r L s sv b n o er eo) (hp : LvP r L s sv b n (300 * j)) (hc1 : cs.1 ≤ 800 + 60 * j) (hc2 : cs.2 ≤ 40000 + 400 * j) (kk : LNx l9 G Fi j) : PW l9 G mL_law room_1 Fi NT 427 [some (.ref 0), some (.ref 1), some (.ref 723), some (.ref 737), some (.ref 738), some (.int (nI (6 * j))), l6, l7, l8] [] cs h := by
  refine r_aload_n dL_law_427 rfl ?_
  refine q_callT0 (cv_X8_errorCode ml_L_208) w.1 kc_1 (by decide) rfl (rmL rfl (by show cs.1 + 0 + 0 ≤ _; omega) (by show cs.2 + 0 + 0 ≤ _; omega)) (Nat.le_of_ble_eq_true rfl) dL_law_428 (c_X8_errorCode (hW := w.1)) (fun v0 h0 _ q0 => ?_)
  obtain ⟨rfl, rfl⟩ := q0
  refine r_aload_n dL_law_431 rfl ?_
  refine q_callT0 (cv_X9_errorCode ml_L_211) w.1 kc_723 (by decide) rfl (rmL rfl (by show cs.1 + 0 + 0 ≤ _; omega) (by show cs.2 + 0 + 0 ≤ _; omega)) (Nat.le_of_ble_eq_true rfl) dL_law_432 (c_X9_errorCode (hW := w.1)) (fun v1 h1 _ q1 => ?_)
  obtain ⟨rfl, rfl⟩ := q1
  refine r_icmp_eq 4127 dL_law_435 (by decide) (fun _ => ?_) (fun c9 => absurd (w.2.1.2.2.2.2.2.1.trans w.2.2.2.2.2.2.2.1.symm) c9)
  exact kk _ _ _ _ _ _ _ _ _ _ _ _ _ _ (st_si (c := 0) w hp) hp.nx (by show cs.1 + 0 + 0 ≤ _; omega) (by show cs.2 + 0 + 0 ≤ _; omega)
set_option maxRecDepth 100000 in
set_option maxHeartbeats 4000000 in
theorem law_4 {l9 : Launch} {G : GC} {Fi : CX → State → Prop} {h : AH} {r s : Row} {L : List Row} {sv : Bool} {b : Nat → Int32} {n j : Nat} {o : Ob} {er eo : Int32} {l6 l7 l8 : Option Value} {cs : Nat × Nat} (hG : GOK G) (hj : 6 * j + 6 ≤ gL G) (hL3 : gL G ≤ 3072) (w : StL h r L r L s sv b n o er eo) (hp : LvP r L s sv b n (300 * j)) (hc1 : cs.1 ≤ 800 + 60 * j) (hc2 : cs.2 ≤ 40000 + 400 * j) (kk : LNx l9 G Fi j) : PW l9 G mL_law room_1 Fi NT 440 [some (.ref 0), some (.ref 1), some (.ref 723), some (.ref 737), some (.ref 738), some (.int (nI (6 * j))), l6, l7, l8] [] cs h := by
  refine r_aload_n dL_law_440 rfl ?_
  refine q_callT0 (cv_X8_errorOffset ml_L_212) w.1 kc_1 (by decide) rfl (rmL rfl (by show cs.1 + 0 + 0 ≤ _; omega) (by show cs.2 + 0 + 0 ≤ _; omega)) (Nat.le_of_ble_eq_true rfl) dL_law_441 (c_X8_errorOffset (hW := w.1)) (fun v0 h0 _ q0 => ?_)
  obtain ⟨rfl, rfl⟩ := q0
  refine r_aload_n dL_law_444 rfl ?_
  refine q_callT0 (cv_X9_errorOffset ml_L_215) w.1 kc_723 (by decide) rfl (rmL rfl (by show cs.1 + 0 + 0 ≤ _; omega) (by show cs.2 + 0 + 0 ≤ _; omega)) (Nat.le_of_ble_eq_true rfl) dL_law_445 (c_X9_errorOffset (hW := w.1)) (fun v1 h1 _ q1 => ?_)
  obtain ⟨rfl, rfl⟩ := q1
  refine r_icmp_eq 4127 dL_law_448 (by decide) (fun _ => ?_) (fun c9 => absurd (w.2.1.2.2.2.2.2.2.trans w.2.2.2.2.2.2.2.2.symm) c9)
  exact kk _ _ _ _ _ _ _ _ _ _ _ _ _ _ (st_si (c := 0) w hp) hp.nx (by show cs.1 + 0 + 0 ≤ _; omega) (by show cs.2 + 0 + 0 ≤ _; omega)
set_option maxRecDepth 100000 in
set_option maxHeartbeats 4000000 in
theorem law_47 {l9 : Launch} {G : GC} {Fi : CX → State → Prop} {h : AH} {r s : Row} {L : List Row} {sv : Bool} {b : Nat → Int32} {n j : Nat} {o : Ob} {er eo : Int32} {l6 l7 l8 : Option Value} {cs : Nat × Nat} (hG : GOK G) (hj : 6 * j + 6 ≤ gL G) (hL3 : gL G ≤ 3072) (w : StL h r L r L s sv b n o er eo) (hp : LvP r L s sv b n (300 * j)) (hc1 : cs.1 ≤ 800 + 60 * j) (hc2 : cs.2 ≤ 40000 + 400 * j) (kk : LNx l9 G Fi j) : PW l9 G mL_law room_1 Fi NT 3274 [some (.ref 0), some (.ref 1), some (.ref 723), some (.ref 737), some (.ref 738), some (.int (nI (6 * j))), l6, l7, l8] [] cs h := by
  refine r_aload_n dL_law_3274 rfl ?_
  refine q_callT0 (cv_X8_busiest ml_L_352) w.1 kc_1 (by decide) rfl (rmL rfl (by show cs.1 + 0 + 0 ≤ _; omega) (by show cs.2 + 0 + 0 ≤ _; omega)) (Nat.le_of_ble_eq_true rfl) dL_law_3275 (c_X8_busiest (hW := w.1) (hs := w.2.1.1) (hO := hp.1.1)) (fun v0 h0 _ q0 => ?_)
  obtain ⟨rfl, rfl⟩ := q0
  refine r_aload_n dL_law_3278 rfl ?_
  refine q_callT0 (cv_X9_busiest ml_L_355) w.1 kc_723 (by decide) rfl (rmL rfl (by show cs.1 + 0 + 0 ≤ _; omega) (by show cs.2 + 0 + 0 ≤ _; omega)) (Nat.le_of_ble_eq_true rfl) dL_law_3279 (c_X9_busiest (hW := w.1) (hm := w.2.2.1) (hO := hp.1.1) (hm28 := (by omega))) (fun v1 h1 _ q1 => ?_)
  obtain ⟨rfl, rfl⟩ := q1
  refine r_icmp_eq 4127 dL_law_3282 (by decide) (fun _ => ?_) (fun c9 => absurd rfl c9)
  exact kk _ _ _ _ _ _ _ _ _ _ _ _ _ _ (st_si (c := 0) w hp) hp.nx (by show cs.1 + 0 + 0 ≤ _; omega) (by show cs.2 + 0 + 0 ≤ _; omega)
set_option maxRecDepth 100000 in
set_option maxHeartbeats 4000000 in
theorem law_58 {l9 : Launch} {G : GC} {Fi : CX → State → Prop} {h : AH} {r s : Row} {L : List Row} {sv : Bool} {b : Nat → Int32} {n j : Nat} {o : Ob} {er eo : Int32} {l6 l7 l8 : Option Value} {cs : Nat × Nat} (hG : GOK G) (hj : 6 * j + 6 ≤ gL G) (hL3 : gL G ≤ 3072) (w : StL h r L r L s sv b n o er eo) (hp : LvP r L s sv b n (300 * j)) (hc1 : cs.1 ≤ 800 + 60 * j) (hc2 : cs.2 ≤ 40000 + 400 * j) (kk : LNx l9 G Fi j) : PW l9 G mL_law room_1 Fi NT 3963 [some (.ref 0), some (.ref 1), some (.ref 723), some (.ref 737), some (.ref 738), some (.int (nI (6 * j))), l6, l7, l8] [] cs h := by
  refine r_aload_n dL_law_3963 rfl ?_
  refine q_callT0 (cv_X8_eldest ml_L_386) w.1 kc_1 (by decide) rfl (rmL rfl (by show cs.1 + 0 + 0 ≤ _; omega) (by show cs.2 + 0 + 0 ≤ _; omega)) (Nat.le_of_ble_eq_true rfl) dL_law_3964 (c_X8_eldest (hW := w.1) (hs := w.2.1.1) (hO := hp.1.1)) (fun v0 h0 _ q0 => ?_)
  obtain ⟨rfl, rfl⟩ := q0
  refine r_aload_n dL_law_3967 rfl ?_
  refine q_callT0 (cv_X9_eldest ml_L_389) w.1 kc_723 (by decide) rfl (rmL rfl (by show cs.1 + 0 + 0 ≤ _; omega) (by show cs.2 + 0 + 0 ≤ _; omega)) (Nat.le_of_ble_eq_true rfl) dL_law_3968 (c_X9_eldest (hW := w.1) (hm := w.2.2.1) (hO := hp.1.1) (hm28 := (by omega))) (fun v1 h1 _ q1 => ?_)
  obtain ⟨rfl, rfl⟩ := q1
  refine r_icmp_eq 4127 dL_law_3971 (by decide) (fun _ => ?_) (fun c9 => absurd rfl c9)
  exact kk _ _ _ _ _ _ _ _ _ _ _ _ _ _ (st_si (c := 0) w hp) hp.nx (by show cs.1 + 0 + 0 ≤ _; omega) (by show cs.2 + 0 + 0 ≤ _; omega)
set_option maxRecDepth 100000 in
set_option maxHeartbeats 4000000 in
theorem law_60 {l9 : Launch} {G : GC} {Fi : CX → State → Prop} {h : AH} {r s : Row} {L : List Row} {sv : Bool} {b : Nat → Int32} {n j : Nat} {o : Ob} {er eo : Int32} {l6 l7 l8 : Option Value} {cs : Nat × Nat} (hG : GOK G) (hj : 6 * j + 6 ≤ gL G) (hL3 : gL G ≤ 3072) (w : StL h r L r L s sv b n o er eo) (hp : LvP r L s sv b n (300 * j)) (hc1 : cs.1 ≤ 800 + 60 * j) (hc2 : cs.2 ≤ 40000 + 400 * j) (kk : LNx l9 G Fi j) : PW l9 G mL_law room_1 Fi NT 4032 [some (.ref 0), some (.ref 1), some (.ref 723), some (.ref 737), some (.ref 738), some (.int (nI (6 * j))), l6, l7, l8] [] cs h := by
  refine r_aload_n dL_law_4032 rfl ?_
  refine r_aload_n dL_law_4033 rfl ?_
  refine r_iload dL_law_4034 rfl ?_
  refine r_iconst (1) dL_law_4036 (by decide) ?_
  refine r_iadd dL_law_4037 ?_
  refine r_sld (k := 6 * j + 1) (nadd rfl kn_1) (by omega) hL3 dL_law_4038 ?_
  refine q_callT1 (cv_X8_outputByte ml_L_393) w.1 kc_1 (by decide) rfl (rmL rfl (by show cs.1 + 0 + 0 ≤ _; omega) (by show cs.2 + 0 + 0 ≤ _; omega)) (Nat.le_of_ble_eq_true rfl) dL_law_4039 (c_X8_outputByte (hW := w.1) (ho := w.2.1.2.2.2.2.1)) (fun v0 h0 _ q0 => ?_)
  obtain ⟨rfl, rfl⟩ := q0
  refine r_aload_n dL_law_4042 rfl ?_
  refine r_aload_n dL_law_4043 rfl ?_
  refine r_iload dL_law_4044 rfl ?_
  refine r_iconst (1) dL_law_4046 (by decide) ?_
  refine r_iadd dL_law_4047 ?_
  refine r_sld (k := 6 * j + 1) (nadd rfl kn_1) (by omega) hL3 dL_law_4048 ?_
  refine q_callT1 (cv_X9_outputByte ml_L_396) w.1 kc_723 (by decide) rfl (rmL rfl (by show cs.1 + 0 + 0 ≤ _; omega) (by show cs.2 + 0 + 0 ≤ _; omega)) (Nat.le_of_ble_eq_true rfl) dL_law_4049 (c_X9_outputByte (hW := w.1) (ho := w.2.2.2.2.2.2.1)) (fun v1 h1 _ q1 => ?_)
  obtain ⟨rfl, rfl⟩ := q1
  refine r_icmp_eq 4127 dL_law_4052 (by decide) (fun _ => ?_) (fun c9 => absurd rfl c9)
  exact kk _ _ _ _ _ _ _ _ _ _ _ _ _ _ (st_si (c := 0) w hp) hp.nx (by show cs.1 + 0 + 0 ≤ _; omega) (by show cs.2 + 0 + 0 ≤ _; omega)
