theorem PW.cs {l : Launch} {G : GC} {M : MD} {R : Room} {Fi : CX → State → Prop} {N pc : Nat} {ls : List (Option Value)} {st : List Value} {cs cs2 : Nat × Nat} {h : AH} (e : cs = cs2) (k : PW l G M R Fi N pc ls st cs2 h) : PW l G M R Fi N pc ls st cs h := e ▸ k
theorem kd_new {h : AH} {m c : Nat} (hk : kd (m + 1) c) (hc : c < 10) : KO (nW h (m + 1) c 0) (m + 1) ∧ ZO (nW h (m + 1) c 0) (m + 1) := ko_new hk.1 (wL0 _ hk.2.2 (by rw [hk.1]; exact hc))
set_option maxRecDepth 100000 in
set_option maxHeartbeats 4000000 in
theorem c_X0_init {l9 : Launch} {G : GC} {h : AH} {N : Nat} (hk : kd N 0) (hK : KO h N ∧ ZO h N) (hN : N + 4 ≤ NT) : PM l9 G mX0_init N (N + 4) [.ref N] h (fun v h' => v = none ∧ CK N (N + 4) h h') noX := by
  refine PM.of (by decide +kernel) rfl rfl (Nat.le_of_ble_eq_true rfl) (fun hst _ => ?_)
  have h0 := hk.2.1
  have hm := mid_0 hk.2.1 hK.1 hK.2
  refine r_aload_n dX0_init_0 rfl ?_
  refine r_obj (tgI 196 (by decide +kernel) rfl) w_oi w_oc (Nat.le_of_ble_eq_true rfl) (Nat.le_of_ble_eq_true rfl) dX0_init_1 ?_
  refine r_aload_n dX0_init_4 rfl ?_
  refine r_bipush (60) dX0_init_5 (by decide) ?_
  refine r_newi (N := N) kn_60 (by decide) (by omega) rfl rfl dX0_init_7 ?_
  refine PW.cs (cs2 := (1, 60)) rfl ?_
  replace hm := mid_arr hm (kk_0_0 hk).1.1 (kk_0_0 hk).2 (by decide)
  refine r_putRF fl_X0_9 (mid_K hm (by omega) (by omega) hk.1) rfl (by omega) rfl rfl rfl dX0_init_9 ?_
  replace hm := mid_put (i := N) (k := 0) (v := (N + 1)) hm (by simp) (by omega)
  refine r_aload_n dX0_init_12 rfl ?_
  refine r_bipush (60) dX0_init_13 (by decide) ?_
  refine r_newi (N := (N + 1)) kn_60 (by decide) (by omega) rfl rfl dX0_init_15 ?_
  refine PW.cs (cs2 := (2, 120)) rfl ?_
  replace hm := mid_arr hm (kk_0_1 hk).1.1 (kk_0_1 hk).2 (by decide)
  refine r_putRF fl_X0_15 (mid_K hm (by omega) (by omega) hk.1) rfl (by omega) rfl rfl rfl dX0_init_17 ?_
  replace hm := mid_put (i := N) (k := 1) (v := (N + 2)) hm (by simp) (by omega)
  refine r_aload_n dX0_init_20 rfl ?_
  refine r_bipush (60) dX0_init_21 (by decide) ?_
  refine r_newi (N := (N + 2)) kn_60 (by decide) (by omega) rfl rfl dX0_init_23 ?_
  refine PW.cs (cs2 := (3, 180)) rfl ?_
  replace hm := mid_arr hm (kk_0_2 hk).1.1 (kk_0_2 hk).2 (by decide)
  refine r_putRF fl_X0_18 (mid_K hm (by omega) (by omega) hk.1) rfl (by omega) rfl rfl rfl dX0_init_25 ?_
  replace hm := mid_put (i := N) (k := 2) (v := (N + 3)) hm (by simp) (by omega)
  refine r_aload_n dX0_init_28 rfl ?_
  refine r_bipush (60) dX0_init_29 (by decide) ?_
  refine r_newi (N := (N + 3)) kn_60 (by decide) (by omega) rfl rfl dX0_init_31 ?_
  refine PW.cs (cs2 := (4, 240)) rfl ?_
  replace hm := mid_arr hm (kk_0_3 hk).1.1 (kk_0_3 hk).2 (by decide)
  refine r_putRF fl_X0_21 (mid_K hm (by omega) (by omega) hk.1) rfl (by omega) rfl rfl rfl dX0_init_33 ?_
  replace hm := mid_put (i := N) (k := 3) (v := (N + 4)) hm (by simp) (by omega)
  refine r_vret dX0_init_36 rfl ⟨Nat.le_of_ble_eq_true rfl, Nat.le_of_ble_eq_true rfl⟩ ?_
  refine ⟨rfl, mid_end hm (LO.k0 hk.1 ?_)⟩
  simp (discharger := omega) [sR_at, nW_R0, sR_rne0]
set_option maxRecDepth 100000 in
set_option maxHeartbeats 4000000 in
theorem c_X1_init {l9 : Launch} {G : GC} {h : AH} {N : Nat} (hk : kd N 1) (hK : KO h N ∧ ZO h N) (hN : N + 4 ≤ NT) : PM l9 G mX1_init N (N + 4) [.ref N] h (fun v h' => v = none ∧ CK N (N + 4) h h') noX := by
  refine PM.of (by decide +kernel) rfl rfl (Nat.le_of_ble_eq_true rfl) (fun hst _ => ?_)
  have h0 := hk.2.1
  have hm := mid_0 hk.2.1 hK.1 hK.2
  refine r_aload_n dX1_init_0 rfl ?_
  refine r_obj (tgI 330 (by decide +kernel) rfl) w_oi w_oc (Nat.le_of_ble_eq_true rfl) (Nat.le_of_ble_eq_true rfl) dX1_init_1 ?_
  refine r_aload_n dX1_init_4 rfl ?_
  refine r_bipush (20) dX1_init_5 (by decide) ?_
  refine r_newi (N := N) kn_20 (by decide) (by omega) rfl rfl dX1_init_7 ?_
  refine PW.cs (cs2 := (1, 20)) rfl ?_
  replace hm := mid_arr hm (kk_1_0 hk).1.1 (kk_1_0 hk).2 (by decide)
  refine r_putRF fl_X1_9 (mid_K hm (by omega) (by omega) hk.1) rfl (by omega) rfl rfl rfl dX1_init_9 ?_
  replace hm := mid_put (i := N) (k := 0) (v := (N + 1)) hm (by simp) (by omega)
  refine r_aload_n dX1_init_12 rfl ?_
  refine r_bipush (20) dX1_init_13 (by decide) ?_
  refine r_newi (N := (N + 1)) kn_20 (by decide) (by omega) rfl rfl dX1_init_15 ?_
  refine PW.cs (cs2 := (2, 40)) rfl ?_
  replace hm := mid_arr hm (kk_1_1 hk).1.1 (kk_1_1 hk).2 (by decide)
  refine r_putRF fl_X1_15 (mid_K hm (by omega) (by omega) hk.1) rfl (by omega) rfl rfl rfl dX1_init_17 ?_
  replace hm := mid_put (i := N) (k := 1) (v := (N + 2)) hm (by simp) (by omega)
  refine r_aload_n dX1_init_20 rfl ?_
  refine r_bipush (20) dX1_init_21 (by decide) ?_
  refine r_newi (N := (N + 2)) kn_20 (by decide) (by omega) rfl rfl dX1_init_23 ?_
  refine PW.cs (cs2 := (3, 60)) rfl ?_
  replace hm := mid_arr hm (kk_1_2 hk).1.1 (kk_1_2 hk).2 (by decide)
  refine r_putRF fl_X1_18 (mid_K hm (by omega) (by omega) hk.1) rfl (by omega) rfl rfl rfl dX1_init_25 ?_
  replace hm := mid_put (i := N) (k := 2) (v := (N + 3)) hm (by simp) (by omega)
  refine r_aload_n dX1_init_28 rfl ?_
  refine r_bipush (20) dX1_init_29 (by decide) ?_
  refine r_newz (N := (N + 3)) kn_20 (by decide) (by omega) rfl rfl dX1_init_31 ?_
  refine PW.cs (cs2 := (4, 80)) rfl ?_
  replace hm := mid_arr hm (kk_1_3 hk).1.1 (kk_1_3 hk).2 (by decide)
  refine r_putRF fl_X1_21 (mid_K hm (by omega) (by omega) hk.1) rfl (by omega) rfl rfl rfl dX1_init_33 ?_
  replace hm := mid_put (i := N) (k := 3) (v := (N + 4)) hm (by simp) (by omega)
  refine r_vret dX1_init_36 rfl ⟨Nat.le_of_ble_eq_true rfl, Nat.le_of_ble_eq_true rfl⟩ ?_
  refine ⟨rfl, mid_end hm (LO.k1 hk.1 ?_)⟩
  simp (discharger := omega) [sR_at, nW_R0, sR_rne0]
set_option maxRecDepth 100000 in
set_option maxHeartbeats 4000000 in
theorem c_X2_init {l9 : Launch} {G : GC} {h : AH} (hk : kd 5 2) (hK : KO h 5 ∧ ZO h 5) (hN : 6 ≤ NT) : PM l9 G mX2_init 5 6 [.ref 5] h (fun v h' => v = none ∧ CK 5 6 h h') noX := by
  refine PM.of (by decide +kernel) rfl rfl (Nat.le_of_ble_eq_true rfl) (fun hst _ => ?_)
  have h0 := hk.2.1
  have hm := mid_0 hk.2.1 hK.1 hK.2
  refine r_aload_n dX2_init_0 rfl ?_
  refine r_obj (tgI 173 (by decide +kernel) rfl) w_oi w_oc (Nat.le_of_ble_eq_true rfl) (Nat.le_of_ble_eq_true rfl) dX2_init_1 ?_
  refine r_aload_n dX2_init_4 rfl ?_
  refine r_sipush (300) dX2_init_5 (by decide) ?_
  refine r_newb (N := 5) kn_300 (by decide) (by decide) rfl rfl dX2_init_8 ?_
  refine PW.cs (cs2 := (1, 300)) rfl ?_
  replace hm := mid_arr hm (kc_6).1.1 (kc_6).2 (by decide)
  refine r_putRF fl_X2_9 (mid_K hm (by omega) (by omega) hk.1) rfl (by omega) rfl rfl rfl dX2_init_10 ?_
  replace hm := mid_put (i := 5) (k := 0) (v := (6)) hm (by simp) (by omega)
  refine r_vret dX2_init_13 rfl ⟨Nat.le_of_ble_eq_true rfl, Nat.le_of_ble_eq_true rfl⟩ ?_
  refine ⟨rfl, mid_end hm (LO.k2 hk.1 ?_)⟩
  simp (discharger := omega) [sR_at, nW_R0, sR_rne0]
set_option maxRecDepth 100000 in
set_option maxHeartbeats 4000000 in
theorem c_X4_init {l9 : Launch} {G : GC} {h : AH} {N : Nat} (hk : kd N 4) (hK : KO h N ∧ ZO h N) (hN : N + 1 ≤ NT) : PM l9 G mX4_init N (N + 1) [.ref N] h (fun v h' => v = none ∧ CK N (N + 1) h h') noX := by
  refine PM.of (by decide +kernel) rfl rfl (Nat.le_of_ble_eq_true rfl) (fun hst _ => ?_)
  have h0 := hk.2.1
  have hm := mid_0 hk.2.1 hK.1 hK.2
  refine r_aload_n dX4_init_0 rfl ?_
  refine r_obj (tgI 226 (by decide +kernel) rfl) w_oi w_oc (Nat.le_of_ble_eq_true rfl) (Nat.le_of_ble_eq_true rfl) dX4_init_1 ?_
  refine r_aload_n dX4_init_4 rfl ?_
  refine r_bipush (24) dX4_init_5 (by decide) ?_
  refine r_newi (N := N) kn_24 (by decide) (by omega) rfl rfl dX4_init_7 ?_
  refine PW.cs (cs2 := (1, 24)) rfl ?_
  replace hm := mid_arr hm (kk_4_16 hk).1.1 (kk_4_16 hk).2 (by decide)
  refine r_putRF fl_X4_9 (mid_K hm (by omega) (by omega) hk.1) rfl (by omega) rfl rfl rfl dX4_init_9 ?_
  replace hm := mid_put (i := N) (k := 16) (v := (N + 1)) hm (by simp) (by omega)
  refine r_vret dX4_init_12 rfl ⟨Nat.le_of_ble_eq_true rfl, Nat.le_of_ble_eq_true rfl⟩ ?_
  refine ⟨rfl, mid_end hm (LO.k4 hk.1 ?_)⟩
  simp (discharger := omega) [sR_at, nW_R0, sR_rne0]
set_option maxRecDepth 100000 in
set_option maxHeartbeats 4000000 in
theorem c_X5_init {l9 : Launch} {G : GC} {h : AH} (hk : kd 3 5) (hK : KO h 3 ∧ ZO h 3) (hN : 4 ≤ NT) : PM l9 G mX5_init 3 4 [.ref 3] h (fun v h' => v = none ∧ CK 3 4 h h') noX := by
  refine PM.of (by decide +kernel) rfl rfl (Nat.le_of_ble_eq_true rfl) (fun hst _ => ?_)
  have h0 := hk.2.1
  have hm := mid_0 hk.2.1 hK.1 hK.2
  refine r_aload_n dX5_init_0 rfl ?_
  refine r_obj (tgI 136 (by decide +kernel) rfl) w_oi w_oc (Nat.le_of_ble_eq_true rfl) (Nat.le_of_ble_eq_true rfl) dX5_init_1 ?_
  refine r_aload_n dX5_init_4 rfl ?_
  refine r_iconst (0) dX5_init_5 (by decide) ?_
  refine r_newb (N := 3) kn_0 (by decide) (by decide) rfl rfl dX5_init_6 ?_
  refine PW.cs (cs2 := (1, 0)) rfl ?_
  replace hm := mid_arr hm (kc_4).1.1 (kc_4).2 (by decide)
  refine r_putR fl_X5_9 (mid_K hm (by omega) (by omega) hk.1) rfl (by omega) rfl dX5_init_8 ?_
  replace hm := mid_put (i := 3) (k := 0) (v := (4)) hm (by simp) (by omega)
  refine r_vret dX5_init_11 rfl ⟨Nat.le_of_ble_eq_true rfl, Nat.le_of_ble_eq_true rfl⟩ ?_
  exact ⟨rfl, mid_end hm (LO.no hk.1 (by decide))⟩
set_option maxRecDepth 100000 in
set_option maxHeartbeats 4000000 in
theorem c_X7_init {l9 : Launch} {G : GC} {h : AH} {N : Nat} (hk : kd N 7) (hK : KO h N ∧ ZO h N) (hN : N + 1 ≤ NT) : PM l9 G mX7_init N (N + 1) [.ref N] h (fun v h' => v = none ∧ CK N (N + 1) h h') noX := by
  refine PM.of (by decide +kernel) rfl rfl (Nat.le_of_ble_eq_true rfl) (fun hst _ => ?_)
  have h0 := hk.2.1
  have hm := mid_0 hk.2.1 hK.1 hK.2
  refine r_aload_n dX7_init_0 rfl ?_
  refine r_obj (tgI 364 (by decide +kernel) rfl) w_oi w_oc (Nat.le_of_ble_eq_true rfl) (Nat.le_of_ble_eq_true rfl) dX7_init_1 ?_
  refine r_aload_n dX7_init_4 rfl ?_
  refine r_bipush (6) dX7_init_5 (by decide) ?_
  refine r_newi (N := N) kn_6 (by decide) (by omega) rfl rfl dX7_init_7 ?_
  refine PW.cs (cs2 := (1, 6)) rfl ?_
  replace hm := mid_arr hm (kk_7_9 hk).1.1 (kk_7_9 hk).2 (by decide)
  refine r_putRF fl_X7_9 (mid_K hm (by omega) (by omega) hk.1) rfl (by omega) rfl rfl rfl dX7_init_9 ?_
  replace hm := mid_put (i := N) (k := 9) (v := (N + 1)) hm (by simp) (by omega)
  refine r_vret dX7_init_12 rfl ⟨Nat.le_of_ble_eq_true rfl, Nat.le_of_ble_eq_true rfl⟩ ?_
  refine ⟨rfl, mid_end hm (LO.k7 hk.1 ?_)⟩
  simp (discharger := omega) [sR_at, nW_R0, sR_rne0]
set_option maxRecDepth 100000 in
set_option maxHeartbeats 4000000 in
theorem c_X3_init {l9 : Launch} {G : GC} {h : AH} {N : Nat} (hk : kd N 3) (hK : KO h N ∧ ZO h N) (hN : N + 11 ≤ NT) : PM l9 G mX3_init N (N + 11) [.ref N] h (fun v h' => v = none ∧ CK N (N + 11) h h') noX := by
  refine PM.of (by decide +kernel) rfl rfl (Nat.le_of_ble_eq_true rfl) (fun hst _ => ?_)
  have h0 := hk.2.1
  have hm := mid_0 hk.2.1 hK.1 hK.2
  refine r_aload_n dX3_init_0 rfl ?_
  refine r_obj (tgI 220 (by decide +kernel) rfl) w_oi w_oc (Nat.le_of_ble_eq_true rfl) (Nat.le_of_ble_eq_true rfl) dX3_init_1 ?_
  refine r_aload_n dX3_init_4 rfl ?_
  refine r_new (N := N) (c := 4) (by decide) (tgI 221 (by decide +kernel) rfl) (tgI 222 (by decide +kernel) rfl) wq_105 (by omega) (Nat.le_of_ble_eq_true rfl) (Nat.le_of_ble_eq_true rfl) dX3_init_5 ?_
  refine PW.cs (cs2 := (1, 18)) rfl ?_
  refine r_dup dX3_init_8 rfl ?_
  refine r_callIN0 (N := (N + 1)) (N' := (N + 2)) cn_X3_11 rfl (Nat.le_of_ble_eq_true rfl) rfl (by omega) dX3_init_9 (c_X4_init (kk_3_0 hk) (kd_new (kk_3_0 hk) (by decide)) (by omega)) (fun h1 c1 => ?_)
  refine PW.cs (cs2 := (2, 42)) rfl ?_
  obtain ⟨hm1, s1⟩ := mid_ck hm c1
  replace hm := hm1
  have e1_0 := (s1 N (by omega) (by omega)).2.2.2.1
  clear s1 hm1 c1
  refine r_putRF fl_X3_12 (mid_K hm (by omega) (by omega) hk.1) rfl (by omega) rfl rfl rfl dX3_init_12 ?_
  replace hm := mid_put (i := N) (k := 0) (v := (N + 1)) hm (by simp) (by omega)
  refine r_aload_n dX3_init_15 rfl ?_
  refine r_new (N := (N + 2)) (c := 1) (by decide) (tgI 325 (by decide +kernel) rfl) (tgI 326 (by decide +kernel) rfl) wq_106 (by omega) (Nat.le_of_ble_eq_true rfl) (Nat.le_of_ble_eq_true rfl) dX3_init_16 ?_
  refine PW.cs (cs2 := (3, 47)) rfl ?_
  refine r_dup dX3_init_19 rfl ?_
  refine r_callIN0 (N := (N + 3)) (N' := (N + 7)) cn_X3_20 rfl (Nat.le_of_ble_eq_true rfl) rfl (by omega) dX3_init_20 (c_X1_init (kk_3_1 hk) (kd_new (kk_3_1 hk) (by decide)) (by omega)) (fun h2 c2 => ?_)
  refine PW.cs (cs2 := (7, 127)) rfl ?_
  obtain ⟨hm2, s2⟩ := mid_ck hm c2
  replace hm := hm2
  have e2_0 := (s2 N (by omega) (by omega)).2.2.2.1
  clear s2 hm2 c2
  refine r_putRF fl_X3_21 (mid_K hm (by omega) (by omega) hk.1) rfl (by omega) rfl rfl rfl dX3_init_23 ?_
  replace hm := mid_put (i := N) (k := 1) (v := (N + 3)) hm (by simp) (by omega)
  refine r_aload_n dX3_init_26 rfl ?_
  refine r_new (N := (N + 7)) (c := 7) (by decide) (tgI 359 (by decide +kernel) rfl) (tgI 360 (by decide +kernel) rfl) wq_107 (by omega) (Nat.le_of_ble_eq_true rfl) (Nat.le_of_ble_eq_true rfl) dX3_init_27 ?_
  refine PW.cs (cs2 := (8, 137)) rfl ?_
  refine r_dup dX3_init_30 rfl ?_
  refine r_callIN0 (N := (N + 8)) (N' := (N + 9)) cn_X3_27 rfl (Nat.le_of_ble_eq_true rfl) rfl (by omega) dX3_init_31 (c_X7_init (kk_3_2 hk) (kd_new (kk_3_2 hk) (by decide)) (by omega)) (fun h3 c3 => ?_)
  refine PW.cs (cs2 := (9, 143)) rfl ?_
  obtain ⟨hm3, s3⟩ := mid_ck hm c3
  replace hm := hm3
  have e3_0 := (s3 N (by omega) (by omega)).2.2.2.1
  clear s3 hm3 c3
  refine r_putRF fl_X3_28 (mid_K hm (by omega) (by omega) hk.1) rfl (by omega) rfl rfl rfl dX3_init_34 ?_
  replace hm := mid_put (i := N) (k := 2) (v := (N + 8)) hm (by simp) (by omega)
  refine r_aload_n dX3_init_37 rfl ?_
  refine r_bipush (24) dX3_init_38 (by decide) ?_
  refine r_newi (N := (N + 9)) kn_24 (by decide) (by omega) rfl rfl dX3_init_40 ?_
  refine PW.cs (cs2 := (10, 167)) rfl ?_
  replace hm := mid_arr hm (kk_3_3 hk).1.1 (kk_3_3 hk).2 (by decide)
  refine r_putRF fl_X3_32 (mid_K hm (by omega) (by omega) hk.1) rfl (by omega) rfl rfl rfl dX3_init_42 ?_
  replace hm := mid_put (i := N) (k := 3) (v := (N + 10)) hm (by simp) (by omega)
  refine r_aload_n dX3_init_45 rfl ?_
  refine r_bipush (8) dX3_init_46 (by decide) ?_
  refine r_newi (N := (N + 10)) kn_8 (by decide) (by omega) rfl rfl dX3_init_48 ?_
  refine PW.cs (cs2 := (11, 175)) rfl ?_
  replace hm := mid_arr hm (kk_3_5 hk).1.1 (kk_3_5 hk).2 (by decide)
  refine r_putRF fl_X3_36 (mid_K hm (by omega) (by omega) hk.1) rfl (by omega) rfl rfl rfl dX3_init_50 ?_
  replace hm := mid_put (i := N) (k := 5) (v := (N + 11)) hm (by simp) (by omega)
  refine r_vret dX3_init_53 rfl ⟨Nat.le_of_ble_eq_true rfl, Nat.le_of_ble_eq_true rfl⟩ ?_
  refine ⟨rfl, mid_end hm (LO.k3 hk.1 ?_)⟩
  simp (discharger := omega) [sR_at, nW_R0, sR_rne0, e1_0, e2_0, e3_0]
set_option maxRecDepth 100000 in
set_option maxHeartbeats 4000000 in
theorem c_X6_init {l9 : Launch} {G : GC} {h : AH} {N : Nat} (hk : kd N 6) (hK : KO h N ∧ ZO h N) (hN : N + 54 ≤ NT) : PM l9 G mX6_init N (N + 54) [.ref N] h (fun v h' => v = none ∧ CK N (N + 54) h h') noX := by
  refine PM.of (by decide +kernel) rfl rfl (Nat.le_of_ble_eq_true rfl) (fun hst _ => ?_)
  have h0 := hk.2.1
  have hm := mid_0 hk.2.1 hK.1 hK.2
  refine r_aload_n dX6_init_0 rfl ?_
  refine r_obj (tgI 188 (by decide +kernel) rfl) w_oi w_oc (Nat.le_of_ble_eq_true rfl) (Nat.le_of_ble_eq_true rfl) dX6_init_1 ?_
  refine r_aload_n dX6_init_4 rfl ?_
  refine r_iconst (4) dX6_init_5 (by decide) ?_
  refine r_newq (N := N) (t := 14) (n := 4) (Or.inl rfl) (List.mem_of_getElem? (i := 4) rfl) (tgI 189 (by decide +kernel) rfl) (fun _ q => q.2.2.1) kn_4 (by decide) (by omega) (Nat.le_of_ble_eq_true rfl) (Nat.le_of_ble_eq_true rfl) dX6_init_6 ?_
  refine PW.cs (cs2 := (1, 4)) rfl ?_
  replace hm := mid_arrE hm (kk_6_0 hk).1.1 (kk_6_0 hk).2
  refine r_putRF fl_X6_11 (mid_K hm (by omega) (by omega) hk.1) rfl (by omega) rfl rfl rfl dX6_init_9 ?_
  replace hm := mid_put (i := N) (k := 0) (v := (N + 1)) hm (by simp) (by omega)
  refine r_aload_n dX6_init_12 rfl ?_
  refine r_new (N := (N + 1)) (c := 0) (by decide) (tgI 191 (by decide +kernel) rfl) (tgI 192 (by decide +kernel) rfl) wq_103 (by omega) (Nat.le_of_ble_eq_true rfl) (Nat.le_of_ble_eq_true rfl) dX6_init_13 ?_
  refine PW.cs (cs2 := (2, 9)) rfl ?_
  refine r_dup dX6_init_16 rfl ?_
  refine r_callIN0 (N := (N + 2)) (N' := (N + 6)) cn_X6_19 rfl (Nat.le_of_ble_eq_true rfl) rfl (by omega) dX6_init_17 (c_X0_init (kk_6_4 hk) (kd_new (kk_6_4 hk) (by decide)) (by omega)) (fun h1 c1 => ?_)
  refine PW.cs (cs2 := (6, 249)) rfl ?_
  obtain ⟨hm1, s1⟩ := mid_ck hm c1
  replace hm := hm1
  have e1_0 := (s1 N (by omega) (by omega)).2.2.2.1
  clear s1 hm1 c1
  refine r_putRF fl_X6_20 (mid_K hm (by omega) (by omega) hk.1) rfl (by omega) rfl rfl rfl dX6_init_20 ?_
  replace hm := mid_put (i := N) (k := 4) (v := (N + 2)) hm (by simp) (by omega)
  refine r_iconst (0) dX6_init_23 (by decide) ?_
  refine r_istore_n (ls2 := [some _, some _]) dX6_init_24 (by decide) rfl ?_
  refine r_iload_n dX6_init_25 rfl ?_
  refine r_iconst (4) dX6_init_26 (by decide) ?_
  refine r_icmp_ge 49 dX6_init_27 (by decide) (fun c_0 => absurd c_0 (by decide)) (fun _ => ?_)
  refine r_aload_n dX6_init_30 rfl ?_
  refine r_getR (r := (N + 1)) fl_X6_11 (mid_K hm (by omega) (by omega) hk.1) rfl (by simp (discharger := omega) [sR_at, nW_R0, sR_rne0, e1_0]) (by omega) dX6_init_31 ?_
  refine r_iload_n dX6_init_34 rfl ?_
  refine r_new (N := (N + 6)) (c := 3) (by decide) (tgI 189 (by decide +kernel) rfl) (tgI 216 (by decide +kernel) rfl) wq_104 (by omega) (Nat.le_of_ble_eq_true rfl) (Nat.le_of_ble_eq_true rfl) dX6_init_35 ?_
  refine PW.cs (cs2 := (7, 262)) rfl ?_
  refine r_dup dX6_init_38 rfl ?_
  refine r_callIN0 (N := (N + 7)) (N' := (N + 18)) cn_X6_24 rfl (Nat.le_of_ble_eq_true rfl) rfl (by omega) dX6_init_39 (c_X3_init (kk_14 (p := 0) (kk_6_0 hk).1 (by decide)) (kd_new (kk_14 (p := 0) (kk_6_0 hk).1 (by decide)) (by decide)) (by omega)) (fun h2 c2 => ?_)
  refine PW.cs (cs2 := (18, 437)) rfl ?_
  obtain ⟨hm2, s2⟩ := mid_ck hm c2
  replace hm := hm2
  have e2_0 := (s2 N (by omega) (by omega)).2.2.2.1
  clear s2 hm2 c2
  refine r_pastN (n := 4) (p := 0) kn_0 (by decide) (by decide) (mid_A hm (by omega) (by omega) (kk_6_0 hk).1.1 (kk_6_0 hk).2) (mid_K hm (by omega) (by omega) (kk_14 (p := 0) (kk_6_0 hk).1 (by decide)).1) dX6_init_42 ?_
  replace hm := mid_put (i := (N + 1)) (k := 0) (v := (N + 7)) hm (by simp) (by omega)
  refine r_iinc (1) (by decide) (ls2 := [some (.ref N), some (.int 1)]) dX6_init_43 rfl (by decide) (congrArg (fun z => [some (Value.ref N), some (Value.int z)]) (show ((0 : Int32) + (1)) = 1 from by decide)) ?_
  refine r_goto 25 dX6_init_46 (by decide) ?_
  refine r_iload_n dX6_init_25 rfl ?_
  refine r_iconst (4) dX6_init_26 (by decide) ?_
  refine r_icmp_ge 49 dX6_init_27 (by decide) (fun c_0 => absurd c_0 (by decide)) (fun _ => ?_)
  refine r_aload_n dX6_init_30 rfl ?_
  refine r_getR (r := (N + 1)) fl_X6_11 (mid_K hm (by omega) (by omega) hk.1) rfl (by simp (discharger := omega) [sR_at, nW_R0, sR_rne0, e1_0, e2_0]) (by omega) dX6_init_31 ?_
  refine r_iload_n dX6_init_34 rfl ?_
  refine r_new (N := (N + 18)) (c := 3) (by decide) (tgI 189 (by decide +kernel) rfl) (tgI 216 (by decide +kernel) rfl) wq_104 (by omega) (Nat.le_of_ble_eq_true rfl) (Nat.le_of_ble_eq_true rfl) dX6_init_35 ?_
  refine PW.cs (cs2 := (19, 450)) rfl ?_
  refine r_dup dX6_init_38 rfl ?_
  refine r_callIN0 (N := (N + 19)) (N' := (N + 30)) cn_X6_24 rfl (Nat.le_of_ble_eq_true rfl) rfl (by omega) dX6_init_39 (c_X3_init (kk_14 (p := 1) (kk_6_0 hk).1 (by decide)) (kd_new (kk_14 (p := 1) (kk_6_0 hk).1 (by decide)) (by decide)) (by omega)) (fun h3 c3 => ?_)
  refine PW.cs (cs2 := (30, 625)) rfl ?_
  obtain ⟨hm3, s3⟩ := mid_ck hm c3
  replace hm := hm3
  have e3_0 := (s3 N (by omega) (by omega)).2.2.2.1
  have e3_1 := (s3 (N + 1) (by omega) (by omega)).2.2.2.1
  clear s3 hm3 c3
  refine r_pastN (n := 4) (p := 1) kn_1 (by decide) (by decide) (mid_A hm (by omega) (by omega) (kk_6_0 hk).1.1 (kk_6_0 hk).2) (mid_K hm (by omega) (by omega) (kk_14 (p := 1) (kk_6_0 hk).1 (by decide)).1) dX6_init_42 ?_
  replace hm := mid_put (i := (N + 1)) (k := 1) (v := (N + 19)) hm (by simp) (by omega)
  refine r_iinc (1) (by decide) (ls2 := [some (.ref N), some (.int 2)]) dX6_init_43 rfl (by decide) (congrArg (fun z => [some (Value.ref N), some (Value.int z)]) (show ((1 : Int32) + (1)) = 2 from by decide)) ?_
  refine r_goto 25 dX6_init_46 (by decide) ?_
  refine r_iload_n dX6_init_25 rfl ?_
  refine r_iconst (4) dX6_init_26 (by decide) ?_
  refine r_icmp_ge 49 dX6_init_27 (by decide) (fun c_0 => absurd c_0 (by decide)) (fun _ => ?_)
  refine r_aload_n dX6_init_30 rfl ?_
  refine r_getR (r := (N + 1)) fl_X6_11 (mid_K hm (by omega) (by omega) hk.1) rfl (by simp (discharger := omega) [sR_at, nW_R0, sR_rne0, e1_0, e2_0, e3_0, e3_1]) (by omega) dX6_init_31 ?_
  refine r_iload_n dX6_init_34 rfl ?_
  refine r_new (N := (N + 30)) (c := 3) (by decide) (tgI 189 (by decide +kernel) rfl) (tgI 216 (by decide +kernel) rfl) wq_104 (by omega) (Nat.le_of_ble_eq_true rfl) (Nat.le_of_ble_eq_true rfl) dX6_init_35 ?_
  refine PW.cs (cs2 := (31, 638)) rfl ?_
  refine r_dup dX6_init_38 rfl ?_
  refine r_callIN0 (N := (N + 31)) (N' := (N + 42)) cn_X6_24 rfl (Nat.le_of_ble_eq_true rfl) rfl (by omega) dX6_init_39 (c_X3_init (kk_14 (p := 2) (kk_6_0 hk).1 (by decide)) (kd_new (kk_14 (p := 2) (kk_6_0 hk).1 (by decide)) (by decide)) (by omega)) (fun h4 c4 => ?_)
  refine PW.cs (cs2 := (42, 813)) rfl ?_
  obtain ⟨hm4, s4⟩ := mid_ck hm c4
  replace hm := hm4
  have e4_0 := (s4 N (by omega) (by omega)).2.2.2.1
  have e4_1 := (s4 (N + 1) (by omega) (by omega)).2.2.2.1
  clear s4 hm4 c4
  refine r_pastN (n := 4) (p := 2) kn_2 (by decide) (by decide) (mid_A hm (by omega) (by omega) (kk_6_0 hk).1.1 (kk_6_0 hk).2) (mid_K hm (by omega) (by omega) (kk_14 (p := 2) (kk_6_0 hk).1 (by decide)).1) dX6_init_42 ?_
  replace hm := mid_put (i := (N + 1)) (k := 2) (v := (N + 31)) hm (by simp) (by omega)
  refine r_iinc (1) (by decide) (ls2 := [some (.ref N), some (.int 3)]) dX6_init_43 rfl (by decide) (congrArg (fun z => [some (Value.ref N), some (Value.int z)]) (show ((2 : Int32) + (1)) = 3 from by decide)) ?_
  refine r_goto 25 dX6_init_46 (by decide) ?_
  refine r_iload_n dX6_init_25 rfl ?_
  refine r_iconst (4) dX6_init_26 (by decide) ?_
  refine r_icmp_ge 49 dX6_init_27 (by decide) (fun c_0 => absurd c_0 (by decide)) (fun _ => ?_)
  refine r_aload_n dX6_init_30 rfl ?_
  refine r_getR (r := (N + 1)) fl_X6_11 (mid_K hm (by omega) (by omega) hk.1) rfl (by simp (discharger := omega) [sR_at, nW_R0, sR_rne0, e1_0, e2_0, e3_0, e3_1, e4_0, e4_1]) (by omega) dX6_init_31 ?_
  refine r_iload_n dX6_init_34 rfl ?_
  refine r_new (N := (N + 42)) (c := 3) (by decide) (tgI 189 (by decide +kernel) rfl) (tgI 216 (by decide +kernel) rfl) wq_104 (by omega) (Nat.le_of_ble_eq_true rfl) (Nat.le_of_ble_eq_true rfl) dX6_init_35 ?_
  refine PW.cs (cs2 := (43, 826)) rfl ?_
  refine r_dup dX6_init_38 rfl ?_
  refine r_callIN0 (N := (N + 43)) (N' := (N + 54)) cn_X6_24 rfl (Nat.le_of_ble_eq_true rfl) rfl (by omega) dX6_init_39 (c_X3_init (kk_14 (p := 3) (kk_6_0 hk).1 (by decide)) (kd_new (kk_14 (p := 3) (kk_6_0 hk).1 (by decide)) (by decide)) (by omega)) (fun h5 c5 => ?_)
  refine PW.cs (cs2 := (54, 1001)) rfl ?_
  obtain ⟨hm5, s5⟩ := mid_ck hm c5
  replace hm := hm5
  have e5_0 := (s5 N (by omega) (by omega)).2.2.2.1
  have e5_1 := (s5 (N + 1) (by omega) (by omega)).2.2.2.1
  clear s5 hm5 c5
  refine r_pastN (n := 4) (p := 3) kn_3 (by decide) (by decide) (mid_A hm (by omega) (by omega) (kk_6_0 hk).1.1 (kk_6_0 hk).2) (mid_K hm (by omega) (by omega) (kk_14 (p := 3) (kk_6_0 hk).1 (by decide)).1) dX6_init_42 ?_
  replace hm := mid_put (i := (N + 1)) (k := 3) (v := (N + 43)) hm (by simp) (by omega)
  refine r_iinc (1) (by decide) (ls2 := [some (.ref N), some (.int 4)]) dX6_init_43 rfl (by decide) (congrArg (fun z => [some (Value.ref N), some (Value.int z)]) (show ((3 : Int32) + (1)) = 4 from by decide)) ?_
  refine r_goto 25 dX6_init_46 (by decide) ?_
  refine r_iload_n dX6_init_25 rfl ?_
  refine r_iconst (4) dX6_init_26 (by decide) ?_
  refine r_icmp_ge 49 dX6_init_27 (by decide) (fun _ => ?_) (fun c_0 => absurd (by decide) c_0)
  refine r_vret dX6_init_49 rfl ⟨Nat.le_of_ble_eq_true rfl, Nat.le_of_ble_eq_true rfl⟩ ?_
  refine ⟨rfl, mid_end (mid_end hm (LO.k14 (kk_6_0 hk).1.1 ?_)) (LO.k6 hk.1 ?_)⟩
  · intro p hp
    obtain rfl | rfl | rfl | rfl : p = 0 ∨ p = 1 ∨ p = 2 ∨ p = 3 := by omega
    all_goals simp (discharger := omega) [sR_at, nW_R0, sR_rne0, e1_0, e2_0, e3_0, e3_1, e4_0, e4_1, e5_0, e5_1]
  · simp (discharger := omega) [sR_at, nW_R0, sR_rne0, e1_0, e2_0, e3_0, e3_1, e4_0, e4_1, e5_0, e5_1]
