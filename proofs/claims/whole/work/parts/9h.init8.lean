theorem kb_173 : kd 173 6 := ⟨by decide +kernel, by decide, by decide⟩
theorem kb_228 : kd 228 6 := ⟨by decide +kernel, by decide, by decide⟩
theorem kb_283 : kd 283 6 := ⟨by decide +kernel, by decide, by decide⟩
theorem kb_338 : kd 338 6 := ⟨by decide +kernel, by decide, by decide⟩
theorem kb_393 : kd 393 6 := ⟨by decide +kernel, by decide, by decide⟩
theorem kb_448 : kd 448 6 := ⟨by decide +kernel, by decide, by decide⟩
theorem kb_503 : kd 503 6 := ⟨by decide +kernel, by decide, by decide⟩
theorem kb_558 : kd 558 6 := ⟨by decide +kernel, by decide, by decide⟩
theorem kb_613 : kd 613 6 := ⟨by decide +kernel, by decide, by decide⟩
theorem kb_668 : kd 668 6 := ⟨by decide +kernel, by decide, by decide⟩
theorem mid_w {N m : Nat} (Z : List Nat) {E : List Nat} {h0 h : AH} (hm : Mid N m [] E h0 h) : Mid N m Z E h0 h := ⟨hm.1, hm.2.1, fun j a b => ⟨(hm.2.2 j a b).1, fun _ => (hm.2.2 j a b).2.1 List.not_mem_nil, (hm.2.2 j a b).2.2⟩⟩
theorem sR_I {h : AH} {i k v j : Nat} : aI (sR h i k v) j = aI h j := rfl
theorem sR_J {h : AH} {i k v j : Nat} : aJ (sR h i k v) j = aJ h j := rfl
theorem sI_J {h : AH} {i k j : Nat} {v : Int32} : aJ (sI h i k v) j = aJ h j := rfl
theorem sI_R {h : AH} {i k j : Nat} {v : Int32} : aR (sI h i k v) j = aR h j := rfl
theorem sI_1 {h : AH} {i k : Nat} {v : Int32} : aI (sI h i k v) i = upd (aI h i) k v := if_pos rfl
theorem world_A {h0 h : AH} (hm : Mid 1 722 [1] [172, 1] h0 h) (hl : aR h 1 0 = 2 ∧ aR h 1 4 = 3 ∧ aR h 1 5 = 5 ∧ aR h 1 6 = 7 ∧ aR h 1 7 = 62 ∧ aR h 1 8 = 117 ∧ aR h 1 10 = 172) : WorldAh h := by
  have hL : ∀ {i c}, kdAh i c → c ≠ 15 → c ≠ 8 → LO (aR h) i := fun {i c} hk c1 c2 => (hm.2.2 i hk.2.1 hk.2.2).2.2 (by
    intro q
    simp only [List.mem_cons, List.not_mem_nil, or_false] at q
    rcases q with rfl | rfl
    · exact c1 (hk.1.symm.trans (by decide +kernel))
    · exact c2 (hk.1.symm.trans (by decide +kernel)))
  refine ⟨fun i a b => (hm.2.2 i a b).1.1, fun i a b => (hm.2.2 i a b).1.2, ?_⟩
  refine ⟨fun i hk => (hL hk (by decide) (by decide)).1 hk.1, fun i hk => (hL hk (by decide) (by decide)).2.1 hk.1, fun i hk => (hL hk (by decide) (by decide)).2.2.1 hk.1, fun i hk => (hL hk (by decide) (by decide)).2.2.2.1 hk.1, fun i hk => (hL hk (by decide) (by decide)).2.2.2.2.1 hk.1, fun i hk => (hL hk (by decide) (by decide)).2.2.2.2.2.1 hk.1, fun i hk => (hL hk (by decide) (by decide)).2.2.2.2.2.2.2 hk.1, hl, ?_, trivial⟩
  exact (hL (i := 5) (c := 2) ⟨kc_5.1, by decide, by decide⟩ (by decide) (by decide)).2.2.2.2.2.2.1 kc_5.1
theorem u10 {f : Nat → Nat} (h : f 0 = 173 ∧ f 1 = 228 ∧ f 2 = 283 ∧ f 3 = 338 ∧ f 4 = 393 ∧ f 5 = 448 ∧ f 6 = 503 ∧ f 7 = 558 ∧ f 8 = 613 ∧ f 9 = 668) : ∀ i, i < 10 → f i = 173 + 55 * i := by
  obtain ⟨h0, h1, h2, h3, h4, h5, h6, h7, h8, h9⟩ := h
  intro i hi
  rcases (show i = 0 ∨ i = 1 ∨ i = 2 ∨ i = 3 ∨ i = 4 ∨ i = 5 ∨ i = 6 ∨ i = 7 ∨ i = 8 ∨ i = 9 by omega) with rfl | rfl | rfl | rfl | rfl | rfl | rfl | rfl | rfl | rfl <;> assumption
theorem x8_at {h0 h : AH} (hm : Mid 1 722 [1] [172, 1] h0 h) (hl : aR h 1 0 = 2 ∧ aR h 1 4 = 3 ∧ aR h 1 5 = 5 ∧ aR h 1 6 = 7 ∧ aR h 1 7 = 62 ∧ aR h 1 8 = 117 ∧ aR h 1 10 = 172) (hi : ∀ k, aI h 1 k = if k = 3 then -1 else 0) (hj : aJ h 1 = fun _ => 0) (hu : aR h 172 0 = 173 ∧ aR h 172 1 = 228 ∧ aR h 172 2 = 283 ∧ aR h 172 3 = 338 ∧ aR h 172 4 = 393 ∧ aR h 172 5 = 448 ∧ aR h 172 6 = 503 ∧ aR h 172 7 = 558 ∧ aR h 172 8 = 613 ∧ aR h 172 9 = 668) : (∀ i, i < 10 → aR h 172 i = 173 + 55 * i) ∧ WorldAh h ∧ (∀ j, 1 < j → j ≤ 722 → ZO h j) ∧ (∀ k, aI h 1 k = if k = 3 then -1 else 0) ∧ (aJ h 1 = fun _ => 0) ∧ aR h 1 6 = 7 ∧ isK 722 h 1 8 ∧ StR h 7 noW ZG := by
  have hz : ∀ j, 1 < j → j ≤ 722 → ZO h j := fun j a b => (hm.2.2 j (by omega) b).2.1 (by simp; omega)
  refine ⟨u10 (f := aR h 172) hu, world_A hm hl, hz, hi, hj, hl.2.2.2.1, mid_K hm (by decide) (by decide) kc_1.1, ?_⟩
  have z7 := (hz 7 (by decide) (by decide)).1
  have z9 := (hz 9 (by decide) (by decide)).1
  refine ⟨by rw [z7]; rfl, by rw [z7]; rfl, by rw [z7]; rfl, ⟨by rw [z9]; rfl, fun j _ q => absurd q (Nat.not_lt_zero j)⟩, fun p q => absurd q (Nat.not_lt_zero p)⟩
theorem kA_7 : kdAh 7 6 := ⟨by decide +kernel, by decide, by decide⟩
set_option maxRecDepth 100000 in
set_option maxHeartbeats 4000000 in
theorem c_X8_init {l9 : Launch} {G : GC} {h : AH} (hK : KO h 1 ∧ ZO h 1) : PM l9 G mX8_init 1 722 [.ref 1] h (fun v h' => v = none ∧ WorldAh h' ∧ (∀ j, 1 < j → j ≤ 722 → ¬ SB 7 j → ZO h' j) ∧ (∀ k, aI h' 1 k = if k = 3 then -1 else 0) ∧ (aJ h' 1 = fun _ => 0) ∧ StR h' 7 (apW noW 1 4 10) ZG ∧ ∀ i, i < 10 → aR h' 172 i = 173 + 55 * i) noX := by
  refine PM.of (by decide +kernel) rfl rfl (Nat.le_of_ble_eq_true rfl) (fun hst _ => ?_)
  have hm := mid_w [1] (mid_0 (by decide) hK.1 hK.2)
  have z1 := hK.2.1
  have z2 := hK.2.2.1
  refine r_aload_n dX8_init_0 rfl ?_
  refine r_obj (tgI 128 (by decide +kernel) rfl) w_oi w_oc (Nat.le_of_ble_eq_true rfl) (Nat.le_of_ble_eq_true rfl) dX8_init_1 ?_
  refine r_aload_n dX8_init_4 rfl ?_
  refine r_sipush (700) dX8_init_5 (by decide) ?_
  refine r_newb (N := 1) kn_700 (by decide) (by decide) rfl rfl dX8_init_8 ?_
  refine PW.cs (cs2 := (1, 700)) rfl ?_
  replace hm := mid_arr hm (kc_2).1.1 (kc_2).2 (by decide)
  refine r_putRF fl_X8_9 (mid_K hm (by omega) (by omega) kc_1.1) rfl (by omega) rfl rfl rfl dX8_init_10 ?_
  replace hm := mid_put (i := 1) (k := 0) (v := (2)) hm (by simp) (by omega)
  refine r_aload_n dX8_init_13 rfl ?_
  refine r_iconst (0) dX8_init_14 (by decide) ?_
  refine r_putI fl_X8_13 (mid_K hm (by omega) (by omega) kc_1.1) rfl rfl dX8_init_15 ?_
  replace hm := mid_sI (i := 1) (k := 2) (v := 0) hm (by simp) (by omega)
  refine r_aload_n dX8_init_18 rfl ?_
  refine r_iconst (-1) dX8_init_19 (by decide) ?_
  refine r_putI fl_X8_17 (mid_K hm (by omega) (by omega) kc_1.1) rfl rfl dX8_init_20 ?_
  replace hm := mid_sI (i := 1) (k := 3) (v := -1) hm (by simp) (by omega)
  refine r_aload_n dX8_init_23 rfl ?_
  refine r_new (N := (2)) (c := 5) (by decide) (tgI 131 (by decide +kernel) rfl) (tgI 132 (by decide +kernel) rfl) wq_100 (by decide) (Nat.le_of_ble_eq_true rfl) (Nat.le_of_ble_eq_true rfl) dX8_init_24 ?_
  refine PW.cs (cs2 := (2, 709)) rfl ?_
  refine r_dup dX8_init_27 rfl ?_
  refine r_callIN0 (N := (3)) (N' := (4)) cn_X8_22 rfl (Nat.le_of_ble_eq_true rfl) rfl (by decide) dX8_init_28 (c_X5_init (kc_3) (kd_new (kc_3) (by decide)) (by decide)) (fun h1 c1 => ?_)
  refine PW.cs (cs2 := (3, 709)) rfl ?_
  obtain ⟨hm1, s1⟩ := mid_ck hm c1
  replace hm := hm1
  have e1_0 := (s1 1 (by omega) (by omega)).2.2.2.1
  have f1 := (s1 1 (by omega) (by omega)).1
  have g1 := (s1 1 (by omega) (by omega)).2.1
  clear s1 hm1 c1
  refine r_putRF fl_X8_23 (mid_K hm (by omega) (by omega) kc_1.1) rfl (by omega) rfl rfl rfl dX8_init_31 ?_
  replace hm := mid_put (i := 1) (k := 4) (v := (3)) hm (by simp) (by omega)
  refine r_aload_n dX8_init_34 rfl ?_
  refine r_new (N := (4)) (c := 2) (by decide) (tgI 168 (by decide +kernel) rfl) (tgI 169 (by decide +kernel) rfl) wq_101 (by decide) (Nat.le_of_ble_eq_true rfl) (Nat.le_of_ble_eq_true rfl) dX8_init_35 ?_
  refine PW.cs (cs2 := (4, 711)) rfl ?_
  refine r_dup dX8_init_38 rfl ?_
  refine r_callIN0 (N := (5)) (N' := (6)) cn_X8_29 rfl (Nat.le_of_ble_eq_true rfl) rfl (by decide) dX8_init_39 (c_X2_init (kc_5) (kd_new (kc_5) (by decide)) (by decide)) (fun h2 c2 => ?_)
  refine PW.cs (cs2 := (5, 1011)) rfl ?_
  obtain ⟨hm2, s2⟩ := mid_ck hm c2
  replace hm := hm2
  have e2_0 := (s2 1 (by omega) (by omega)).2.2.2.1
  have f2 := (s2 1 (by omega) (by omega)).1
  have g2 := (s2 1 (by omega) (by omega)).2.1
  clear s2 hm2 c2
  refine r_putRF fl_X8_30 (mid_K hm (by omega) (by omega) kc_1.1) rfl (by omega) rfl rfl rfl dX8_init_42 ?_
  replace hm := mid_put (i := 1) (k := 5) (v := (5)) hm (by simp) (by omega)
  refine r_aload_n dX8_init_45 rfl ?_
  refine r_new (N := (6)) (c := 6) (by decide) (tgI 183 (by decide +kernel) rfl) (tgI 184 (by decide +kernel) rfl) wq_102 (by decide) (Nat.le_of_ble_eq_true rfl) (Nat.le_of_ble_eq_true rfl) dX8_init_46 ?_
  refine PW.cs (cs2 := (6, 1016)) rfl ?_
  refine r_dup dX8_init_49 rfl ?_
  refine r_callI0 (N := (7)) (N' := (61)) (ci_X6_init ml_X8_36) rfl (Nat.le_of_ble_eq_true rfl) rfl (by decide) dX8_init_50 (c_X6_init (kc_7) (kd_new (kc_7) (by decide)) (by decide)) (fun h3 c3 => ?_)
  refine PW.cs (cs2 := (60, 2017)) rfl ?_
  obtain ⟨hm3, s3⟩ := mid_ck hm c3
  replace hm := hm3
  have e3_0 := (s3 1 (by omega) (by omega)).2.2.2.1
  have f3 := (s3 1 (by omega) (by omega)).1
  have g3 := (s3 1 (by omega) (by omega)).2.1
  clear s3 hm3 c3
  refine r_putRF fl_X8_37 (mid_K hm (by omega) (by omega) kc_1.1) rfl (by omega) rfl rfl rfl dX8_init_53 ?_
  replace hm := mid_put (i := 1) (k := 6) (v := (7)) hm (by simp) (by omega)
  refine r_aload_n dX8_init_56 rfl ?_
  refine r_new (N := (61)) (c := 6) (by decide) (tgI 183 (by decide +kernel) rfl) (tgI 184 (by decide +kernel) rfl) wq_102 (by decide) (Nat.le_of_ble_eq_true rfl) (Nat.le_of_ble_eq_true rfl) dX8_init_57 ?_
  refine PW.cs (cs2 := (61, 2022)) rfl ?_
  refine r_dup dX8_init_60 rfl ?_
  refine r_callI0 (N := (62)) (N' := (116)) (ci_X6_init ml_X8_36) rfl (Nat.le_of_ble_eq_true rfl) rfl (by decide) dX8_init_61 (c_X6_init (kc_62) (kd_new (kc_62) (by decide)) (by decide)) (fun h4 c4 => ?_)
  refine PW.cs (cs2 := (115, 3023)) rfl ?_
  obtain ⟨hm4, s4⟩ := mid_ck hm c4
  replace hm := hm4
  have e4_0 := (s4 1 (by omega) (by omega)).2.2.2.1
  have f4 := (s4 1 (by omega) (by omega)).1
  have g4 := (s4 1 (by omega) (by omega)).2.1
  clear s4 hm4 c4
  refine r_putRF fl_X8_41 (mid_K hm (by omega) (by omega) kc_1.1) rfl (by omega) rfl rfl rfl dX8_init_64 ?_
  replace hm := mid_put (i := 1) (k := 7) (v := (62)) hm (by simp) (by omega)
  refine r_aload_n dX8_init_67 rfl ?_
  refine r_new (N := (116)) (c := 6) (by decide) (tgI 183 (by decide +kernel) rfl) (tgI 184 (by decide +kernel) rfl) wq_102 (by decide) (Nat.le_of_ble_eq_true rfl) (Nat.le_of_ble_eq_true rfl) dX8_init_68 ?_
  refine PW.cs (cs2 := (116, 3028)) rfl ?_
  refine r_dup dX8_init_71 rfl ?_
  refine r_callI0 (N := (117)) (N' := (171)) (ci_X6_init ml_X8_36) rfl (Nat.le_of_ble_eq_true rfl) rfl (by decide) dX8_init_72 (c_X6_init (kc_117) (kd_new (kc_117) (by decide)) (by decide)) (fun h5 c5 => ?_)
  refine PW.cs (cs2 := (170, 4029)) rfl ?_
  obtain ⟨hm5, s5⟩ := mid_ck hm c5
  replace hm := hm5
  have e5_0 := (s5 1 (by omega) (by omega)).2.2.2.1
  have f5 := (s5 1 (by omega) (by omega)).1
  have g5 := (s5 1 (by omega) (by omega)).2.1
  clear s5 hm5 c5
  refine r_putRF fl_X8_44 (mid_K hm (by omega) (by omega) kc_1.1) rfl (by omega) rfl rfl rfl dX8_init_75 ?_
  replace hm := mid_put (i := 1) (k := 8) (v := (117)) hm (by simp) (by omega)
  refine r_aload_n dX8_init_78 rfl ?_
  refine r_bipush (10) dX8_init_79 (by decide) ?_
  refine r_newq (N := (171)) (t := 15) (n := 10) (Or.inr rfl) (List.mem_of_getElem? (i := 5) rfl) (tgI 183 (by decide +kernel) rfl) (fun _ q => q.2.2.2.1) kn_10 (by decide) (by decide) (Nat.le_of_ble_eq_true rfl) (Nat.le_of_ble_eq_true rfl) dX8_init_81 ?_
  refine PW.cs (cs2 := (171, 4039)) rfl ?_
  replace hm := mid_arrE hm (kc_172).1.1 (kc_172).2
  refine r_putRF fl_X8_47 (mid_K hm (by omega) (by omega) kc_1.1) rfl (by omega) rfl rfl rfl dX8_init_84 ?_
  replace hm := mid_put (i := 1) (k := 10) (v := (172)) hm (by simp) (by omega)
  refine r_iconst (0) dX8_init_87 (by decide) ?_
  refine r_istore_n (ls2 := [some _, some _]) dX8_init_88 (by decide) rfl ?_
  refine r_iload_n dX8_init_89 rfl ?_
  refine r_bipush (10) dX8_init_90 (by decide) ?_
  refine r_icmp_ge 114 dX8_init_92 (by decide) (fun c_0 => absurd c_0 (by decide)) (fun _ => ?_)
  refine r_aload_n dX8_init_95 rfl ?_
  refine r_getR (r := (172)) fl_X8_47 (mid_K hm (by omega) (by omega) kc_1.1) rfl (by simp (discharger := omega) [sR_at, nW_R0, sR_rne0, e1_0, e2_0, e3_0, e4_0, e5_0]) (by omega) dX8_init_96 ?_
  refine r_iload_n dX8_init_99 rfl ?_
  refine r_new (N := (172)) (c := 6) (by decide) (tgI 183 (by decide +kernel) rfl) (tgI 184 (by decide +kernel) rfl) wq_102 (by decide) (Nat.le_of_ble_eq_true rfl) (Nat.le_of_ble_eq_true rfl) dX8_init_100 ?_
  refine PW.cs (cs2 := (172, 4044)) rfl ?_
  refine r_dup dX8_init_103 rfl ?_
  refine r_callI0 (N := (173)) (N' := (227)) (ci_X6_init ml_X8_36) rfl (Nat.le_of_ble_eq_true rfl) rfl (by decide) dX8_init_104 (c_X6_init (kb_173) (kd_new (kb_173) (by decide)) (by decide)) (fun h6 c6 => ?_)
  refine PW.cs (cs2 := (226, 5045)) rfl ?_
  obtain ⟨hm6, s6⟩ := mid_ck hm c6
  replace hm := hm6
  have e6_0 := (s6 1 (by omega) (by omega)).2.2.2.1
  have f6 := (s6 1 (by omega) (by omega)).1
  have g6 := (s6 1 (by omega) (by omega)).2.1
  clear s6 hm6 c6
  refine r_sastN (n := 10) (p := 0) kn_0 (by decide) (by decide) (mid_A hm (by omega) (by omega) (kc_172).1.1 (kc_172).2) (mid_K hm (by omega) (by omega) (kb_173).1) dX8_init_107 ?_
  replace hm := mid_put (i := (172)) (k := 0) (v := (173)) hm (by simp) (by omega)
  refine r_iinc (1) (by decide) (ls2 := [some (.ref 1), some (.int 1)]) dX8_init_108 rfl (by decide) (congrArg (fun z => [some (Value.ref 1), some (Value.int z)]) (show ((0 : Int32) + (1)) = 1 from by decide)) ?_
  refine r_goto 89 dX8_init_111 (by decide) ?_
  refine r_iload_n dX8_init_89 rfl ?_
  refine r_bipush (10) dX8_init_90 (by decide) ?_
  refine r_icmp_ge 114 dX8_init_92 (by decide) (fun c_0 => absurd c_0 (by decide)) (fun _ => ?_)
  refine r_aload_n dX8_init_95 rfl ?_
  refine r_getR (r := (172)) fl_X8_47 (mid_K hm (by omega) (by omega) kc_1.1) rfl (by simp (discharger := omega) [sR_at, nW_R0, sR_rne0, e1_0, e2_0, e3_0, e4_0, e5_0, e6_0]) (by omega) dX8_init_96 ?_
  refine r_iload_n dX8_init_99 rfl ?_
  refine r_new (N := (227)) (c := 6) (by decide) (tgI 183 (by decide +kernel) rfl) (tgI 184 (by decide +kernel) rfl) wq_102 (by decide) (Nat.le_of_ble_eq_true rfl) (Nat.le_of_ble_eq_true rfl) dX8_init_100 ?_
  refine PW.cs (cs2 := (227, 5050)) rfl ?_
  refine r_dup dX8_init_103 rfl ?_
  refine r_callI0 (N := (228)) (N' := (282)) (ci_X6_init ml_X8_36) rfl (Nat.le_of_ble_eq_true rfl) rfl (by decide) dX8_init_104 (c_X6_init (kb_228) (kd_new (kb_228) (by decide)) (by decide)) (fun h7 c7 => ?_)
  refine PW.cs (cs2 := (281, 6051)) rfl ?_
  obtain ⟨hm7, s7⟩ := mid_ck hm c7
  replace hm := hm7
  have e7_0 := (s7 1 (by omega) (by omega)).2.2.2.1
  have f7 := (s7 1 (by omega) (by omega)).1
  have g7 := (s7 1 (by omega) (by omega)).2.1
  have e7_171 := (s7 (172) (by omega) (by omega)).2.2.2.1
  clear s7 hm7 c7
  refine r_sastN (n := 10) (p := 1) kn_1 (by decide) (by decide) (mid_A hm (by omega) (by omega) (kc_172).1.1 (kc_172).2) (mid_K hm (by omega) (by omega) (kb_228).1) dX8_init_107 ?_
  replace hm := mid_put (i := (172)) (k := 1) (v := (228)) hm (by simp) (by omega)
  refine r_iinc (1) (by decide) (ls2 := [some (.ref 1), some (.int 2)]) dX8_init_108 rfl (by decide) (congrArg (fun z => [some (Value.ref 1), some (Value.int z)]) (show ((1 : Int32) + (1)) = 2 from by decide)) ?_
  refine r_goto 89 dX8_init_111 (by decide) ?_
  refine r_iload_n dX8_init_89 rfl ?_
  refine r_bipush (10) dX8_init_90 (by decide) ?_
  refine r_icmp_ge 114 dX8_init_92 (by decide) (fun c_0 => absurd c_0 (by decide)) (fun _ => ?_)
  refine r_aload_n dX8_init_95 rfl ?_
  refine r_getR (r := (172)) fl_X8_47 (mid_K hm (by omega) (by omega) kc_1.1) rfl (by simp (discharger := omega) [sR_at, nW_R0, sR_rne0, e1_0, e2_0, e3_0, e4_0, e5_0, e6_0, e7_0, e7_171]) (by omega) dX8_init_96 ?_
  refine r_iload_n dX8_init_99 rfl ?_
  refine r_new (N := (282)) (c := 6) (by decide) (tgI 183 (by decide +kernel) rfl) (tgI 184 (by decide +kernel) rfl) wq_102 (by decide) (Nat.le_of_ble_eq_true rfl) (Nat.le_of_ble_eq_true rfl) dX8_init_100 ?_
  refine PW.cs (cs2 := (282, 6056)) rfl ?_
  refine r_dup dX8_init_103 rfl ?_
  refine r_callI0 (N := (283)) (N' := (337)) (ci_X6_init ml_X8_36) rfl (Nat.le_of_ble_eq_true rfl) rfl (by decide) dX8_init_104 (c_X6_init (kb_283) (kd_new (kb_283) (by decide)) (by decide)) (fun h8 c8 => ?_)
  refine PW.cs (cs2 := (336, 7057)) rfl ?_
  obtain ⟨hm8, s8⟩ := mid_ck hm c8
  replace hm := hm8
  have e8_0 := (s8 1 (by omega) (by omega)).2.2.2.1
  have f8 := (s8 1 (by omega) (by omega)).1
  have g8 := (s8 1 (by omega) (by omega)).2.1
  have e8_171 := (s8 (172) (by omega) (by omega)).2.2.2.1
  clear s8 hm8 c8
  refine r_sastN (n := 10) (p := 2) kn_2 (by decide) (by decide) (mid_A hm (by omega) (by omega) (kc_172).1.1 (kc_172).2) (mid_K hm (by omega) (by omega) (kb_283).1) dX8_init_107 ?_
  replace hm := mid_put (i := (172)) (k := 2) (v := (283)) hm (by simp) (by omega)
  refine r_iinc (1) (by decide) (ls2 := [some (.ref 1), some (.int 3)]) dX8_init_108 rfl (by decide) (congrArg (fun z => [some (Value.ref 1), some (Value.int z)]) (show ((2 : Int32) + (1)) = 3 from by decide)) ?_
  refine r_goto 89 dX8_init_111 (by decide) ?_
  refine r_iload_n dX8_init_89 rfl ?_
  refine r_bipush (10) dX8_init_90 (by decide) ?_
  refine r_icmp_ge 114 dX8_init_92 (by decide) (fun c_0 => absurd c_0 (by decide)) (fun _ => ?_)
  refine r_aload_n dX8_init_95 rfl ?_
  refine r_getR (r := (172)) fl_X8_47 (mid_K hm (by omega) (by omega) kc_1.1) rfl (by simp (discharger := omega) [sR_at, nW_R0, sR_rne0, e1_0, e2_0, e3_0, e4_0, e5_0, e6_0, e7_0, e7_171, e8_0, e8_171]) (by omega) dX8_init_96 ?_
  refine r_iload_n dX8_init_99 rfl ?_
  refine r_new (N := (337)) (c := 6) (by decide) (tgI 183 (by decide +kernel) rfl) (tgI 184 (by decide +kernel) rfl) wq_102 (by decide) (Nat.le_of_ble_eq_true rfl) (Nat.le_of_ble_eq_true rfl) dX8_init_100 ?_
  refine PW.cs (cs2 := (337, 7062)) rfl ?_
  refine r_dup dX8_init_103 rfl ?_
  refine r_callI0 (N := (338)) (N' := (392)) (ci_X6_init ml_X8_36) rfl (Nat.le_of_ble_eq_true rfl) rfl (by decide) dX8_init_104 (c_X6_init (kb_338) (kd_new (kb_338) (by decide)) (by decide)) (fun h9 c9 => ?_)
  refine PW.cs (cs2 := (391, 8063)) rfl ?_
  obtain ⟨hm9, s9⟩ := mid_ck hm c9
  replace hm := hm9
  have e9_0 := (s9 1 (by omega) (by omega)).2.2.2.1
  have f9 := (s9 1 (by omega) (by omega)).1
  have g9 := (s9 1 (by omega) (by omega)).2.1
  have e9_171 := (s9 (172) (by omega) (by omega)).2.2.2.1
  clear s9 hm9 c9
  refine r_sastN (n := 10) (p := 3) kn_3 (by decide) (by decide) (mid_A hm (by omega) (by omega) (kc_172).1.1 (kc_172).2) (mid_K hm (by omega) (by omega) (kb_338).1) dX8_init_107 ?_
  replace hm := mid_put (i := (172)) (k := 3) (v := (338)) hm (by simp) (by omega)
  refine r_iinc (1) (by decide) (ls2 := [some (.ref 1), some (.int 4)]) dX8_init_108 rfl (by decide) (congrArg (fun z => [some (Value.ref 1), some (Value.int z)]) (show ((3 : Int32) + (1)) = 4 from by decide)) ?_
  refine r_goto 89 dX8_init_111 (by decide) ?_
  refine r_iload_n dX8_init_89 rfl ?_
  refine r_bipush (10) dX8_init_90 (by decide) ?_
  refine r_icmp_ge 114 dX8_init_92 (by decide) (fun c_0 => absurd c_0 (by decide)) (fun _ => ?_)
  refine r_aload_n dX8_init_95 rfl ?_
  refine r_getR (r := (172)) fl_X8_47 (mid_K hm (by omega) (by omega) kc_1.1) rfl (by simp (discharger := omega) [sR_at, nW_R0, sR_rne0, e1_0, e2_0, e3_0, e4_0, e5_0, e6_0, e7_0, e7_171, e8_0, e8_171, e9_0, e9_171]) (by omega) dX8_init_96 ?_
  refine r_iload_n dX8_init_99 rfl ?_
  refine r_new (N := (392)) (c := 6) (by decide) (tgI 183 (by decide +kernel) rfl) (tgI 184 (by decide +kernel) rfl) wq_102 (by decide) (Nat.le_of_ble_eq_true rfl) (Nat.le_of_ble_eq_true rfl) dX8_init_100 ?_
  refine PW.cs (cs2 := (392, 8068)) rfl ?_
  refine r_dup dX8_init_103 rfl ?_
  refine r_callI0 (N := (393)) (N' := (447)) (ci_X6_init ml_X8_36) rfl (Nat.le_of_ble_eq_true rfl) rfl (by decide) dX8_init_104 (c_X6_init (kb_393) (kd_new (kb_393) (by decide)) (by decide)) (fun h10 c10 => ?_)
  refine PW.cs (cs2 := (446, 9069)) rfl ?_
  obtain ⟨hm10, s10⟩ := mid_ck hm c10
  replace hm := hm10
  have e10_0 := (s10 1 (by omega) (by omega)).2.2.2.1
  have f10 := (s10 1 (by omega) (by omega)).1
  have g10 := (s10 1 (by omega) (by omega)).2.1
  have e10_171 := (s10 (172) (by omega) (by omega)).2.2.2.1
  clear s10 hm10 c10
  refine r_sastN (n := 10) (p := 4) kn_4 (by decide) (by decide) (mid_A hm (by omega) (by omega) (kc_172).1.1 (kc_172).2) (mid_K hm (by omega) (by omega) (kb_393).1) dX8_init_107 ?_
  replace hm := mid_put (i := (172)) (k := 4) (v := (393)) hm (by simp) (by omega)
  refine r_iinc (1) (by decide) (ls2 := [some (.ref 1), some (.int 5)]) dX8_init_108 rfl (by decide) (congrArg (fun z => [some (Value.ref 1), some (Value.int z)]) (show ((4 : Int32) + (1)) = 5 from by decide)) ?_
  refine r_goto 89 dX8_init_111 (by decide) ?_
  refine r_iload_n dX8_init_89 rfl ?_
  refine r_bipush (10) dX8_init_90 (by decide) ?_
  refine r_icmp_ge 114 dX8_init_92 (by decide) (fun c_0 => absurd c_0 (by decide)) (fun _ => ?_)
  refine r_aload_n dX8_init_95 rfl ?_
  refine r_getR (r := (172)) fl_X8_47 (mid_K hm (by omega) (by omega) kc_1.1) rfl (by simp (discharger := omega) [sR_at, nW_R0, sR_rne0, e1_0, e2_0, e3_0, e4_0, e5_0, e6_0, e7_0, e7_171, e8_0, e8_171, e9_0, e9_171, e10_0, e10_171]) (by omega) dX8_init_96 ?_
  refine r_iload_n dX8_init_99 rfl ?_
  refine r_new (N := (447)) (c := 6) (by decide) (tgI 183 (by decide +kernel) rfl) (tgI 184 (by decide +kernel) rfl) wq_102 (by decide) (Nat.le_of_ble_eq_true rfl) (Nat.le_of_ble_eq_true rfl) dX8_init_100 ?_
  refine PW.cs (cs2 := (447, 9074)) rfl ?_
  refine r_dup dX8_init_103 rfl ?_
  refine r_callI0 (N := (448)) (N' := (502)) (ci_X6_init ml_X8_36) rfl (Nat.le_of_ble_eq_true rfl) rfl (by decide) dX8_init_104 (c_X6_init (kb_448) (kd_new (kb_448) (by decide)) (by decide)) (fun h11 c11 => ?_)
  refine PW.cs (cs2 := (501, 10075)) rfl ?_
  obtain ⟨hm11, s11⟩ := mid_ck hm c11
  replace hm := hm11
  have e11_0 := (s11 1 (by omega) (by omega)).2.2.2.1
  have f11 := (s11 1 (by omega) (by omega)).1
  have g11 := (s11 1 (by omega) (by omega)).2.1
  have e11_171 := (s11 (172) (by omega) (by omega)).2.2.2.1
  clear s11 hm11 c11
  refine r_sastN (n := 10) (p := 5) kn_5 (by decide) (by decide) (mid_A hm (by omega) (by omega) (kc_172).1.1 (kc_172).2) (mid_K hm (by omega) (by omega) (kb_448).1) dX8_init_107 ?_
  replace hm := mid_put (i := (172)) (k := 5) (v := (448)) hm (by simp) (by omega)
  refine r_iinc (1) (by decide) (ls2 := [some (.ref 1), some (.int 6)]) dX8_init_108 rfl (by decide) (congrArg (fun z => [some (Value.ref 1), some (Value.int z)]) (show ((5 : Int32) + (1)) = 6 from by decide)) ?_
  refine r_goto 89 dX8_init_111 (by decide) ?_
  refine r_iload_n dX8_init_89 rfl ?_
  refine r_bipush (10) dX8_init_90 (by decide) ?_
  refine r_icmp_ge 114 dX8_init_92 (by decide) (fun c_0 => absurd c_0 (by decide)) (fun _ => ?_)
  refine r_aload_n dX8_init_95 rfl ?_
  refine r_getR (r := (172)) fl_X8_47 (mid_K hm (by omega) (by omega) kc_1.1) rfl (by simp (discharger := omega) [sR_at, nW_R0, sR_rne0, e1_0, e2_0, e3_0, e4_0, e5_0, e6_0, e7_0, e7_171, e8_0, e8_171, e9_0, e9_171, e10_0, e10_171, e11_0, e11_171]) (by omega) dX8_init_96 ?_
  refine r_iload_n dX8_init_99 rfl ?_
  refine r_new (N := (502)) (c := 6) (by decide) (tgI 183 (by decide +kernel) rfl) (tgI 184 (by decide +kernel) rfl) wq_102 (by decide) (Nat.le_of_ble_eq_true rfl) (Nat.le_of_ble_eq_true rfl) dX8_init_100 ?_
  refine PW.cs (cs2 := (502, 10080)) rfl ?_
  refine r_dup dX8_init_103 rfl ?_
  refine r_callI0 (N := (503)) (N' := (557)) (ci_X6_init ml_X8_36) rfl (Nat.le_of_ble_eq_true rfl) rfl (by decide) dX8_init_104 (c_X6_init (kb_503) (kd_new (kb_503) (by decide)) (by decide)) (fun h12 c12 => ?_)
  refine PW.cs (cs2 := (556, 11081)) rfl ?_
  obtain ⟨hm12, s12⟩ := mid_ck hm c12
  replace hm := hm12
  have e12_0 := (s12 1 (by omega) (by omega)).2.2.2.1
  have f12 := (s12 1 (by omega) (by omega)).1
  have g12 := (s12 1 (by omega) (by omega)).2.1
  have e12_171 := (s12 (172) (by omega) (by omega)).2.2.2.1
  clear s12 hm12 c12
  refine r_sastN (n := 10) (p := 6) kn_6 (by decide) (by decide) (mid_A hm (by omega) (by omega) (kc_172).1.1 (kc_172).2) (mid_K hm (by omega) (by omega) (kb_503).1) dX8_init_107 ?_
  replace hm := mid_put (i := (172)) (k := 6) (v := (503)) hm (by simp) (by omega)
  refine r_iinc (1) (by decide) (ls2 := [some (.ref 1), some (.int 7)]) dX8_init_108 rfl (by decide) (congrArg (fun z => [some (Value.ref 1), some (Value.int z)]) (show ((6 : Int32) + (1)) = 7 from by decide)) ?_
  refine r_goto 89 dX8_init_111 (by decide) ?_
  refine r_iload_n dX8_init_89 rfl ?_
  refine r_bipush (10) dX8_init_90 (by decide) ?_
  refine r_icmp_ge 114 dX8_init_92 (by decide) (fun c_0 => absurd c_0 (by decide)) (fun _ => ?_)
  refine r_aload_n dX8_init_95 rfl ?_
  refine r_getR (r := (172)) fl_X8_47 (mid_K hm (by omega) (by omega) kc_1.1) rfl (by simp (discharger := omega) [sR_at, nW_R0, sR_rne0, e1_0, e2_0, e3_0, e4_0, e5_0, e6_0, e7_0, e7_171, e8_0, e8_171, e9_0, e9_171, e10_0, e10_171, e11_0, e11_171, e12_0, e12_171]) (by omega) dX8_init_96 ?_
  refine r_iload_n dX8_init_99 rfl ?_
  refine r_new (N := (557)) (c := 6) (by decide) (tgI 183 (by decide +kernel) rfl) (tgI 184 (by decide +kernel) rfl) wq_102 (by decide) (Nat.le_of_ble_eq_true rfl) (Nat.le_of_ble_eq_true rfl) dX8_init_100 ?_
  refine PW.cs (cs2 := (557, 11086)) rfl ?_
  refine r_dup dX8_init_103 rfl ?_
  refine r_callI0 (N := (558)) (N' := (612)) (ci_X6_init ml_X8_36) rfl (Nat.le_of_ble_eq_true rfl) rfl (by decide) dX8_init_104 (c_X6_init (kb_558) (kd_new (kb_558) (by decide)) (by decide)) (fun h13 c13 => ?_)
  refine PW.cs (cs2 := (611, 12087)) rfl ?_
  obtain ⟨hm13, s13⟩ := mid_ck hm c13
  replace hm := hm13
  have e13_0 := (s13 1 (by omega) (by omega)).2.2.2.1
  have f13 := (s13 1 (by omega) (by omega)).1
  have g13 := (s13 1 (by omega) (by omega)).2.1
  have e13_171 := (s13 (172) (by omega) (by omega)).2.2.2.1
  clear s13 hm13 c13
  refine r_sastN (n := 10) (p := 7) kn_7 (by decide) (by decide) (mid_A hm (by omega) (by omega) (kc_172).1.1 (kc_172).2) (mid_K hm (by omega) (by omega) (kb_558).1) dX8_init_107 ?_
  replace hm := mid_put (i := (172)) (k := 7) (v := (558)) hm (by simp) (by omega)
  refine r_iinc (1) (by decide) (ls2 := [some (.ref 1), some (.int 8)]) dX8_init_108 rfl (by decide) (congrArg (fun z => [some (Value.ref 1), some (Value.int z)]) (show ((7 : Int32) + (1)) = 8 from by decide)) ?_
  refine r_goto 89 dX8_init_111 (by decide) ?_
  refine r_iload_n dX8_init_89 rfl ?_
  refine r_bipush (10) dX8_init_90 (by decide) ?_
  refine r_icmp_ge 114 dX8_init_92 (by decide) (fun c_0 => absurd c_0 (by decide)) (fun _ => ?_)
  refine r_aload_n dX8_init_95 rfl ?_
  refine r_getR (r := (172)) fl_X8_47 (mid_K hm (by omega) (by omega) kc_1.1) rfl (by simp (discharger := omega) [sR_at, nW_R0, sR_rne0, e1_0, e2_0, e3_0, e4_0, e5_0, e6_0, e7_0, e7_171, e8_0, e8_171, e9_0, e9_171, e10_0, e10_171, e11_0, e11_171, e12_0, e12_171, e13_0, e13_171]) (by omega) dX8_init_96 ?_
  refine r_iload_n dX8_init_99 rfl ?_
  refine r_new (N := (612)) (c := 6) (by decide) (tgI 183 (by decide +kernel) rfl) (tgI 184 (by decide +kernel) rfl) wq_102 (by decide) (Nat.le_of_ble_eq_true rfl) (Nat.le_of_ble_eq_true rfl) dX8_init_100 ?_
  refine PW.cs (cs2 := (612, 12092)) rfl ?_
  refine r_dup dX8_init_103 rfl ?_
  refine r_callI0 (N := (613)) (N' := (667)) (ci_X6_init ml_X8_36) rfl (Nat.le_of_ble_eq_true rfl) rfl (by decide) dX8_init_104 (c_X6_init (kb_613) (kd_new (kb_613) (by decide)) (by decide)) (fun h14 c14 => ?_)
  refine PW.cs (cs2 := (666, 13093)) rfl ?_
  obtain ⟨hm14, s14⟩ := mid_ck hm c14
  replace hm := hm14
  have e14_0 := (s14 1 (by omega) (by omega)).2.2.2.1
  have f14 := (s14 1 (by omega) (by omega)).1
  have g14 := (s14 1 (by omega) (by omega)).2.1
  have e14_171 := (s14 (172) (by omega) (by omega)).2.2.2.1
  clear s14 hm14 c14
  refine r_sastN (n := 10) (p := 8) kn_8 (by decide) (by decide) (mid_A hm (by omega) (by omega) (kc_172).1.1 (kc_172).2) (mid_K hm (by omega) (by omega) (kb_613).1) dX8_init_107 ?_
  replace hm := mid_put (i := (172)) (k := 8) (v := (613)) hm (by simp) (by omega)
  refine r_iinc (1) (by decide) (ls2 := [some (.ref 1), some (.int 9)]) dX8_init_108 rfl (by decide) (congrArg (fun z => [some (Value.ref 1), some (Value.int z)]) (show ((8 : Int32) + (1)) = 9 from by decide)) ?_
  refine r_goto 89 dX8_init_111 (by decide) ?_
  refine r_iload_n dX8_init_89 rfl ?_
  refine r_bipush (10) dX8_init_90 (by decide) ?_
  refine r_icmp_ge 114 dX8_init_92 (by decide) (fun c_0 => absurd c_0 (by decide)) (fun _ => ?_)
  refine r_aload_n dX8_init_95 rfl ?_
  refine r_getR (r := (172)) fl_X8_47 (mid_K hm (by omega) (by omega) kc_1.1) rfl (by simp (discharger := omega) [sR_at, nW_R0, sR_rne0, e1_0, e2_0, e3_0, e4_0, e5_0, e6_0, e7_0, e7_171, e8_0, e8_171, e9_0, e9_171, e10_0, e10_171, e11_0, e11_171, e12_0, e12_171, e13_0, e13_171, e14_0, e14_171]) (by omega) dX8_init_96 ?_
  refine r_iload_n dX8_init_99 rfl ?_
  refine r_new (N := (667)) (c := 6) (by decide) (tgI 183 (by decide +kernel) rfl) (tgI 184 (by decide +kernel) rfl) wq_102 (by decide) (Nat.le_of_ble_eq_true rfl) (Nat.le_of_ble_eq_true rfl) dX8_init_100 ?_
  refine PW.cs (cs2 := (667, 13098)) rfl ?_
  refine r_dup dX8_init_103 rfl ?_
  refine r_callI0 (N := (668)) (N' := (722)) (ci_X6_init ml_X8_36) rfl (Nat.le_of_ble_eq_true rfl) rfl (by decide) dX8_init_104 (c_X6_init (kb_668) (kd_new (kb_668) (by decide)) (by decide)) (fun h15 c15 => ?_)
  refine PW.cs (cs2 := (721, 14099)) rfl ?_
  obtain ⟨hm15, s15⟩ := mid_ck hm c15
  replace hm := hm15
  have e15_0 := (s15 1 (by omega) (by omega)).2.2.2.1
  have f15 := (s15 1 (by omega) (by omega)).1
  have g15 := (s15 1 (by omega) (by omega)).2.1
  have e15_171 := (s15 (172) (by omega) (by omega)).2.2.2.1
  clear s15 hm15 c15
  refine r_sastN (n := 10) (p := 9) kn_9 (by decide) (by decide) (mid_A hm (by omega) (by omega) (kc_172).1.1 (kc_172).2) (mid_K hm (by omega) (by omega) (kb_668).1) dX8_init_107 ?_
  replace hm := mid_put (i := (172)) (k := 9) (v := (668)) hm (by simp) (by omega)
  refine r_iinc (1) (by decide) (ls2 := [some (.ref 1), some (.int 10)]) dX8_init_108 rfl (by decide) (congrArg (fun z => [some (Value.ref 1), some (Value.int z)]) (show ((9 : Int32) + (1)) = 10 from by decide)) ?_
  refine r_goto 89 dX8_init_111 (by decide) ?_
  refine r_iload_n dX8_init_89 rfl ?_
  refine r_bipush (10) dX8_init_90 (by decide) ?_
  refine r_icmp_ge 114 dX8_init_92 (by decide) (fun _ => ?_) (fun c_0 => absurd (by decide) c_0)
  have hx := x8_at hm (by refine ⟨?_, ?_, ?_, ?_, ?_, ?_, ?_⟩ <;> simp (discharger := omega) [sR_at, nW_R0, sR_rne0, sI_R, e1_0, e2_0, e3_0, e4_0, e5_0, e6_0, e7_0, e7_171, e8_0, e8_171, e9_0, e9_171, e10_0, e10_171, e11_0, e11_171, e12_0, e12_171, e13_0, e13_171, e14_0, e14_171, e15_0, e15_171]) (by simp (discharger := omega) [sR_I, nW_I, sI_1, upd, f1, f2, f3, f4, f5, f6, f7, f8, f9, f10, f11, f12, f13, f14, f15, z1]) (by simp (discharger := omega) [sR_J, nW_J, sI_J, g1, g2, g3, g4, g5, g6, g7, g8, g9, g10, g11, g12, g13, g14, g15, z2]) (by refine ⟨?_, ?_, ?_, ?_, ?_, ?_, ?_, ?_, ?_, ?_⟩ <;> simp (discharger := omega) [sR_at, nW_R0, sR_rne0, sI_R, e1_0, e2_0, e3_0, e4_0, e5_0, e6_0, e7_0, e7_171, e8_0, e8_171, e9_0, e9_171, e10_0, e10_171, e11_0, e11_171, e12_0, e12_171, e13_0, e13_171, e14_0, e14_171, e15_0, e15_171])
  obtain ⟨hu, hW, hz, hi, hj, h6, h1k, hs⟩ := hx
  refine r_aload_n dX8_init_114 rfl ?_
  refine r_getR (r := 7) fl_X8_37 h1k rfl h6 (by decide) dX8_init_115 ?_
  refine r_iconst (1) dX8_init_118 (by decide) ?_
  refine r_iconst (4) dX8_init_119 (by decide) ?_
  refine r_bipush (10) dX8_init_120 (by decide) ?_
  refine q_callV3Ah (cv_X6_addPool ml_X8_51) hW kA_7 (by decide) rfl ⟨rfl, rfl⟩ rfl (Nat.le_of_ble_eq_true rfl) dX8_init_122 (c_X6_addPoolAh hW kA_7 hs ⟨rfl, by decide, by decide⟩ rfl ⟨rfl, by decide, by decide⟩ getG_Z ⟨rfl, by decide, by decide⟩ ⟨rfl, by decide, by decide⟩ ⟨rfl, by decide, by decide⟩ (by decide)) (fun v_0 h_0 q_0 => ?_)
  obtain ⟨rfl, e, hs'⟩ := q_0
  have n1 : ¬ SB 7 1 := by unfold SB; omega
  refine r_vret dX8_init_125 rfl ⟨Nat.le_of_ble_eq_true rfl, Nat.le_of_ble_eq_true rfl⟩ ⟨rfl, e.WAh hW, fun j a b c => ?_, fun k => ?_, ?_, hs', fun i a => by rw [e.R]; exact hu i a⟩
  · have := hz j a b
    exact ⟨(e.I c).trans this.1, (e.J c).trans this.2.1, (congrFun e.2.1 j).trans this.2.2⟩
  · rw [e.I n1]; exact hi k
  · rw [e.J n1]; exact hj
