theorem kdB_A {i c : Nat} (hk : kdBh i c) (hc : c = 0 ∨ c = 1 ∨ c = 3 ∨ c = 4 ∨ c = 6 ∨ c = 7 ∨ c = 14) : kdAh i c := by
  obtain ⟨h1, h2, h3⟩ := hk
  refine ⟨h1, h2, ?_⟩
  refine Nat.le_of_not_lt fun h4 => ?_
  have h3' : i ≤ 736 := h3
  have h4' : 722 < i := h4
  have : ∀ j, j < 14 → wK (723 + j) = 9 ∨ wK (723 + j) = 11 ∨ wK (723 + j) = 12 := by decide +kernel
  have h5 := this (i - 723) (by omega)
  rw [show 723 + (i - 723) = i by omega, h1] at h5
  omega
theorem world_B {h0 h : AH} (hW : WorldAh h0) (hm : Mid 723 736 [723] [723] h0 h) (hl : aR h 723 0 = 724 ∧ aR h 723 1 = 725 ∧ aR h 723 2 = 726 ∧ aR h 723 3 = 727 ∧ aR h 723 4 = 728 ∧ aR h 723 5 = 729 ∧ aR h 723 6 = 730 ∧ aR h 723 7 = 731 ∧ aR h 723 8 = 732 ∧ aR h 723 9 = 733 ∧ aR h 723 13 = 734 ∧ aR h 723 24 = 735 ∧ aR h 723 28 = 736) : WorldBh h := by
  have hs : ∀ {i c}, kdAh i c → aR h i = aR h0 i := fun {i c} hk => (hm.2.1 i hk.2.1 (Nat.lt_succ_of_le hk.2.2)).2.2.2.1
  have hR : ∀ i, 0 < i → i < 723 → aR h i = aR h0 i := fun i a b => (hm.2.1 i a b).2.2.2.1
  obtain ⟨w1, w2, w3⟩ := hW
  refine ⟨fun i a b => ?_, fun i a b => ?_, ?_⟩
  · by_cases e : i < 723
    · exact (hm.2.1 i a e).2.2.2.2.1.trans (w1 i a (Nat.le_of_lt_succ e))
    · exact (hm.2.2 i (by omega) b).1.1
  · by_cases e : i < 723
    · exact (hm.2.1 i a e).2.2.2.2.2.trans (w2 i a (Nat.le_of_lt_succ e))
    · exact (hm.2.2 i (by omega) b).1.2
  · obtain ⟨a1, a2, a3, a4, a5, a6, a7, a8, a9, -⟩ := w3
    refine ⟨fun i hk => ?_, fun i hk => ?_, fun i hk => ?_, fun i hk => ?_, fun i hk => ?_, fun i hk => ?_, fun i hk => ?_, ?_, ?_, hl⟩
    · have q := kdB_A hk (by decide)
      show aR h i 0 = _ ∧ aR h i 1 = _ ∧ aR h i 2 = _ ∧ aR h i 3 = _
      rw [hs q]; exact a1 i q
    · have q := kdB_A hk (by decide)
      show aR h i 0 = _ ∧ aR h i 1 = _ ∧ aR h i 2 = _ ∧ aR h i 3 = _
      rw [hs q]; exact a2 i q
    · have q := kdB_A hk (by decide)
      show aR h i 0 = _ ∧ aR h i 1 = _ ∧ aR h i 2 = _ ∧ aR h i 3 = _ ∧ aR h i 5 = _
      rw [hs q]; exact a3 i q
    · have q := kdB_A hk (by decide)
      show aR h i 16 = _
      rw [hs q]; exact a4 i q
    · have q := kdB_A hk (by decide)
      show aR h i 0 = _ ∧ aR h i 4 = _
      rw [hs q]; exact a5 i q
    · have q := kdB_A hk (by decide)
      show aR h i 9 = _
      rw [hs q]; exact a6 i q
    · have q := kdB_A hk (by decide)
      show ∀ p, p < 4 → aR h i p = _
      rw [hs q]; exact a7 i q
    · show aR h 1 0 = _ ∧ aR h 1 4 = _ ∧ aR h 1 5 = _ ∧ aR h 1 6 = _ ∧ aR h 1 7 = _ ∧ aR h 1 8 = _ ∧ aR h 1 10 = _
      rw [hR 1 (by decide) (by decide)]; exact a8
    · show aR h 5 0 = _
      rw [hR 5 (by decide) (by decide)]; exact a9
theorem kB_723 : kdBh 723 9 := ⟨by decide +kernel, by decide, by decide⟩
theorem x9_at {h0 h : AH} (hW : WorldAh h0) (hm : Mid 723 736 [723] [723] h0 h) (hl : aR h 723 0 = 724 ∧ aR h 723 1 = 725 ∧ aR h 723 2 = 726 ∧ aR h 723 3 = 727 ∧ aR h 723 4 = 728 ∧ aR h 723 5 = 729 ∧ aR h 723 6 = 730 ∧ aR h 723 7 = 731 ∧ aR h 723 8 = 732 ∧ aR h 723 9 = 733 ∧ aR h 723 13 = 734 ∧ aR h 723 24 = 735 ∧ aR h 723 28 = 736) (hi : ∀ k, aI h 723 k = if k = 16 then -1 else 0) (hj : aJ h 723 = fun _ => 0) : WorldBh h ∧ (∀ j, 0 < j → j < 723 → SO h0 h j) ∧ (∀ j, 723 < j → j ≤ 736 → ZO h j) ∧ (∀ k, aI h 723 k = if k = 16 then -1 else 0) ∧ (aJ h 723 = fun _ => 0) := by
  refine ⟨world_B hW hm hl, hm.2.1, fun j a b => (hm.2.2 j (by omega) b).2.1 (by simp; omega), hi, hj⟩
set_option maxRecDepth 100000 in
set_option maxHeartbeats 4000000 in
theorem c_X9_init {l9 : Launch} {G : GC} {h : AH} (hK : KO h 723 ∧ ZO h 723) (hW0 : WorldAh h) : PM l9 G mX9_init 723 736 [.ref 723] h (fun v h' => v = none ∧ WorldBh h' ∧ (∀ j, 0 < j → j < 723 → aI h' j = aI h j ∧ aJ h' j = aJ h j) ∧ (∀ j, 723 < j → j ≤ 736 → ¬ SM j → aI h' j = (fun _ => 0) ∧ aJ h' j = fun _ => 0) ∧ (∀ k, aI h' 723 k = if k = 16 then -1 else 0) ∧ (aJ h' 723 = fun _ => 0) ∧ MW h' (apW noW 1 4 10, ZG) ∧ ∀ j, 0 < j → j < 723 → aR h' j = aR h j) noX := by
  refine PM.of (by decide +kernel) rfl rfl (Nat.le_of_ble_eq_true rfl) (fun hst _ => ?_)
  have hm := mid_w [723] (mid_0 (by decide) hK.1 hK.2)
  have z1 := hK.2.1
  have z2 := hK.2.2.1
  refine r_aload_n dX9_init_0 rfl ?_
  refine r_obj (tgI 1533 (by decide +kernel) rfl) w_oi w_oc (Nat.le_of_ble_eq_true rfl) (Nat.le_of_ble_eq_true rfl) dX9_init_1 ?_
  refine r_aload_n dX9_init_4 rfl ?_
  refine r_sipush (964) dX9_init_5 (by decide) ?_
  refine r_newi (N := 723) kn_964 (by decide) (by decide) rfl rfl dX9_init_8 ?_
  refine PW.cs (cs2 := (1, 964)) rfl ?_
  replace hm := mid_arr hm (kc_724).1.1 (kc_724).2 (by decide)
  refine r_putRF fl_X9_7 (mid_K hm (by omega) (by omega) kc_723.1) rfl (by omega) rfl rfl rfl dX9_init_10 ?_
  replace hm := mid_put (i := 723) (k := 0) (v := (724)) hm (by simp) (by omega)
  refine r_aload_n dX9_init_13 rfl ?_
  refine r_sipush (964) dX9_init_14 (by decide) ?_
  refine r_newi (N := (724)) kn_964 (by decide) (by decide) rfl rfl dX9_init_17 ?_
  refine PW.cs (cs2 := (2, 1928)) rfl ?_
  replace hm := mid_arr hm (kc_725).1.1 (kc_725).2 (by decide)
  refine r_putRF fl_X9_13 (mid_K hm (by omega) (by omega) kc_723.1) rfl (by omega) rfl rfl rfl dX9_init_19 ?_
  replace hm := mid_put (i := 723) (k := 1) (v := (725)) hm (by simp) (by omega)
  refine r_aload_n dX9_init_22 rfl ?_
  refine r_sipush (964) dX9_init_23 (by decide) ?_
  refine r_newi (N := (725)) kn_964 (by decide) (by decide) rfl rfl dX9_init_26 ?_
  refine PW.cs (cs2 := (3, 2892)) rfl ?_
  replace hm := mid_arr hm (kc_726).1.1 (kc_726).2 (by decide)
  refine r_putRF fl_X9_16 (mid_K hm (by omega) (by omega) kc_723.1) rfl (by omega) rfl rfl rfl dX9_init_28 ?_
  replace hm := mid_put (i := 723) (k := 2) (v := (726)) hm (by simp) (by omega)
  refine r_aload_n dX9_init_31 rfl ?_
  refine r_sipush (964) dX9_init_32 (by decide) ?_
  refine r_newi (N := (726)) kn_964 (by decide) (by decide) rfl rfl dX9_init_35 ?_
  refine PW.cs (cs2 := (4, 3856)) rfl ?_
  replace hm := mid_arr hm (kc_727).1.1 (kc_727).2 (by decide)
  refine r_putRF fl_X9_19 (mid_K hm (by omega) (by omega) kc_723.1) rfl (by omega) rfl rfl rfl dX9_init_37 ?_
  replace hm := mid_put (i := 723) (k := 3) (v := (727)) hm (by simp) (by omega)
  refine r_aload_n dX9_init_40 rfl ?_
  refine r_sipush (9640) dX9_init_41 (by decide) ?_
  refine r_newi (N := (727)) kn_9640 (by decide) (by decide) rfl rfl dX9_init_44 ?_
  refine PW.cs (cs2 := (5, 13496)) rfl ?_
  replace hm := mid_arr hm (kc_728).1.1 (kc_728).2 (by decide)
  refine r_putRF fl_X9_22 (mid_K hm (by omega) (by omega) kc_723.1) rfl (by omega) rfl rfl rfl dX9_init_46 ?_
  replace hm := mid_put (i := 723) (k := 4) (v := (728)) hm (by simp) (by omega)
  refine r_aload_n dX9_init_49 rfl ?_
  refine r_bipush (24) dX9_init_50 (by decide) ?_
  refine r_newj (N := (728)) kn_24 (by decide) (by decide) rfl rfl dX9_init_52 ?_
  refine PW.cs (cs2 := (6, 13520)) rfl ?_
  replace hm := mid_arr hm (kc_729).1.1 (kc_729).2 (by decide)
  refine r_putRF fl_X9_25 (mid_K hm (by omega) (by omega) kc_723.1) rfl (by omega) rfl rfl rfl dX9_init_54 ?_
  replace hm := mid_put (i := 723) (k := 5) (v := (729)) hm (by simp) (by omega)
  refine r_aload_n dX9_init_57 rfl ?_
  refine r_bipush (24) dX9_init_58 (by decide) ?_
  refine r_newj (N := (729)) kn_24 (by decide) (by decide) rfl rfl dX9_init_60 ?_
  refine PW.cs (cs2 := (7, 13544)) rfl ?_
  replace hm := mid_arr hm (kc_730).1.1 (kc_730).2 (by decide)
  refine r_putRF fl_X9_29 (mid_K hm (by omega) (by omega) kc_723.1) rfl (by omega) rfl rfl rfl dX9_init_62 ?_
  replace hm := mid_put (i := 723) (k := 6) (v := (730)) hm (by simp) (by omega)
  refine r_aload_n dX9_init_65 rfl ?_
  refine r_bipush (24) dX9_init_66 (by decide) ?_
  refine r_newj (N := (730)) kn_24 (by decide) (by decide) rfl rfl dX9_init_68 ?_
  refine PW.cs (cs2 := (8, 13568)) rfl ?_
  replace hm := mid_arr hm (kc_731).1.1 (kc_731).2 (by decide)
  refine r_putRF fl_X9_32 (mid_K hm (by omega) (by omega) kc_723.1) rfl (by omega) rfl rfl rfl dX9_init_70 ?_
  replace hm := mid_put (i := 723) (k := 7) (v := (731)) hm (by simp) (by omega)
  refine r_aload_n dX9_init_73 rfl ?_
  refine r_bipush (24) dX9_init_74 (by decide) ?_
  refine r_newj (N := (731)) kn_24 (by decide) (by decide) rfl rfl dX9_init_76 ?_
  refine PW.cs (cs2 := (9, 13592)) rfl ?_
  replace hm := mid_arr hm (kc_732).1.1 (kc_732).2 (by decide)
  refine r_putRF fl_X9_35 (mid_K hm (by omega) (by omega) kc_723.1) rfl (by omega) rfl rfl rfl dX9_init_78 ?_
  replace hm := mid_put (i := 723) (k := 8) (v := (732)) hm (by simp) (by omega)
  refine r_aload_n dX9_init_81 rfl ?_
  refine r_sipush (240) dX9_init_82 (by decide) ?_
  refine r_newj (N := (732)) kn_240 (by decide) (by decide) rfl rfl dX9_init_85 ?_
  refine PW.cs (cs2 := (10, 13832)) rfl ?_
  replace hm := mid_arr hm (kc_733).1.1 (kc_733).2 (by decide)
  refine r_putRF fl_X9_38 (mid_K hm (by omega) (by omega) kc_723.1) rfl (by omega) rfl rfl rfl dX9_init_87 ?_
  replace hm := mid_put (i := 723) (k := 9) (v := (733)) hm (by simp) (by omega)
  refine r_aload_n dX9_init_90 rfl ?_
  refine r_sipush (700) dX9_init_91 (by decide) ?_
  refine r_newi (N := (733)) kn_700 (by decide) (by decide) rfl rfl dX9_init_94 ?_
  refine PW.cs (cs2 := (11, 14532)) rfl ?_
  replace hm := mid_arr hm (kc_734).1.1 (kc_734).2 (by decide)
  refine r_putRF fl_X9_41 (mid_K hm (by omega) (by omega) kc_723.1) rfl (by omega) rfl rfl rfl dX9_init_96 ?_
  replace hm := mid_put (i := 723) (k := 13) (v := (734)) hm (by simp) (by omega)
  refine r_aload_n dX9_init_99 rfl ?_
  refine r_iconst (-1) dX9_init_100 (by decide) ?_
  refine r_putI fl_X9_44 (mid_K hm (by omega) (by omega) kc_723.1) rfl rfl dX9_init_101 ?_
  replace hm := mid_sI (i := 723) (k := 16) (v := -1) hm (by simp) (by omega)
  refine r_aload_n dX9_init_104 rfl ?_
  refine r_iconst (3) dX9_init_105 (by decide) ?_
  refine r_newi (N := (734)) kn_3 (by decide) (by decide) rfl rfl dX9_init_106 ?_
  refine PW.cs (cs2 := (12, 14535)) rfl ?_
  replace hm := mid_arr hm (kc_735).1.1 (kc_735).2 (by decide)
  refine r_putRF fl_X9_48 (mid_K hm (by omega) (by omega) kc_723.1) rfl (by omega) rfl rfl rfl dX9_init_108 ?_
  replace hm := mid_put (i := 723) (k := 24) (v := (735)) hm (by simp) (by omega)
  refine r_aload_n dX9_init_111 rfl ?_
  refine r_sipush (300) dX9_init_112 (by decide) ?_
  refine r_newi (N := (735)) kn_300 (by decide) (by decide) rfl rfl dX9_init_115 ?_
  refine PW.cs (cs2 := (13, 14835)) rfl ?_
  replace hm := mid_arr hm (kc_736).1.1 (kc_736).2 (by decide)
  refine r_putRF fl_X9_51 (mid_K hm (by omega) (by omega) kc_723.1) rfl (by omega) rfl rfl rfl dX9_init_117 ?_
  replace hm := mid_put (i := 723) (k := 28) (v := (736)) hm (by simp) (by omega)
  have hx := x9_at hW0 hm (by refine ⟨?_, ?_, ?_, ?_, ?_, ?_, ?_, ?_, ?_, ?_, ?_, ?_, ?_⟩ <;> simp (discharger := omega) [sR_at, nW_R0, sR_rne0, sI_R]) (by simp (discharger := omega) [sR_I, nW_I, sI_1, upd, z1]) (by simp (discharger := omega) [sR_J, nW_J, sI_J, z2])
  obtain ⟨hW, ho, hz, hi, hj⟩ := hx
  refine r_aload_n dX9_init_120 rfl ?_
  refine q_callV0Bh (cv_X9_clear ml_X9_54) hW kB_723 (by decide) rfl ⟨rfl, rfl⟩ rfl (Nat.le_of_ble_eq_true rfl) dX9_init_121 (c_X9_clearBh hW) (fun v_1 h_1 q_1 => ?_)
  obtain ⟨rfl, e1, hm1⟩ := q_1
  refine r_aload_n dX9_init_124 rfl ?_
  refine r_iconst (1) dX9_init_125 (by decide) ?_
  refine r_iconst (4) dX9_init_126 (by decide) ?_
  refine r_bipush (10) dX9_init_127 (by decide) ?_
  refine q_callV3Bh (cv_X9_comesPool ml_X9_57) (e1.WBh hW) kB_723 (by decide) rfl ⟨rfl, rfl⟩ rfl (Nat.le_of_ble_eq_true rfl) dX9_init_129 (c_X9_comesPoolBh (m := 0) (a := 1) (x2 := 0) (e1.WBh hW) hm1 rfl (by decide) rfl (by decide) (by funext k; unfold getP noW; split <;> rfl) rfl (by decide) ⟨rfl, by decide, by decide⟩ ⟨rfl, by decide, by decide⟩ (by decide)) (fun v_2 h_2 q_2 => ?_)
  obtain ⟨rfl, e2, hm2⟩ := q_2
  have n1 : ∀ j, 0 < j → j < 724 → ¬ SM j := fun j a b => by unfold SM; omega
  refine r_vret dX9_init_132 rfl ⟨Nat.le_of_ble_eq_true rfl, Nat.le_of_ble_eq_true rfl⟩ ⟨rfl, e2.WBh (e1.WBh hW), fun j a b => ?_, fun j a b c => ?_, fun k => ?_, ?_, hm2, fun j a b => ?_⟩
  · have n := n1 j a (by omega)
    exact ⟨(e2.I n).trans ((e1.I n).trans (ho j a b).1), (e2.J n).trans ((e1.J n).trans (ho j a b).2.1)⟩
  · exact ⟨(e2.I c).trans ((e1.I c).trans (hz j a b).1), (e2.J c).trans ((e1.J c).trans (hz j a b).2.1)⟩
  · rw [e2.I (n1 _ (by decide) (by decide)), e1.I (n1 _ (by decide) (by decide))]; exact hi k
  · rw [e2.J (n1 _ (by decide) (by decide)), e1.J (n1 _ (by decide) (by decide))]; exact hj
  · rw [e2.R, e1.R]; exact (ho j a b).2.2.2.1
