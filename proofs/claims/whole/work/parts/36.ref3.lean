-- the reference: the phases of a tick
theorem imx1_ne {x : Int32} : ¬ imx 1 x = 0 := by
  unfold imx
  split
  · next h => exact fun q => absurd (q ▸ h) (by decide)
  · decide
theorem dUp_e {x y : Int32} {b : Nat} (hy : y = nI b) (hb : 0 < b) (h2 : b < 2 ^ 31) : dUp x y = (x + y - 1) / y := by
  unfold dUp
  rw [if_neg (fun q => by rw [hy] at q; exact absurd ((nI_leI (b := 0) h2 (by decide)).mp q) (by omega))]
theorem foF_w {f : Nat → Int32} {c : Nat} (h7 : f 7 = 0) : foF f c = dUp (ws f c (wn f c)) (nI (wn f c)) := by
  unfold foF
  rw [if_neg (by rw [h7]; decide), if_neg (by rw [h7]; decide)]
theorem foF_t {f : Nat → Int32} {c : Nat} (h7 : f 7 = 1) : foF f c = imx 0 (bk f c 0 + (bk f c 0 - bk f c (wn f c - 1)) * f 6 / imx 1 (nI (wn f c) - 1)) := by
  unfold foF
  rw [if_pos h7]
theorem foF_s {f : Nat → Int32} {c : Nat} (h7 : f 7 = 2) : foF f c = bk f c (if dUp (f 6) (f 8) * f 8 - f 6 < nI c then nn (dUp (f 6) (f 8) * f 8 - f 6) else 0) := by
  unfold foF
  rw [if_neg (by rw [h7]; decide), if_pos h7]
theorem pol_3 {f : Nat → Int32} (h : rg (f 7) 0 2) : f 7 = 0 ∨ f 7 = 1 ∨ f 7 = 2 := by
  obtain ⟨m, m1, m2, m3⟩ := h.nat
  rw [m3]
  obtain rfl | rfl | rfl : m = 0 ∨ m = 1 ∨ m = 2 := by omega
  · exact Or.inl rfl
  · exact Or.inr (Or.inl rfl)
  · exact Or.inr (Or.inr rfl)
set_option maxRecDepth 100000 in
set_option maxHeartbeats 4000000 in
theorem c_X9_foresees {l9 : Launch} {G : GC} {h : AH} {w : Nat → Int32} {v9 : Nat → Int64} {p : Nat} {f : Nat → Int32} {g : Nat → Int64} {c u : Nat} {x : Int32} (hW : World h) (hm : PV h w v9 p f g) (hp : p < 4) (hO : PoOK f g c u) (hx : x = nI p) (hc0 : 0 < c) : PM l9 G mX9_foresees NT NT [.ref 723, .int x] h (fun v h' => v = some (.int (foF f c)) ∧ h' = h) noX := by
  refine PM.of (by decide +kernel) rfl rfl (Nat.le_of_ble_eq_true rfl) (fun hst _ => ?_)
  have yc := hO.2.2.2.2.1.2.1
  obtain ⟨y8, yw, yw0⟩ := wn_le (c := c) (hO.at 5)
  have yn0 : 0 < wn f c := yw0 hc0
  have ye6 : nn (f 6) ≤ 8 := (hO.at 6).2.2
  have hp3 := pol_3 (hO.at 7)
  refine r_aload_n dX9_foresees_0 rfl ?_
  refine r_iload_n dX9_foresees_1 rfl ?_
  refine q_callV1 (cv_X9_windowOf ml_X9_111) hW kc_723 (by decide) rfl ⟨rfl, rfl⟩ rfl (Nat.le_of_ble_eq_true rfl) dX9_foresees_2 (c_X9_windowOf hW hm hp hO hx) (fun v_2 h_2 q_2 => ?_)
  obtain ⟨rfl, z9⟩ := q_2
  replace z9 := z9.symm
  subst z9
  refine r_istore_n (ls2 := [_, some _, _, _, _]) dX9_foresees_5 (by decide) rfl ?_
  refine r_aload_n dX9_foresees_6 rfl ?_
  refine r_iload_n dX9_foresees_7 rfl ?_
  refine r_bipush (6) dX9_foresees_8 (by decide) ?_
  refine q_callV2 (cv_X9_of ml_X9_81) hW kc_723 (by decide) rfl ⟨rfl, rfl⟩ rfl (Nat.le_of_ble_eq_true rfl) dX9_foresees_10 (c_X9_of hW hm hp hx kn_6 (by omega)) (fun v_10 h_10 q_10 => ?_)
  obtain ⟨rfl, z9⟩ := q_10
  replace z9 := z9.symm
  subst z9
  refine r_istore_n (ls2 := [_, _, some _, _, _]) dX9_foresees_13 (by decide) rfl ?_
  refine r_aload_n dX9_foresees_14 rfl ?_
  refine r_iload_n dX9_foresees_15 rfl ?_
  refine r_bipush (7) dX9_foresees_16 (by decide) ?_
  refine q_callV2 (cv_X9_of ml_X9_81) hW kc_723 (by decide) rfl ⟨rfl, rfl⟩ rfl (Nat.le_of_ble_eq_true rfl) dX9_foresees_18 (c_X9_of hW hm hp hx kn_7 (by omega)) (fun v_18 h_18 q_18 => ?_)
  obtain ⟨rfl, z9⟩ := q_18
  replace z9 := z9.symm
  subst z9
  refine r_if_ne 34 dX9_foresees_21 (by decide) (fun c_21 => ?_) (fun c_21 => ?_)
  · refine r_aload_n dX9_foresees_34 rfl ?_
    refine r_iload_n dX9_foresees_35 rfl ?_
    refine r_bipush (7) dX9_foresees_36 (by decide) ?_
    refine q_callV2 (cv_X9_of ml_X9_81) hW kc_723 (by decide) rfl ⟨rfl, rfl⟩ rfl (Nat.le_of_ble_eq_true rfl) dX9_foresees_38 (c_X9_of hW hm hp hx kn_7 (by omega)) (fun v_38 h_38 q_38 => ?_)
    obtain ⟨rfl, z9⟩ := q_38
    replace z9 := z9.symm
    subst z9
    refine r_iconst (1) dX9_foresees_41 (by decide) ?_
    refine r_icmp_ne 82 dX9_foresees_42 (by decide) (fun c_42 => ?_) (fun c_42 => ?_)
    · have h7 : f 7 = 2 := hp3.resolve_left c_21 |>.resolve_left c_42
      obtain ⟨ld, l1, l2, l3⟩ := (hO.at 6).nat
      have l2' : ld ≤ 8 := l2
      have z8 : rg (f 8) 1 24 := ⟨(hO.at 8).1, hO.2.1.1 h7, (hO.at 8).2.2⟩
      obtain ⟨pe, p1, p2, p3⟩ := z8.nat
      have q1 := Nat.div_add_mod (ld + pe - 1) pe
      have q2 := Nat.mod_lt (ld + pe - 1) (show 0 < pe by omega)
      rw [Nat.mul_comm] at q1
      have hfar : (f 6 + f 8 - 1) / f 8 * f 8 - f 6 = nI ((ld + pe - 1) / pe * pe - ld) := by
        rw [l3, p3, nI_add, nI_s1 (by omega), pk_div (by omega) (by omega) (by omega), pk_mul, pk_sub (by omega)]
      have hD : dUp (f 6) (f 8) * f 8 - f 6 = nI ((ld + pe - 1) / pe * pe - ld) := by rw [dUp_e p3 (by omega) (by omega)]; exact hfar
      have hF := foF_s (c := c) h7
      rw [hD, nn_I (by omega)] at hF
      refine r_iload_n dX9_foresees_82 rfl ?_
      refine r_aload_n dX9_foresees_83 rfl ?_
      refine r_iload_n dX9_foresees_84 rfl ?_
      refine r_bipush (8) dX9_foresees_85 (by decide) ?_
      refine q_callV2 (cv_X9_of ml_X9_81) hW kc_723 (by decide) rfl ⟨rfl, rfl⟩ rfl (Nat.le_of_ble_eq_true rfl) dX9_foresees_87 (c_X9_of hW hm hp hx kn_8 (by omega)) (fun v_87 h_87 q_87 => ?_)
      obtain ⟨rfl, z9⟩ := q_87
      replace z9 := z9.symm
      subst z9
      refine q_callS2 (cs_X9_up ml_X9_120) ⟨rfl, rfl⟩ rfl (Nat.le_of_ble_eq_true rfl) dX9_foresees_90 (c_X9_up (by rw [p3]; exact nI_ne0 (by omega) (by omega))) (fun v_90 h_90 q_90 => ?_)
      obtain ⟨rfl, z9⟩ := q_90
      replace z9 := z9.symm
      subst z9
      refine r_aload_n dX9_foresees_93 rfl ?_
      refine r_iload_n dX9_foresees_94 rfl ?_
      refine r_bipush (8) dX9_foresees_95 (by decide) ?_
      refine q_callV2 (cv_X9_of ml_X9_81) hW kc_723 (by decide) rfl ⟨rfl, rfl⟩ rfl (Nat.le_of_ble_eq_true rfl) dX9_foresees_97 (c_X9_of hW hm hp hx kn_8 (by omega)) (fun v_97 h_97 q_97 => ?_)
      obtain ⟨rfl, z9⟩ := q_97
      replace z9 := z9.symm
      subst z9
      refine r_imul dX9_foresees_100 ?_
      refine r_iload_n dX9_foresees_101 rfl ?_
      refine r_isub dX9_foresees_102 ?_
      rw [hfar]
      refine r_istore (ls2 := [_, _, _, some _, _]) dX9_foresees_103 (by decide) rfl ?_
      refine r_iload dX9_foresees_105 rfl ?_
      refine r_aload_n dX9_foresees_107 rfl ?_
      refine r_iload_n dX9_foresees_108 rfl ?_
      refine r_bipush (29) dX9_foresees_109 (by decide) ?_
      refine q_callV2 (cv_X9_of ml_X9_81) hW kc_723 (by decide) rfl ⟨rfl, rfl⟩ rfl (Nat.le_of_ble_eq_true rfl) dX9_foresees_111 (c_X9_of hW hm hp hx kn_29 (by omega)) (fun v_111 h_111 q_111 => ?_)
      obtain ⟨rfl, z9⟩ := q_111
      replace z9 := z9.symm
      subst z9
      rw [hO.2.2.2.2.1.1]
      refine r_icmp_ge 127 dX9_foresees_114 (by decide) (fun c_114 => ?_) (fun c_114 => ?_)
      · refine r_aload_n dX9_foresees_127 rfl ?_
        refine r_iload_n dX9_foresees_128 rfl ?_
        refine r_iconst (0) dX9_foresees_129 (by decide) ?_
        refine q_callV2 (cv_X9_back ml_X9_114) hW kc_723 (by decide) rfl ⟨rfl, rfl⟩ rfl (Nat.le_of_ble_eq_true rfl) dX9_foresees_130 (c_X9_back hW hm hp hO hx kn_0 (by omega)) (fun v_130 h_130 q_130 => ?_)
        obtain ⟨rfl, z9⟩ := q_130
        replace z9 := z9.symm
        subst z9
        refine r_iret dX9_foresees_133 rfl ⟨Nat.zero_le _, Nat.zero_le _⟩ ?_
        first
          | (rw [if_pos (i_lt.mp c_114)] at hF; rw [hF]; exact ⟨rfl, rfl⟩)
          | (rw [if_neg (Int32.not_lt.mpr c_114)] at hF; rw [hF]; exact ⟨rfl, rfl⟩)
      · refine r_aload_n dX9_foresees_117 rfl ?_
        refine r_iload_n dX9_foresees_118 rfl ?_
        refine r_iload dX9_foresees_119 rfl ?_
        refine q_callV2 (cv_X9_back ml_X9_114) hW kc_723 (by decide) rfl ⟨rfl, rfl⟩ rfl (Nat.le_of_ble_eq_true rfl) dX9_foresees_121 (c_X9_back hW hm hp hO hx rfl ((nI_ltI (by omega) (by omega)).mp (i_lt.mp c_114))) (fun v_121 h_121 q_121 => ?_)
        obtain ⟨rfl, z9⟩ := q_121
        replace z9 := z9.symm
        subst z9
        refine r_goto 133 dX9_foresees_124 (by decide) ?_
        refine r_iret dX9_foresees_133 rfl ⟨Nat.zero_le _, Nat.zero_le _⟩ ?_
        first
          | (rw [if_pos (i_lt.mp c_114)] at hF; rw [hF]; exact ⟨rfl, rfl⟩)
          | (rw [if_neg (Int32.not_lt.mpr c_114)] at hF; rw [hF]; exact ⟨rfl, rfl⟩)
    · refine r_iconst (0) dX9_foresees_45 (by decide) ?_
      refine r_aload_n dX9_foresees_46 rfl ?_
      refine r_iload_n dX9_foresees_47 rfl ?_
      refine r_iconst (0) dX9_foresees_48 (by decide) ?_
      refine q_callV2 (cv_X9_back ml_X9_114) hW kc_723 (by decide) rfl ⟨rfl, rfl⟩ rfl (Nat.le_of_ble_eq_true rfl) dX9_foresees_49 (c_X9_back hW hm hp hO hx kn_0 (by omega)) (fun v_49 h_49 q_49 => ?_)
      obtain ⟨rfl, z9⟩ := q_49
      replace z9 := z9.symm
      subst z9
      refine r_aload_n dX9_foresees_52 rfl ?_
      refine r_iload_n dX9_foresees_53 rfl ?_
      refine r_iconst (0) dX9_foresees_54 (by decide) ?_
      refine q_callV2 (cv_X9_back ml_X9_114) hW kc_723 (by decide) rfl ⟨rfl, rfl⟩ rfl (Nat.le_of_ble_eq_true rfl) dX9_foresees_55 (c_X9_back hW hm hp hO hx kn_0 (by omega)) (fun v_55 h_55 q_55 => ?_)
      obtain ⟨rfl, z9⟩ := q_55
      replace z9 := z9.symm
      subst z9
      refine r_aload_n dX9_foresees_58 rfl ?_
      refine r_iload_n dX9_foresees_59 rfl ?_
      refine r_iload_n dX9_foresees_60 rfl ?_
      refine r_iconst (1) dX9_foresees_61 (by decide) ?_
      refine r_isub dX9_foresees_62 ?_
      refine q_callV2 (cv_X9_back ml_X9_114) hW kc_723 (by decide) rfl ⟨rfl, rfl⟩ rfl (Nat.le_of_ble_eq_true rfl) dX9_foresees_63 (c_X9_back hW hm hp hO hx (nsub rfl kn_1 (by omega)) (by omega)) (fun v_63 h_63 q_63 => ?_)
      obtain ⟨rfl, z9⟩ := q_63
      replace z9 := z9.symm
      subst z9
      refine r_isub dX9_foresees_66 ?_
      refine r_iload_n dX9_foresees_67 rfl ?_
      refine r_imul dX9_foresees_68 ?_
      refine r_iconst (1) dX9_foresees_69 (by decide) ?_
      refine r_iload_n dX9_foresees_70 rfl ?_
      refine r_iconst (1) dX9_foresees_71 (by decide) ?_
      refine r_isub dX9_foresees_72 ?_
      refine q_max mm_X9_123 rfl (Nat.le_of_ble_eq_true rfl) dX9_foresees_73 ?_
      refine r_idiv dX9_foresees_76 imx1_ne ?_
      refine r_iadd dX9_foresees_77 ?_
      refine q_max mm_X9_123 rfl (Nat.le_of_ble_eq_true rfl) dX9_foresees_78 ?_
      refine r_iret dX9_foresees_81 rfl ⟨Nat.zero_le _, Nat.zero_le _⟩ ?_
      rw [foF_t (by first | exact c_42 | simpa using c_42)]; exact ⟨rfl, rfl⟩
  · refine r_aload_n dX9_foresees_24 rfl ?_
    refine r_iload_n dX9_foresees_25 rfl ?_
    refine q_callV1 (cv_X9_windowSum ml_X9_117) hW kc_723 (by decide) rfl ⟨rfl, rfl⟩ rfl (Nat.le_of_ble_eq_true rfl) dX9_foresees_26 (c_X9_windowSum hW hm hp hO hx) (fun v_26 h_26 q_26 => ?_)
    obtain ⟨rfl, z9⟩ := q_26
    replace z9 := z9.symm
    subst z9
    refine r_iload_n dX9_foresees_29 rfl ?_
    refine q_callS2 (cs_X9_up ml_X9_120) ⟨rfl, rfl⟩ rfl (Nat.le_of_ble_eq_true rfl) dX9_foresees_30 (c_X9_up (nI_ne0 yn0 (by omega))) (fun v_30 h_30 q_30 => ?_)
    obtain ⟨rfl, z9⟩ := q_30
    replace z9 := z9.symm
    subst z9
    refine r_iret dX9_foresees_33 rfl ⟨Nat.zero_le _, Nat.zero_le _⟩ ?_
    rw [foF_w (by first | exact c_21 | simpa using c_21), dUp_e rfl yn0 (by omega)]; exact ⟨rfl, rfl⟩

theorem metG_eq {f : Nat → Int32} {g : Nat → Int64} {t : Nat} : vp_updL (vp_updL (vp_updL (vp_updL (vp_updL g 0 (g 0 + (dmA f t 0 - lkF f t).toInt64)) 1 (g 1 + (lkF f t).toInt64)) 2 (g 2 + (f 14 * f 23 + f 15 * lkF f t).toInt64)) 4 (g 4 + (dmA f t 0).toInt64)) 5 (g 5 + (pwF f (nI t)).toInt64) = metG f g t := by
  funext k
  match k with
  | 0 => rfl
  | 1 => rfl
  | 2 => rfl
  | 3 => rfl
  | 4 => rfl
  | 5 => rfl
  | k + 6 =>
    rw [pk_uLn (by omega), pk_uLn (by omega), pk_uLn (by omega), pk_uLn (by omega), pk_uLn (by omega)]
    rfl
set_option maxRecDepth 100000 in
set_option maxHeartbeats 4000000 in
theorem c_X9_meets {l9 : Launch} {G : GC} {h : AH} {w : Nat → Int32} {v9 : Nat → Int64} {p : Nat} {f : Nat → Int32} {g : Nat → Int64} {t : Nat} {x : Int32} (hW : World h) (hm : PV h w v9 p f g) (hp : p < 4) (hO : PoOK f g t t) (hx : x = nI p) (h1 : w 1 = nI t) : PM l9 G mX9_meets NT NT [.ref 723, .int x] h (fun v h' => v = none ∧ eqx h h' SM ∧ PV h' w v9 p (erF (metF f t) t (metF f t (60 + t % 24))) (erG (metF f t) (metG f g t) t (metF f t (60 + t % 24)))) noX := by
  refine PM.of (by decide +kernel) rfl rfl (Nat.le_of_ble_eq_true rfl) (fun hst _ => ?_)
  have yc := hO.2.2.2.2.1.2.1
  have he : eqx h h SM := eqx.rf
  have ym := Nat.mod_lt t (show 0 < 24 by decide)
  have ym2 := Nat.mod_lt t (show 0 < 16 by decide)
  have y6 : nn (f 6) ≤ 8 := (hO.at 6).2.2
  refine r_aload_n dX9_meets_0 rfl ?_
  refine q_getR fl_X9_7 hW kc_723 rfl (kl_9_0 hW) (by decide) dX9_meets_1 ?_
  refine r_iconst (1) dX9_meets_4 (by decide) ?_
  refine q_wldPV hW hm kn_1 (by omega) dX9_meets_5 ?_
  rw [h1]
  refine r_istore_n (ls2 := [_, some _, _, _, _, _, _]) dX9_meets_6 (by decide) rfl ?_
  refine r_aload_n dX9_meets_7 rfl ?_
  refine r_iload_n dX9_meets_8 rfl ?_
  refine r_iload_n dX9_meets_9 rfl ?_
  refine q_callV2 (cv_X9_told ml_X9_126) hW kc_723 (by decide) rfl ⟨rfl, rfl⟩ rfl (Nat.le_of_ble_eq_true rfl) dX9_meets_10 (c_X9_told hW hm hp hO hx rfl (by omega)) (fun v_10 h_10 q_10 => ?_)
  obtain ⟨rfl, z9⟩ := q_10
  replace z9 := z9.symm
  subst z9
  refine r_aload_n dX9_meets_13 rfl ?_
  refine r_iload_n dX9_meets_14 rfl ?_
  refine r_bipush (20) dX9_meets_15 (by decide) ?_
  refine q_callV2 (cv_X9_of ml_X9_81) hW kc_723 (by decide) rfl ⟨rfl, rfl⟩ rfl (Nat.le_of_ble_eq_true rfl) dX9_meets_17 (c_X9_of hW hm hp hx kn_20 (by omega)) (fun v_17 h_17 q_17 => ?_)
  obtain ⟨rfl, z9⟩ := q_17
  replace z9 := z9.symm
  subst z9
  refine r_iadd dX9_meets_20 ?_
  rw [show ldA (lds f) t + f 20 = dmA f t 0 from by unfold dmA; rw [if_pos rfl]; rfl]
  refine r_istore_n (ls2 := [_, _, some _, _, _, _, _]) dX9_meets_21 (by decide) rfl ?_
  refine r_aload_n dX9_meets_22 rfl ?_
  refine r_iload_n dX9_meets_23 rfl ?_
  refine q_callV1 (cv_X9_power ml_X9_129) hW kc_723 (by decide) rfl ⟨rfl, rfl⟩ rfl (Nat.le_of_ble_eq_true rfl) dX9_meets_24 (c_X9_power hW hm hp hO hx) (fun v_24 h_24 q_24 => ?_)
  obtain ⟨rfl, z9⟩ := q_24
  replace z9 := z9.symm
  subst z9
  rw [h1]
  refine r_istore (ls2 := [_, _, _, some _, _, _, _]) dX9_meets_27 (by decide) rfl ?_
  refine r_iconst (0) dX9_meets_29 (by decide) ?_
  refine r_iload_n dX9_meets_30 rfl ?_
  refine r_iload dX9_meets_31 rfl ?_
  refine r_isub dX9_meets_33 ?_
  refine q_max mm_X9_123 rfl (Nat.le_of_ble_eq_true rfl) dX9_meets_34 ?_
  rw [show imx 0 (dmA f t 0 - pwF f (nI t)) = lkF f t from rfl]
  refine r_istore (ls2 := [_, _, _, _, some _, _, _]) dX9_meets_37 (by decide) rfl ?_
  refine r_aload_n dX9_meets_39 rfl ?_
  refine r_iload_n dX9_meets_40 rfl ?_
  refine r_bipush (20) dX9_meets_41 (by decide) ?_
  refine r_iconst (0) dX9_meets_43 (by decide) ?_
  refine q_callV3 (cv_X9_put ml_X9_64) hW kc_723 (by decide) rfl ⟨rfl, rfl⟩ rfl (Nat.le_of_ble_eq_true rfl) dX9_meets_44 (c_X9_put hW hm hp hx kn_20 (by omega)) (fun v_44 h_44 q_44 => ?_)
  obtain ⟨rfl, e_44, hm⟩ := q_44
  have hW := e_44.W hW
  have he := he.tr e_44
  refine r_aload_n dX9_meets_47 rfl ?_
  refine r_iload_n dX9_meets_48 rfl ?_
  refine r_bipush (60) dX9_meets_49 (by decide) ?_
  refine r_iload_n dX9_meets_51 rfl ?_
  refine r_bipush (24) dX9_meets_52 (by decide) ?_
  refine r_irem dX9_meets_54 (by decide) ?_
  refine r_iadd dX9_meets_55 ?_
  refine r_iload_n dX9_meets_56 rfl ?_
  refine q_callV3 (cv_X9_put ml_X9_64) hW kc_723 (by decide) rfl ⟨rfl, rfl⟩ rfl (Nat.le_of_ble_eq_true rfl) dX9_meets_57 (c_X9_put hW hm hp hx (nadd kn_60 (nrem rfl kn_24 (by omega) (by omega) (by omega))) (by omega)) (fun v_57 h_57 q_57 => ?_)
  obtain ⟨rfl, e_57, hm⟩ := q_57
  have hW := e_57.W hW
  have he := he.tr e_57
  refine r_aload_n dX9_meets_60 rfl ?_
  refine r_iload_n dX9_meets_61 rfl ?_
  refine r_bipush (29) dX9_meets_62 (by decide) ?_
  refine r_iconst (1) dX9_meets_64 (by decide) ?_
  refine q_callV3 (cv_X9_adds ml_X9_85) hW kc_723 (by decide) rfl ⟨rfl, rfl⟩ rfl (Nat.le_of_ble_eq_true rfl) dX9_meets_65 (c_X9_adds hW hm hp hx kn_29 (by omega)) (fun v_65 h_65 q_65 => ?_)
  obtain ⟨rfl, e_65, hm⟩ := q_65
  have hW := e_65.W hW
  have he := he.tr e_65
  replace hm : PV h_65 w v9 p (upd (upd (upd f 20 0) (60 + t % 24) (dmA f t 0)) 29 (f 29 + 1)) g := hm.eF (by rw [show (upd (upd f 20 0) (60 + t % 24) (dmA f t 0)) 29 = f 29 from by rw [pk_un (by omega), pk_un (by omega)]]) rfl
  refine r_aload_n dX9_meets_68 rfl ?_
  refine r_iload_n dX9_meets_69 rfl ?_
  refine r_bipush (25) dX9_meets_70 (by decide) ?_
  refine r_aload_n dX9_meets_72 rfl ?_
  refine r_iload_n dX9_meets_73 rfl ?_
  refine r_bipush (25) dX9_meets_74 (by decide) ?_
  refine q_callV2 (cv_X9_of ml_X9_81) hW kc_723 (by decide) rfl ⟨rfl, rfl⟩ rfl (Nat.le_of_ble_eq_true rfl) dX9_meets_76 (c_X9_of hW hm hp hx kn_25 (by omega)) (fun v_76 h_76 q_76 => ?_)
  obtain ⟨rfl, z9⟩ := q_76
  replace z9 := z9.symm
  subst z9
  rw [show (upd (upd (upd f 20 0) (60 + t % 24) (dmA f t 0)) 29 (f 29 + 1)) 25 = f 25 from by rw [pk_un (by omega), pk_un (by omega), pk_un (by omega)]]
  refine r_iload_n dX9_meets_79 rfl ?_
  refine q_max mm_X9_123 rfl (Nat.le_of_ble_eq_true rfl) dX9_meets_80 ?_
  refine q_callV3 (cv_X9_put ml_X9_64) hW kc_723 (by decide) rfl ⟨rfl, rfl⟩ rfl (Nat.le_of_ble_eq_true rfl) dX9_meets_83 (c_X9_put hW hm hp hx kn_25 (by omega)) (fun v_83 h_83 q_83 => ?_)
  obtain ⟨rfl, e_83, hm⟩ := q_83
  have hW := e_83.W hW
  have he := he.tr e_83
  have keyA : ∀ H : AH, World H → eqx h H SM → PV H w v9 p (metF f t) g → PW l9 G mX9_meets (mO mX9_meets) (fiM G mX9_meets NT (fun v h' => v = none ∧ eqx h h' SM ∧ PV h' w v9 p (erF (metF f t) t (metF f t (60 + t % 24))) (erG (metF f t) (metG f g t) t (metF f t (60 + t % 24)))) noX) NT 135 [some (.ref 723), some (.int x), some (.int (nI t)), some (.int (dmA f t 0)), some (.int (pwF f (nI t))), some (.int (lkF f t)), none] [] (0, 0) H := by
    intro H hW he hm
    rw [metF_s]
    obtain ⟨F, eF⟩ : ∃ F, F = metF f t := ⟨_, rfl⟩
    rw [← eF] at hm ⊢
    have z14 : F 14 = f 14 := by rw [eF]; exact metF_o (by omega)
    have z15 : F 15 = f 15 := by rw [eF]; exact metF_o (by omega)
    have z23 : F 23 = f 23 := by rw [eF]; exact metF_o (by omega)
    have z6 : F 6 = f 6 := by rw [eF]; exact metF_o (by omega)
    refine r_aload_n dX9_meets_135 rfl ?_
    refine q_getR fl_X9_25 hW kc_723 rfl (kl_9_5 hW) (by decide) dX9_meets_136 ?_
    refine r_bipush (6) dX9_meets_139 (by decide) ?_
    refine r_iload_n dX9_meets_141 rfl ?_
    refine r_imul dX9_meets_142 ?_
    refine r_iconst (0) dX9_meets_143 (by decide) ?_
    refine r_iadd dX9_meets_144 ?_
    refine r_dup2 dX9_meets_145 rfl rfl ?_
    refine q_vldPV hW hm (nadd (nmul kn_6 hx) kn_0) (by omega) dX9_meets_146 ?_
    refine r_iload_n dX9_meets_147 rfl ?_
    refine r_iload dX9_meets_148 rfl ?_
    refine r_isub dX9_meets_150 ?_
    refine r_i2l dX9_meets_151 ?_
    refine r_ladd dX9_meets_152 ?_
    refine q_vstPV hW hm (nadd (nmul kn_6 hx) kn_0) (by omega) dX9_meets_153 (fun h_153 hW hm e_153 => ?_)
    have he := he.tr e_153
    refine r_aload_n dX9_meets_154 rfl ?_
    refine q_getR fl_X9_25 hW kc_723 rfl (kl_9_5 hW) (by decide) dX9_meets_155 ?_
    refine r_bipush (6) dX9_meets_158 (by decide) ?_
    refine r_iload_n dX9_meets_160 rfl ?_
    refine r_imul dX9_meets_161 ?_
    refine r_iconst (1) dX9_meets_162 (by decide) ?_
    refine r_iadd dX9_meets_163 ?_
    refine r_dup2 dX9_meets_164 rfl rfl ?_
    refine q_vldPV hW hm (nadd (nmul kn_6 hx) kn_1) (by omega) dX9_meets_165 ?_
    refine r_iload dX9_meets_166 rfl ?_
    refine r_i2l dX9_meets_168 ?_
    refine r_ladd dX9_meets_169 ?_
    refine q_vstPV hW hm (nadd (nmul kn_6 hx) kn_1) (by omega) dX9_meets_170 (fun h_170 hW hm e_170 => ?_)
    have he := he.tr e_170
    refine r_aload_n dX9_meets_171 rfl ?_
    refine q_getR fl_X9_25 hW kc_723 rfl (kl_9_5 hW) (by decide) dX9_meets_172 ?_
    refine r_bipush (6) dX9_meets_175 (by decide) ?_
    refine r_iload_n dX9_meets_177 rfl ?_
    refine r_imul dX9_meets_178 ?_
    refine r_iconst (2) dX9_meets_179 (by decide) ?_
    refine r_iadd dX9_meets_180 ?_
    refine r_dup2 dX9_meets_181 rfl rfl ?_
    refine q_vldPV hW hm (nadd (nmul kn_6 hx) kn_2) (by omega) dX9_meets_182 ?_
    refine r_aload_n dX9_meets_183 rfl ?_
    refine r_iload_n dX9_meets_184 rfl ?_
    refine r_bipush (14) dX9_meets_185 (by decide) ?_
    refine q_callV2 (cv_X9_of ml_X9_81) hW kc_723 (by decide) rfl ⟨rfl, rfl⟩ rfl (Nat.le_of_ble_eq_true rfl) dX9_meets_187 (c_X9_of hW hm hp hx kn_14 (by omega)) (fun v_187 h_187 q_187 => ?_)
    obtain ⟨rfl, z9⟩ := q_187
    replace z9 := z9.symm
    subst z9
    rw [z14]
    refine r_aload_n dX9_meets_190 rfl ?_
    refine r_iload_n dX9_meets_191 rfl ?_
    refine r_bipush (23) dX9_meets_192 (by decide) ?_
    refine q_callV2 (cv_X9_of ml_X9_81) hW kc_723 (by decide) rfl ⟨rfl, rfl⟩ rfl (Nat.le_of_ble_eq_true rfl) dX9_meets_194 (c_X9_of hW hm hp hx kn_23 (by omega)) (fun v_194 h_194 q_194 => ?_)
    obtain ⟨rfl, z9⟩ := q_194
    replace z9 := z9.symm
    subst z9
    rw [z23]
    refine r_imul dX9_meets_197 ?_
    refine r_aload_n dX9_meets_198 rfl ?_
    refine r_iload_n dX9_meets_199 rfl ?_
    refine r_bipush (15) dX9_meets_200 (by decide) ?_
    refine q_callV2 (cv_X9_of ml_X9_81) hW kc_723 (by decide) rfl ⟨rfl, rfl⟩ rfl (Nat.le_of_ble_eq_true rfl) dX9_meets_202 (c_X9_of hW hm hp hx kn_15 (by omega)) (fun v_202 h_202 q_202 => ?_)
    obtain ⟨rfl, z9⟩ := q_202
    replace z9 := z9.symm
    subst z9
    rw [z15]
    refine r_iload dX9_meets_205 rfl ?_
    refine r_imul dX9_meets_207 ?_
    refine r_iadd dX9_meets_208 ?_
    refine r_i2l dX9_meets_209 ?_
    refine r_ladd dX9_meets_210 ?_
    refine q_vstPV hW hm (nadd (nmul kn_6 hx) kn_2) (by omega) dX9_meets_211 (fun h_211 hW hm e_211 => ?_)
    have he := he.tr e_211
    refine r_aload_n dX9_meets_212 rfl ?_
    refine q_getR fl_X9_25 hW kc_723 rfl (kl_9_5 hW) (by decide) dX9_meets_213 ?_
    refine r_bipush (6) dX9_meets_216 (by decide) ?_
    refine r_iload_n dX9_meets_218 rfl ?_
    refine r_imul dX9_meets_219 ?_
    refine r_iconst (4) dX9_meets_220 (by decide) ?_
    refine r_iadd dX9_meets_221 ?_
    refine r_dup2 dX9_meets_222 rfl rfl ?_
    refine q_vldPV hW hm (nadd (nmul kn_6 hx) kn_4) (by omega) dX9_meets_223 ?_
    refine r_iload_n dX9_meets_224 rfl ?_
    refine r_i2l dX9_meets_225 ?_
    refine r_ladd dX9_meets_226 ?_
    refine q_vstPV hW hm (nadd (nmul kn_6 hx) kn_4) (by omega) dX9_meets_227 (fun h_227 hW hm e_227 => ?_)
    have he := he.tr e_227
    refine r_aload_n dX9_meets_228 rfl ?_
    refine q_getR fl_X9_25 hW kc_723 rfl (kl_9_5 hW) (by decide) dX9_meets_229 ?_
    refine r_bipush (6) dX9_meets_232 (by decide) ?_
    refine r_iload_n dX9_meets_234 rfl ?_
    refine r_imul dX9_meets_235 ?_
    refine r_iconst (5) dX9_meets_236 (by decide) ?_
    refine r_iadd dX9_meets_237 ?_
    refine r_dup2 dX9_meets_238 rfl rfl ?_
    refine q_vldPV hW hm (nadd (nmul kn_6 hx) kn_5) (by omega) dX9_meets_239 ?_
    refine r_iload dX9_meets_240 rfl ?_
    refine r_i2l dX9_meets_242 ?_
    refine r_ladd dX9_meets_243 ?_
    refine q_vstPV hW hm (nadd (nmul kn_6 hx) kn_5) (by omega) dX9_meets_244 (fun h_244 hW hm e_244 => ?_)
    have he := he.tr e_244
    replace hm := hm.eF rfl (metG_eq (f := f) (g := g) (t := t)).symm
    refine r_iload_n dX9_meets_245 rfl ?_
    refine r_aload_n dX9_meets_246 rfl ?_
    refine r_iload_n dX9_meets_247 rfl ?_
    refine r_bipush (6) dX9_meets_248 (by decide) ?_
    refine q_callV2 (cv_X9_of ml_X9_81) hW kc_723 (by decide) rfl ⟨rfl, rfl⟩ rfl (Nat.le_of_ble_eq_true rfl) dX9_meets_250 (c_X9_of hW hm hp hx kn_6 (by omega)) (fun v_250 h_250 q_250 => ?_)
    obtain ⟨rfl, z9⟩ := q_250
    replace z9 := z9.symm
    subst z9
    rw [z6, (hO.at 6).1]
    refine r_icmp_lt 309 dX9_meets_253 (by decide) (fun c_253 => ?_) (fun c_253 => ?_)
    · refine r_vret dX9_meets_309 rfl ⟨Nat.zero_le _, Nat.zero_le _⟩ ?_
      first
        | (have hlt : t < nn (F 6) := by rw [z6]; exact (nI_ltI (by omega) (by omega)).mp c_253
           unfold erF erG
           rw [if_pos hlt, if_pos hlt]
           exact ⟨rfl, he, hm⟩)
        | (unfold erF erG
           rw [if_neg hge, if_neg hge]
           refine ⟨rfl, he, hm.eF rfl ?_⟩
           unfold iab
           first
             | rw [if_pos c_286]
             | rw [if_neg c_286, Int32.zero_sub])
    · have hge : ¬ t < nn (F 6) := fun q => absurd ((nI_ltI (by omega) (by omega)).mpr (z6 ▸ q)) c_253
      refine r_aload_n dX9_meets_256 rfl ?_
      refine r_iload_n dX9_meets_257 rfl ?_
      refine r_bipush (84) dX9_meets_258 (by decide) ?_
      refine r_iload_n dX9_meets_260 rfl ?_
      refine r_bipush (16) dX9_meets_261 (by decide) ?_
      refine r_irem dX9_meets_263 (by decide) ?_
      refine r_iadd dX9_meets_264 ?_
      refine q_callV2 (cv_X9_of ml_X9_81) hW kc_723 (by decide) rfl ⟨rfl, rfl⟩ rfl (Nat.le_of_ble_eq_true rfl) dX9_meets_265 (c_X9_of hW hm hp hx (nadd kn_84 (nrem rfl kn_16 (by omega) (by omega) (by omega))) (by omega)) (fun v_265 h_265 q_265 => ?_)
      obtain ⟨rfl, z9⟩ := q_265
      replace z9 := z9.symm
      subst z9
      refine r_iload_n dX9_meets_268 rfl ?_
      refine r_isub dX9_meets_269 ?_
      refine r_istore (ls2 := [_, _, _, _, _, some _, _]) dX9_meets_270 (by decide) rfl ?_
      refine r_aload_n dX9_meets_272 rfl ?_
      refine q_getR fl_X9_25 hW kc_723 rfl (kl_9_5 hW) (by decide) dX9_meets_273 ?_
      refine r_bipush (6) dX9_meets_276 (by decide) ?_
      refine r_iload_n dX9_meets_278 rfl ?_
      refine r_imul dX9_meets_279 ?_
      refine r_iconst (3) dX9_meets_280 (by decide) ?_
      refine r_iadd dX9_meets_281 ?_
      refine r_dup2 dX9_meets_282 rfl rfl ?_
      refine q_vldPV hW hm (nadd (nmul kn_6 hx) kn_3) (by omega) dX9_meets_283 ?_
      refine r_iload dX9_meets_284 rfl ?_
      refine r_if_ge 296 dX9_meets_286 (by decide) (fun c_286 => ?_) (fun c_286 => ?_)
      · refine r_iload dX9_meets_296 rfl ?_
        refine r_i2l dX9_meets_298 ?_
        refine r_ladd dX9_meets_299 ?_
        refine q_vstPV hW hm (nadd (nmul kn_6 hx) kn_3) (by omega) dX9_meets_300 (fun h_300 hW hm e_300 => ?_)
        have he := he.tr e_300
        refine r_aload_n dX9_meets_301 rfl ?_
        refine r_iload_n dX9_meets_302 rfl ?_
        refine r_bipush (28) dX9_meets_303 (by decide) ?_
        refine r_iconst (1) dX9_meets_305 (by decide) ?_
        refine q_callV3 (cv_X9_adds ml_X9_85) hW kc_723 (by decide) rfl ⟨rfl, rfl⟩ rfl (Nat.le_of_ble_eq_true rfl) dX9_meets_306 (c_X9_adds hW hm hp hx kn_28 (by omega)) (fun v_306 h_306 q_306 => ?_)
        obtain ⟨rfl, e_306, hm⟩ := q_306
        have hW := e_306.W hW
        have he := he.tr e_306
        refine r_vret dX9_meets_309 rfl ⟨Nat.zero_le _, Nat.zero_le _⟩ ?_
        first
          | (have hlt : t < nn (F 6) := by rw [z6]; exact (nI_ltI (by omega) (by omega)).mp c_253
             unfold erF erG
             rw [if_pos hlt, if_pos hlt]
             exact ⟨rfl, he, hm⟩)
          | (unfold erF erG
             rw [if_neg hge, if_neg hge]
             refine ⟨rfl, he, hm.eF rfl ?_⟩
             unfold iab
             first
               | rw [if_pos c_286]
               | rw [if_neg c_286, Int32.zero_sub])
      · refine r_iload dX9_meets_289 rfl ?_
        refine r_ineg dX9_meets_291 ?_
        refine r_i2l dX9_meets_292 ?_
        refine r_goto 299 dX9_meets_293 (by decide) ?_
        refine r_ladd dX9_meets_299 ?_
        refine q_vstPV hW hm (nadd (nmul kn_6 hx) kn_3) (by omega) dX9_meets_300 (fun h_300 hW hm e_300 => ?_)
        have he := he.tr e_300
        refine r_aload_n dX9_meets_301 rfl ?_
        refine r_iload_n dX9_meets_302 rfl ?_
        refine r_bipush (28) dX9_meets_303 (by decide) ?_
        refine r_iconst (1) dX9_meets_305 (by decide) ?_
        refine q_callV3 (cv_X9_adds ml_X9_85) hW kc_723 (by decide) rfl ⟨rfl, rfl⟩ rfl (Nat.le_of_ble_eq_true rfl) dX9_meets_306 (c_X9_adds hW hm hp hx kn_28 (by omega)) (fun v_306 h_306 q_306 => ?_)
        obtain ⟨rfl, e_306, hm⟩ := q_306
        have hW := e_306.W hW
        have he := he.tr e_306
        refine r_vret dX9_meets_309 rfl ⟨Nat.zero_le _, Nat.zero_le _⟩ ?_
        first
          | (have hlt : t < nn (F 6) := by rw [z6]; exact (nI_ltI (by omega) (by omega)).mp c_253
             unfold erF erG
             rw [if_pos hlt, if_pos hlt]
             exact ⟨rfl, he, hm⟩)
          | (unfold erF erG
             rw [if_neg hge, if_neg hge]
             refine ⟨rfl, he, hm.eF rfl ?_⟩
             unfold iab
             first
               | rw [if_pos c_286]
               | rw [if_neg c_286, Int32.zero_sub])
  
  have keyB : ∀ (H : AH) (z : Int32), World H → eqx h H SM → PV H w v9 p (upd (upd (upd (upd f 20 0) (60 + t % 24) (dmA f t 0)) 29 (f 29 + 1)) 25 (imx (f 25) (dmA f t 0))) g → z = (if 0 < lkF f t then f 26 + 1 else 0) → PW l9 G mX9_meets (mO mX9_meets) (fiM G mX9_meets NT (fun v h' => v = none ∧ eqx h h' SM ∧ PV h' w v9 p (erF (metF f t) t (metF f t (60 + t % 24))) (erG (metF f t) (metG f g t) t (metF f t (60 + t % 24)))) noX) NT 108 [some (.ref 723), some (.int x), some (.int (nI t)), some (.int (dmA f t 0)), some (.int (pwF f (nI t))), some (.int (lkF f t)), none] [.int z, .int 26, .int x, .ref 723] (0, 0) H := by
    intro H z hW he hm ez
    refine q_callV3 (cv_X9_put ml_X9_64) hW kc_723 (by decide) rfl ⟨rfl, rfl⟩ rfl (Nat.le_of_ble_eq_true rfl) dX9_meets_108 (c_X9_put hW hm hp hx kn_26 (by omega)) (fun v_108 h_108 q_108 => ?_)
    obtain ⟨rfl, e_108, hm⟩ := q_108
    have hW := e_108.W hW
    have he := he.tr e_108
    rw [ez] at hm
    refine r_aload_n dX9_meets_111 rfl ?_
    refine r_iload_n dX9_meets_112 rfl ?_
    refine r_bipush (27) dX9_meets_113 (by decide) ?_
    refine r_aload_n dX9_meets_115 rfl ?_
    refine r_iload_n dX9_meets_116 rfl ?_
    refine r_bipush (27) dX9_meets_117 (by decide) ?_
    refine q_callV2 (cv_X9_of ml_X9_81) hW kc_723 (by decide) rfl ⟨rfl, rfl⟩ rfl (Nat.le_of_ble_eq_true rfl) dX9_meets_119 (c_X9_of hW hm hp hx kn_27 (by omega)) (fun v_119 h_119 q_119 => ?_)
    obtain ⟨rfl, z9⟩ := q_119
    replace z9 := z9.symm
    subst z9
    rw [show (upd (upd (upd (upd (upd f 20 0) (60 + t % 24) (dmA f t 0)) 29 (f 29 + 1)) 25 (imx (f 25) (dmA f t 0))) 26 (if 0 < lkF f t then f 26 + 1 else 0)) 27 = f 27 from by rw [pk_un (by omega), pk_un (by omega), pk_un (by omega), pk_un (by omega), pk_un (by omega)]]
    refine r_aload_n dX9_meets_122 rfl ?_
    refine r_iload_n dX9_meets_123 rfl ?_
    refine r_bipush (26) dX9_meets_124 (by decide) ?_
    refine q_callV2 (cv_X9_of ml_X9_81) hW kc_723 (by decide) rfl ⟨rfl, rfl⟩ rfl (Nat.le_of_ble_eq_true rfl) dX9_meets_126 (c_X9_of hW hm hp hx kn_26 (by omega)) (fun v_126 h_126 q_126 => ?_)
    obtain ⟨rfl, z9⟩ := q_126
    replace z9 := z9.symm
    subst z9
    rw [show (upd (upd (upd (upd (upd f 20 0) (60 + t % 24) (dmA f t 0)) 29 (f 29 + 1)) 25 (imx (f 25) (dmA f t 0))) 26 (if 0 < lkF f t then f 26 + 1 else 0)) 26 = (if 0 < lkF f t then f 26 + 1 else 0) from pk_us]
    refine q_max mm_X9_123 rfl (Nat.le_of_ble_eq_true rfl) dX9_meets_129 ?_
    refine q_callV3 (cv_X9_put ml_X9_64) hW kc_723 (by decide) rfl ⟨rfl, rfl⟩ rfl (Nat.le_of_ble_eq_true rfl) dX9_meets_132 (c_X9_put hW hm hp hx kn_27 (by omega)) (fun v_132 h_132 q_132 => ?_)
    obtain ⟨rfl, e_132, hm⟩ := q_132
    have hW := e_132.W hW
    have he := he.tr e_132
    exact keyA _ hW he hm
  refine r_aload_n dX9_meets_86 rfl ?_
  refine r_iload_n dX9_meets_87 rfl ?_
  refine r_bipush (26) dX9_meets_88 (by decide) ?_
  refine r_iload dX9_meets_90 rfl ?_
  refine r_if_le 107 dX9_meets_92 (by decide) (fun c_92 => ?_) (fun c_92 => ?_)
  · refine r_iconst (0) dX9_meets_107 (by decide) ?_
    first
      | exact keyB _ _ hW he hm (if_neg c_92 |>.symm)
      | exact keyB _ _ hW he hm (if_pos (Int32.not_le.mp c_92)).symm
      | exact keyB _ _ hW he hm (if_neg (Int32.not_lt.mpr c_92)).symm
  · refine r_aload_n dX9_meets_95 rfl ?_
    refine r_iload_n dX9_meets_96 rfl ?_
    refine r_bipush (26) dX9_meets_97 (by decide) ?_
    refine q_callV2 (cv_X9_of ml_X9_81) hW kc_723 (by decide) rfl ⟨rfl, rfl⟩ rfl (Nat.le_of_ble_eq_true rfl) dX9_meets_99 (c_X9_of hW hm hp hx kn_26 (by omega)) (fun v_99 h_99 q_99 => ?_)
    obtain ⟨rfl, z9⟩ := q_99
    replace z9 := z9.symm
    subst z9
    rw [show (upd (upd (upd (upd f 20 0) (60 + t % 24) (dmA f t 0)) 29 (f 29 + 1)) 25 (imx (f 25) (dmA f t 0))) 26 = f 26 from by rw [pk_un (by omega), pk_un (by omega), pk_un (by omega), pk_un (by omega)]]
    refine r_iconst (1) dX9_meets_102 (by decide) ?_
    refine r_iadd dX9_meets_103 ?_
    refine r_goto 108 dX9_meets_104 (by decide) ?_
    first
      | exact keyB _ _ hW he hm (if_neg c_92 |>.symm)
      | exact keyB _ _ hW he hm (if_pos (Int32.not_le.mp c_92)).symm
      | exact keyB _ _ hW he hm (if_neg (Int32.not_lt.mpr c_92)).symm

set_option maxRecDepth 100000 in
set_option maxHeartbeats 4000000 in
theorem c_X9_looksAhead {l9 : Launch} {G : GC} {h : AH} {w : Nat → Int32} {v9 : Nat → Int64} {p : Nat} {f : Nat → Int32} {g : Nat → Int64} {t : Nat} {x : Int32} (hW : World h) (hm : PV h w v9 p f g) (hp : p < 4) (hO : PoOK f g (t + 1) t) (hx : x = nI p) (h1 : w 1 = nI t) : PM l9 G mX9_looksAhead NT NT [.ref 723, .int x] h (fun v h' => v = none ∧ eqx h h' SM ∧ PV h' w v9 p (looF f (t + 1) t) g) noX := by
  refine PM.of (by decide +kernel) rfl rfl (Nat.le_of_ble_eq_true rfl) (fun hst _ => ?_)
  have yc := hO.2.2.2.2.1.2.1
  have he : eqx h h SM := eqx.rf
  have y6 : nn (f 6) ≤ 8 := (hO.at 6).2.2
  obtain ⟨n2, a1, a2, a3⟩ := (hO.at 2).nat
  obtain ⟨n3, b1, b2, b3⟩ := (hO.at 3).nat
  have a1' : 1 ≤ n2 := a1
  have a2' : n2 ≤ 100 := a2
  have b1' : 10 ≤ n3 := b1
  have b2' : n3 ≤ 100 := b2
  have hz : f 3 * f 2 = nI (n3 * n2) := by rw [a3, b3, pk_mul]
  have hn1 : n3 * n2 ≤ 100 * 100 := Nat.mul_le_mul b2' a2'
  have hn0 : 0 < n3 * n2 := Nat.mul_pos (by omega) (by omega)
  have ym := Nat.mod_lt (t + nn (f 6)) (show 0 < 16 by decide)
  obtain ⟨F, eF⟩ : ∃ F, F = upd (upd f 18 (foF f (t + 1))) (84 + (t + nn (f 6)) % 16) (foF f (t + 1)) := ⟨_, rfl⟩
  have zF : ∀ k, k < 18 → F k = f k := fun k hk => by rw [eF, pk_un (by omega), pk_un (by omega)]
  refine r_aload_n dX9_looksAhead_0 rfl ?_
  refine r_iload_n dX9_looksAhead_1 rfl ?_
  refine q_callV1 (cv_X9_foresees ml_X9_132) hW kc_723 (by decide) rfl ⟨rfl, rfl⟩ rfl (Nat.le_of_ble_eq_true rfl) dX9_looksAhead_2 (c_X9_foresees hW hm hp hO hx (by omega)) (fun v_2 h_2 q_2 => ?_)
  obtain ⟨rfl, z9⟩ := q_2
  replace z9 := z9.symm
  subst z9
  refine r_istore_n (ls2 := [_, some _, _, _]) dX9_looksAhead_5 (by decide) rfl ?_
  refine r_aload_n dX9_looksAhead_6 rfl ?_
  refine r_iload_n dX9_looksAhead_7 rfl ?_
  refine r_bipush (18) dX9_looksAhead_8 (by decide) ?_
  refine r_iload_n dX9_looksAhead_10 rfl ?_
  refine q_callV3 (cv_X9_put ml_X9_64) hW kc_723 (by decide) rfl ⟨rfl, rfl⟩ rfl (Nat.le_of_ble_eq_true rfl) dX9_looksAhead_11 (c_X9_put hW hm hp hx kn_18 (by omega)) (fun v_11 h_11 q_11 => ?_)
  obtain ⟨rfl, e_11, hm⟩ := q_11
  have hW := e_11.W hW
  have he := he.tr e_11
  refine r_aload_n dX9_looksAhead_14 rfl ?_
  refine r_iload_n dX9_looksAhead_15 rfl ?_
  refine r_bipush (84) dX9_looksAhead_16 (by decide) ?_
  refine r_aload_n dX9_looksAhead_18 rfl ?_
  refine q_getR fl_X9_7 hW kc_723 rfl (kl_9_0 hW) (by decide) dX9_looksAhead_19 ?_
  refine r_iconst (1) dX9_looksAhead_22 (by decide) ?_
  refine q_wldPV hW hm kn_1 (by omega) dX9_looksAhead_23 ?_
  refine r_aload_n dX9_looksAhead_24 rfl ?_
  refine r_iload_n dX9_looksAhead_25 rfl ?_
  refine r_bipush (6) dX9_looksAhead_26 (by decide) ?_
  refine q_callV2 (cv_X9_of ml_X9_81) hW kc_723 (by decide) rfl ⟨rfl, rfl⟩ rfl (Nat.le_of_ble_eq_true rfl) dX9_looksAhead_28 (c_X9_of hW hm hp hx kn_6 (by omega)) (fun v_28 h_28 q_28 => ?_)
  obtain ⟨rfl, z9⟩ := q_28
  replace z9 := z9.symm
  subst z9
  refine r_iadd dX9_looksAhead_31 ?_
  refine r_bipush (16) dX9_looksAhead_32 (by decide) ?_
  refine r_irem dX9_looksAhead_34 (by decide) ?_
  refine r_iadd dX9_looksAhead_35 ?_
  refine r_iload_n dX9_looksAhead_36 rfl ?_
  refine q_callV3 (cv_X9_put ml_X9_64) hW kc_723 (by decide) rfl ⟨rfl, rfl⟩ rfl (Nat.le_of_ble_eq_true rfl) dX9_looksAhead_37 (c_X9_put hW hm hp hx (nadd kn_84 (nrem (nadd h1 ((pk_un (by decide)).trans (hO.at 6).1)) kn_16 (by omega) (by omega) (by omega))) (by omega)) (fun v_37 h_37 q_37 => ?_)
  obtain ⟨rfl, e_37, hm⟩ := q_37
  have hW := e_37.W hW
  have he := he.tr e_37
  rw [← eF] at hm
  refine r_bipush (100) dX9_looksAhead_40 (by decide) ?_
  refine r_iload_n dX9_looksAhead_42 rfl ?_
  refine r_imul dX9_looksAhead_43 ?_
  refine r_aload_n dX9_looksAhead_44 rfl ?_
  refine r_iload_n dX9_looksAhead_45 rfl ?_
  refine r_iconst (3) dX9_looksAhead_46 (by decide) ?_
  refine q_callV2 (cv_X9_of ml_X9_81) hW kc_723 (by decide) rfl ⟨rfl, rfl⟩ rfl (Nat.le_of_ble_eq_true rfl) dX9_looksAhead_47 (c_X9_of hW hm hp hx kn_3 (by omega)) (fun v_47 h_47 q_47 => ?_)
  obtain ⟨rfl, z9⟩ := q_47
  replace z9 := z9.symm
  subst z9
  rw [zF 3 (by decide)]
  refine r_aload_n dX9_looksAhead_50 rfl ?_
  refine r_iload_n dX9_looksAhead_51 rfl ?_
  refine r_iconst (2) dX9_looksAhead_52 (by decide) ?_
  refine q_callV2 (cv_X9_of ml_X9_81) hW kc_723 (by decide) rfl ⟨rfl, rfl⟩ rfl (Nat.le_of_ble_eq_true rfl) dX9_looksAhead_53 (c_X9_of hW hm hp hx kn_2 (by omega)) (fun v_53 h_53 q_53 => ?_)
  obtain ⟨rfl, z9⟩ := q_53
  replace z9 := z9.symm
  subst z9
  rw [zF 2 (by decide)]
  refine r_imul dX9_looksAhead_56 ?_
  refine q_callS2 (cs_X9_up ml_X9_120) ⟨rfl, rfl⟩ rfl (Nat.le_of_ble_eq_true rfl) dX9_looksAhead_57 (c_X9_up (by rw [hz]; exact nI_ne0 hn0 (by omega))) (fun v_57 h_57 q_57 => ?_)
  obtain ⟨rfl, z9⟩ := q_57
  replace z9 := z9.symm
  subst z9
  refine r_istore_n (ls2 := [_, _, some _, _]) dX9_looksAhead_60 (by decide) rfl ?_
  refine r_aload_n dX9_looksAhead_61 rfl ?_
  refine r_iload_n dX9_looksAhead_62 rfl ?_
  refine r_bipush (19) dX9_looksAhead_63 (by decide) ?_
  refine r_aload_n dX9_looksAhead_65 rfl ?_
  refine r_iload_n dX9_looksAhead_66 rfl ?_
  refine r_iconst (1) dX9_looksAhead_67 (by decide) ?_
  refine q_callV2 (cv_X9_of ml_X9_81) hW kc_723 (by decide) rfl ⟨rfl, rfl⟩ rfl (Nat.le_of_ble_eq_true rfl) dX9_looksAhead_68 (c_X9_of hW hm hp hx kn_1 (by omega)) (fun v_68 h_68 q_68 => ?_)
  obtain ⟨rfl, z9⟩ := q_68
  replace z9 := z9.symm
  subst z9
  rw [zF 1 (by decide)]
  refine r_aload_n dX9_looksAhead_71 rfl ?_
  refine r_iload_n dX9_looksAhead_72 rfl ?_
  refine r_iconst (0) dX9_looksAhead_73 (by decide) ?_
  refine q_callV2 (cv_X9_of ml_X9_81) hW kc_723 (by decide) rfl ⟨rfl, rfl⟩ rfl (Nat.le_of_ble_eq_true rfl) dX9_looksAhead_74 (c_X9_of hW hm hp hx kn_0 (by omega)) (fun v_74 h_74 q_74 => ?_)
  obtain ⟨rfl, z9⟩ := q_74
  replace z9 := z9.symm
  subst z9
  rw [zF 0 (by decide)]
  refine r_iload_n dX9_looksAhead_77 rfl ?_
  refine q_max mm_X9_123 rfl (Nat.le_of_ble_eq_true rfl) dX9_looksAhead_78 ?_
  refine q_min mm_X9_106 rfl (Nat.le_of_ble_eq_true rfl) dX9_looksAhead_81 ?_
  refine q_callV3 (cv_X9_put ml_X9_64) hW kc_723 (by decide) rfl ⟨rfl, rfl⟩ rfl (Nat.le_of_ble_eq_true rfl) dX9_looksAhead_84 (c_X9_put hW hm hp hx kn_19 (by omega)) (fun v_84 h_84 q_84 => ?_)
  obtain ⟨rfl, e_84, hm⟩ := q_84
  have hW := e_84.W hW
  have he := he.tr e_84
  refine r_vret dX9_looksAhead_87 rfl ⟨Nat.zero_le _, Nat.zero_le _⟩ ?_
  refine ⟨rfl, he, hm.eF ?_ rfl⟩
  rw [eF]
  unfold looF szF
  rw [dUp_e hz hn0 (by omega)]

set_option maxRecDepth 100000 in
set_option maxHeartbeats 4000000 in
theorem c_X9_decides {l9 : Launch} {G : GC} {h : AH} {w : Nat → Int32} {v9 : Nat → Int64} {p : Nat} {f : Nat → Int32} {g : Nat → Int64} {c u : Nat} {t : Nat} {x : Int32} (hW : World h) (hm : PV h w v9 p f g) (hp : p < 4) (hO : PoOK f g c u) (hx : x = nI p) (h1 : w 1 = nI t) (h19 : rg (f 19) 0 20) : PM l9 G mX9_decides NT NT [.ref 723, .int x] h (fun v h' => v = some (.int (nI (deF f t))) ∧ h' = h) noX := by
  refine PM.of (by decide +kernel) rfl rfl (Nat.le_of_ble_eq_true rfl) (fun hst _ => ?_)
  have y23 : nn (f 23) ≤ 20 := (hO.at 23).2.2
  have y19 : nn (f 19) ≤ 20 := h19.2.2
  obtain ⟨n16, k1, k2, k3⟩ := (hO.at 16).nat
  have k2' : n16 ≤ 1 := k2
  have e0 : f 16 = 0 ↔ n16 = 0 := by rw [k3]; exact nI_eq (b := 0) (by omega) (by decide)
  have e1 : f 16 = 1 ↔ n16 = 1 := by rw [k3]; exact nI_eq (b := 1) (by omega) (by decide)
  have z0 : f 19 - f 23 = 0 ↔ f 19 = f 23 := by
    rw [h19.1, (hO.at 23).1]
    rcases Nat.lt_or_ge (nn (f 19)) (nn (f 23)) with q | q
    · refine ⟨fun z => absurd z (fun z2 => ?_), fun z => absurd ((nI_eq (by omega) (by omega)).mp z) (by omega)⟩
      have := pk_sneg (a := nn (f 19)) (b := nn (f 23)) (by omega) q
      rw [z2] at this
      exact absurd this (by decide)
    · rw [pk_sub q, nI_eq (by omega) (by omega)]
      exact (nI_eq (b := 0) (by omega) (by decide)).trans (by omega)
  have zl : f 19 - f 23 ≤ 0 ↔ ¬ f 23 < f 19 := by
    rw [h19.1, (hO.at 23).1]
    rcases Nat.lt_or_ge (nn (f 19)) (nn (f 23)) with q | q
    · have := pk_sneg (a := nn (f 19)) (b := nn (f 23)) (by omega) q
      exact ⟨fun _ z => absurd ((nI_ltI (by omega) (by omega)).mp z) (by omega), fun _ => Int32.le_of_lt this⟩
    · rw [pk_sub q]
      rw [show (nI (nn (f 19) - nn (f 23)) ≤ 0 ↔ _) from nI_leI (b := 0) (by omega) (by decide), nI_ltI (by omega) (by omega)]
      omega
  refine r_aload_n dX9_decides_0 rfl ?_
  refine q_getR fl_X9_7 hW kc_723 rfl (kl_9_0 hW) (by decide) dX9_decides_1 ?_
  refine r_iconst (1) dX9_decides_4 (by decide) ?_
  refine q_wldPV hW hm kn_1 (by omega) dX9_decides_5 ?_
  rw [h1]
  refine r_istore_n (ls2 := [_, some _, _, _]) dX9_decides_6 (by decide) rfl ?_
  refine r_aload_n dX9_decides_7 rfl ?_
  refine r_iload_n dX9_decides_8 rfl ?_
  refine r_bipush (19) dX9_decides_9 (by decide) ?_
  refine q_callV2 (cv_X9_of ml_X9_81) hW kc_723 (by decide) rfl ⟨rfl, rfl⟩ rfl (Nat.le_of_ble_eq_true rfl) dX9_decides_11 (c_X9_of hW hm hp hx kn_19 (by omega)) (fun v_11 h_11 q_11 => ?_)
  obtain ⟨rfl, z9⟩ := q_11
  replace z9 := z9.symm
  subst z9
  refine r_aload_n dX9_decides_14 rfl ?_
  refine r_iload_n dX9_decides_15 rfl ?_
  refine r_bipush (23) dX9_decides_16 (by decide) ?_
  refine q_callV2 (cv_X9_of ml_X9_81) hW kc_723 (by decide) rfl ⟨rfl, rfl⟩ rfl (Nat.le_of_ble_eq_true rfl) dX9_decides_18 (c_X9_of hW hm hp hx kn_23 (by omega)) (fun v_18 h_18 q_18 => ?_)
  obtain ⟨rfl, z9⟩ := q_18
  replace z9 := z9.symm
  subst z9
  refine r_isub dX9_decides_21 ?_
  refine r_istore_n (ls2 := [_, _, some _, _]) dX9_decides_22 (by decide) rfl ?_
  refine r_aload_n dX9_decides_23 rfl ?_
  refine r_iload_n dX9_decides_24 rfl ?_
  refine r_bipush (16) dX9_decides_25 (by decide) ?_
  refine q_callV2 (cv_X9_of ml_X9_81) hW kc_723 (by decide) rfl ⟨rfl, rfl⟩ rfl (Nat.le_of_ble_eq_true rfl) dX9_decides_27 (c_X9_of hW hm hp hx kn_16 (by omega)) (fun v_27 h_27 q_27 => ?_)
  obtain ⟨rfl, z9⟩ := q_27
  replace z9 := z9.symm
  subst z9
  refine r_iconst (1) dX9_decides_30 (by decide) ?_
  refine r_icmp_ne 36 dX9_decides_31 (by decide) (fun c_31 => ?_) (fun c_31 => ?_)
  · refine r_iload_n dX9_decides_36 rfl ?_
    refine r_if_ne 42 dX9_decides_37 (by decide) (fun c_37 => ?_) (fun c_37 => ?_)
    · refine r_iload_n dX9_decides_42 rfl ?_
      refine r_if_le 71 dX9_decides_43 (by decide) (fun c_43 => ?_) (fun c_43 => ?_)
      · refine r_iload_n dX9_decides_71 rfl ?_
        refine r_aload_n dX9_decides_72 rfl ?_
        refine r_iload_n dX9_decides_73 rfl ?_
        refine r_bipush (22) dX9_decides_74 (by decide) ?_
        refine q_callV2 (cv_X9_of ml_X9_81) hW kc_723 (by decide) rfl ⟨rfl, rfl⟩ rfl (Nat.le_of_ble_eq_true rfl) dX9_decides_76 (c_X9_of hW hm hp hx kn_22 (by omega)) (fun v_76 h_76 q_76 => ?_)
        obtain ⟨rfl, z9⟩ := q_76
        replace z9 := z9.symm
        subst z9
        refine r_isub dX9_decides_79 ?_
        refine r_aload_n dX9_decides_80 rfl ?_
        refine r_iload_n dX9_decides_81 rfl ?_
        refine r_bipush (13) dX9_decides_82 (by decide) ?_
        refine q_callV2 (cv_X9_of ml_X9_81) hW kc_723 (by decide) rfl ⟨rfl, rfl⟩ rfl (Nat.le_of_ble_eq_true rfl) dX9_decides_84 (c_X9_of hW hm hp hx kn_13 (by omega)) (fun v_84 h_84 q_84 => ?_)
        obtain ⟨rfl, z9⟩ := q_84
        replace z9 := z9.symm
        subst z9
        refine r_icmp_ge 92 dX9_decides_87 (by decide) (fun c_87 => ?_) (fun c_87 => ?_)
        · refine r_aload_n dX9_decides_92 rfl ?_
          refine r_iload_n dX9_decides_93 rfl ?_
          refine q_callV1 (cv_X9_dropped ml_X9_135) hW kc_723 (by decide) rfl ⟨rfl, rfl⟩ rfl (Nat.le_of_ble_eq_true rfl) dX9_decides_94 (c_X9_dropped hW hm hp hO hx) (fun v_94 h_94 q_94 => ?_)
          obtain ⟨rfl, z9⟩ := q_94
          replace z9 := z9.symm
          subst z9
          refine r_iconst (-1) dX9_decides_97 (by decide) ?_
          refine r_icmp_ne 105 dX9_decides_98 (by decide) (fun c_98 => ?_) (fun c_98 => ?_)
          · refine r_iconst (1) dX9_decides_105 (by decide) ?_
            refine r_iret dX9_decides_106 rfl ⟨Nat.zero_le _, Nat.zero_le _⟩ ?_
            unfold deF
            first
              | (rw [if_neg (fun q => absurd (e0.mp q) (by rw [e1.mp (by first | exact c_31 | simpa using c_31)]; decide))]; exact ⟨rfl, rfl⟩)
              | (have n0 : f 16 = 0 := e0.mpr (by have : ¬ n16 = 1 := fun q => c_31 (e1.mpr q); omega)
                 rw [if_pos n0]
                 first
                   | (rw [if_pos (z0.mp (by first | exact c_37 | simpa using c_37))]; exact ⟨rfl, rfl⟩)
                   | (rw [if_neg (fun q => c_37 (z0.mpr q))]
                      first
                        | (rw [if_neg (zl.mp c_43)]
                           first
                             | (rw [if_pos (i_lt.mp c_87)]; exact ⟨rfl, rfl⟩)
                             | (rw [if_neg (Int32.not_lt.mpr c_87)]
                                first
                                  | (rw [(oI_m1 (o := ng (mbs f) (f 9) (mbs f).length) (fun k hk => by have := ng_lt hk; rw [mbs_len] at this; omega)).mp (by first | exact c_98 | simpa using c_98)]; exact ⟨rfl, rfl⟩)
                                  | (cases hq : ng (mbs f) (f 9) (mbs f).length with
                                     | none => rw [hq] at c_98; exact absurd rfl c_98
                                     | some k => exact ⟨rfl, rfl⟩)))
                        | (rw [if_pos (Decidable.not_not.mp (fun q => c_43 (zl.mpr q)))]
                           first
                             | (rw [if_pos (i_lt.mp c_62)]; exact ⟨rfl, rfl⟩)
                             | (rw [if_neg (Int32.not_lt.mpr c_62)]; exact ⟨rfl, rfl⟩))))
          · refine r_iconst (5) dX9_decides_101 (by decide) ?_
            refine r_goto 106 dX9_decides_102 (by decide) ?_
            refine r_iret dX9_decides_106 rfl ⟨Nat.zero_le _, Nat.zero_le _⟩ ?_
            unfold deF
            first
              | (rw [if_neg (fun q => absurd (e0.mp q) (by rw [e1.mp (by first | exact c_31 | simpa using c_31)]; decide))]; exact ⟨rfl, rfl⟩)
              | (have n0 : f 16 = 0 := e0.mpr (by have : ¬ n16 = 1 := fun q => c_31 (e1.mpr q); omega)
                 rw [if_pos n0]
                 first
                   | (rw [if_pos (z0.mp (by first | exact c_37 | simpa using c_37))]; exact ⟨rfl, rfl⟩)
                   | (rw [if_neg (fun q => c_37 (z0.mpr q))]
                      first
                        | (rw [if_neg (zl.mp c_43)]
                           first
                             | (rw [if_pos (i_lt.mp c_87)]; exact ⟨rfl, rfl⟩)
                             | (rw [if_neg (Int32.not_lt.mpr c_87)]
                                first
                                  | (rw [(oI_m1 (o := ng (mbs f) (f 9) (mbs f).length) (fun k hk => by have := ng_lt hk; rw [mbs_len] at this; omega)).mp (by first | exact c_98 | simpa using c_98)]; exact ⟨rfl, rfl⟩)
                                  | (cases hq : ng (mbs f) (f 9) (mbs f).length with
                                     | none => rw [hq] at c_98; exact absurd rfl c_98
                                     | some k => exact ⟨rfl, rfl⟩)))
                        | (rw [if_pos (Decidable.not_not.mp (fun q => c_43 (zl.mpr q)))]
                           first
                             | (rw [if_pos (i_lt.mp c_62)]; exact ⟨rfl, rfl⟩)
                             | (rw [if_neg (Int32.not_lt.mpr c_62)]; exact ⟨rfl, rfl⟩))))
        · refine r_iconst (4) dX9_decides_90 (by decide) ?_
          refine r_iret dX9_decides_91 rfl ⟨Nat.zero_le _, Nat.zero_le _⟩ ?_
          unfold deF
          first
            | (rw [if_neg (fun q => absurd (e0.mp q) (by rw [e1.mp (by first | exact c_31 | simpa using c_31)]; decide))]; exact ⟨rfl, rfl⟩)
            | (have n0 : f 16 = 0 := e0.mpr (by have : ¬ n16 = 1 := fun q => c_31 (e1.mpr q); omega)
               rw [if_pos n0]
               first
                 | (rw [if_pos (z0.mp (by first | exact c_37 | simpa using c_37))]; exact ⟨rfl, rfl⟩)
                 | (rw [if_neg (fun q => c_37 (z0.mpr q))]
                    first
                      | (rw [if_neg (zl.mp c_43)]
                         first
                           | (rw [if_pos (i_lt.mp c_87)]; exact ⟨rfl, rfl⟩)
                           | (rw [if_neg (Int32.not_lt.mpr c_87)]
                              first
                                | (rw [(oI_m1 (o := ng (mbs f) (f 9) (mbs f).length) (fun k hk => by have := ng_lt hk; rw [mbs_len] at this; omega)).mp (by first | exact c_98 | simpa using c_98)]; exact ⟨rfl, rfl⟩)
                                | (cases hq : ng (mbs f) (f 9) (mbs f).length with
                                   | none => rw [hq] at c_98; exact absurd rfl c_98
                                   | some k => exact ⟨rfl, rfl⟩)))
                      | (rw [if_pos (Decidable.not_not.mp (fun q => c_43 (zl.mpr q)))]
                         first
                           | (rw [if_pos (i_lt.mp c_62)]; exact ⟨rfl, rfl⟩)
                           | (rw [if_neg (Int32.not_lt.mpr c_62)]; exact ⟨rfl, rfl⟩))))
      · refine r_iload_n dX9_decides_46 rfl ?_
        refine r_aload_n dX9_decides_47 rfl ?_
        refine r_iload_n dX9_decides_48 rfl ?_
        refine r_bipush (21) dX9_decides_49 (by decide) ?_
        refine q_callV2 (cv_X9_of ml_X9_81) hW kc_723 (by decide) rfl ⟨rfl, rfl⟩ rfl (Nat.le_of_ble_eq_true rfl) dX9_decides_51 (c_X9_of hW hm hp hx kn_21 (by omega)) (fun v_51 h_51 q_51 => ?_)
        obtain ⟨rfl, z9⟩ := q_51
        replace z9 := z9.symm
        subst z9
        refine r_isub dX9_decides_54 ?_
        refine r_aload_n dX9_decides_55 rfl ?_
        refine r_iload_n dX9_decides_56 rfl ?_
        refine r_bipush (12) dX9_decides_57 (by decide) ?_
        refine q_callV2 (cv_X9_of ml_X9_81) hW kc_723 (by decide) rfl ⟨rfl, rfl⟩ rfl (Nat.le_of_ble_eq_true rfl) dX9_decides_59 (c_X9_of hW hm hp hx kn_12 (by omega)) (fun v_59 h_59 q_59 => ?_)
        obtain ⟨rfl, z9⟩ := q_59
        replace z9 := z9.symm
        subst z9
        refine r_icmp_ge 69 dX9_decides_62 (by decide) (fun c_62 => ?_) (fun c_62 => ?_)
        · refine r_iconst (0) dX9_decides_69 (by decide) ?_
          refine r_iret dX9_decides_70 rfl ⟨Nat.zero_le _, Nat.zero_le _⟩ ?_
          unfold deF
          first
            | (rw [if_neg (fun q => absurd (e0.mp q) (by rw [e1.mp (by first | exact c_31 | simpa using c_31)]; decide))]; exact ⟨rfl, rfl⟩)
            | (have n0 : f 16 = 0 := e0.mpr (by have : ¬ n16 = 1 := fun q => c_31 (e1.mpr q); omega)
               rw [if_pos n0]
               first
                 | (rw [if_pos (z0.mp (by first | exact c_37 | simpa using c_37))]; exact ⟨rfl, rfl⟩)
                 | (rw [if_neg (fun q => c_37 (z0.mpr q))]
                    first
                      | (rw [if_neg (zl.mp c_43)]
                         first
                           | (rw [if_pos (i_lt.mp c_87)]; exact ⟨rfl, rfl⟩)
                           | (rw [if_neg (Int32.not_lt.mpr c_87)]
                              first
                                | (rw [(oI_m1 (o := ng (mbs f) (f 9) (mbs f).length) (fun k hk => by have := ng_lt hk; rw [mbs_len] at this; omega)).mp (by first | exact c_98 | simpa using c_98)]; exact ⟨rfl, rfl⟩)
                                | (cases hq : ng (mbs f) (f 9) (mbs f).length with
                                   | none => rw [hq] at c_98; exact absurd rfl c_98
                                   | some k => exact ⟨rfl, rfl⟩)))
                      | (rw [if_pos (Decidable.not_not.mp (fun q => c_43 (zl.mpr q)))]
                         first
                           | (rw [if_pos (i_lt.mp c_62)]; exact ⟨rfl, rfl⟩)
                           | (rw [if_neg (Int32.not_lt.mpr c_62)]; exact ⟨rfl, rfl⟩))))
        · refine r_iconst (4) dX9_decides_65 (by decide) ?_
          refine r_goto 70 dX9_decides_66 (by decide) ?_
          refine r_iret dX9_decides_70 rfl ⟨Nat.zero_le _, Nat.zero_le _⟩ ?_
          unfold deF
          first
            | (rw [if_neg (fun q => absurd (e0.mp q) (by rw [e1.mp (by first | exact c_31 | simpa using c_31)]; decide))]; exact ⟨rfl, rfl⟩)
            | (have n0 : f 16 = 0 := e0.mpr (by have : ¬ n16 = 1 := fun q => c_31 (e1.mpr q); omega)
               rw [if_pos n0]
               first
                 | (rw [if_pos (z0.mp (by first | exact c_37 | simpa using c_37))]; exact ⟨rfl, rfl⟩)
                 | (rw [if_neg (fun q => c_37 (z0.mpr q))]
                    first
                      | (rw [if_neg (zl.mp c_43)]
                         first
                           | (rw [if_pos (i_lt.mp c_87)]; exact ⟨rfl, rfl⟩)
                           | (rw [if_neg (Int32.not_lt.mpr c_87)]
                              first
                                | (rw [(oI_m1 (o := ng (mbs f) (f 9) (mbs f).length) (fun k hk => by have := ng_lt hk; rw [mbs_len] at this; omega)).mp (by first | exact c_98 | simpa using c_98)]; exact ⟨rfl, rfl⟩)
                                | (cases hq : ng (mbs f) (f 9) (mbs f).length with
                                   | none => rw [hq] at c_98; exact absurd rfl c_98
                                   | some k => exact ⟨rfl, rfl⟩)))
                      | (rw [if_pos (Decidable.not_not.mp (fun q => c_43 (zl.mpr q)))]
                         first
                           | (rw [if_pos (i_lt.mp c_62)]; exact ⟨rfl, rfl⟩)
                           | (rw [if_neg (Int32.not_lt.mpr c_62)]; exact ⟨rfl, rfl⟩))))
    · refine r_iconst (2) dX9_decides_40 (by decide) ?_
      refine r_iret dX9_decides_41 rfl ⟨Nat.zero_le _, Nat.zero_le _⟩ ?_
      unfold deF
      first
        | (rw [if_neg (fun q => absurd (e0.mp q) (by rw [e1.mp (by first | exact c_31 | simpa using c_31)]; decide))]; exact ⟨rfl, rfl⟩)
        | (have n0 : f 16 = 0 := e0.mpr (by have : ¬ n16 = 1 := fun q => c_31 (e1.mpr q); omega)
           rw [if_pos n0]
           first
             | (rw [if_pos (z0.mp (by first | exact c_37 | simpa using c_37))]; exact ⟨rfl, rfl⟩)
             | (rw [if_neg (fun q => c_37 (z0.mpr q))]
                first
                  | (rw [if_neg (zl.mp c_43)]
                     first
                       | (rw [if_pos (i_lt.mp c_87)]; exact ⟨rfl, rfl⟩)
                       | (rw [if_neg (Int32.not_lt.mpr c_87)]
                          first
                            | (rw [(oI_m1 (o := ng (mbs f) (f 9) (mbs f).length) (fun k hk => by have := ng_lt hk; rw [mbs_len] at this; omega)).mp (by first | exact c_98 | simpa using c_98)]; exact ⟨rfl, rfl⟩)
                            | (cases hq : ng (mbs f) (f 9) (mbs f).length with
                               | none => rw [hq] at c_98; exact absurd rfl c_98
                               | some k => exact ⟨rfl, rfl⟩)))
                  | (rw [if_pos (Decidable.not_not.mp (fun q => c_43 (zl.mpr q)))]
                     first
                       | (rw [if_pos (i_lt.mp c_62)]; exact ⟨rfl, rfl⟩)
                       | (rw [if_neg (Int32.not_lt.mpr c_62)]; exact ⟨rfl, rfl⟩))))
  · refine r_iconst (3) dX9_decides_34 (by decide) ?_
    refine r_iret dX9_decides_35 rfl ⟨Nat.zero_le _, Nat.zero_le _⟩ ?_
    unfold deF
    first
      | (rw [if_neg (fun q => absurd (e0.mp q) (by rw [e1.mp (by first | exact c_31 | simpa using c_31)]; decide))]; exact ⟨rfl, rfl⟩)
      | (have n0 : f 16 = 0 := e0.mpr (by have : ¬ n16 = 1 := fun q => c_31 (e1.mpr q); omega)
         rw [if_pos n0]
         first
           | (rw [if_pos (z0.mp (by first | exact c_37 | simpa using c_37))]; exact ⟨rfl, rfl⟩)
           | (rw [if_neg (fun q => c_37 (z0.mpr q))]
              first
                | (rw [if_neg (zl.mp c_43)]
                   first
                     | (rw [if_pos (i_lt.mp c_87)]; exact ⟨rfl, rfl⟩)
                     | (rw [if_neg (Int32.not_lt.mpr c_87)]
                        first
                          | (rw [(oI_m1 (o := ng (mbs f) (f 9) (mbs f).length) (fun k hk => by have := ng_lt hk; rw [mbs_len] at this; omega)).mp (by first | exact c_98 | simpa using c_98)]; exact ⟨rfl, rfl⟩)
                          | (cases hq : ng (mbs f) (f 9) (mbs f).length with
                             | none => rw [hq] at c_98; exact absurd rfl c_98
                             | some k => exact ⟨rfl, rfl⟩)))
                | (rw [if_pos (Decidable.not_not.mp (fun q => c_43 (zl.mpr q)))]
                   first
                     | (rw [if_pos (i_lt.mp c_62)]; exact ⟨rfl, rfl⟩)
                     | (rw [if_neg (Int32.not_lt.mpr c_62)]; exact ⟨rfl, rfl⟩))))
