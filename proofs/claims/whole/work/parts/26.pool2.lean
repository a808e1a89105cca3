set_option maxRecDepth 100000 in
set_option maxHeartbeats 4000000 in
theorem c_X3_meetDemand {l9 : Launch} {G : GC} {h : AH} {o : Nat} {t : Nat} {f : Nat → Int32} {g : Nat → Int64} (hW : World h) (hk : kd o 3) (hp : PoR h o t t f g) (hO : PoOK f g t t) : PM l9 G mX3_meetDemand NT NT [.ref o, .int (nI t)] h (fun v h' => v = none ∧ eqx h h' (btw o (o + 11)) ∧ PoR h' o (t + 1) t (metF f t) (metG f g t)) noX := by
  refine PM.of (by decide +kernel) rfl rfl (Nat.le_of_ble_eq_true rfl) (fun hst _ => ?_)
  have hp9 := hp
  obtain ⟨zs, zm, zt, ⟨zd, zc⟩, zf, z20, z18, z19, z17, z21, z22, z16⟩ := hp
  have zt2 := hO.2.2.2.2.1.2.1
  have ym : t % 24 < 24 := Nat.mod_lt _ (by decide)
  refine r_aload_n dX3_meetDemand_0 rfl ?_
  refine r_iload_n dX3_meetDemand_1 rfl ?_
  refine r_iconst (0) dX3_meetDemand_2 (by decide) ?_
  refine q_callV2 (cv_X3_demandAhead ml_X3_132) hW hk (by decide) rfl ⟨rfl, rfl⟩ rfl (Nat.le_of_ble_eq_true rfl) dX3_meetDemand_3 (c_X3_demandAhead (a := 0) hW hk zs z20 (by omega)) (fun v_3 h_3 q_3 => ?_)
  obtain ⟨rfl, z9⟩ := q_3
  replace z9 := z9.symm
  subst z9
  change PW _ _ _ _ _ _ _ _ (.int (dmA f t 0) :: _) _ _
  refine r_istore_n (ls2 := [_, some _, _]) dX3_meetDemand_6 (by decide) rfl ?_
  refine r_aload_n dX3_meetDemand_7 rfl ?_
  refine r_iconst (0) dX3_meetDemand_8 (by decide) ?_
  refine q_putI fl_X3_58 hW hk rfl rfl dX3_meetDemand_9 ?_
  refine r_aload_n dX3_meetDemand_12 rfl ?_
  refine q_getR fl_X3_32 hW hk rfl (kl_3_3 hW hk) (Nat.succ_ne_zero _) dX3_meetDemand_13 ?_
  refine r_aload_n dX3_meetDemand_16 rfl ?_
  refine q_getI fl_X3_49 hW hk rfl dX3_meetDemand_17 ?_
  refine r_bipush (24) dX3_meetDemand_20 (by decide) ?_
  rw [show aI (sI h o 6 0) o 4 = nI t from (sI_k (by decide)).trans zc]
  refine q_callS2 (cs_J9_floorMod_7cf53 ml_X3_135) ⟨rfl, rfl⟩ rfl (Nat.le_of_ble_eq_true rfl) dX3_meetDemand_22 (c_floorMod (b := 24) (by omega) (by decide) (by decide)) (fun v_22 h_22 q_22 => ?_)
  obtain ⟨rfl, z9⟩ := q_22
  replace z9 := z9.symm
  subst z9
  refine r_iload_n dX3_meetDemand_25 rfl ?_
  refine q_iast hW (kk_3_3 hk) (k := t % 24) rfl ym (by decide) dX3_meetDemand_26 ?_
  refine r_aload_n dX3_meetDemand_27 rfl ?_
  refine r_dup dX3_meetDemand_28 rfl ?_
  refine q_getI fl_X3_49 hW hk rfl dX3_meetDemand_29 ?_
  refine r_iconst (1) dX3_meetDemand_32 (by decide) ?_
  refine r_iadd dX3_meetDemand_33 ?_
  refine q_putI fl_X3_49 hW hk rfl rfl dX3_meetDemand_34 ?_
  rw [show aI (sI (sI h o 6 0) (o + 10) (t % 24) (dmA f t 0)) o 4 + 1 = nI (t + 1) from by rw [sI_o (by omega), sI_k (by decide), zc, nI_1]]
  have zs3 : SetR (sI (sI (sI h o 6 0) (o + 10) (t % 24) (dmA f t 0)) o 4 (nI (t + 1))) (o + 1) f (lds f) := zs.cg (by simp (discharger := omega) only [sI_o]) (by simp (discharger := omega) only [sI_o])
  have zm3 : MemR (sI (sI (sI h o 6 0) (o + 10) (t % 24) (dmA f t 0)) o 4 (nI (t + 1))) (o + 3) (mbs f) := zm.cg (by simp (discharger := omega) only [sI_o]) (by simp (discharger := omega) only [sI_o]) (by simp (discharger := omega) only [sI_o]) (by simp (discharger := omega) only [sI_o]) (by simp (discharger := omega) only [sI_o])
  have zt3 : TalR (sI (sI (sI h o 6 0) (o + 10) (t % 24) (dmA f t 0)) o 4 (nI (t + 1))) (o + 8) (tlG g) (tIF f) (dcF f) := zt.sub (by simp (discharger := omega) only [sI_o]) rfl (by simp (discharger := omega) only [sI_o]) (fun _ _ => rfl) (fun _ _ _ => rfl) (fun _ _ => rfl)
  refine r_aload_n dX3_meetDemand_37 rfl ?_
  refine q_getR fl_X3_28 hW hk rfl (kl_3_2 hW hk) (Nat.succ_ne_zero _) dX3_meetDemand_38 ?_
  refine r_iload_n dX3_meetDemand_41 rfl ?_
  refine r_aload_n dX3_meetDemand_42 rfl ?_
  refine r_iload_n dX3_meetDemand_43 rfl ?_
  refine q_callV1 (cv_X3_powerAt ml_X3_138) hW hk (by decide) rfl ⟨rfl, rfl⟩ rfl (Nat.le_of_ble_eq_true rfl) dX3_meetDemand_44 (c_X3_powerAt hW hk zs3 zm3) (fun v_44 h_44 q_44 => ?_)
  obtain ⟨rfl, z9⟩ := q_44
  replace z9 := z9.symm
  subst z9
  change PW _ _ _ _ _ _ _ _ (.int (pwF f (nI t)) :: _) _ _
  refine r_aload_n dX3_meetDemand_47 rfl ?_
  refine q_getR fl_X3_12 hW hk rfl (kl_3_0 hW hk) (Nat.succ_ne_zero _) dX3_meetDemand_48 ?_
  refine q_getI fl_X3_141 hW (kk_3_0 hk) rfl dX3_meetDemand_51 ?_
  refine r_aload_n dX3_meetDemand_54 rfl ?_
  refine q_getR fl_X3_21 hW hk rfl (kl_3_1 hW hk) (Nat.succ_ne_zero _) dX3_meetDemand_55 ?_
  refine q_getI fl_X3_43 hW (kk_3_1 hk) rfl dX3_meetDemand_58 ?_
  refine r_imul dX3_meetDemand_61 ?_
  refine r_aload_n dX3_meetDemand_62 rfl ?_
  refine q_getR fl_X3_12 hW hk rfl (kl_3_0 hW hk) (Nat.succ_ne_zero _) dX3_meetDemand_63 ?_
  refine q_getI fl_X3_144 hW (kk_3_0 hk) rfl dX3_meetDemand_66 ?_
  rw [zs3.1 14 (by decide), zs3.1 15 (by decide), zm3.1, mbs_len, ← (hO.at 23).1]
  refine q_callV4 (cv_X7_addTick ml_X3_147) hW (kk_3_2 hk) (by decide) rfl ⟨rfl, rfl⟩ rfl (Nat.le_of_ble_eq_true rfl) dX3_meetDemand_69 (c_X7_addTick hW (kk_3_2 hk) zt3) (fun v_69 h_69 q_69 => ?_)
  obtain ⟨rfl, he, hm⟩ := q_69
  refine r_vret dX3_meetDemand_72 rfl ⟨Nat.zero_le _, Nat.zero_le _⟩ ?_
  refine ⟨rfl, ?_, po_met hp9 hO rfl he hm⟩
  refine eqx.tr ?_ (he.wk (fun i zi => by unfold btw at *; omega))
  repeat (first | exact eqx.rf | refine eqx.sI ?_ (by unfold btw; omega))

set_option maxRecDepth 100000 in
set_option maxHeartbeats 4000000 in
theorem c_X3_lookAhead {l9 : Launch} {G : GC} {h : AH} {o : Nat} {t : Nat} {f : Nat → Int32} {g : Nat → Int64} (hW : World h) (hk : kd o 3) (hp : PoR h o (t + 1) t f g) (hO : PoOK f g (t + 1) t) : PM l9 G mX3_lookAhead NT NT [.ref o, .int (nI t)] h (fun v h' => v = none ∧ eqx h h' (btw o (o + 11)) ∧ PoR h' o (t + 1) (t + 1) (looF (erF f t (f (60 + t % 24))) (t + 1) t) (erG f g t (f (60 + t % 24)))) noX := by
  refine PM.of (by decide +kernel) rfl rfl (Nat.le_of_ble_eq_true rfl) (fun hst _ => ?_)
  have key : ∀ (H : AH) (f1 : Nat → Int32) (g1 : Nat → Int64), eqx h H (btw o (o + 11)) → PoR H o (t + 1) t f1 g1 → PoOK f1 g1 (t + 1) t → f1 = erF f t (f (60 + t % 24)) → g1 = erG f g t (f (60 + t % 24)) → ∀ x : Int32, PW l9 G mX3_lookAhead (mO mX3_lookAhead) (fiM G mX3_lookAhead NT (fun v h' => v = none ∧ eqx h h' (btw o (o + 11)) ∧ PoR h' o (t + 1) (t + 1) (looF (erF f t (f (60 + t % 24))) (t + 1) t) (erG f g t (f (60 + t % 24)))) noX) NT 33 [some (.ref o), some (.int (nI t)), some (.int x)] [] (0, 0) H := by
    intro H f1 g1 heH hp1 hO1 ef eg x
    have hWH := heH.W hW
    have hp9 := hp1
    obtain ⟨zs, zm, zt, zd0, zf, z20, z18, z19, z17, z21, z22, z16⟩ := hp1
    have zd : DemR H o (t + 1) f1 := zd0
    have zc := zd.2
    have z5 : rg (f1 5) 1 8 := hO1.at 5
    have z6 : rg (f1 6) 1 8 := hO1.at 6
    obtain ⟨y8, yc, y0⟩ := wn_le (c := t + 1) z5
    have ht2 := hO1.2.2.2.2.1.2.1
    have yw0 : 0 < wn f1 (t + 1) := y0 (by omega)
    have ye6 : f1 6 = nI (nn (f1 6)) := z6.1
    have ye6b := z6.2.2
    have fin : ∀ H2 : AH, H2 = sI H o 7 (foF f1 (t + 1)) → PW l9 G mX3_lookAhead (mO mX3_lookAhead) (fiM G mX3_lookAhead NT (fun v h' => v = none ∧ eqx h h' (btw o (o + 11)) ∧ PoR h' o (t + 1) (t + 1) (looF (erF f t (f (60 + t % 24))) (t + 1) t) (erG f g t (f (60 + t % 24)))) noX) NT 105 [some (.ref o), some (.int (nI t)), some (.int x)] [] (0, 0) H2 := by
      intro H2 e2
      have hW2 : World H2 := by rw [e2]; exact hWH
      have zs2 : SetR H2 (o + 1) f1 (lds f1) := by rw [e2]; exact zs.cg (by simp (discharger := omega) only [sI_o]) (by simp (discharger := omega) only [sI_o])
      have z27 : aI H2 o 7 = foF f1 (t + 1) := by rw [e2, sI_s]
      have zs3 : SetR (sI H2 o 8 (szF f1 (foF f1 (t + 1)))) (o + 1) f1 (lds f1) := zs2.cg (by simp (discharger := omega) only [sI_o]) (by simp (discharger := omega) only [sI_o])
      have ym : (t + nn (f1 6)) % 8 < 8 := Nat.mod_lt _ (by decide)
      refine r_aload_n dX3_lookAhead_105 rfl ?_
      refine r_aload_n dX3_lookAhead_106 rfl ?_
      refine q_getR fl_X3_12 hW2 hk rfl (kl_3_0 hW2 hk) (Nat.succ_ne_zero _) dX3_lookAhead_107 ?_
      refine r_aload_n dX3_lookAhead_110 rfl ?_
      refine q_getI fl_X3_61 hW2 hk rfl dX3_lookAhead_111 ?_
      rw [z27]
      refine q_callV1 (cv_X4_sizeFor ml_X3_173) hW2 (kk_3_0 hk) (by decide) rfl ⟨rfl, rfl⟩ rfl (Nat.le_of_ble_eq_true rfl) dX3_lookAhead_114 (c_X4_sizeFor hW2 (kk_3_0 hk) zs2) (fun v_114 h_114 q_114 => ?_)
      obtain ⟨rfl, z9⟩ := q_114
      replace z9 := z9.symm
      subst z9
      refine q_putI fl_X3_64 hW2 hk rfl rfl dX3_lookAhead_117 ?_
      refine r_aload_n dX3_lookAhead_120 rfl ?_
      refine q_getR fl_X3_36 hW2 hk rfl (kl_3_5 hW2 hk) (Nat.succ_ne_zero _) dX3_lookAhead_121 ?_
      refine r_iload_n dX3_lookAhead_124 rfl ?_
      refine r_aload_n dX3_lookAhead_125 rfl ?_
      refine q_getR fl_X3_12 hW2 hk rfl (kl_3_0 hW2 hk) (Nat.succ_ne_zero _) dX3_lookAhead_126 ?_
      refine q_getI fl_X3_176 hW2 (kk_3_0 hk) rfl dX3_lookAhead_129 ?_
      refine r_iadd dX3_lookAhead_132 ?_
      rw [zs3.1 6 (by decide), ye6, nI_add]
      refine r_bipush (8) dX3_lookAhead_133 (by decide) ?_
      refine q_callS2 (cs_J9_floorMod_7cf53 ml_X3_135) ⟨rfl, rfl⟩ rfl (Nat.le_of_ble_eq_true rfl) dX3_lookAhead_135 (c_floorMod (b := 8) (by omega) (by decide) (by decide)) (fun v_135 h_135 q_135 => ?_)
      obtain ⟨rfl, z9⟩ := q_135
      replace z9 := z9.symm
      subst z9
      refine r_aload_n dX3_lookAhead_138 rfl ?_
      refine q_getI fl_X3_61 hW2 hk rfl dX3_lookAhead_139 ?_
      rw [show aI (sI H2 o 8 (szF f1 (foF f1 (t + 1)))) o 7 = foF f1 (t + 1) from (sI_k (by decide)).trans z27]
      refine q_iast hW2 (kk_3_5 hk) (k := (t + nn (f1 6)) % 8) rfl ym (by decide) dX3_lookAhead_142 ?_
      refine r_vret dX3_lookAhead_143 rfl ⟨Nat.zero_le _, Nat.zero_le _⟩ ?_
      refine ⟨rfl, ?_, ?_⟩
      · rw [e2]
        repeat (first | exact heH | refine eqx.sI ?_ (by unfold btw; omega))
      · rw [e2, ← ef, ← eg]; exact po_loo hp9 hO1 rfl
  
    have zs1 := zs.1 7 (by decide)
    have q7 : f1 7 = 0 ∨ f1 7 = 1 ∨ f1 7 = 2 := by
      obtain ⟨m, m1, m2, m3⟩ := (hO1.at 7).nat
      have m2' : m ≤ 2 := m2
      rw [m3]
      obtain rfl | rfl | rfl : m = 0 ∨ m = 1 ∨ m = 2 := by omega
      · exact Or.inl rfl
      · exact Or.inr (Or.inl rfl)
      · exact Or.inr (Or.inr rfl)
    rcases q7 with q7 | q7 | q7
    · refine r_aload_n dX3_lookAhead_33 rfl ?_
      refine q_getR fl_X3_12 hWH hk rfl (kl_3_0 hWH hk) (Nat.succ_ne_zero _) dX3_lookAhead_34 ?_
      refine q_getI fl_X3_158 hWH (kk_3_0 hk) rfl dX3_lookAhead_37 ?_
      rw [zs1, q7]
      refine r_lookup (off := 50) 90 dX3_lookAhead_40 (by decide) (by decide) (by decide) ?_
      refine r_aload_n dX3_lookAhead_90 rfl ?_
      refine r_aload_n dX3_lookAhead_91 rfl ?_
      refine q_callV0 (cv_X3_windowSum ml_X3_167) hWH hk (by decide) rfl ⟨rfl, rfl⟩ rfl (Nat.le_of_ble_eq_true rfl) dX3_lookAhead_92 (c_X3_windowSum hWH hk zs zd (by omega) z5) (fun v_92 h_92 q_92 => ?_)
      obtain ⟨rfl, z9⟩ := q_92
      replace z9 := z9.symm
      subst z9
      refine r_aload_n dX3_lookAhead_95 rfl ?_
      refine q_callV0 (cv_X3_windowLength ml_X3_115) hWH hk (by decide) rfl ⟨rfl, rfl⟩ rfl (Nat.le_of_ble_eq_true rfl) dX3_lookAhead_96 (c_X3_windowLength hWH hk zs zc (by omega) z5) (fun v_96 h_96 q_96 => ?_)
      obtain ⟨rfl, z9⟩ := q_96
      replace z9 := z9.symm
      subst z9
      refine q_callSN2 cn_X3_170 ⟨rfl, rfl⟩ rfl (Nat.le_of_ble_eq_true rfl) dX3_lookAhead_99 c_X8_dividedUp (fun v_99 h_99 q_99 => ?_)
      obtain ⟨rfl, z9⟩ := q_99
      replace z9 := z9.symm
      subst z9
      refine q_putI fl_X3_61 hWH hk rfl rfl dX3_lookAhead_102 ?_
      exact fin _ (by
        congr 1
        unfold foF
        rw [if_neg (by rw [q7]; decide), if_neg (by rw [q7]; decide)])
    · refine r_aload_n dX3_lookAhead_33 rfl ?_
      refine q_getR fl_X3_12 hWH hk rfl (kl_3_0 hWH hk) (Nat.succ_ne_zero _) dX3_lookAhead_34 ?_
      refine q_getI fl_X3_158 hWH (kk_3_0 hk) rfl dX3_lookAhead_37 ?_
      rw [zs1, q7]
      refine r_lookup (off := 28) 68 dX3_lookAhead_40 (by decide) (by decide) (by decide) ?_
      refine r_aload_n dX3_lookAhead_68 rfl ?_
      refine r_aload_n dX3_lookAhead_69 rfl ?_
      refine q_callV0 (cv_X3_forecastByTrend ml_X3_161) hWH hk (by decide) rfl ⟨rfl, rfl⟩ rfl (Nat.le_of_ble_eq_true rfl) dX3_lookAhead_70 (c_X3_forecastByTrend hWH hk zs zd (by omega) z5 (by omega) q7) (fun v_70 h_70 q_70 => ?_)
      obtain ⟨rfl, z9⟩ := q_70
      replace z9 := z9.symm
      subst z9
      refine q_putI fl_X3_61 hWH hk rfl rfl dX3_lookAhead_73 ?_
      refine r_goto 105 dX3_lookAhead_76 (by decide) ?_
      exact fin _ rfl
    · refine r_aload_n dX3_lookAhead_33 rfl ?_
      refine q_getR fl_X3_12 hWH hk rfl (kl_3_0 hWH hk) (Nat.succ_ne_zero _) dX3_lookAhead_34 ?_
      refine q_getI fl_X3_158 hWH (kk_3_0 hk) rfl dX3_lookAhead_37 ?_
      rw [zs1, q7]
      refine r_lookup (off := 39) 79 dX3_lookAhead_40 (by decide) (by decide) (by decide) ?_
      refine r_aload_n dX3_lookAhead_79 rfl ?_
      refine r_aload_n dX3_lookAhead_80 rfl ?_
      refine q_callV0 (cv_X3_forecastBySeason ml_X3_164) hWH hk (by decide) rfl ⟨rfl, rfl⟩ rfl (Nat.le_of_ble_eq_true rfl) dX3_lookAhead_81 (c_X3_forecastBySeason hWH hk zs zd (by omega) z5 (by omega) q7 z6 ⟨(hO1.at 8).1, hO1.2.1.1 q7, (hO1.at 8).2.2⟩) (fun v_81 h_81 q_81 => ?_)
      obtain ⟨rfl, z9⟩ := q_81
      replace z9 := z9.symm
      subst z9
      refine q_putI fl_X3_61 hWH hk rfl rfl dX3_lookAhead_84 ?_
      refine r_goto 105 dX3_lookAhead_87 (by decide) ?_
      exact fin _ rfl
  have hp9 := hp
  obtain ⟨zs, zm, zt, ⟨zd, zc⟩, zf, z20, z18, z19, z17, z21, z22, z16⟩ := hp
  have zd0 : DemR h o (t + 1) f := ⟨zd, zc⟩
  have zt2 := hO.2.2.2.2.1.2.1
  have y6 : nn (f 6) ≤ 8 := (hO.at 6).2.2
  have y6' : 1 ≤ nn (f 6) := (hO.at 6).2.1
  have yf := zf t (Nat.le_refl t) (by omega)
  have ym : t % 8 < 8 := Nat.mod_lt _ (by decide)
  have yb : bk f (t + 1) 0 = f (60 + t % 24) := rfl
  refine r_aload_n dX3_lookAhead_0 rfl ?_
  refine q_getR fl_X3_36 hW hk rfl (kl_3_5 hW hk) (Nat.succ_ne_zero _) dX3_lookAhead_1 ?_
  refine r_iload_n dX3_lookAhead_4 rfl ?_
  refine r_bipush (8) dX3_lookAhead_5 (by decide) ?_
  refine q_callS2 (cs_J9_floorMod_7cf53 ml_X3_135) ⟨rfl, rfl⟩ rfl (Nat.le_of_ble_eq_true rfl) dX3_lookAhead_7 (c_floorMod (b := 8) (by omega) (by decide) (by decide)) (fun v_7 h_7 q_7 => ?_)
  obtain ⟨rfl, z9⟩ := q_7
  replace z9 := z9.symm
  subst z9
  refine q_iald hW (kk_3_5 hk) (k := t % 8) rfl ym (by decide) dX3_lookAhead_10 ?_
  rw [yf]
  refine r_istore_n (ls2 := [_, some _, _]) dX3_lookAhead_11 (by decide) rfl ?_
  refine r_iload_n dX3_lookAhead_12 rfl ?_
  refine r_if_lt 33 dX3_lookAhead_13 (by decide) (fun c_13 => ?_) (fun c_13 => ?_)
  · first
      | exact key _ _ _ (he.wk (fun i zi => by unfold btw at *; omega)) (po_er hp9 hO yu he hm) hO.er rfl rfl _
      | (have yu : t < nn (f 6) := by
           rcases Nat.lt_or_ge t (nn (f 6)) with q | q
           · exact q
           · rw [if_neg (by omega)] at c_13
             exact absurd c_13 (hO.2.2.2.2.2.2.1 t (Nat.le_refl t) (by omega) q)
         have e1 : erF f t (f (60 + t % 24)) = f := by unfold erF; rw [if_pos yu]
         have e2 : erG f g t (f (60 + t % 24)) = g := by unfold erG; rw [if_pos yu]
         exact key _ _ _ eqx.rf hp9 hO e1.symm e2.symm _)
  · have yu : ¬ t < nn (f 6) := fun q => by rw [if_pos q] at c_13; exact absurd c_13 (by decide)
    rw [if_neg yu]
    refine r_aload_n dX3_lookAhead_16 rfl ?_
    refine q_getR fl_X3_28 hW hk rfl (kl_3_2 hW hk) (Nat.succ_ne_zero _) dX3_lookAhead_17 ?_
    refine r_iload_n dX3_lookAhead_20 rfl ?_
    refine r_aload_n dX3_lookAhead_21 rfl ?_
    refine r_iconst (0) dX3_lookAhead_22 (by decide) ?_
    refine q_callV1 (cv_X3_demandBack ml_X3_119) hW hk (by decide) rfl ⟨rfl, rfl⟩ rfl (Nat.le_of_ble_eq_true rfl) dX3_lookAhead_23 (c_X3_demandBack (m := 0) hW hk zd0 (by omega) (by omega)) (fun v_23 h_23 q_23 => ?_)
    obtain ⟨rfl, z9⟩ := q_23
    replace z9 := z9.symm
    subst z9
    refine r_isub dX3_lookAhead_26 ?_
    rw [bkz_in (by omega) (by omega), yb]
    refine q_abs mm_X3_151 rfl (Nat.le_of_ble_eq_true rfl) dX3_lookAhead_27 ?_
    refine q_callV1 (cv_X7_addError ml_X3_154) hW (kk_3_2 hk) (by decide) rfl ⟨rfl, rfl⟩ rfl (Nat.le_of_ble_eq_true rfl) dX3_lookAhead_30 (c_X7_addError hW (kk_3_2 hk) zt) (fun v_30 h_30 q_30 => ?_)
    obtain ⟨rfl, he, hm⟩ := q_30
    first
      | exact key _ _ _ (he.wk (fun i zi => by unfold btw at *; omega)) (po_er hp9 hO yu he hm) hO.er rfl rfl _
      | (have yu : t < nn (f 6) := by
           rcases Nat.lt_or_ge t (nn (f 6)) with q | q
           · exact q
           · rw [if_neg (by omega)] at c_13
             exact absurd c_13 (hO.2.2.2.2.2.2.1 t (Nat.le_refl t) (by omega) q)
         have e1 : erF f t (f (60 + t % 24)) = f := by unfold erF; rw [if_pos yu]
         have e2 : erG f g t (f (60 + t % 24)) = g := by unfold erG; rw [if_pos yu]
         exact key _ _ _ eqx.rf hp9 hO e1.symm e2.symm _)
