-- what a pool tells
set_option maxRecDepth 100000 in
set_option maxHeartbeats 4000000 in
theorem c_X8_pool {l9 : Launch} {G : GC} {h : AH} {r : Row} {m : Nat} {x y : Int32} (hW : World h) (hs : StR h 7 r.1 r.2) (hO : RoOK r.1 r.2 m) : PM l9 G mX8_pool NT NT [.ref 1, .int x, .int y] h (fun v h' => cd2 (okP r x) (rgB 0 20 y) = 0 ∧ v = some (.int (plA r x (nn y))) ∧ h' = h) (fun E h' => thr [eB, eA] (cd2 (okP r x) (rgB 0 20 y)) E ∧ h' = h) := by
  refine PM.of (by decide +kernel) rfl rfl (Nat.le_of_ble_eq_true rfl) (fun hst _ => ?_)
  refine r_aload_n dX8_pool_0 rfl ?_
  refine r_iload_n dX8_pool_1 rfl ?_
  refine q_callX1 (cv_X8_existingPool ml_X8_112) hW kc_1 (by decide) rfl rfl (Nat.le_of_ble_eq_true rfl) dX8_pool_2 (c_X8_existingPool hW hs hO) (fun v_2 h_2 q_2 => ?_) (fun E_2 h_2 q_2 => ?_)
  · obtain ⟨z9, ko, p, p1, p2, rfl, rfl⟩ := q_2
    replace z9 := z9.symm
    subst z9
    have ex : nn (nI p) = p := nn_I (by omega)
    have hOp := hO.2 p p2
    have hpo : PoR h (14 + 12 * p) (nn (r.1 1)) (nn (r.1 1)) (getP r.1 p) (getG r.2 p) := hs.po p2
    have hpo9 := hpo
    obtain ⟨zs, zm, zt, ⟨zd, zc⟩, zf, z20, z18, z19, z17, z21, z22, z16⟩ := hpo
    have zd0 : DemR h (14 + 12 * p) (nn (r.1 1)) (getP r.1 p) := ⟨zd, zc⟩
    have yc := hOp.2.2.2.2.1.2.1
    refine r_astore_n (ls2 := [_, _, some _, _]) dX8_pool_5 (by decide) rfl ?_
    refine r_iload_n dX8_pool_6 rfl ?_
    refine r_iconst (0) dX8_pool_7 (by decide) ?_
    refine r_bipush (20) dX8_pool_8 (by decide) ?_
    refine q_callXS3 (cs_X8_requireRange ml_X8_116) rfl (Nat.le_of_ble_eq_true rfl) dX8_pool_10 c_X8_requireRange (fun v_10 h_10 q_10 => ?_) (fun E_10 h_10 q_10 => ?_)
    · obtain ⟨z9, kr, rfl⟩ := q_10
      replace z9 := z9.symm
      subst z9
      have kr9 : rgB 0 20 y = true := decide_eq_true kr
      obtain ⟨k, k1, k2, rfl⟩ := rgB_t (a := 0) (b := 20) kr9 (by decide) (by decide)
      have ek : nn (nI k) = k := nn_I (by omega)
      refine r_iload_n dX8_pool_13 rfl ?_
      rcases (show k = 0 ∨ k = 1 ∨ k = 2 ∨ k = 3 ∨ k = 4 ∨ k = 5 ∨ k = 6 ∨ k = 7 ∨ k = 8 ∨ k = 9 ∨ k = 10 ∨ k = 11 ∨ k = 12 ∨ k = 13 ∨ k = 14 ∨ k = 15 ∨ k = 16 ∨ k = 17 ∨ k = 18 ∨ k = 19 ∨ k = 20 from by omega) with rfl | rfl | rfl | rfl | rfl | rfl | rfl | rfl | rfl | rfl | rfl | rfl | rfl | rfl | rfl | rfl | rfl | rfl | rfl | rfl | rfl
      · skip
        refine r_lookup (off := 99) 113 dX8_pool_14 (by decide) (by decide) (by decide) ?_
        refine r_aload_n dX8_pool_113 rfl ?_
        refine q_getR fl_X8_143 hW (kd_po p1) rfl (kl_3_0 hW (kd_po p1)) (Nat.succ_ne_zero _) dX8_pool_114 ?_
        refine r_iload_n dX8_pool_117 rfl ?_
        refine q_callV1 (cv_X4_numbered ml_X8_147) hW (kk_3_0 (kd_po p1)) (by decide) rfl ⟨rfl, rfl⟩ rfl (Nat.le_of_ble_eq_true rfl) dX8_pool_118 (c_X4_numbered hW (kk_3_0 (kd_po p1)) ‹_› (by omega)) (fun v_118 h_118 q_118 => ?_)
        obtain ⟨rfl, z9⟩ := q_118
        replace z9 := z9.symm
        subst z9
        refine r_iret dX8_pool_121 rfl ⟨Nat.le_of_ble_eq_true rfl, Nat.le_of_ble_eq_true rfl⟩ ?_
        refine ⟨cd2_t ko kr9, ?_, rfl⟩
        skip
        unfold plA fP
        rw [ek]
        first
          | rfl
          | (rw [ex]; rfl)
          | (rw [ex, mbs_len]; exact some_int (hOp.at 23).1.symm)
          | (rw [ex]; exact some_int (f16_1 (hOp.at 16) c_99).symm)
          | (rw [ex]; exact some_int (by first | exact c_99.symm | exact (show getP r.1 p 16 = 0 from by simpa using c_99).symm))
        all_goals rfl
      · skip
        refine r_lookup (off := 99) 113 dX8_pool_14 (by decide) (by decide) (by decide) ?_
        refine r_aload_n dX8_pool_113 rfl ?_
        refine q_getR fl_X8_143 hW (kd_po p1) rfl (kl_3_0 hW (kd_po p1)) (Nat.succ_ne_zero _) dX8_pool_114 ?_
        refine r_iload_n dX8_pool_117 rfl ?_
        refine q_callV1 (cv_X4_numbered ml_X8_147) hW (kk_3_0 (kd_po p1)) (by decide) rfl ⟨rfl, rfl⟩ rfl (Nat.le_of_ble_eq_true rfl) dX8_pool_118 (c_X4_numbered hW (kk_3_0 (kd_po p1)) ‹_› (by omega)) (fun v_118 h_118 q_118 => ?_)
        obtain ⟨rfl, z9⟩ := q_118
        replace z9 := z9.symm
        subst z9
        refine r_iret dX8_pool_121 rfl ⟨Nat.le_of_ble_eq_true rfl, Nat.le_of_ble_eq_true rfl⟩ ?_
        refine ⟨cd2_t ko kr9, ?_, rfl⟩
        skip
        unfold plA fP
        rw [ek]
        first
          | rfl
          | (rw [ex]; rfl)
          | (rw [ex, mbs_len]; exact some_int (hOp.at 23).1.symm)
          | (rw [ex]; exact some_int (f16_1 (hOp.at 16) c_99).symm)
          | (rw [ex]; exact some_int (by first | exact c_99.symm | exact (show getP r.1 p 16 = 0 from by simpa using c_99).symm))
        all_goals rfl
      · skip
        refine r_lookup (off := 99) 113 dX8_pool_14 (by decide) (by decide) (by decide) ?_
        refine r_aload_n dX8_pool_113 rfl ?_
        refine q_getR fl_X8_143 hW (kd_po p1) rfl (kl_3_0 hW (kd_po p1)) (Nat.succ_ne_zero _) dX8_pool_114 ?_
        refine r_iload_n dX8_pool_117 rfl ?_
        refine q_callV1 (cv_X4_numbered ml_X8_147) hW (kk_3_0 (kd_po p1)) (by decide) rfl ⟨rfl, rfl⟩ rfl (Nat.le_of_ble_eq_true rfl) dX8_pool_118 (c_X4_numbered hW (kk_3_0 (kd_po p1)) ‹_› (by omega)) (fun v_118 h_118 q_118 => ?_)
        obtain ⟨rfl, z9⟩ := q_118
        replace z9 := z9.symm
        subst z9
        refine r_iret dX8_pool_121 rfl ⟨Nat.le_of_ble_eq_true rfl, Nat.le_of_ble_eq_true rfl⟩ ?_
        refine ⟨cd2_t ko kr9, ?_, rfl⟩
        skip
        unfold plA fP
        rw [ek]
        first
          | rfl
          | (rw [ex]; rfl)
          | (rw [ex, mbs_len]; exact some_int (hOp.at 23).1.symm)
          | (rw [ex]; exact some_int (f16_1 (hOp.at 16) c_99).symm)
          | (rw [ex]; exact some_int (by first | exact c_99.symm | exact (show getP r.1 p 16 = 0 from by simpa using c_99).symm))
        all_goals rfl
      · skip
        refine r_lookup (off := 50) 64 dX8_pool_14 (by decide) (by decide) (by decide) ?_
        refine r_aload_n dX8_pool_64 rfl ?_
        refine q_getR fl_X8_119 hW (kd_po p1) rfl (kl_3_1 hW (kd_po p1)) (Nat.succ_ne_zero _) dX8_pool_65 ?_
        refine q_getI fl_X8_125 hW (kk_3_1 (kd_po p1)) rfl dX8_pool_68 ?_
        rw [zm.1]
        refine r_iret dX8_pool_71 rfl ⟨Nat.le_of_ble_eq_true rfl, Nat.le_of_ble_eq_true rfl⟩ ?_
        refine ⟨cd2_t ko kr9, ?_, rfl⟩
        skip
        unfold plA fP
        rw [ek]
        first
          | rfl
          | (rw [ex]; rfl)
          | (rw [ex, mbs_len]; exact some_int (hOp.at 23).1.symm)
          | (rw [ex]; exact some_int (f16_1 (hOp.at 16) c_99).symm)
          | (rw [ex]; exact some_int (by first | exact c_99.symm | exact (show getP r.1 p 16 = 0 from by simpa using c_99).symm))
        all_goals rfl
      · skip
        refine r_lookup (off := 58) 72 dX8_pool_14 (by decide) (by decide) (by decide) ?_
        refine r_aload_n dX8_pool_72 rfl ?_
        refine q_getR fl_X8_119 hW (kd_po p1) rfl (kl_3_1 hW (kd_po p1)) (Nat.succ_ne_zero _) dX8_pool_73 ?_
        refine r_aload_n dX8_pool_76 rfl ?_
        refine q_getR fl_X8_37 hW kc_1 rfl (kl_8_6 hW) (by decide) dX8_pool_77 ?_
        refine q_getI fl_X8_86 hW kc_7 rfl dX8_pool_80 ?_
        rw [hs.2.1]
        refine q_callV1 (cv_X1_countReady ml_X8_130) hW (kk_3_1 (kd_po p1)) (by decide) rfl ⟨rfl, rfl⟩ rfl (Nat.le_of_ble_eq_true rfl) dX8_pool_83 (c_X1_countReadyL hW (kk_3_1 (kd_po p1)) zm) (fun v_83 h_83 q_83 => ?_)
        obtain ⟨rfl, z9⟩ := q_83
        replace z9 := z9.symm
        subst z9
        refine r_iret dX8_pool_86 rfl ⟨Nat.le_of_ble_eq_true rfl, Nat.le_of_ble_eq_true rfl⟩ ?_
        refine ⟨cd2_t ko kr9, ?_, rfl⟩
        skip
        unfold plA fP
        rw [ek]
        first
          | rfl
          | (rw [ex]; rfl)
          | (rw [ex, mbs_len]; exact some_int (hOp.at 23).1.symm)
          | (rw [ex]; exact some_int (f16_1 (hOp.at 16) c_99).symm)
          | (rw [ex]; exact some_int (by first | exact c_99.symm | exact (show getP r.1 p 16 = 0 from by simpa using c_99).symm))
        all_goals rfl
      · skip
        refine r_lookup (off := 73) 87 dX8_pool_14 (by decide) (by decide) (by decide) ?_
        refine r_aload_n dX8_pool_87 rfl ?_
        refine q_getR fl_X8_119 hW (kd_po p1) rfl (kl_3_1 hW (kd_po p1)) (Nat.succ_ne_zero _) dX8_pool_88 ?_
        refine q_callV0 (cv_X1_countProtected ml_X8_134) hW (kk_3_1 (kd_po p1)) (by decide) rfl ⟨rfl, rfl⟩ rfl (Nat.le_of_ble_eq_true rfl) dX8_pool_91 (c_X1_countProtected hW (kk_3_1 (kd_po p1)) zm) (fun v_91 h_91 q_91 => ?_)
        obtain ⟨rfl, z9⟩ := q_91
        replace z9 := z9.symm
        subst z9
        refine r_iret dX8_pool_94 rfl ⟨Nat.le_of_ble_eq_true rfl, Nat.le_of_ble_eq_true rfl⟩ ?_
        refine ⟨cd2_t ko kr9, ?_, rfl⟩
        skip
        unfold plA fP
        rw [ek]
        first
          | rfl
          | (rw [ex]; rfl)
          | (rw [ex, mbs_len]; exact some_int (hOp.at 23).1.symm)
          | (rw [ex]; exact some_int (f16_1 (hOp.at 16) c_99).symm)
          | (rw [ex]; exact some_int (by first | exact c_99.symm | exact (show getP r.1 p 16 = 0 from by simpa using c_99).symm))
        all_goals rfl
      · skip
        refine r_lookup (off := 99) 113 dX8_pool_14 (by decide) (by decide) (by decide) ?_
        refine r_aload_n dX8_pool_113 rfl ?_
        refine q_getR fl_X8_143 hW (kd_po p1) rfl (kl_3_0 hW (kd_po p1)) (Nat.succ_ne_zero _) dX8_pool_114 ?_
        refine r_iload_n dX8_pool_117 rfl ?_
        refine q_callV1 (cv_X4_numbered ml_X8_147) hW (kk_3_0 (kd_po p1)) (by decide) rfl ⟨rfl, rfl⟩ rfl (Nat.le_of_ble_eq_true rfl) dX8_pool_118 (c_X4_numbered hW (kk_3_0 (kd_po p1)) ‹_› (by omega)) (fun v_118 h_118 q_118 => ?_)
        obtain ⟨rfl, z9⟩ := q_118
        replace z9 := z9.symm
        subst z9
        refine r_iret dX8_pool_121 rfl ⟨Nat.le_of_ble_eq_true rfl, Nat.le_of_ble_eq_true rfl⟩ ?_
        refine ⟨cd2_t ko kr9, ?_, rfl⟩
        skip
        unfold plA fP
        rw [ek]
        first
          | rfl
          | (rw [ex]; rfl)
          | (rw [ex, mbs_len]; exact some_int (hOp.at 23).1.symm)
          | (rw [ex]; exact some_int (f16_1 (hOp.at 16) c_99).symm)
          | (rw [ex]; exact some_int (by first | exact c_99.symm | exact (show getP r.1 p 16 = 0 from by simpa using c_99).symm))
        all_goals rfl
      · skip
        refine r_lookup (off := 99) 113 dX8_pool_14 (by decide) (by decide) (by decide) ?_
        refine r_aload_n dX8_pool_113 rfl ?_
        refine q_getR fl_X8_143 hW (kd_po p1) rfl (kl_3_0 hW (kd_po p1)) (Nat.succ_ne_zero _) dX8_pool_114 ?_
        refine r_iload_n dX8_pool_117 rfl ?_
        refine q_callV1 (cv_X4_numbered ml_X8_147) hW (kk_3_0 (kd_po p1)) (by decide) rfl ⟨rfl, rfl⟩ rfl (Nat.le_of_ble_eq_true rfl) dX8_pool_118 (c_X4_numbered hW (kk_3_0 (kd_po p1)) ‹_› (by omega)) (fun v_118 h_118 q_118 => ?_)
        obtain ⟨rfl, z9⟩ := q_118
        replace z9 := z9.symm
        subst z9
        refine r_iret dX8_pool_121 rfl ⟨Nat.le_of_ble_eq_true rfl, Nat.le_of_ble_eq_true rfl⟩ ?_
        refine ⟨cd2_t ko kr9, ?_, rfl⟩
        skip
        unfold plA fP
        rw [ek]
        first
          | rfl
          | (rw [ex]; rfl)
          | (rw [ex, mbs_len]; exact some_int (hOp.at 23).1.symm)
          | (rw [ex]; exact some_int (f16_1 (hOp.at 16) c_99).symm)
          | (rw [ex]; exact some_int (by first | exact c_99.symm | exact (show getP r.1 p 16 = 0 from by simpa using c_99).symm))
        all_goals rfl
      · skip
        refine r_lookup (off := 99) 113 dX8_pool_14 (by decide) (by decide) (by decide) ?_
        refine r_aload_n dX8_pool_113 rfl ?_
        refine q_getR fl_X8_143 hW (kd_po p1) rfl (kl_3_0 hW (kd_po p1)) (Nat.succ_ne_zero _) dX8_pool_114 ?_
        refine r_iload_n dX8_pool_117 rfl ?_
        refine q_callV1 (cv_X4_numbered ml_X8_147) hW (kk_3_0 (kd_po p1)) (by decide) rfl ⟨rfl, rfl⟩ rfl (Nat.le_of_ble_eq_true rfl) dX8_pool_118 (c_X4_numbered hW (kk_3_0 (kd_po p1)) ‹_› (by omega)) (fun v_118 h_118 q_118 => ?_)
        obtain ⟨rfl, z9⟩ := q_118
        replace z9 := z9.symm
        subst z9
        refine r_iret dX8_pool_121 rfl ⟨Nat.le_of_ble_eq_true rfl, Nat.le_of_ble_eq_true rfl⟩ ?_
        refine ⟨cd2_t ko kr9, ?_, rfl⟩
        skip
        unfold plA fP
        rw [ek]
        first
          | rfl
          | (rw [ex]; rfl)
          | (rw [ex, mbs_len]; exact some_int (hOp.at 23).1.symm)
          | (rw [ex]; exact some_int (f16_1 (hOp.at 16) c_99).symm)
          | (rw [ex]; exact some_int (by first | exact c_99.symm | exact (show getP r.1 p 16 = 0 from by simpa using c_99).symm))
        all_goals rfl
      · skip
        refine r_lookup (off := 99) 113 dX8_pool_14 (by decide) (by decide) (by decide) ?_
        refine r_aload_n dX8_pool_113 rfl ?_
        refine q_getR fl_X8_143 hW (kd_po p1) rfl (kl_3_0 hW (kd_po p1)) (Nat.succ_ne_zero _) dX8_pool_114 ?_
        refine r_iload_n dX8_pool_117 rfl ?_
        refine q_callV1 (cv_X4_numbered ml_X8_147) hW (kk_3_0 (kd_po p1)) (by decide) rfl ⟨rfl, rfl⟩ rfl (Nat.le_of_ble_eq_true rfl) dX8_pool_118 (c_X4_numbered hW (kk_3_0 (kd_po p1)) ‹_› (by omega)) (fun v_118 h_118 q_118 => ?_)
        obtain ⟨rfl, z9⟩ := q_118
        replace z9 := z9.symm
        subst z9
        refine r_iret dX8_pool_121 rfl ⟨Nat.le_of_ble_eq_true rfl, Nat.le_of_ble_eq_true rfl⟩ ?_
        refine ⟨cd2_t ko kr9, ?_, rfl⟩
        skip
        unfold plA fP
        rw [ek]
        first
          | rfl
          | (rw [ex]; rfl)
          | (rw [ex, mbs_len]; exact some_int (hOp.at 23).1.symm)
          | (rw [ex]; exact some_int (f16_1 (hOp.at 16) c_99).symm)
          | (rw [ex]; exact some_int (by first | exact c_99.symm | exact (show getP r.1 p 16 = 0 from by simpa using c_99).symm))
        all_goals rfl
      · skip
        refine r_lookup (off := 99) 113 dX8_pool_14 (by decide) (by decide) (by decide) ?_
        refine r_aload_n dX8_pool_113 rfl ?_
        refine q_getR fl_X8_143 hW (kd_po p1) rfl (kl_3_0 hW (kd_po p1)) (Nat.succ_ne_zero _) dX8_pool_114 ?_
        refine r_iload_n dX8_pool_117 rfl ?_
        refine q_callV1 (cv_X4_numbered ml_X8_147) hW (kk_3_0 (kd_po p1)) (by decide) rfl ⟨rfl, rfl⟩ rfl (Nat.le_of_ble_eq_true rfl) dX8_pool_118 (c_X4_numbered hW (kk_3_0 (kd_po p1)) ‹_› (by omega)) (fun v_118 h_118 q_118 => ?_)
        obtain ⟨rfl, z9⟩ := q_118
        replace z9 := z9.symm
        subst z9
        refine r_iret dX8_pool_121 rfl ⟨Nat.le_of_ble_eq_true rfl, Nat.le_of_ble_eq_true rfl⟩ ?_
        refine ⟨cd2_t ko kr9, ?_, rfl⟩
        skip
        unfold plA fP
        rw [ek]
        first
          | rfl
          | (rw [ex]; rfl)
          | (rw [ex, mbs_len]; exact some_int (hOp.at 23).1.symm)
          | (rw [ex]; exact some_int (f16_1 (hOp.at 16) c_99).symm)
          | (rw [ex]; exact some_int (by first | exact c_99.symm | exact (show getP r.1 p 16 = 0 from by simpa using c_99).symm))
        all_goals rfl
      · skip
        refine r_lookup (off := 99) 113 dX8_pool_14 (by decide) (by decide) (by decide) ?_
        refine r_aload_n dX8_pool_113 rfl ?_
        refine q_getR fl_X8_143 hW (kd_po p1) rfl (kl_3_0 hW (kd_po p1)) (Nat.succ_ne_zero _) dX8_pool_114 ?_
        refine r_iload_n dX8_pool_117 rfl ?_
        refine q_callV1 (cv_X4_numbered ml_X8_147) hW (kk_3_0 (kd_po p1)) (by decide) rfl ⟨rfl, rfl⟩ rfl (Nat.le_of_ble_eq_true rfl) dX8_pool_118 (c_X4_numbered hW (kk_3_0 (kd_po p1)) ‹_› (by omega)) (fun v_118 h_118 q_118 => ?_)
        obtain ⟨rfl, z9⟩ := q_118
        replace z9 := z9.symm
        subst z9
        refine r_iret dX8_pool_121 rfl ⟨Nat.le_of_ble_eq_true rfl, Nat.le_of_ble_eq_true rfl⟩ ?_
        refine ⟨cd2_t ko kr9, ?_, rfl⟩
        skip
        unfold plA fP
        rw [ek]
        first
          | rfl
          | (rw [ex]; rfl)
          | (rw [ex, mbs_len]; exact some_int (hOp.at 23).1.symm)
          | (rw [ex]; exact some_int (f16_1 (hOp.at 16) c_99).symm)
          | (rw [ex]; exact some_int (by first | exact c_99.symm | exact (show getP r.1 p 16 = 0 from by simpa using c_99).symm))
        all_goals rfl
      · skip
        refine r_lookup (off := 99) 113 dX8_pool_14 (by decide) (by decide) (by decide) ?_
        refine r_aload_n dX8_pool_113 rfl ?_
        refine q_getR fl_X8_143 hW (kd_po p1) rfl (kl_3_0 hW (kd_po p1)) (Nat.succ_ne_zero _) dX8_pool_114 ?_
        refine r_iload_n dX8_pool_117 rfl ?_
        refine q_callV1 (cv_X4_numbered ml_X8_147) hW (kk_3_0 (kd_po p1)) (by decide) rfl ⟨rfl, rfl⟩ rfl (Nat.le_of_ble_eq_true rfl) dX8_pool_118 (c_X4_numbered hW (kk_3_0 (kd_po p1)) ‹_› (by omega)) (fun v_118 h_118 q_118 => ?_)
        obtain ⟨rfl, z9⟩ := q_118
        replace z9 := z9.symm
        subst z9
        refine r_iret dX8_pool_121 rfl ⟨Nat.le_of_ble_eq_true rfl, Nat.le_of_ble_eq_true rfl⟩ ?_
        refine ⟨cd2_t ko kr9, ?_, rfl⟩
        skip
        unfold plA fP
        rw [ek]
        first
          | rfl
          | (rw [ex]; rfl)
          | (rw [ex, mbs_len]; exact some_int (hOp.at 23).1.symm)
          | (rw [ex]; exact some_int (f16_1 (hOp.at 16) c_99).symm)
          | (rw [ex]; exact some_int (by first | exact c_99.symm | exact (show getP r.1 p 16 = 0 from by simpa using c_99).symm))
        all_goals rfl
      · skip
        refine r_lookup (off := 99) 113 dX8_pool_14 (by decide) (by decide) (by decide) ?_
        refine r_aload_n dX8_pool_113 rfl ?_
        refine q_getR fl_X8_143 hW (kd_po p1) rfl (kl_3_0 hW (kd_po p1)) (Nat.succ_ne_zero _) dX8_pool_114 ?_
        refine r_iload_n dX8_pool_117 rfl ?_
        refine q_callV1 (cv_X4_numbered ml_X8_147) hW (kk_3_0 (kd_po p1)) (by decide) rfl ⟨rfl, rfl⟩ rfl (Nat.le_of_ble_eq_true rfl) dX8_pool_118 (c_X4_numbered hW (kk_3_0 (kd_po p1)) ‹_› (by omega)) (fun v_118 h_118 q_118 => ?_)
        obtain ⟨rfl, z9⟩ := q_118
        replace z9 := z9.symm
        subst z9
        refine r_iret dX8_pool_121 rfl ⟨Nat.le_of_ble_eq_true rfl, Nat.le_of_ble_eq_true rfl⟩ ?_
        refine ⟨cd2_t ko kr9, ?_, rfl⟩
        skip
        unfold plA fP
        rw [ek]
        first
          | rfl
          | (rw [ex]; rfl)
          | (rw [ex, mbs_len]; exact some_int (hOp.at 23).1.symm)
          | (rw [ex]; exact some_int (f16_1 (hOp.at 16) c_99).symm)
          | (rw [ex]; exact some_int (by first | exact c_99.symm | exact (show getP r.1 p 16 = 0 from by simpa using c_99).symm))
        all_goals rfl
      · skip
        refine r_lookup (off := 99) 113 dX8_pool_14 (by decide) (by decide) (by decide) ?_
        refine r_aload_n dX8_pool_113 rfl ?_
        refine q_getR fl_X8_143 hW (kd_po p1) rfl (kl_3_0 hW (kd_po p1)) (Nat.succ_ne_zero _) dX8_pool_114 ?_
        refine r_iload_n dX8_pool_117 rfl ?_
        refine q_callV1 (cv_X4_numbered ml_X8_147) hW (kk_3_0 (kd_po p1)) (by decide) rfl ⟨rfl, rfl⟩ rfl (Nat.le_of_ble_eq_true rfl) dX8_pool_118 (c_X4_numbered hW (kk_3_0 (kd_po p1)) ‹_› (by omega)) (fun v_118 h_118 q_118 => ?_)
        obtain ⟨rfl, z9⟩ := q_118
        replace z9 := z9.symm
        subst z9
        refine r_iret dX8_pool_121 rfl ⟨Nat.le_of_ble_eq_true rfl, Nat.le_of_ble_eq_true rfl⟩ ?_
        refine ⟨cd2_t ko kr9, ?_, rfl⟩
        skip
        unfold plA fP
        rw [ek]
        first
          | rfl
          | (rw [ex]; rfl)
          | (rw [ex, mbs_len]; exact some_int (hOp.at 23).1.symm)
          | (rw [ex]; exact some_int (f16_1 (hOp.at 16) c_99).symm)
          | (rw [ex]; exact some_int (by first | exact c_99.symm | exact (show getP r.1 p 16 = 0 from by simpa using c_99).symm))
        all_goals rfl
      · skip
        refine r_lookup (off := 99) 113 dX8_pool_14 (by decide) (by decide) (by decide) ?_
        refine r_aload_n dX8_pool_113 rfl ?_
        refine q_getR fl_X8_143 hW (kd_po p1) rfl (kl_3_0 hW (kd_po p1)) (Nat.succ_ne_zero _) dX8_pool_114 ?_
        refine r_iload_n dX8_pool_117 rfl ?_
        refine q_callV1 (cv_X4_numbered ml_X8_147) hW (kk_3_0 (kd_po p1)) (by decide) rfl ⟨rfl, rfl⟩ rfl (Nat.le_of_ble_eq_true rfl) dX8_pool_118 (c_X4_numbered hW (kk_3_0 (kd_po p1)) ‹_› (by omega)) (fun v_118 h_118 q_118 => ?_)
        obtain ⟨rfl, z9⟩ := q_118
        replace z9 := z9.symm
        subst z9
        refine r_iret dX8_pool_121 rfl ⟨Nat.le_of_ble_eq_true rfl, Nat.le_of_ble_eq_true rfl⟩ ?_
        refine ⟨cd2_t ko kr9, ?_, rfl⟩
        skip
        unfold plA fP
        rw [ek]
        first
          | rfl
          | (rw [ex]; rfl)
          | (rw [ex, mbs_len]; exact some_int (hOp.at 23).1.symm)
          | (rw [ex]; exact some_int (f16_1 (hOp.at 16) c_99).symm)
          | (rw [ex]; exact some_int (by first | exact c_99.symm | exact (show getP r.1 p 16 = 0 from by simpa using c_99).symm))
        all_goals rfl
      · skip
        refine r_lookup (off := 99) 113 dX8_pool_14 (by decide) (by decide) (by decide) ?_
        refine r_aload_n dX8_pool_113 rfl ?_
        refine q_getR fl_X8_143 hW (kd_po p1) rfl (kl_3_0 hW (kd_po p1)) (Nat.succ_ne_zero _) dX8_pool_114 ?_
        refine r_iload_n dX8_pool_117 rfl ?_
        refine q_callV1 (cv_X4_numbered ml_X8_147) hW (kk_3_0 (kd_po p1)) (by decide) rfl ⟨rfl, rfl⟩ rfl (Nat.le_of_ble_eq_true rfl) dX8_pool_118 (c_X4_numbered hW (kk_3_0 (kd_po p1)) ‹_› (by omega)) (fun v_118 h_118 q_118 => ?_)
        obtain ⟨rfl, z9⟩ := q_118
        replace z9 := z9.symm
        subst z9
        refine r_iret dX8_pool_121 rfl ⟨Nat.le_of_ble_eq_true rfl, Nat.le_of_ble_eq_true rfl⟩ ?_
        refine ⟨cd2_t ko kr9, ?_, rfl⟩
        skip
        unfold plA fP
        rw [ek]
        first
          | rfl
          | (rw [ex]; rfl)
          | (rw [ex, mbs_len]; exact some_int (hOp.at 23).1.symm)
          | (rw [ex]; exact some_int (f16_1 (hOp.at 16) c_99).symm)
          | (rw [ex]; exact some_int (by first | exact c_99.symm | exact (show getP r.1 p 16 = 0 from by simpa using c_99).symm))
        all_goals rfl
      · skip
        refine r_lookup (off := 99) 113 dX8_pool_14 (by decide) (by decide) (by decide) ?_
        refine r_aload_n dX8_pool_113 rfl ?_
        refine q_getR fl_X8_143 hW (kd_po p1) rfl (kl_3_0 hW (kd_po p1)) (Nat.succ_ne_zero _) dX8_pool_114 ?_
        refine r_iload_n dX8_pool_117 rfl ?_
        refine q_callV1 (cv_X4_numbered ml_X8_147) hW (kk_3_0 (kd_po p1)) (by decide) rfl ⟨rfl, rfl⟩ rfl (Nat.le_of_ble_eq_true rfl) dX8_pool_118 (c_X4_numbered hW (kk_3_0 (kd_po p1)) ‹_› (by omega)) (fun v_118 h_118 q_118 => ?_)
        obtain ⟨rfl, z9⟩ := q_118
        replace z9 := z9.symm
        subst z9
        refine r_iret dX8_pool_121 rfl ⟨Nat.le_of_ble_eq_true rfl, Nat.le_of_ble_eq_true rfl⟩ ?_
        refine ⟨cd2_t ko kr9, ?_, rfl⟩
        skip
        unfold plA fP
        rw [ek]
        first
          | rfl
          | (rw [ex]; rfl)
          | (rw [ex, mbs_len]; exact some_int (hOp.at 23).1.symm)
          | (rw [ex]; exact some_int (f16_1 (hOp.at 16) c_99).symm)
          | (rw [ex]; exact some_int (by first | exact c_99.symm | exact (show getP r.1 p 16 = 0 from by simpa using c_99).symm))
        all_goals rfl
      · skip
        refine r_lookup (off := 99) 113 dX8_pool_14 (by decide) (by decide) (by decide) ?_
        refine r_aload_n dX8_pool_113 rfl ?_
        refine q_getR fl_X8_143 hW (kd_po p1) rfl (kl_3_0 hW (kd_po p1)) (Nat.succ_ne_zero _) dX8_pool_114 ?_
        refine r_iload_n dX8_pool_117 rfl ?_
        refine q_callV1 (cv_X4_numbered ml_X8_147) hW (kk_3_0 (kd_po p1)) (by decide) rfl ⟨rfl, rfl⟩ rfl (Nat.le_of_ble_eq_true rfl) dX8_pool_118 (c_X4_numbered hW (kk_3_0 (kd_po p1)) ‹_› (by omega)) (fun v_118 h_118 q_118 => ?_)
        obtain ⟨rfl, z9⟩ := q_118
        replace z9 := z9.symm
        subst z9
        refine r_iret dX8_pool_121 rfl ⟨Nat.le_of_ble_eq_true rfl, Nat.le_of_ble_eq_true rfl⟩ ?_
        refine ⟨cd2_t ko kr9, ?_, rfl⟩
        skip
        unfold plA fP
        rw [ek]
        first
          | rfl
          | (rw [ex]; rfl)
          | (rw [ex, mbs_len]; exact some_int (hOp.at 23).1.symm)
          | (rw [ex]; exact some_int (f16_1 (hOp.at 16) c_99).symm)
          | (rw [ex]; exact some_int (by first | exact c_99.symm | exact (show getP r.1 p 16 = 0 from by simpa using c_99).symm))
        all_goals rfl
      · skip
        refine r_lookup (off := 81) 95 dX8_pool_14 (by decide) (by decide) (by decide) ?_
        refine r_aload_n dX8_pool_95 rfl ?_
        refine q_getI fl_X8_137 hW (kd_po p1) rfl dX8_pool_96 ?_
        rw [z16]
        refine r_if_eq 106 dX8_pool_99 (by decide) (fun c_99 => ?_) (fun c_99 => ?_)
        · refine r_iconst (0) dX8_pool_106 (by decide) ?_
          refine r_iret dX8_pool_107 rfl ⟨Nat.le_of_ble_eq_true rfl, Nat.le_of_ble_eq_true rfl⟩ ?_
          refine ⟨cd2_t ko kr9, ?_, rfl⟩
          skip
          unfold plA fP
          rw [ek]
          first
            | rfl
            | (rw [ex]; rfl)
            | (rw [ex, mbs_len]; exact some_int (hOp.at 23).1.symm)
            | (rw [ex]; exact some_int (f16_1 (hOp.at 16) c_99).symm)
            | (rw [ex]; exact some_int (by first | exact c_99.symm | exact (show getP r.1 p 16 = 0 from by simpa using c_99).symm))
          all_goals rfl
        · refine r_iconst (1) dX8_pool_102 (by decide) ?_
          refine r_goto 107 dX8_pool_103 (by decide) ?_
          refine r_iret dX8_pool_107 rfl ⟨Nat.le_of_ble_eq_true rfl, Nat.le_of_ble_eq_true rfl⟩ ?_
          refine ⟨cd2_t ko kr9, ?_, rfl⟩
          skip
          unfold plA fP
          rw [ek]
          first
            | rfl
            | (rw [ex]; rfl)
            | (rw [ex, mbs_len]; exact some_int (hOp.at 23).1.symm)
            | (rw [ex]; exact some_int (f16_1 (hOp.at 16) c_99).symm)
            | (rw [ex]; exact some_int (by first | exact c_99.symm | exact (show getP r.1 p 16 = 0 from by simpa using c_99).symm))
          all_goals rfl
      · skip
        refine r_lookup (off := 94) 108 dX8_pool_14 (by decide) (by decide) (by decide) ?_
        refine r_aload_n dX8_pool_108 rfl ?_
        refine q_getI fl_X8_140 hW (kd_po p1) rfl dX8_pool_109 ?_
        rw [z17]
        refine r_iret dX8_pool_112 rfl ⟨Nat.le_of_ble_eq_true rfl, Nat.le_of_ble_eq_true rfl⟩ ?_
        refine ⟨cd2_t ko kr9, ?_, rfl⟩
        skip
        unfold plA fP
        rw [ek]
        first
          | rfl
          | (rw [ex]; rfl)
          | (rw [ex, mbs_len]; exact some_int (hOp.at 23).1.symm)
          | (rw [ex]; exact some_int (f16_1 (hOp.at 16) c_99).symm)
          | (rw [ex]; exact some_int (by first | exact c_99.symm | exact (show getP r.1 p 16 = 0 from by simpa using c_99).symm))
        all_goals rfl
    · refine PX.out rfl ⟨Nat.le_of_ble_eq_true rfl, Nat.le_of_ble_eq_true rfl⟩ ?_
      obtain ⟨rfl, kx, rfl⟩ := q_10
      exact ⟨thr_22 ko (decide_eq_false kx), rfl⟩
  · refine PX.out rfl ⟨Nat.le_of_ble_eq_true rfl, Nat.le_of_ble_eq_true rfl⟩ ?_
    obtain ⟨rfl, kx, rfl⟩ := q_2
    exact ⟨thr_21 kx, rfl⟩

