-- what is printed of a pool
def gdO (f : Nat → Int32) (i : Nat) (o : Ob) : Ob := if decide (f (103 + 4 * i) = 1) = true then byO o 42 else o
def rdO (f : Nat → Int32) (t : Int32) (i : Nat) (o : Ob) : Ob := if decide (f (102 + 4 * i) ≤ t) = true then o else byO o 45
def mbO (f : Nat → Int32) (t : Int32) (i : Nat) (o : Ob) : Ob := byO (rdO f t i (gdO f i (wrO o (nn (f (100 + 4 * i)))))) 32
theorem gdO_t {f : Nat → Int32} {i : Nat} {o : Ob} (c : ¬ bI (decide (f (103 + 4 * i) = 1)) = 0) : byO o 42 = gdO f i o := (if_pos (bI_1.mp c)).symm
theorem gdO_f {f : Nat → Int32} {i : Nat} {o : Ob} (c : bI (decide (f (103 + 4 * i) = 1)) = 0) : o = gdO f i o := (if_neg (by rw [bI_0.mp c]; decide)).symm
theorem rdO_t {f : Nat → Int32} {t : Int32} {i : Nat} {o : Ob} (c : ¬ bI (decide (f (102 + 4 * i) ≤ t)) = 0) : o = rdO f t i o := (if_pos (bI_1.mp c)).symm
theorem rdO_f {f : Nat → Int32} {t : Int32} {i : Nat} {o : Ob} (c : bI (decide (f (102 + 4 * i) ≤ t)) = 0) : byO o 45 = rdO f t i o := (if_neg (by rw [bI_0.mp c]; decide)).symm
theorem gdO_l {f : Nat → Int32} {i : Nat} {o : Ob} : (gdO f i o).2 ≤ o.2 + 1 := by
  unfold gdO; split
  · exact Nat.le_refl _
  · exact Nat.le_succ _
theorem rdO_l {f : Nat → Int32} {t : Int32} {i : Nat} {o : Ob} : (rdO f t i o).2 ≤ o.2 + 1 := by
  unfold rdO; split
  · exact Nat.le_succ _
  · exact Nat.le_refl _
def mbsO (f : Nat → Int32) (t : Int32) : Nat → Ob
  | 0 => (fun _ => 0, 0)
  | n + 1 => mbO f t n (mbsO f t n)
def prO (f : Nat → Int32) (t : Int32) : Ob := wrO (byO (mbsO f t (nn (f 23))) 61) (nn (pwF f t))
/-- the members' numbers are small -/
def NmF (f : Nat → Int32) : Prop := ∀ k, k < nn (f 23) → rg (f (100 + 4 * k)) 0 (2 ^ 28 - 1)
theorem mbO_len {f : Nat → Int32} {t : Int32} {i : Nat} {o : Ob} (h : nn (f (100 + 4 * i)) < 2 ^ 28) : (mbO f t i o).2 ≤ o.2 + 12 := by
  have h8 := lg9_8 h
  have h1 : (wrO o (nn (f (100 + 4 * i)))).2 = o.2 + (lg9 (nn (f (100 + 4 * i))) + 1) := rfl
  have h2 := gdO_l (f := f) (i := i) (o := wrO o (nn (f (100 + 4 * i))))
  have h3 := rdO_l (f := f) (t := t) (i := i) (o := gdO f i (wrO o (nn (f (100 + 4 * i)))))
  show (rdO f t i (gdO f i (wrO o (nn (f (100 + 4 * i)))))).2 + 1 ≤ _
  omega
theorem mbsO_len {f : Nat → Int32} {t : Int32} (hN : NmF f) : ∀ n, n ≤ nn (f 23) → (mbsO f t n).2 ≤ 12 * n
  | 0, _ => Nat.le_refl _
  | n + 1, hn => by
    have i1 := mbsO_len (t := t) hN n (by omega)
    have := mbO_len (f := f) (t := t) (i := n) (o := mbsO f t n) (by have := (hN n (by omega)).2.2; omega)
    show (mbO f t n (mbsO f t n)).2 ≤ _
    omega
theorem pw_nn {f : Nat → Int32} {g : Nat → Int64} {c t' : Nat} {t : Int32} (hO : PoOK f g c t') : ∃ P, P ≤ 2000 ∧ pwF f t = nI P ∧ nn (pwF f t) = P := by
  obtain ⟨P, P1, P2, P3⟩ := (pwF_rg (x := t) hO).nat
  exact ⟨P, P2, P3, by rw [P3]; exact nn_I (by omega)⟩
set_option maxRecDepth 100000 in
set_option maxHeartbeats 4000000 in
theorem c_X8_printPool {l9 : Launch} {G : GC} {h : AH} {r : Row} {m : Nat} {x : Int32} (hW : World h) (hs : StR h 7 r.1 r.2) (hO : RoOK r.1 r.2 m) (hN : ∀ p, p < nn (r.1 0) → NmF (getP r.1 p)) : PM l9 G mX8_printPool NT NT [.ref 1, .int x] h (fun v h' => cd1 (okP r x) = 0 ∧ v = some (.int (nI (prO (fP r x) (r.1 1)).2)) ∧ eqx h h' OSc ∧ OC h' (prO (fP r x) (r.1 1))) (fun E h' => thr [eB] (cd1 (okP r x)) E ∧ h' = h) := by
  refine PM.of (by decide +kernel) rfl rfl (Nat.le_of_ble_eq_true rfl) (fun hst _ => ?_)
  refine r_aload_n dX8_printPool_0 rfl ?_
  refine r_iload_n dX8_printPool_1 rfl ?_
  refine q_callX1 (cv_X8_existingPool ml_X8_112) hW kc_1 (by decide) rfl rfl (Nat.le_of_ble_eq_true rfl) dX8_printPool_2 (c_X8_existingPool hW hs hO) (fun v_2 h_2 q_2 => ?_) (fun E_2 h_2 q_2 => ?_)
  · obtain ⟨z9, ko, p, p1, p2, rfl, rfl⟩ := q_2
    replace z9 := z9.symm
    subst z9
    have ex : nn (nI p) = p := nn_I (by omega)
    have hOp := hO.2 p p2
    have hpo : PoR h (14 + 12 * p) (nn (r.1 1)) (nn (r.1 1)) (getP r.1 p) (getG r.2 p) := hs.po p2
    have hpo9 := hpo
    obtain ⟨zs, zm, zt, ⟨zd, zc⟩, zf, z20, z18, z19, z17, z21, z22, z16⟩ := hpo
    have zd0 : DemR h (14 + 12 * p) (nn (r.1 1)) (getP r.1 p) := ⟨zd, zc⟩
    have yc := hOp.2.2.2.2.1.2.1
    have y23 : nn (getP r.1 p 23) ≤ 20 := (hOp.at 23).2.2
    have hNp := hN p p2
    obtain ⟨P, P2, P3, P4⟩ := pw_nn (t := r.1 1) hOp
    refine r_astore_n (ls2 := [_, some _, _, _, _]) dX8_printPool_5 (by decide) rfl ?_
    refine r_aload_n dX8_printPool_6 rfl ?_
    refine q_getR fl_X8_119 hW (kd_po p1) rfl (kl_3_1 hW (kd_po p1)) (Nat.succ_ne_zero _) dX8_printPool_7 ?_
    refine r_astore_n (ls2 := [_, _, some _, _, _]) dX8_printPool_10 (by decide) rfl ?_
    refine r_aload_n dX8_printPool_11 rfl ?_
    refine q_getR fl_X8_30 hW kc_1 rfl (kl_8_5 hW) (by decide) dX8_printPool_12 ?_
    refine r_iconst (0) dX8_printPool_15 (by decide) ?_
    refine q_putI fl_X8_371 hW kc_5 rfl rfl dX8_printPool_16 ?_
    refine r_iconst (0) dX8_printPool_19 (by decide) ?_
    refine r_istore (ls2 := [_, _, _, some _, _]) dX8_printPool_20 (by decide) rfl ?_
    refine loopN (P := fun i => ∀ H : AH, i ≤ nn (getP r.1 p 23) → World H → eqx h H OSc → OC H (mbsO (getP r.1 p) (r.1 1) i) → PW l9 G mX8_printPool _ _ NT 22 [some (.ref 1), some (.int (nI p)), some (.ref (14 + 12 * p)), some (.ref (14 + 12 * p + 3)), some (.int (nI i))] [] _ H) (nn (getP r.1 p 23)) (fun i ih H hi hW he ho => ?_) 0 (sI h 5 1 0) (Nat.zero_le _) (wsI hW) (eqx.rf.sI (Or.inl rfl)) ⟨sI_s, Nat.zero_le _, fun i hi => absurd hi (Nat.not_lt_zero _)⟩
    have zmH : MemR H (14 + 12 * p + 3) (mbs (getP r.1 p)) := zm.eqx he (fun j h1 h2 => by unfold OSc; omega)
    have zsH : SetR H (14 + 12 * p + 1) (getP r.1 p) (lds (getP r.1 p)) := zs.eqx he (by unfold OSc; omega) (by unfold OSc; omega)
    have hml := mbsO_len (t := r.1 1) hNp i hi
    have tH : aI H 7 2 = r.1 1 := by rw [he.I (by unfold OSc; omega)]; exact hs.2.1
    refine r_iload dX8_printPool_22 rfl ?_
    refine r_aload_n dX8_printPool_24 rfl ?_
    refine q_getI fl_X8_125 hW (kk_3_1 (kd_po p1)) rfl dX8_printPool_25 ?_
    rw [zmH.1, mbs_len]
    refine r_icmp_ge 104 dX8_printPool_28 (by decide) (fun c_28 => ?_) (fun c_28 => ?_)
    · have hge : nn (getP r.1 p 23) = i := by have := (nI_leI (by omega) (by omega)).mp c_28; omega
      have heH := he
      replace he : eqx H H OSc := eqx.rf
      have ho1 := ho
      have hb1 : (byO (mbsO (getP r.1 p) (r.1 1) i) 61).2 = (mbsO (getP r.1 p) (r.1 1) i).2 + 1 := rfl
      have hlP : lg9 P ≤ 8 := lg9_8 (by omega)
      refine r_aload_n dX8_printPool_104 rfl ?_
      refine q_getR fl_X8_30 hW kc_1 rfl (kl_8_5 hW) (by decide) dX8_printPool_105 ?_
      refine r_bipush (61) dX8_printPool_108 (by decide) ?_
      refine q_callV1 (cv_X2_addByte ml_X8_377) hW kc_5 (by decide) rfl ⟨rfl, rfl⟩ rfl (Nat.le_of_ble_eq_true rfl) dX8_printPool_110 (c_X2_addByteO hW ho1 (by omega) (by decide)) (fun v_110 h_110 q_110 => ?_)
      obtain ⟨rfl, eB, ho1⟩ := q_110
      have he := he.tr eB
      have hW := eB.W hW
      refine r_aload_n dX8_printPool_113 rfl ?_
      refine q_getR fl_X8_30 hW kc_1 rfl (kl_8_5 hW) (by decide) dX8_printPool_114 ?_
      refine r_aload_n dX8_printPool_117 rfl ?_
      refine r_aload_n dX8_printPool_118 rfl ?_
      refine q_getR fl_X8_37 hW kc_1 rfl (kl_8_6 hW) (by decide) dX8_printPool_119 ?_
      refine q_getI fl_X8_86 hW kc_7 rfl dX8_printPool_122 ?_
      rw [show aI _ 7 2 = r.1 1 from (congrFun (he.I (by unfold OSc; omega)) 2).trans tH]
      refine q_callV1 (cv_X3_powerAt ml_X8_273) hW (kd_po p1) (by decide) rfl ⟨rfl, rfl⟩ rfl (Nat.le_of_ble_eq_true rfl) dX8_printPool_125 (c_X3_powerAt hW (kd_po p1) (zsH.eqx he (by unfold OSc; omega) (by unfold OSc; omega)) (zmH.eqx he (fun j h1 h2 => by unfold OSc; omega))) (fun v_125 h_125 q_125 => ?_)
      obtain ⟨rfl, z9⟩ := q_125
      replace z9 := z9.symm
      subst z9
      change PW _ _ _ _ _ _ _ _ (.int (pwF (getP r.1 p) (r.1 1)) :: _) _ _
      refine q_callV1 (cv_X2_addNumber ml_X8_374) hW kc_5 (by decide) rfl ⟨rfl, rfl⟩ rfl (Nat.le_of_ble_eq_true rfl) dX8_printPool_128 (c_X2_addNumber hW ho1 (v9 := P) (by omega) P3 (by omega)) (fun v_128 h_128 q_128 => ?_)
      obtain ⟨rfl, eB, ho1⟩ := q_128
      have he := he.tr eB
      have hW := eB.W hW
      refine r_aload_n dX8_printPool_131 rfl ?_
      refine q_getR fl_X8_30 hW kc_1 rfl (kl_8_5 hW) (by decide) dX8_printPool_132 ?_
      refine q_getI fl_X8_371 hW kc_5 rfl dX8_printPool_135 ?_
      rw [show aI _ 5 1 = nI (prO (getP r.1 p) (r.1 1)).2 from by have z := ho1.1; unfold prO; rw [hge, P4]; exact z]
      refine r_iret dX8_printPool_138 rfl ⟨Nat.le_of_ble_eq_true rfl, Nat.le_of_ble_eq_true rfl⟩ ?_
      refine ⟨cd1_t ko, ?_, heH.tr he, ?_⟩
      · unfold fP; rw [ex]
      · unfold fP; rw [ex]
        unfold prO
        rw [hge, P4]
        exact ho1
    · have hlt : i < nn (getP r.1 p 23) := (nI_ltI (by omega) (by omega)).mp (i_lt.mp c_28)
      have hil : i < (mbs (getP r.1 p)).length := by rw [mbs_len]; exact hlt
      obtain ⟨m1, m2, m3, m4⟩ := zmH.2.2 i hil
      rw [mbs_num hlt] at m1
      rw [mbs_prt hlt] at m4
      have hnb := hNp i hlt
      have hnb2 := hnb.2.2
      have h8 := lg9_8 (v := nn (getP r.1 p (100 + 4 * i))) (by omega)
      have heH := he
      replace he : eqx H H OSc := eqx.rf
      refine r_aload_n dX8_printPool_31 rfl ?_
      refine q_getR fl_X8_30 hW kc_1 rfl (kl_8_5 hW) (by decide) dX8_printPool_32 ?_
      refine r_aload_n dX8_printPool_35 rfl ?_
      refine q_getR fl_X8_185 hW (kk_3_1 (kd_po p1)) rfl (kl_1_0 hW (kk_3_1 (kd_po p1))) (Nat.succ_ne_zero _) dX8_printPool_36 ?_
      refine r_iload dX8_printPool_39 rfl ?_
      refine q_iald hW (kk_1_0 (kk_3_1 (kd_po p1))) (k := i) rfl (by omega) (by decide) dX8_printPool_41 ?_
      rw [show aI H (14 + 12 * p + 3 + 1) i = getP r.1 p (100 + 4 * i) from m1]
      refine q_callV1 (cv_X2_addNumber ml_X8_374) hW kc_5 (by decide) rfl ⟨rfl, rfl⟩ rfl (Nat.le_of_ble_eq_true rfl) dX8_printPool_42 (c_X2_addNumber hW ho (v9 := nn (getP r.1 p (100 + 4 * i))) (by omega) hnb.1 (by omega)) (fun v_42 h_42 q_42 => ?_)
      obtain ⟨rfl, eB, ho1⟩ := q_42
      have he := he.tr eB
      have hW := eB.W hW
      have l1 : (wrO (mbsO (getP r.1 p) (r.1 1) i) (nn (getP r.1 p (100 + 4 * i)))).2 ≤ 12 * i + 9 := by
        show (mbsO (getP r.1 p) (r.1 1) i).2 + (lg9 (nn (getP r.1 p (100 + 4 * i))) + 1) ≤ _
        omega
      refine r_aload_n dX8_printPool_45 rfl ?_
      refine q_getR fl_X8_179 hW (kk_3_1 (kd_po p1)) rfl (kl_1_3 hW (kk_3_1 (kd_po p1))) (Nat.succ_ne_zero _) dX8_printPool_46 ?_
      refine r_iload dX8_printPool_49 rfl ?_
      refine q_zald hW (kk_1_3 (kk_3_1 (kd_po p1))) (k := i) rfl (by omega) (by decide) dX8_printPool_51 ?_
      rw [show aI h_42 (14 + 12 * p + 3 + 4) i = bI (decide (getP r.1 p (103 + 4 * i) = 1)) from by rw [he.I (by unfold OSc; omega)]; exact m4]
      refine r_if_eq 64 dX8_printPool_52 (by decide) (fun c_52 => ?_) (fun c_52 => ?_)
      · have l2 := gdO_l (f := getP r.1 p) (i := i) (o := wrO (mbsO (getP r.1 p) (r.1 1) i) (nn (getP r.1 p (100 + 4 * i))))
        first
          | rw [gdO_t (f := getP r.1 p) (i := i) c_52] at ho1
          | rw [gdO_f (f := getP r.1 p) (i := i) (o := wrO (mbsO (getP r.1 p) (r.1 1) i) (nn (getP r.1 p (100 + 4 * i)))) c_52] at ho1
        refine r_aload_n dX8_printPool_64 rfl ?_
        refine r_iload dX8_printPool_65 rfl ?_
        refine r_aload_n dX8_printPool_67 rfl ?_
        refine q_getR fl_X8_37 hW kc_1 rfl (kl_8_6 hW) (by decide) dX8_printPool_68 ?_
        refine q_getI fl_X8_86 hW kc_7 rfl dX8_printPool_71 ?_
        rw [show aI _ 7 2 = r.1 1 from (congrFun (he.I (by unfold OSc; omega)) 2).trans tH]
        refine q_callV2 (cv_X1_isReady ml_X8_175) hW (kk_3_1 (kd_po p1)) (by decide) rfl ⟨rfl, rfl⟩ rfl (Nat.le_of_ble_eq_true rfl) dX8_printPool_74 (c_X1_isReadyL hW (kk_3_1 (kd_po p1)) (zmH.eqx he (fun j h1 h2 => by unfold OSc; omega)) hil) (fun v_74 h_74 q_74 => ?_)
        obtain ⟨rfl, z9⟩ := q_74
        replace z9 := z9.symm
        subst z9
        rw [mbs_rdy hlt]
        refine r_if_ne 89 dX8_printPool_77 (by decide) (fun c_77 => ?_) (fun c_77 => ?_)
        · have l3 := rdO_l (f := getP r.1 p) (t := r.1 1) (i := i) (o := gdO (getP r.1 p) i (wrO (mbsO (getP r.1 p) (r.1 1) i) (nn (getP r.1 p (100 + 4 * i)))))
          first
            | rw [rdO_f (f := getP r.1 p) (t := r.1 1) (i := i) c_77] at ho1
            | rw [rdO_t (f := getP r.1 p) (t := r.1 1) (i := i) (o := gdO (getP r.1 p) i (wrO (mbsO (getP r.1 p) (r.1 1) i) (nn (getP r.1 p (100 + 4 * i))))) c_77] at ho1
          refine r_aload_n dX8_printPool_89 rfl ?_
          refine q_getR fl_X8_30 hW kc_1 rfl (kl_8_5 hW) (by decide) dX8_printPool_90 ?_
          refine r_bipush (32) dX8_printPool_93 (by decide) ?_
          refine q_callV1 (cv_X2_addByte ml_X8_377) hW kc_5 (by decide) rfl ⟨rfl, rfl⟩ rfl (Nat.le_of_ble_eq_true rfl) dX8_printPool_95 (c_X2_addByteO hW ho1 (by omega) (by decide)) (fun v_95 h_95 q_95 => ?_)
          obtain ⟨rfl, eB, ho1⟩ := q_95
          have he := he.tr eB
          have hW := eB.W hW
          refine r_iinc (1) (by decide) (ls2 := [_, _, _, some _, _]) dX8_printPool_98 rfl (by decide) rfl ?_
          refine r_goto 22 dX8_printPool_101 (by decide) ?_
          have hth := ih hlt
          rw [nI_1]
          exact hth _ hlt hW (heH.tr he) ho1
        · refine r_aload_n dX8_printPool_80 rfl ?_
          refine q_getR fl_X8_30 hW kc_1 rfl (kl_8_5 hW) (by decide) dX8_printPool_81 ?_
          refine r_bipush (45) dX8_printPool_84 (by decide) ?_
          refine q_callV1 (cv_X2_addByte ml_X8_377) hW kc_5 (by decide) rfl ⟨rfl, rfl⟩ rfl (Nat.le_of_ble_eq_true rfl) dX8_printPool_86 (c_X2_addByteO hW ho1 (by omega) (by decide)) (fun v_86 h_86 q_86 => ?_)
          obtain ⟨rfl, eB, ho1⟩ := q_86
          have he := he.tr eB
          have hW := eB.W hW
          have l3 := rdO_l (f := getP r.1 p) (t := r.1 1) (i := i) (o := gdO (getP r.1 p) i (wrO (mbsO (getP r.1 p) (r.1 1) i) (nn (getP r.1 p (100 + 4 * i)))))
          first
            | rw [rdO_f (f := getP r.1 p) (t := r.1 1) (i := i) c_77] at ho1
            | rw [rdO_t (f := getP r.1 p) (t := r.1 1) (i := i) (o := gdO (getP r.1 p) i (wrO (mbsO (getP r.1 p) (r.1 1) i) (nn (getP r.1 p (100 + 4 * i))))) c_77] at ho1
          refine r_aload_n dX8_printPool_89 rfl ?_
          refine q_getR fl_X8_30 hW kc_1 rfl (kl_8_5 hW) (by decide) dX8_printPool_90 ?_
          refine r_bipush (32) dX8_printPool_93 (by decide) ?_
          refine q_callV1 (cv_X2_addByte ml_X8_377) hW kc_5 (by decide) rfl ⟨rfl, rfl⟩ rfl (Nat.le_of_ble_eq_true rfl) dX8_printPool_95 (c_X2_addByteO hW ho1 (by omega) (by decide)) (fun v_95 h_95 q_95 => ?_)
          obtain ⟨rfl, eB, ho1⟩ := q_95
          have he := he.tr eB
          have hW := eB.W hW
          refine r_iinc (1) (by decide) (ls2 := [_, _, _, some _, _]) dX8_printPool_98 rfl (by decide) rfl ?_
          refine r_goto 22 dX8_printPool_101 (by decide) ?_
          have hth := ih hlt
          rw [nI_1]
          exact hth _ hlt hW (heH.tr he) ho1
      · refine r_aload_n dX8_printPool_55 rfl ?_
        refine q_getR fl_X8_30 hW kc_1 rfl (kl_8_5 hW) (by decide) dX8_printPool_56 ?_
        refine r_bipush (42) dX8_printPool_59 (by decide) ?_
        refine q_callV1 (cv_X2_addByte ml_X8_377) hW kc_5 (by decide) rfl ⟨rfl, rfl⟩ rfl (Nat.le_of_ble_eq_true rfl) dX8_printPool_61 (c_X2_addByteO hW ho1 (by omega) (by decide)) (fun v_61 h_61 q_61 => ?_)
        obtain ⟨rfl, eB, ho1⟩ := q_61
        have he := he.tr eB
        have hW := eB.W hW
        have l2 := gdO_l (f := getP r.1 p) (i := i) (o := wrO (mbsO (getP r.1 p) (r.1 1) i) (nn (getP r.1 p (100 + 4 * i))))
        first
          | rw [gdO_t (f := getP r.1 p) (i := i) c_52] at ho1
          | rw [gdO_f (f := getP r.1 p) (i := i) (o := wrO (mbsO (getP r.1 p) (r.1 1) i) (nn (getP r.1 p (100 + 4 * i)))) c_52] at ho1
        refine r_aload_n dX8_printPool_64 rfl ?_
        refine r_iload dX8_printPool_65 rfl ?_
        refine r_aload_n dX8_printPool_67 rfl ?_
        refine q_getR fl_X8_37 hW kc_1 rfl (kl_8_6 hW) (by decide) dX8_printPool_68 ?_
        refine q_getI fl_X8_86 hW kc_7 rfl dX8_printPool_71 ?_
        rw [show aI _ 7 2 = r.1 1 from (congrFun (he.I (by unfold OSc; omega)) 2).trans tH]
        refine q_callV2 (cv_X1_isReady ml_X8_175) hW (kk_3_1 (kd_po p1)) (by decide) rfl ⟨rfl, rfl⟩ rfl (Nat.le_of_ble_eq_true rfl) dX8_printPool_74 (c_X1_isReadyL hW (kk_3_1 (kd_po p1)) (zmH.eqx he (fun j h1 h2 => by unfold OSc; omega)) hil) (fun v_74 h_74 q_74 => ?_)
        obtain ⟨rfl, z9⟩ := q_74
        replace z9 := z9.symm
        subst z9
        rw [mbs_rdy hlt]
        refine r_if_ne 89 dX8_printPool_77 (by decide) (fun c_77 => ?_) (fun c_77 => ?_)
        · have l3 := rdO_l (f := getP r.1 p) (t := r.1 1) (i := i) (o := gdO (getP r.1 p) i (wrO (mbsO (getP r.1 p) (r.1 1) i) (nn (getP r.1 p (100 + 4 * i)))))
          first
            | rw [rdO_f (f := getP r.1 p) (t := r.1 1) (i := i) c_77] at ho1
            | rw [rdO_t (f := getP r.1 p) (t := r.1 1) (i := i) (o := gdO (getP r.1 p) i (wrO (mbsO (getP r.1 p) (r.1 1) i) (nn (getP r.1 p (100 + 4 * i))))) c_77] at ho1
          refine r_aload_n dX8_printPool_89 rfl ?_
          refine q_getR fl_X8_30 hW kc_1 rfl (kl_8_5 hW) (by decide) dX8_printPool_90 ?_
          refine r_bipush (32) dX8_printPool_93 (by decide) ?_
          refine q_callV1 (cv_X2_addByte ml_X8_377) hW kc_5 (by decide) rfl ⟨rfl, rfl⟩ rfl (Nat.le_of_ble_eq_true rfl) dX8_printPool_95 (c_X2_addByteO hW ho1 (by omega) (by decide)) (fun v_95 h_95 q_95 => ?_)
          obtain ⟨rfl, eB, ho1⟩ := q_95
          have he := he.tr eB
          have hW := eB.W hW
          refine r_iinc (1) (by decide) (ls2 := [_, _, _, some _, _]) dX8_printPool_98 rfl (by decide) rfl ?_
          refine r_goto 22 dX8_printPool_101 (by decide) ?_
          have hth := ih hlt
          rw [nI_1]
          exact hth _ hlt hW (heH.tr he) ho1
        · refine r_aload_n dX8_printPool_80 rfl ?_
          refine q_getR fl_X8_30 hW kc_1 rfl (kl_8_5 hW) (by decide) dX8_printPool_81 ?_
          refine r_bipush (45) dX8_printPool_84 (by decide) ?_
          refine q_callV1 (cv_X2_addByte ml_X8_377) hW kc_5 (by decide) rfl ⟨rfl, rfl⟩ rfl (Nat.le_of_ble_eq_true rfl) dX8_printPool_86 (c_X2_addByteO hW ho1 (by omega) (by decide)) (fun v_86 h_86 q_86 => ?_)
          obtain ⟨rfl, eB, ho1⟩ := q_86
          have he := he.tr eB
          have hW := eB.W hW
          have l3 := rdO_l (f := getP r.1 p) (t := r.1 1) (i := i) (o := gdO (getP r.1 p) i (wrO (mbsO (getP r.1 p) (r.1 1) i) (nn (getP r.1 p (100 + 4 * i)))))
          first
            | rw [rdO_f (f := getP r.1 p) (t := r.1 1) (i := i) c_77] at ho1
            | rw [rdO_t (f := getP r.1 p) (t := r.1 1) (i := i) (o := gdO (getP r.1 p) i (wrO (mbsO (getP r.1 p) (r.1 1) i) (nn (getP r.1 p (100 + 4 * i))))) c_77] at ho1
          refine r_aload_n dX8_printPool_89 rfl ?_
          refine q_getR fl_X8_30 hW kc_1 rfl (kl_8_5 hW) (by decide) dX8_printPool_90 ?_
          refine r_bipush (32) dX8_printPool_93 (by decide) ?_
          refine q_callV1 (cv_X2_addByte ml_X8_377) hW kc_5 (by decide) rfl ⟨rfl, rfl⟩ rfl (Nat.le_of_ble_eq_true rfl) dX8_printPool_95 (c_X2_addByteO hW ho1 (by omega) (by decide)) (fun v_95 h_95 q_95 => ?_)
          obtain ⟨rfl, eB, ho1⟩ := q_95
          have he := he.tr eB
          have hW := eB.W hW
          refine r_iinc (1) (by decide) (ls2 := [_, _, _, some _, _]) dX8_printPool_98 rfl (by decide) rfl ?_
          refine r_goto 22 dX8_printPool_101 (by decide) ?_
          have hth := ih hlt
          rw [nI_1]
          exact hth _ hlt hW (heH.tr he) ho1
  · refine PX.out rfl ⟨Nat.le_of_ble_eq_true rfl, Nat.le_of_ble_eq_true rfl⟩ ?_
    obtain ⟨rfl, kx, rfl⟩ := q_2
    exact ⟨thr_1 kx, rfl⟩
