-- the reference: what is printed of a pool
theorem PV.os {h h' : AH} {w : Nat → Int32} {v : Nat → Int64} {p : Nat} {f : Nat → Int32} {g : Nat → Int64} (hm : PV h w v p f g) (e : eqx h h' OSr) : PV h' w v p f g := MW.cgH hm e (by unfold OSr; omega) (by unfold OSr; omega)
set_option maxRecDepth 100000 in
set_option maxHeartbeats 4000000 in
theorem c_X9_printPool {l9 : Launch} {G : GC} {h : AH} {r : Row} {m : Nat} {x : Int32} (hW : World h) (hm : MW h r) (hO : RoOK r.1 r.2 m) (hm28 : m < 2 ^ 28) (hN : ∀ p, p < nn (r.1 0) → NmF (getP r.1 p)) : PM l9 G mX9_printPool NT NT [.ref 723, .int x] h (fun v h' => (cd1 (okP r x) ≠ 0 → RQ h h' (cd1 (okP r x))) ∧ (cd1 (okP r x) = 0 → v = some (.int (nI (prO (fP r x) (r.1 1)).2)) ∧ eqx h h' OSr ∧ (∀ k, k ≠ 29 → k ≠ 12 → aI h' 723 k = aI h 723 k) ∧ aI h' 723 12 = 0 ∧ OR h' (prO (fP r x) (r.1 1)))) noX := by
  refine PM.of (by decide +kernel) rfl rfl (Nat.le_of_ble_eq_true rfl) (fun hst _ => ?_)
  refine r_aload_n dX9_printPool_0 rfl ?_
  refine r_iload_n dX9_printPool_1 rfl ?_
  refine q_callV1 (cv_X9_noPool ml_X9_309) hW kc_723 (by decide) rfl ⟨rfl, rfl⟩ rfl (Nat.le_of_ble_eq_true rfl) dX9_printPool_2 (c_X9_noPool hW hm hO) (fun v_2 h_2 q_2 => ?_)
  obtain ⟨rfl, z9⟩ := q_2
  subst z9
  have hW : World (sI h 723 12 (nI (cd1 (okP r x)))) := wsI hW
  replace hm := hm.s9 (k := 12) (x := nI (cd1 (okP r x)))
  refine r_if_eq 10 dX9_printPool_5 (by decide) (fun c_5 => ?_) (fun c_5 => ?_)
  · have ko : okP r x = true := bn0 c_5
    obtain ⟨p, hp, pn, hx⟩ := okP_t hO ko
    have ex : nn x = p := by rw [hx]; exact nn_I (by omega)
    have hOp := hO.2 p pn
    have y23 : nn (getP r.1 p 23) ≤ 20 := (hOp.at 23).2.2
    have y24 : nn (getP r.1 p 24) ≤ 24 := (hOp.at 24).2.2
    have hNp := hN p pn
    obtain ⟨P, P2, P3, P4⟩ := pw_nn (t := r.1 1) hOp
    have h23 := (hOp.at 23).1
    refine r_aload_n dX9_printPool_10 rfl ?_
    refine r_iconst (0) dX9_printPool_11 (by decide) ?_
    refine q_putM fl_X9_379 hW hm rfl rfl dX9_printPool_12 (fun hm => ?_)
    replace hm := hm.pv p
    replace hO := hOp
    refine r_iconst (0) dX9_printPool_15 (by decide) ?_
    refine r_istore_n (ls2 := [_, some _, _]) dX9_printPool_16 (by decide) rfl ?_
    refine loopN (P := fun i => ∀ H : AH, i ≤ nn (getP r.1 p 23) → World H → eqx (sI (sI h 723 12 (nI (cd1 (okP r x)))) 723 29 0) H OSr → PV H r.1 r.2 p (getP r.1 p) (getG r.2 p) → (∀ k, k ≠ 29 → aI H 723 k = aI (sI (sI h 723 12 (nI (cd1 (okP r x)))) 723 29 0) 723 k) → OR H (mbsO (getP r.1 p) (r.1 1) i) → PW l9 G mX9_printPool _ _ NT 17 [some (.ref 723), some (.int x), some (.int (nI i))] [] _ H) (nn (getP r.1 p 23)) (fun i ih H hi hW he hm hfr ho => ?_) 0 (sI (sI h 723 12 (nI (cd1 (okP r x)))) 723 29 0) (Nat.zero_le _) (wsI (wsI hW)) eqx.rf hm (fun _ _ => rfl) ⟨sI_s, Nat.zero_le _, fun i hi => absurd hi (Nat.not_lt_zero _)⟩
    have hml := mbsO_len (t := r.1 1) hNp i hi
    refine r_iload_n dX9_printPool_17 rfl ?_
    refine r_aload_n dX9_printPool_18 rfl ?_
    refine r_iload_n dX9_printPool_19 rfl ?_
    refine r_bipush (23) dX9_printPool_20 (by decide) ?_
    refine q_callV2 (cv_X9_of ml_X9_81) hW kc_723 (by decide) rfl ⟨rfl, rfl⟩ rfl (Nat.le_of_ble_eq_true rfl) dX9_printPool_22 (c_X9_of hW hm hp hx kn_23 (by omega)) (fun v_22 h_22 q_22 => ?_)
    obtain ⟨rfl, z9⟩ := q_22
    replace z9 := z9.symm
    subst z9
    rw [h23]
    refine r_icmp_ge 85 dX9_printPool_25 (by decide) (fun c_25 => ?_) (fun c_25 => ?_)
    · have hge : nn (getP r.1 p 23) = i := by have := (nI_leI (by omega) (by omega)).mp c_25; omega
      have ho1 := ho
      have hb1 : (byO (mbsO (getP r.1 p) (r.1 1) i) 61).2 = (mbsO (getP r.1 p) (r.1 1) i).2 + 1 := rfl
      have hlP : lg9 P ≤ 8 := lg9_8 (by omega)
      refine r_aload_n dX9_printPool_85 rfl ?_
      refine r_bipush (61) dX9_printPool_86 (by decide) ?_
      refine q_callV1 (cv_X9_write ml_X9_382) hW kc_723 (by decide) rfl ⟨rfl, rfl⟩ rfl (Nat.le_of_ble_eq_true rfl) dX9_printPool_88 (c_X9_write hW ho1 (by omega)) (fun v_88 h_88 q_88 => ?_)
      obtain ⟨rfl, eB, fB, ho1⟩ := q_88
      have hW := eB.W hW
      have he := he.tr eB
      replace hm := hm.os eB
      have hfr := fun k hk => (fB k hk).trans (hfr k hk)
      refine r_aload_n dX9_printPool_91 rfl ?_
      refine r_aload_n dX9_printPool_92 rfl ?_
      refine r_iload_n dX9_printPool_93 rfl ?_
      refine q_callV1 (cv_X9_power ml_X9_129) hW kc_723 (by decide) rfl ⟨rfl, rfl⟩ rfl (Nat.le_of_ble_eq_true rfl) dX9_printPool_94 (c_X9_power hW hm hp hO hx) (fun v_94 h_94 q_94 => ?_)
      obtain ⟨rfl, z9⟩ := q_94
      replace z9 := z9.symm
      subst z9
      refine q_callV1 (cv_X9_writeNumber ml_X9_385) hW kc_723 (by decide) rfl ⟨rfl, rfl⟩ rfl (Nat.le_of_ble_eq_true rfl) dX9_printPool_97 (c_X9_writeNumber hW ho1 (v9 := P) (by omega) P3 (by omega)) (fun v_97 h_97 q_97 => ?_)
      obtain ⟨rfl, eB, fB, ho1⟩ := q_97
      have hW := eB.W hW
      have he := he.tr eB
      replace hm := hm.os eB
      have hfr := fun k hk => (fB k hk).trans (hfr k hk)
      refine r_aload_n dX9_printPool_100 rfl ?_
      refine q_getI fl_X9_379 hW kc_723 rfl dX9_printPool_101 ?_
      rw [show aI _ 723 29 = nI (prO (getP r.1 p) (r.1 1)).2 from by have z := ho1.1; unfold prO; rw [hge, P4]; exact z]
      refine r_iret dX9_printPool_104 rfl ⟨Nat.zero_le _, Nat.zero_le _⟩ ?_
      refine ⟨fun q => absurd (cd1_t ko) q, fun _ => ⟨?_, ?_, fun k k1 k2 => ?_, ?_, ?_⟩⟩
      · unfold fP; rw [ex]
      · exact ((eqx.rf.sI (S := OSr) (Or.inl rfl)).sI (Or.inl rfl)).tr he
      · rw [hfr k k1, sI_k k1, sI_k k2]
      · rw [hfr 12 (by decide), sI_k (by decide), sI_s, ko]; rfl
      · unfold fP; rw [ex]
        unfold prO
        rw [hge, P4]
        exact ho1
    · have hlt : i < nn (getP r.1 p 23) := (nI_ltI (by omega) (by omega)).mp (i_lt.mp c_25)
      have hnb := hNp i hlt
      have hnb2 := hnb.2.2
      have h8 := lg9_8 (v := (nn (getP r.1 p (100 + 4 * i)))) (by omega)
      refine r_aload_n dX9_printPool_28 rfl ?_
      refine r_aload_n dX9_printPool_29 rfl ?_
      refine r_iload_n dX9_printPool_30 rfl ?_
      refine r_bipush (100) dX9_printPool_31 (by decide) ?_
      refine r_iconst (4) dX9_printPool_33 (by decide) ?_
      refine r_iload_n dX9_printPool_34 rfl ?_
      refine r_imul dX9_printPool_35 ?_
      refine r_iadd dX9_printPool_36 ?_
      refine q_callV2 (cv_X9_of ml_X9_81) hW kc_723 (by decide) rfl ⟨rfl, rfl⟩ rfl (Nat.le_of_ble_eq_true rfl) dX9_printPool_37 (c_X9_of hW hm hp hx (nadd kn_100 (nmul kn_4 rfl)) (by omega)) (fun v_37 h_37 q_37 => ?_)
      obtain ⟨rfl, z9⟩ := q_37
      replace z9 := z9.symm
      subst z9
      refine q_callV1 (cv_X9_writeNumber ml_X9_385) hW kc_723 (by decide) rfl ⟨rfl, rfl⟩ rfl (Nat.le_of_ble_eq_true rfl) dX9_printPool_40 (c_X9_writeNumber hW ho (v9 := (nn (getP r.1 p (100 + 4 * i)))) (by omega) hnb.1 (by omega)) (fun v_40 h_40 q_40 => ?_)
      obtain ⟨rfl, eB, fB, ho1⟩ := q_40
      have hW := eB.W hW
      have he := he.tr eB
      replace hm := hm.os eB
      have hfr := fun k hk => (fB k hk).trans (hfr k hk)
      have l1 : (wrO (mbsO (getP r.1 p) (r.1 1) i) (nn (getP r.1 p (100 + 4 * i)))).2 ≤ 12 * i + 9 := by
        show (mbsO (getP r.1 p) (r.1 1) i).2 + (lg9 (nn (getP r.1 p (100 + 4 * i))) + 1) ≤ _
        omega
      refine r_aload_n dX9_printPool_43 rfl ?_
      refine r_iload_n dX9_printPool_44 rfl ?_
      refine r_iload_n dX9_printPool_45 rfl ?_
      refine q_callV2 (cv_X9_isGuarded ml_X9_95) hW kc_723 (by decide) rfl ⟨rfl, rfl⟩ rfl (Nat.le_of_ble_eq_true rfl) dX9_printPool_46 (c_X9_isGuarded hW hm hp hx rfl (by omega)) (fun v_46 h_46 q_46 => ?_)
      obtain ⟨rfl, z9⟩ := q_46
      replace z9 := z9.symm
      subst z9
      refine r_if_eq 58 dX9_printPool_49 (by decide) (fun c_49 => ?_) (fun c_49 => ?_)
      · have l2 := gdO_l (f := getP r.1 p) (i := i) (o := (wrO (mbsO (getP r.1 p) (r.1 1) i) (nn (getP r.1 p (100 + 4 * i)))))
        first
          | rw [gdO_t (f := getP r.1 p) (i := i) c_49] at ho1
          | rw [gdO_f (f := getP r.1 p) (i := i) (o := (wrO (mbsO (getP r.1 p) (r.1 1) i) (nn (getP r.1 p (100 + 4 * i))))) c_49] at ho1
        refine r_aload_n dX9_printPool_58 rfl ?_
        refine r_iload_n dX9_printPool_59 rfl ?_
        refine r_iload_n dX9_printPool_60 rfl ?_
        refine q_callV2 (cv_X9_isReady ml_X9_91) hW kc_723 (by decide) rfl ⟨rfl, rfl⟩ rfl (Nat.le_of_ble_eq_true rfl) dX9_printPool_61 (c_X9_isReady hW hm hp hx rfl (by omega)) (fun v_61 h_61 q_61 => ?_)
        obtain ⟨rfl, z9⟩ := q_61
        replace z9 := z9.symm
        subst z9
        refine r_if_ne 73 dX9_printPool_64 (by decide) (fun c_64 => ?_) (fun c_64 => ?_)
        · have l3 := rdO_l (f := getP r.1 p) (t := r.1 1) (i := i) (o := gdO (getP r.1 p) i (wrO (mbsO (getP r.1 p) (r.1 1) i) (nn (getP r.1 p (100 + 4 * i)))))
          first
            | rw [rdO_f (f := getP r.1 p) (t := r.1 1) (i := i) c_64] at ho1
            | rw [rdO_t (f := getP r.1 p) (t := r.1 1) (i := i) (o := gdO (getP r.1 p) i (wrO (mbsO (getP r.1 p) (r.1 1) i) (nn (getP r.1 p (100 + 4 * i))))) c_64] at ho1
          refine r_aload_n dX9_printPool_73 rfl ?_
          refine r_bipush (32) dX9_printPool_74 (by decide) ?_
          refine q_callV1 (cv_X9_write ml_X9_382) hW kc_723 (by decide) rfl ⟨rfl, rfl⟩ rfl (Nat.le_of_ble_eq_true rfl) dX9_printPool_76 (c_X9_write hW ho1 (by omega)) (fun v_76 h_76 q_76 => ?_)
          obtain ⟨rfl, eB, fB, ho1⟩ := q_76
          have hW := eB.W hW
          have he := he.tr eB
          replace hm := hm.os eB
          have hfr := fun k hk => (fB k hk).trans (hfr k hk)
          refine r_iinc (1) (by decide) (ls2 := [_, some _, _]) dX9_printPool_79 rfl (by decide) rfl ?_
          refine r_goto 17 dX9_printPool_82 (by decide) ?_
          rw [nI_1]
          exact ih hlt _ hlt hW he hm hfr ho1
        · refine r_aload_n dX9_printPool_67 rfl ?_
          refine r_bipush (45) dX9_printPool_68 (by decide) ?_
          refine q_callV1 (cv_X9_write ml_X9_382) hW kc_723 (by decide) rfl ⟨rfl, rfl⟩ rfl (Nat.le_of_ble_eq_true rfl) dX9_printPool_70 (c_X9_write hW ho1 (by omega)) (fun v_70 h_70 q_70 => ?_)
          obtain ⟨rfl, eB, fB, ho1⟩ := q_70
          have hW := eB.W hW
          have he := he.tr eB
          replace hm := hm.os eB
          have hfr := fun k hk => (fB k hk).trans (hfr k hk)
          have l3 := rdO_l (f := getP r.1 p) (t := r.1 1) (i := i) (o := gdO (getP r.1 p) i (wrO (mbsO (getP r.1 p) (r.1 1) i) (nn (getP r.1 p (100 + 4 * i)))))
          first
            | rw [rdO_f (f := getP r.1 p) (t := r.1 1) (i := i) c_64] at ho1
            | rw [rdO_t (f := getP r.1 p) (t := r.1 1) (i := i) (o := gdO (getP r.1 p) i (wrO (mbsO (getP r.1 p) (r.1 1) i) (nn (getP r.1 p (100 + 4 * i))))) c_64] at ho1
          refine r_aload_n dX9_printPool_73 rfl ?_
          refine r_bipush (32) dX9_printPool_74 (by decide) ?_
          refine q_callV1 (cv_X9_write ml_X9_382) hW kc_723 (by decide) rfl ⟨rfl, rfl⟩ rfl (Nat.le_of_ble_eq_true rfl) dX9_printPool_76 (c_X9_write hW ho1 (by omega)) (fun v_76 h_76 q_76 => ?_)
          obtain ⟨rfl, eB, fB, ho1⟩ := q_76
          have hW := eB.W hW
          have he := he.tr eB
          replace hm := hm.os eB
          have hfr := fun k hk => (fB k hk).trans (hfr k hk)
          refine r_iinc (1) (by decide) (ls2 := [_, some _, _]) dX9_printPool_79 rfl (by decide) rfl ?_
          refine r_goto 17 dX9_printPool_82 (by decide) ?_
          rw [nI_1]
          exact ih hlt _ hlt hW he hm hfr ho1
      · refine r_aload_n dX9_printPool_52 rfl ?_
        refine r_bipush (42) dX9_printPool_53 (by decide) ?_
        refine q_callV1 (cv_X9_write ml_X9_382) hW kc_723 (by decide) rfl ⟨rfl, rfl⟩ rfl (Nat.le_of_ble_eq_true rfl) dX9_printPool_55 (c_X9_write hW ho1 (by omega)) (fun v_55 h_55 q_55 => ?_)
        obtain ⟨rfl, eB, fB, ho1⟩ := q_55
        have hW := eB.W hW
        have he := he.tr eB
        replace hm := hm.os eB
        have hfr := fun k hk => (fB k hk).trans (hfr k hk)
        have l2 := gdO_l (f := getP r.1 p) (i := i) (o := (wrO (mbsO (getP r.1 p) (r.1 1) i) (nn (getP r.1 p (100 + 4 * i)))))
        first
          | rw [gdO_t (f := getP r.1 p) (i := i) c_49] at ho1
          | rw [gdO_f (f := getP r.1 p) (i := i) (o := (wrO (mbsO (getP r.1 p) (r.1 1) i) (nn (getP r.1 p (100 + 4 * i))))) c_49] at ho1
        refine r_aload_n dX9_printPool_58 rfl ?_
        refine r_iload_n dX9_printPool_59 rfl ?_
        refine r_iload_n dX9_printPool_60 rfl ?_
        refine q_callV2 (cv_X9_isReady ml_X9_91) hW kc_723 (by decide) rfl ⟨rfl, rfl⟩ rfl (Nat.le_of_ble_eq_true rfl) dX9_printPool_61 (c_X9_isReady hW hm hp hx rfl (by omega)) (fun v_61 h_61 q_61 => ?_)
        obtain ⟨rfl, z9⟩ := q_61
        replace z9 := z9.symm
        subst z9
        refine r_if_ne 73 dX9_printPool_64 (by decide) (fun c_64 => ?_) (fun c_64 => ?_)
        · have l3 := rdO_l (f := getP r.1 p) (t := r.1 1) (i := i) (o := gdO (getP r.1 p) i (wrO (mbsO (getP r.1 p) (r.1 1) i) (nn (getP r.1 p (100 + 4 * i)))))
          first
            | rw [rdO_f (f := getP r.1 p) (t := r.1 1) (i := i) c_64] at ho1
            | rw [rdO_t (f := getP r.1 p) (t := r.1 1) (i := i) (o := gdO (getP r.1 p) i (wrO (mbsO (getP r.1 p) (r.1 1) i) (nn (getP r.1 p (100 + 4 * i))))) c_64] at ho1
          refine r_aload_n dX9_printPool_73 rfl ?_
          refine r_bipush (32) dX9_printPool_74 (by decide) ?_
          refine q_callV1 (cv_X9_write ml_X9_382) hW kc_723 (by decide) rfl ⟨rfl, rfl⟩ rfl (Nat.le_of_ble_eq_true rfl) dX9_printPool_76 (c_X9_write hW ho1 (by omega)) (fun v_76 h_76 q_76 => ?_)
          obtain ⟨rfl, eB, fB, ho1⟩ := q_76
          have hW := eB.W hW
          have he := he.tr eB
          replace hm := hm.os eB
          have hfr := fun k hk => (fB k hk).trans (hfr k hk)
          refine r_iinc (1) (by decide) (ls2 := [_, some _, _]) dX9_printPool_79 rfl (by decide) rfl ?_
          refine r_goto 17 dX9_printPool_82 (by decide) ?_
          rw [nI_1]
          exact ih hlt _ hlt hW he hm hfr ho1
        · refine r_aload_n dX9_printPool_67 rfl ?_
          refine r_bipush (45) dX9_printPool_68 (by decide) ?_
          refine q_callV1 (cv_X9_write ml_X9_382) hW kc_723 (by decide) rfl ⟨rfl, rfl⟩ rfl (Nat.le_of_ble_eq_true rfl) dX9_printPool_70 (c_X9_write hW ho1 (by omega)) (fun v_70 h_70 q_70 => ?_)
          obtain ⟨rfl, eB, fB, ho1⟩ := q_70
          have hW := eB.W hW
          have he := he.tr eB
          replace hm := hm.os eB
          have hfr := fun k hk => (fB k hk).trans (hfr k hk)
          have l3 := rdO_l (f := getP r.1 p) (t := r.1 1) (i := i) (o := gdO (getP r.1 p) i (wrO (mbsO (getP r.1 p) (r.1 1) i) (nn (getP r.1 p (100 + 4 * i)))))
          first
            | rw [rdO_f (f := getP r.1 p) (t := r.1 1) (i := i) c_64] at ho1
            | rw [rdO_t (f := getP r.1 p) (t := r.1 1) (i := i) (o := gdO (getP r.1 p) i (wrO (mbsO (getP r.1 p) (r.1 1) i) (nn (getP r.1 p (100 + 4 * i))))) c_64] at ho1
          refine r_aload_n dX9_printPool_73 rfl ?_
          refine r_bipush (32) dX9_printPool_74 (by decide) ?_
          refine q_callV1 (cv_X9_write ml_X9_382) hW kc_723 (by decide) rfl ⟨rfl, rfl⟩ rfl (Nat.le_of_ble_eq_true rfl) dX9_printPool_76 (c_X9_write hW ho1 (by omega)) (fun v_76 h_76 q_76 => ?_)
          obtain ⟨rfl, eB, fB, ho1⟩ := q_76
          have hW := eB.W hW
          have he := he.tr eB
          replace hm := hm.os eB
          have hfr := fun k hk => (fB k hk).trans (hfr k hk)
          refine r_iinc (1) (by decide) (ls2 := [_, some _, _]) dX9_printPool_79 rfl (by decide) rfl ?_
          refine r_goto 17 dX9_printPool_82 (by decide) ?_
          rw [nI_1]
          exact ih hlt _ hlt hW he hm hfr ho1
  · refine r_iconst (0) dX9_printPool_8 (by decide) ?_
    refine r_iret dX9_printPool_9 rfl ⟨Nat.zero_le _, Nat.zero_le _⟩ ?_
    have ko : okP r x = false := bn1 c_5
    exact ⟨fun _ => by rw [ko]; exact RQ.of, fun q => absurd q (cd1_n ko)⟩
