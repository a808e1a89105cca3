-- the reference: greatestIn, settlesIn
set_option maxRecDepth 100000 in
set_option maxHeartbeats 800000 in
theorem c_X9_greatestIn {l9 : Launch} {G : GC} {h : AH} {r : Row} {m : Nat} {x y : Int32} (hW : World h) (hm : MW h r) (hO : RoOK r.1 r.2 m) (hm28 : m < 2 ^ 28) (hb : m + 300 < 2 ^ 23) : PM l9 G mX9_greatestIn NT NT [.ref 723, .int x, .int y] h (fun v h' => (cd2 (okP r x) (rgB 1 300 y) ≠ 0 → RQ h h' (cd2 (okP r x) (rgB 1 300 y))) ∧ (cd2 (okP r x) (rgB 1 300 y) = 0 → v = some (.int (gtS r x (nn y))) ∧ RT h h' ∧ MW h' r)) noX := by
  refine PM.of (by decide +kernel) rfl rfl (Nat.le_of_ble_eq_true rfl) (fun hst _ => ?_)
  refine r_aload_n dX9_greatestIn_0 rfl ?_
  refine r_iload_n dX9_greatestIn_1 rfl ?_
  refine r_iload_n dX9_greatestIn_2 rfl ?_
  refine q_callV2 (cv_X9_noSpan ml_X9_349) hW kc_723 (by decide) rfl ⟨rfl, rfl⟩ rfl (Nat.le_of_ble_eq_true rfl) dX9_greatestIn_3 (c_X9_noSpan hW hm hO hm28) (fun v_3 h_3 q_3 => ?_)
  obtain ⟨rfl, z9⟩ := q_3
  subst z9
  have hW : World (sI h 723 12 (nI (cd2 (okP r x) (rgB 1 300 y)))) := wsI hW
  replace hm := hm.s9 (k := 12) (x := nI (cd2 (okP r x) (rgB 1 300 y)))
  refine r_if_eq 11 dX9_greatestIn_6 (by decide) (fun c_6 => ?_) (fun c_6 => ?_)
  · have kn : (okP r x && rgB 1 300 y) = true := bn0 c_6
    have kr : rgB 1 300 y = true := (Bool.and_eq_true_iff.mp kn).2
    have ko : okP r x = true := (Bool.and_eq_true_iff.mp kn).1
    have hcd : cd2 (okP r x) (rgB 1 300 y) = 0 := cd2_t ko kr
    obtain ⟨p, hp, pn, hx⟩ := okP_t hO ko
    have ex : nn x = p := by rw [hx]; exact nn_I (by omega)
    have hOp := hO.2 p pn
    have y23 : nn (getP r.1 p 23) ≤ 20 := (hOp.at 23).2.2
    have y24 : nn (getP r.1 p 24) ≤ 24 := (hOp.at 24).2.2
    obtain ⟨k, k1, k2, ek⟩ := rgB_t (a := 1) (b := 300) kr (by decide) (by decide)
    have eyn : nn y = k := by rw [ek]; exact nn_I (by omega)
    have hT1 := hO.1.2.1.2.2
    have hsim := sim_N hO (sim_0 hO pn) k (by omega) (by omega)
    have hTN : TN r x (nn y) = trT p (nn (r.1 1)) k (T0 r p) := by unfold TN; rw [ex, eyn]
    refine r_aload_n dX9_greatestIn_11 rfl ?_
    refine q_callV0 (cv_X9_begins ml_X9_352) hW kc_723 (by decide) rfl ⟨rfl, rfl⟩ rfl (Nat.le_of_ble_eq_true rfl) dX9_greatestIn_12 (c_X9_begins hW hm) (fun v_12 h_12 q_12 => ?_)
    obtain ⟨rfl, eB, hB⟩ := q_12
    have hW := eB.W hW
    replace hm := hm.cgH eB (by omega) (by omega)
    refine r_iconst (0) dX9_greatestIn_15 (by decide) ?_
    refine r_istore_n (ls2 := [_, _, some _, _, _]) dX9_greatestIn_16 (by decide) rfl ?_
    refine r_iconst (0) dX9_greatestIn_17 (by decide) ?_
    refine r_istore (ls2 := [_, _, _, some _, _]) dX9_greatestIn_18 (by decide) rfl ?_
    refine loopN (P := fun i => ∀ H : AH, i ≤ k → World H → MW H (tkN i r) → AW H 726 731 r → eqx (sI h 723 12 (nI (cd2 (okP r x) (rgB 1 300 y)))) H RTs → aI H 723 = aI (sI h 723 12 (nI (cd2 (okP r x) (rgB 1 300 y)))) 723 → PW l9 G mX9_greatestIn _ _ NT 20 [some (.ref 723), some (.int x), some (.int y), some (.int (gtS r x i)), some (.int (nI i))] [] _ H) k (fun i ih H hi hW hm hB he h9 => ?_) 0 _ (Nat.zero_le _) hW hm hB (eB.wk (fun i q => by (try unfold RTs); omega)) (eB.I (by omega))
    refine r_iload dX9_greatestIn_20 rfl ?_
    refine r_iload_n dX9_greatestIn_22 rfl ?_
    refine r_icmp_ge 48 dX9_greatestIn_23 (by decide) (fun c_23 => ?_) (fun c_23 => ?_)
    · have hge : k = i := by
        have c9 := c_23
        rw [ek] at c9
        have := (nI_leI (by omega) (by omega)).mp c9
        omega
      refine r_aload_n dX9_greatestIn_48 rfl ?_
      refine q_callV0 (cv_X9_ends ml_X9_358) hW kc_723 (by decide) rfl ⟨rfl, rfl⟩ rfl (Nat.le_of_ble_eq_true rfl) dX9_greatestIn_49 (c_X9_ends hW hB) (fun v_49 h_49 q_49 => ?_)
      obtain ⟨rfl, eE, hE⟩ := q_49
      refine r_iload_n dX9_greatestIn_52 rfl ?_
      refine r_iret dX9_greatestIn_53 rfl ⟨Nat.zero_le _, Nat.zero_le _⟩ ?_
      refine ⟨fun q => absurd hcd q, fun _ => ⟨?_, ⟨?_, ?_, fun k k1 k2 => ?_⟩, hE⟩⟩
      · rw [eyn, hge]
      · exact ((eqx.rf.sI (S := RTs) (Or.inl rfl)).tr he).tr (eE.wk (fun i q => by (try unfold RTs); omega))
      · rw [eE.I (by omega), h9, sI_s, hcd]; rfl
      · rw [eE.I (by omega), h9, sI_k k1]
    · have hlt : i < k := by
        have c9 := c_23
        rw [ek] at c9
        exact (nI_ltI (by omega) (by omega)).mp (i_lt.mp c9)
      have hsi := sim_N hO (sim_0 hO pn) (i + 1) (by omega) (by omega)
      have hTi : TN r x (i + 1) = trT p (nn (r.1 1)) (i + 1) (T0 r p) := by unfold TN; rw [ex]
      have hOi := tkN_ok hO i (by omega)
      refine r_aload_n dX9_greatestIn_26 rfl ?_
      refine q_callV0 (cv_X9_tick ml_X9_158) hW kc_723 (by decide) rfl ⟨rfl, rfl⟩ rfl (Nat.le_of_ble_eq_true rfl) dX9_greatestIn_27 (c_X9_tick hW hm hOi (by omega)) (fun v_27 h_27 q_27 => ?_)
      obtain ⟨rfl, eT, hm⟩ := q_27
      have hW := eT.W hW
      replace hB := hB.cgH eT (by unfold SM; omega) (by unfold SM; omega)
      have he := he.tr (eT.wk (T := RTs) (fun i q => by unfold SM at q; (try unfold RTs); omega))
      have h9 := (eT.I (i := 723) (by unfold SM; omega)).trans h9
      rw [← tkN_s] at hm
      refine r_iload_n dX9_greatestIn_30 rfl ?_
      refine r_aload_n dX9_greatestIn_31 rfl ?_
      refine r_iload_n dX9_greatestIn_32 rfl ?_
      refine r_bipush (23) dX9_greatestIn_33 (by decide) ?_
      refine q_callV2 (cv_X9_of ml_X9_81) hW kc_723 (by decide) rfl ⟨rfl, rfl⟩ rfl (Nat.le_of_ble_eq_true rfl) dX9_greatestIn_35 (c_X9_ofM hW hm hp hx kn_23 (by omega)) (fun v_35 h_35 q_35 => ?_)
      obtain ⟨rfl, z9⟩ := q_35
      replace z9 := z9.symm
      subst z9
      rw [show getP (tkN (i + 1) r).1 p 23 = qF (TN r x (i + 1)).1 23 from by rw [hTi]; exact hsi.1.lo (k := 23) (by decide)]
      refine q_max mm_X9_123 rfl (Nat.le_of_ble_eq_true rfl) dX9_greatestIn_38 ?_
      refine r_istore_n (ls2 := [_, _, some _, _, _]) dX9_greatestIn_41 (by decide) rfl ?_
      refine r_iinc (1) (by decide) (ls2 := [_, _, _, some _, _]) dX9_greatestIn_42 rfl (by decide) rfl ?_
      refine r_goto 20 dX9_greatestIn_45 (by decide) ?_
      rw [nI_1]
      exact ih hlt _ hlt hW hm hB he h9
  · refine r_iconst (0) dX9_greatestIn_9 (by decide) ?_
    refine r_iret dX9_greatestIn_10 rfl ⟨Nat.zero_le _, Nat.zero_le _⟩ ?_
    have kn : (okP r x && rgB 1 300 y) = false := bn1 c_6
    refine ⟨fun _ => RQ.of, fun q => absurd q ?_⟩
    unfold cd2
    cases h1 : okP r x
    · exact (by decide : ¬ (1 : Nat) = 0)
    · cases h2 : rgB 1 300 y
      · exact (by decide : ¬ (2 : Nat) = 0)
      · rw [h1, h2] at kn; cases kn

set_option maxRecDepth 100000 in
set_option maxHeartbeats 800000 in
theorem c_X9_settlesIn {l9 : Launch} {G : GC} {h : AH} {r : Row} {m : Nat} {x y : Int32} (hW : World h) (hm : MW h r) (hO : RoOK r.1 r.2 m) (hm28 : m < 2 ^ 28) (hb : m + 300 < 2 ^ 23) : PM l9 G mX9_settlesIn NT NT [.ref 723, .int x, .int y] h (fun v h' => (cd2 (okP r x) (rgB 1 300 y) ≠ 0 → RQ h h' (cd2 (okP r x) (rgB 1 300 y))) ∧ (cd2 (okP r x) (rgB 1 300 y) = 0 → v = some (.int (f1A (fi (stB r x) (nn y)))) ∧ RT h h' ∧ MW h' r)) noX := by
  refine PM.of (by decide +kernel) rfl rfl (Nat.le_of_ble_eq_true rfl) (fun hst _ => ?_)
  refine r_aload_n dX9_settlesIn_0 rfl ?_
  refine r_iload_n dX9_settlesIn_1 rfl ?_
  refine r_iload_n dX9_settlesIn_2 rfl ?_
  refine q_callV2 (cv_X9_noSpan ml_X9_349) hW kc_723 (by decide) rfl ⟨rfl, rfl⟩ rfl (Nat.le_of_ble_eq_true rfl) dX9_settlesIn_3 (c_X9_noSpan hW hm hO hm28) (fun v_3 h_3 q_3 => ?_)
  obtain ⟨rfl, z9⟩ := q_3
  subst z9
  have hW : World (sI h 723 12 (nI (cd2 (okP r x) (rgB 1 300 y)))) := wsI hW
  replace hm := hm.s9 (k := 12) (x := nI (cd2 (okP r x) (rgB 1 300 y)))
  refine r_if_eq 11 dX9_settlesIn_6 (by decide) (fun c_6 => ?_) (fun c_6 => ?_)
  · have kn : (okP r x && rgB 1 300 y) = true := bn0 c_6
    have kr : rgB 1 300 y = true := (Bool.and_eq_true_iff.mp kn).2
    have ko : okP r x = true := (Bool.and_eq_true_iff.mp kn).1
    have hcd : cd2 (okP r x) (rgB 1 300 y) = 0 := cd2_t ko kr
    obtain ⟨p, hp, pn, hx⟩ := okP_t hO ko
    have ex : nn x = p := by rw [hx]; exact nn_I (by omega)
    have hOp := hO.2 p pn
    have y23 : nn (getP r.1 p 23) ≤ 20 := (hOp.at 23).2.2
    have y24 : nn (getP r.1 p 24) ≤ 24 := (hOp.at 24).2.2
    obtain ⟨k, k1, k2, ek⟩ := rgB_t (a := 1) (b := 300) kr (by decide) (by decide)
    have eyn : nn y = k := by rw [ek]; exact nn_I (by omega)
    have hT1 := hO.1.2.1.2.2
    have hsim := sim_N hO (sim_0 hO pn) k (by omega) (by omega)
    have hTN : TN r x (nn y) = trT p (nn (r.1 1)) k (T0 r p) := by unfold TN; rw [ex, eyn]
    refine r_aload_n dX9_settlesIn_11 rfl ?_
    refine q_callV0 (cv_X9_begins ml_X9_352) hW kc_723 (by decide) rfl ⟨rfl, rfl⟩ rfl (Nat.le_of_ble_eq_true rfl) dX9_settlesIn_12 (c_X9_begins hW hm) (fun v_12 h_12 q_12 => ?_)
    obtain ⟨rfl, eB, hB⟩ := q_12
    have hW := eB.W hW
    replace hm := hm.cgH eB (by omega) (by omega)
    refine r_iconst (0) dX9_settlesIn_15 (by decide) ?_
    refine r_istore_n (ls2 := [_, _, some _, _, _]) dX9_settlesIn_16 (by decide) rfl ?_
    refine r_iconst (0) dX9_settlesIn_17 (by decide) ?_
    refine r_istore (ls2 := [_, _, _, some _, _]) dX9_settlesIn_18 (by decide) rfl ?_
    refine loopN (P := fun i => ∀ H : AH, i ≤ k → World H → MW H (tkN i r) → AW H 726 731 r → eqx (sI h 723 12 (nI (cd2 (okP r x) (rgB 1 300 y)))) H RTs → aI H 723 = aI (sI h 723 12 (nI (cd2 (okP r x) (rgB 1 300 y)))) 723 → fi (stB r x) i = none → PW l9 G mX9_settlesIn _ _ NT 20 [some (.ref 723), some (.int x), some (.int y), some (.int 0), some (.int (nI i))] [] _ H) k (fun i ih H hi hW hm hB he h9 hf => ?_) 0 _ (Nat.zero_le _) hW hm hB (eB.wk (fun i q => by (try unfold RTs); omega)) (eB.I (by omega)) rfl
    refine r_iload dX9_settlesIn_20 rfl ?_
    refine r_iload_n dX9_settlesIn_22 rfl ?_
    refine r_icmp_ge 57 dX9_settlesIn_23 (by decide) (fun c_23 => ?_) (fun c_23 => ?_)
    · have hge : k = i := by
        have c9 := c_23
        rw [ek] at c9
        have := (nI_leI (by omega) (by omega)).mp c9
        omega
      refine r_aload_n dX9_settlesIn_57 rfl ?_
      refine q_callV0 (cv_X9_ends ml_X9_358) hW kc_723 (by decide) rfl ⟨rfl, rfl⟩ rfl (Nat.le_of_ble_eq_true rfl) dX9_settlesIn_58 (c_X9_ends hW hB) (fun v_58 h_58 q_58 => ?_)
      obtain ⟨rfl, eE, hE⟩ := q_58
      refine r_iload_n dX9_settlesIn_61 rfl ?_
      refine r_if_eq 70 dX9_settlesIn_62 (by decide) (fun c_62 => ?_) (fun c_62 => ?_)
      · refine r_iconst (-1) dX9_settlesIn_70 (by decide) ?_
        refine r_iret dX9_settlesIn_71 rfl ⟨Nat.zero_le _, Nat.zero_le _⟩ ?_
        refine ⟨fun q => absurd hcd q, fun _ => ⟨?_, ⟨?_, ?_, fun k k1 k2 => ?_⟩, hE⟩⟩
        · rw [eyn, hge, hf]; rfl
        · exact ((eqx.rf.sI (S := RTs) (Or.inl rfl)).tr he).tr (eE.wk (fun i q => by (try unfold RTs); omega))
        · rw [eE.I (by omega), h9, sI_s, hcd]; rfl
        · rw [eE.I (by omega), h9, sI_k k1]
      · first | exact absurd c_62 (by decide) | exact absurd (by decide) c_62
    · have hlt : i < k := by
        have c9 := c_23
        rw [ek] at c9
        exact (nI_ltI (by omega) (by omega)).mp (i_lt.mp c9)
      have hsi := sim_N hO (sim_0 hO pn) (i + 1) (by omega) (by omega)
      have hTi : TN r x (i + 1) = trT p (nn (r.1 1)) (i + 1) (T0 r p) := by unfold TN; rw [ex]
      have hOi := tkN_ok hO i (by omega)
      refine r_iload_n dX9_settlesIn_26 rfl ?_
      refine r_if_ne 57 dX9_settlesIn_27 (by decide) (fun c_27 => ?_) (fun c_27 => ?_)
      · first | exact absurd c_27 (by decide) | exact absurd (by decide) c_27
      · refine r_aload_n dX9_settlesIn_30 rfl ?_
        refine q_callV0 (cv_X9_tick ml_X9_158) hW kc_723 (by decide) rfl ⟨rfl, rfl⟩ rfl (Nat.le_of_ble_eq_true rfl) dX9_settlesIn_31 (c_X9_tick hW hm hOi (by omega)) (fun v_31 h_31 q_31 => ?_)
        obtain ⟨rfl, eT, hm⟩ := q_31
        have hW := eT.W hW
        replace hB := hB.cgH eT (by unfold SM; omega) (by unfold SM; omega)
        have he := he.tr (eT.wk (T := RTs) (fun i q => by unfold SM at q; (try unfold RTs); omega))
        have h9 := (eT.I (i := 723) (by unfold SM; omega)).trans h9
        rw [← tkN_s] at hm
        refine r_iinc (1) (by decide) (ls2 := [_, _, _, some _, _]) dX9_settlesIn_34 rfl (by decide) rfl ?_
        refine r_aload_n dX9_settlesIn_37 rfl ?_
        refine r_iload_n dX9_settlesIn_38 rfl ?_
        refine r_bipush (17) dX9_settlesIn_39 (by decide) ?_
        refine q_callV2 (cv_X9_of ml_X9_81) hW kc_723 (by decide) rfl ⟨rfl, rfl⟩ rfl (Nat.le_of_ble_eq_true rfl) dX9_settlesIn_41 (c_X9_ofM hW hm hp hx kn_17 (by omega)) (fun v_41 h_41 q_41 => ?_)
        obtain ⟨rfl, z9⟩ := q_41
        replace z9 := z9.symm
        subst z9
        rw [show getP (tkN (i + 1) r).1 p 17 = qF (TN r x (i + 1)).1 17 from by rw [hTi]; exact hsi.1.lo (k := 17) (by decide)]
        refine r_iconst (2) dX9_settlesIn_44 (by decide) ?_
        refine r_icmp_ne 52 dX9_settlesIn_45 (by decide) (fun c_45 => ?_) (fun c_45 => ?_)
        · refine r_iconst (0) dX9_settlesIn_52 (by decide) ?_
          refine r_istore_n (ls2 := [_, _, some _, _, _]) dX9_settlesIn_53 (by decide) rfl ?_
          refine r_goto 20 dX9_settlesIn_54 (by decide) ?_
          rw [nI_1]
          by_cases hyes : stB r x i = true
          · have hno9 : qF (TN r x (i + 1)).1 17 = 2 := of_decide_eq_true hyes
            first
              | exact absurd hno9 c_45
              | (
                 refine r_iload dX9_settlesIn_20 rfl ?_
                 refine r_iload_n dX9_settlesIn_22 rfl ?_
                 refine r_icmp_ge 57 dX9_settlesIn_23 (by decide) (fun c_23 => ?_) (fun c_23 => ?_)
                 · refine r_aload_n dX9_settlesIn_57 rfl ?_
                   refine q_callV0 (cv_X9_ends ml_X9_358) hW kc_723 (by decide) rfl ⟨rfl, rfl⟩ rfl (Nat.le_of_ble_eq_true rfl) dX9_settlesIn_58 (c_X9_ends hW hB) (fun v_58 h_58 q_58 => ?_)
                   obtain ⟨rfl, eE, hE⟩ := q_58
                   refine r_iload_n dX9_settlesIn_61 rfl ?_
                   refine r_if_eq 70 dX9_settlesIn_62 (by decide) (fun c_62 => ?_) (fun c_62 => ?_)
                   · first | exact absurd c_62 (by decide) | exact absurd (by decide) c_62
                   · refine r_iload dX9_settlesIn_65 rfl ?_
                     refine r_goto 71 dX9_settlesIn_67 (by decide) ?_
                     refine r_iret dX9_settlesIn_71 rfl ⟨Nat.zero_le _, Nat.zero_le _⟩ ?_
                     refine ⟨fun q => absurd hcd q, fun _ => ⟨?_, ⟨?_, ?_, fun k k1 k2 => ?_⟩, hE⟩⟩
                     · rw [eyn, fi_hit hf hyes hlt]; rfl
                     · exact ((eqx.rf.sI (S := RTs) (Or.inl rfl)).tr he).tr (eE.wk (fun i q => by (try unfold RTs); omega))
                     · rw [eE.I (by omega), h9, sI_s, hcd]; rfl
                     · rw [eE.I (by omega), h9, sI_k k1]
                 · refine r_iload_n dX9_settlesIn_26 rfl ?_
                   refine r_if_ne 57 dX9_settlesIn_27 (by decide) (fun c_27 => ?_) (fun c_27 => ?_)
                   · refine r_aload_n dX9_settlesIn_57 rfl ?_
                     refine q_callV0 (cv_X9_ends ml_X9_358) hW kc_723 (by decide) rfl ⟨rfl, rfl⟩ rfl (Nat.le_of_ble_eq_true rfl) dX9_settlesIn_58 (c_X9_ends hW hB) (fun v_58 h_58 q_58 => ?_)
                     obtain ⟨rfl, eE, hE⟩ := q_58
                     refine r_iload_n dX9_settlesIn_61 rfl ?_
                     refine r_if_eq 70 dX9_settlesIn_62 (by decide) (fun c_62 => ?_) (fun c_62 => ?_)
                     · first | exact absurd c_62 (by decide) | exact absurd (by decide) c_62
                     · refine r_iload dX9_settlesIn_65 rfl ?_
                       refine r_goto 71 dX9_settlesIn_67 (by decide) ?_
                       refine r_iret dX9_settlesIn_71 rfl ⟨Nat.zero_le _, Nat.zero_le _⟩ ?_
                       refine ⟨fun q => absurd hcd q, fun _ => ⟨?_, ⟨?_, ?_, fun k k1 k2 => ?_⟩, hE⟩⟩
                       · rw [eyn, fi_hit hf hyes hlt]; rfl
                       · exact ((eqx.rf.sI (S := RTs) (Or.inl rfl)).tr he).tr (eE.wk (fun i q => by (try unfold RTs); omega))
                       · rw [eE.I (by omega), h9, sI_s, hcd]; rfl
                       · rw [eE.I (by omega), h9, sI_k k1]
                   · first | exact absurd c_27 (by decide) | exact absurd (by decide) c_27)
          · have hno : stB r x i = false := by cases q : stB r x i with | false => rfl | true => exact absurd q hyes
            first
              | exact ih hlt _ hlt hW hm hB he h9 (fi_pass hf hno)
              | exact absurd (decide_eq_true c_45) hyes
        · refine r_iconst (1) dX9_settlesIn_48 (by decide) ?_
          refine r_goto 53 dX9_settlesIn_49 (by decide) ?_
          refine r_istore_n (ls2 := [_, _, some _, _, _]) dX9_settlesIn_53 (by decide) rfl ?_
          refine r_goto 20 dX9_settlesIn_54 (by decide) ?_
          rw [nI_1]
          by_cases hyes : stB r x i = true
          · have hno9 : qF (TN r x (i + 1)).1 17 = 2 := of_decide_eq_true hyes
            first
              | exact absurd hno9 c_45
              | (
                 refine r_iload dX9_settlesIn_20 rfl ?_
                 refine r_iload_n dX9_settlesIn_22 rfl ?_
                 refine r_icmp_ge 57 dX9_settlesIn_23 (by decide) (fun c_23 => ?_) (fun c_23 => ?_)
                 · refine r_aload_n dX9_settlesIn_57 rfl ?_
                   refine q_callV0 (cv_X9_ends ml_X9_358) hW kc_723 (by decide) rfl ⟨rfl, rfl⟩ rfl (Nat.le_of_ble_eq_true rfl) dX9_settlesIn_58 (c_X9_ends hW hB) (fun v_58 h_58 q_58 => ?_)
                   obtain ⟨rfl, eE, hE⟩ := q_58
                   refine r_iload_n dX9_settlesIn_61 rfl ?_
                   refine r_if_eq 70 dX9_settlesIn_62 (by decide) (fun c_62 => ?_) (fun c_62 => ?_)
                   · first | exact absurd c_62 (by decide) | exact absurd (by decide) c_62
                   · refine r_iload dX9_settlesIn_65 rfl ?_
                     refine r_goto 71 dX9_settlesIn_67 (by decide) ?_
                     refine r_iret dX9_settlesIn_71 rfl ⟨Nat.zero_le _, Nat.zero_le _⟩ ?_
                     refine ⟨fun q => absurd hcd q, fun _ => ⟨?_, ⟨?_, ?_, fun k k1 k2 => ?_⟩, hE⟩⟩
                     · rw [eyn, fi_hit hf hyes hlt]; rfl
                     · exact ((eqx.rf.sI (S := RTs) (Or.inl rfl)).tr he).tr (eE.wk (fun i q => by (try unfold RTs); omega))
                     · rw [eE.I (by omega), h9, sI_s, hcd]; rfl
                     · rw [eE.I (by omega), h9, sI_k k1]
                 · refine r_iload_n dX9_settlesIn_26 rfl ?_
                   refine r_if_ne 57 dX9_settlesIn_27 (by decide) (fun c_27 => ?_) (fun c_27 => ?_)
                   · refine r_aload_n dX9_settlesIn_57 rfl ?_
                     refine q_callV0 (cv_X9_ends ml_X9_358) hW kc_723 (by decide) rfl ⟨rfl, rfl⟩ rfl (Nat.le_of_ble_eq_true rfl) dX9_settlesIn_58 (c_X9_ends hW hB) (fun v_58 h_58 q_58 => ?_)
                     obtain ⟨rfl, eE, hE⟩ := q_58
                     refine r_iload_n dX9_settlesIn_61 rfl ?_
                     refine r_if_eq 70 dX9_settlesIn_62 (by decide) (fun c_62 => ?_) (fun c_62 => ?_)
                     · first | exact absurd c_62 (by decide) | exact absurd (by decide) c_62
                     · refine r_iload dX9_settlesIn_65 rfl ?_
                       refine r_goto 71 dX9_settlesIn_67 (by decide) ?_
                       refine r_iret dX9_settlesIn_71 rfl ⟨Nat.zero_le _, Nat.zero_le _⟩ ?_
                       refine ⟨fun q => absurd hcd q, fun _ => ⟨?_, ⟨?_, ?_, fun k k1 k2 => ?_⟩, hE⟩⟩
                       · rw [eyn, fi_hit hf hyes hlt]; rfl
                       · exact ((eqx.rf.sI (S := RTs) (Or.inl rfl)).tr he).tr (eE.wk (fun i q => by (try unfold RTs); omega))
                       · rw [eE.I (by omega), h9, sI_s, hcd]; rfl
                       · rw [eE.I (by omega), h9, sI_k k1]
                   · first | exact absurd c_27 (by decide) | exact absurd (by decide) c_27)
          · have hno : stB r x i = false := by cases q : stB r x i with | false => rfl | true => exact absurd q hyes
            first
              | exact ih hlt _ hlt hW hm hB he h9 (fi_pass hf hno)
              | exact absurd (decide_eq_true c_45) hyes
  · refine r_iconst (0) dX9_settlesIn_9 (by decide) ?_
    refine r_iret dX9_settlesIn_10 rfl ⟨Nat.zero_le _, Nat.zero_le _⟩ ?_
    have kn : (okP r x && rgB 1 300 y) = false := bn1 c_6
    refine ⟨fun _ => RQ.of, fun q => absurd q ?_⟩
    unfold cd2
    cases h1 : okP r x
    · exact (by decide : ¬ (1 : Nat) = 0)
    · cases h2 : rgB 1 300 y
      · exact (by decide : ¬ (2 : Nat) = 0)
      · rw [h1, h2] at kn; cases kn
