-- the reference: missesIn, changesIn
set_option maxRecDepth 100000 in
set_option maxHeartbeats 800000 in
theorem c_X9_missesIn {l9 : Launch} {G : GC} {h : AH} {r : Row} {m : Nat} {x y : Int32} (hW : World h) (hm : MW h r) (hO : RoOK r.1 r.2 m) (hm28 : m < 2 ^ 28) (hb : m + 300 < 2 ^ 23) (hI : IvR r m) : PM l9 G mX9_missesIn NT NT [.ref 723, .int x, .int y] h (fun v h' => (cd2 (okP r x) (rgB 1 300 y) ≠ 0 → RQ h h' (cd2 (okP r x) (rgB 1 300 y))) ∧ (cd2 (okP r x) (rgB 1 300 y) = 0 → v = some (.int (f1A (fi (msB r x) (nn y)))) ∧ RT h h' ∧ MW h' r)) noX := by
  refine PM.of (by decide +kernel) rfl rfl (Nat.le_of_ble_eq_true rfl) (fun hst _ => ?_)
  refine r_aload_n dX9_missesIn_0 rfl ?_
  refine r_iload_n dX9_missesIn_1 rfl ?_
  refine r_iload_n dX9_missesIn_2 rfl ?_
  refine q_callV2 (cv_X9_noSpan ml_X9_349) hW kc_723 (by decide) rfl ⟨rfl, rfl⟩ rfl (Nat.le_of_ble_eq_true rfl) dX9_missesIn_3 (c_X9_noSpan hW hm hO hm28) (fun v_3 h_3 q_3 => ?_)
  obtain ⟨rfl, z9⟩ := q_3
  subst z9
  have hW : World (sI h 723 12 (nI (cd2 (okP r x) (rgB 1 300 y)))) := wsI hW
  replace hm := hm.s9 (k := 12) (x := nI (cd2 (okP r x) (rgB 1 300 y)))
  refine r_if_eq 11 dX9_missesIn_6 (by decide) (fun c_6 => ?_) (fun c_6 => ?_)
  · have kn : (okP r x && rgB 1 300 y) = true := bn0 c_6
    have kr : rgB 1 300 y = true := (Bool.and_eq_true_iff.mp kn).2
    have ko : okP r x = true := (Bool.and_eq_true_iff.mp kn).1
    have hcd : cd2 (okP r x) (rgB 1 300 y) = 0 := cd2_t ko kr
    obtain ⟨p, hp, pn, hx⟩ := okP_t hO ko
    have ex : nn x = p := by rw [hx]; exact nn_I (by omega)
    have hOp := hO.2 p pn
    have y23 : nn (getP r.1 p 23) ≤ 20 := (hOp.at 23).2.2
    have y24 : nn (getP r.1 p 24) ≤ 24 := (hOp.at 24).2.2
    obtain ⟨k, k1, k2, ek⟩ := rgB_t (a := 1) (b := 300) kr (by decide) (by decide)
    have eyn : nn y = k := by rw [ek]; exact nn_I (by omega)
    have hT1 := hO.1.2.1.2.2
    have hsim := sim_N hO (sim_0 hO pn) k (by omega) (by omega)
    have hTN : TN r x (nn y) = trT p (nn (r.1 1)) k (T0 r p) := by unfold TN; rw [ex, eyn]
    refine r_aload_n dX9_missesIn_11 rfl ?_
    refine q_callV0 (cv_X9_begins ml_X9_352) hW kc_723 (by decide) rfl ⟨rfl, rfl⟩ rfl (Nat.le_of_ble_eq_true rfl) dX9_missesIn_12 (c_X9_begins hW hm) (fun v_12 h_12 q_12 => ?_)
    obtain ⟨rfl, eB, hB⟩ := q_12
    have hW := eB.W hW
    replace hm := hm.cgH eB (by omega) (by omega)
    refine r_aload_n dX9_missesIn_15 rfl ?_
    refine r_iload_n dX9_missesIn_16 rfl ?_
    refine r_iconst (1) dX9_missesIn_17 (by decide) ?_
    refine q_callV2 (cv_X9_sumOf ml_X9_333) hW kc_723 (by decide) rfl ⟨rfl, rfl⟩ rfl (Nat.le_of_ble_eq_true rfl) dX9_missesIn_18 (c_X9_sumOf hW hm hp hx kn_1 (by decide)) (fun v_18 h_18 q_18 => ?_)
    obtain ⟨rfl, z9⟩ := q_18
    replace z9 := z9.symm
    subst z9
    refine r_lstore_n (ls2 := [_, _, some _, _, none, _, _]) dX9_missesIn_21 (by decide) rfl ?_
    refine r_iconst (0) dX9_missesIn_22 (by decide) ?_
    refine r_istore (ls2 := [_, _, _, _, none, _, _]) dX9_missesIn_23 (by decide) rfl ?_
    refine loopN (P := fun i => ∀ H : AH, i ≤ k → World H → MW H (tkN i r) → AW H 726 731 r → eqx (sI h 723 12 (nI (cd2 (okP r x) (rgB 1 300 y)))) H RTs → aI H 723 = aI (sI h 723 12 (nI (cd2 (okP r x) (rgB 1 300 y)))) 723 → fi (msB r x) (i - 1) = none → PW l9 G mX9_missesIn _ _ NT 25 [some (.ref 723), some (.int x), some (.int y), some (.long (getG r.2 p 1)), none, some (.int (nI i)), none] [] _ H) k (fun i ih H hi hW hm hB he h9 hf => ?_) 0 _ (Nat.zero_le _) hW hm hB (eB.wk (fun i q => by (try unfold RTs); omega)) (eB.I (by omega)) rfl
    obtain ⟨hz1, hz2, hz3⟩ := ms_cmp hO hI ex pn (i := i) (by omega) (by omega)
    have hOi := tkN_ok hO i (by omega)
    refine r_iload dX9_missesIn_25 rfl ?_
    refine r_iload_n dX9_missesIn_27 rfl ?_
    refine r_icmp_ge 52 dX9_missesIn_28 (by decide) (fun c_28 => ?_) (fun c_28 => ?_)
    · refine r_aload_n dX9_missesIn_52 rfl ?_
      refine r_iload_n dX9_missesIn_53 rfl ?_
      refine r_iconst (1) dX9_missesIn_54 (by decide) ?_
      refine q_callV2 (cv_X9_sumOf ml_X9_333) hW kc_723 (by decide) rfl ⟨rfl, rfl⟩ rfl (Nat.le_of_ble_eq_true rfl) dX9_missesIn_55 (c_X9_sumOf hW hm hp hx kn_1 (by decide)) (fun v_55 h_55 q_55 => ?_)
      obtain ⟨rfl, z9⟩ := q_55
      replace z9 := z9.symm
      subst z9
      refine r_lload_n dX9_missesIn_58 rfl ?_
      refine r_lcmp dX9_missesIn_59 ?_
      refine r_if_le 67 dX9_missesIn_60 (by decide) (fun c_60 => ?_) (fun c_60 => ?_)
      · refine r_iconst (0) dX9_missesIn_67 (by decide) ?_
        refine r_istore (ls2 := [_, _, _, _, _, some _, _]) dX9_missesIn_68 (by decide) rfl ?_
        refine r_aload_n dX9_missesIn_70 rfl ?_
        refine q_callV0 (cv_X9_ends ml_X9_358) hW kc_723 (by decide) rfl ⟨rfl, rfl⟩ rfl (Nat.le_of_ble_eq_true rfl) dX9_missesIn_71 (c_X9_ends hW hB) (fun v_71 h_71 q_71 => ?_)
        obtain ⟨rfl, eE, hE⟩ := q_71
        refine r_iload dX9_missesIn_74 rfl ?_
        refine r_if_eq 84 dX9_missesIn_76 (by decide) (fun c_76 => ?_) (fun c_76 => ?_)
        · refine r_iconst (-1) dX9_missesIn_84 (by decide) ?_
          refine r_iret dX9_missesIn_85 rfl ⟨Nat.zero_le _, Nat.zero_le _⟩ ?_
          have hpos : ¬ msD p (nn (r.1 1)) (T0 r p) i = 0 → f1A (fi (msB r x) (nn y)) = nI i := fun q => by
            cases i with
            | zero => exact absurd rfl q
            | succ j =>
              rw [Nat.add_sub_cancel] at hf
              rw [eyn, fi_hit (n := k) hf (by rw [hz3 j rfl]; exact decide_eq_true (by omega)) (by omega)]; rfl
          have hzer : msD p (nn (r.1 1)) (T0 r p) i = 0 → k = i → f1A (fi (msB r x) (nn y)) = -1 := fun q hk => by
            rw [eyn, hk]
            cases i with
            | zero => rfl
            | succ j =>
              rw [Nat.add_sub_cancel] at hf
              rw [fi_pass hf (by rw [hz3 j rfl, q]; rfl)]; rfl
          refine ⟨fun q => absurd hcd q, fun _ => ⟨?_, ⟨?_, ?_, fun k k1 k2 => ?_⟩, hE⟩⟩
          · first
            | rw [hpos (by have z9 := hz2.mp (Int32.not_le.mp c_60); omega)]
            | exact absurd rfl c_76
            | (rw [hzer ?_ ?_]
               · refine Classical.byContradiction fun q => ?_
                 exact absurd (hz2.mpr (by omega)) (Int32.not_lt.mpr c_60)
               · first
                   | (have c9 := c_28
                      rw [ek] at c9
                      have := (nI_leI (by omega) (by omega)).mp c9
                      omega)
                   | (refine absurd (hz1.mpr ?_) c_39
                      refine Classical.byContradiction fun q => ?_
                      exact absurd (hz2.mpr (by omega)) (Int32.not_lt.mpr c_60)))
          · exact ((eqx.rf.sI (S := RTs) (Or.inl rfl)).tr he).tr (eE.wk (fun i q => by (try unfold RTs); omega))
          · rw [eE.I (by omega), h9, sI_s, hcd]; rfl
          · rw [eE.I (by omega), h9, sI_k k1]
        · first | exact absurd c_76 (by decide) | exact absurd (by decide) c_76
      · refine r_iconst (1) dX9_missesIn_63 (by decide) ?_
        refine r_goto 68 dX9_missesIn_64 (by decide) ?_
        refine r_istore (ls2 := [_, _, _, _, _, some _, _]) dX9_missesIn_68 (by decide) rfl ?_
        refine r_aload_n dX9_missesIn_70 rfl ?_
        refine q_callV0 (cv_X9_ends ml_X9_358) hW kc_723 (by decide) rfl ⟨rfl, rfl⟩ rfl (Nat.le_of_ble_eq_true rfl) dX9_missesIn_71 (c_X9_ends hW hB) (fun v_71 h_71 q_71 => ?_)
        obtain ⟨rfl, eE, hE⟩ := q_71
        refine r_iload dX9_missesIn_74 rfl ?_
        refine r_if_eq 84 dX9_missesIn_76 (by decide) (fun c_76 => ?_) (fun c_76 => ?_)
        · first | exact absurd c_76 (by decide) | exact absurd (by decide) c_76
        · refine r_iload dX9_missesIn_79 rfl ?_
          refine r_goto 85 dX9_missesIn_81 (by decide) ?_
          refine r_iret dX9_missesIn_85 rfl ⟨Nat.zero_le _, Nat.zero_le _⟩ ?_
          have hpos : ¬ msD p (nn (r.1 1)) (T0 r p) i = 0 → f1A (fi (msB r x) (nn y)) = nI i := fun q => by
            cases i with
            | zero => exact absurd rfl q
            | succ j =>
              rw [Nat.add_sub_cancel] at hf
              rw [eyn, fi_hit (n := k) hf (by rw [hz3 j rfl]; exact decide_eq_true (by omega)) (by omega)]; rfl
          have hzer : msD p (nn (r.1 1)) (T0 r p) i = 0 → k = i → f1A (fi (msB r x) (nn y)) = -1 := fun q hk => by
            rw [eyn, hk]
            cases i with
            | zero => rfl
            | succ j =>
              rw [Nat.add_sub_cancel] at hf
              rw [fi_pass hf (by rw [hz3 j rfl, q]; rfl)]; rfl
          refine ⟨fun q => absurd hcd q, fun _ => ⟨?_, ⟨?_, ?_, fun k k1 k2 => ?_⟩, hE⟩⟩
          · first
            | rw [hpos (by have z9 := hz2.mp (Int32.not_le.mp c_60); omega)]
            | exact absurd rfl c_76
            | (rw [hzer ?_ ?_]
               · refine Classical.byContradiction fun q => ?_
                 exact absurd (hz2.mpr (by omega)) (Int32.not_lt.mpr c_60)
               · first
                   | (have c9 := c_28
                      rw [ek] at c9
                      have := (nI_leI (by omega) (by omega)).mp c9
                      omega)
                   | (refine absurd (hz1.mpr ?_) c_39
                      refine Classical.byContradiction fun q => ?_
                      exact absurd (hz2.mpr (by omega)) (Int32.not_lt.mpr c_60)))
          · exact ((eqx.rf.sI (S := RTs) (Or.inl rfl)).tr he).tr (eE.wk (fun i q => by (try unfold RTs); omega))
          · rw [eE.I (by omega), h9, sI_s, hcd]; rfl
          · rw [eE.I (by omega), h9, sI_k k1]
    · have hlt : i < k := by
        have c9 := c_28
        rw [ek] at c9
        exact (nI_ltI (by omega) (by omega)).mp (i_lt.mp c9)
      refine r_aload_n dX9_missesIn_31 rfl ?_
      refine r_iload_n dX9_missesIn_32 rfl ?_
      refine r_iconst (1) dX9_missesIn_33 (by decide) ?_
      refine q_callV2 (cv_X9_sumOf ml_X9_333) hW kc_723 (by decide) rfl ⟨rfl, rfl⟩ rfl (Nat.le_of_ble_eq_true rfl) dX9_missesIn_34 (c_X9_sumOf hW hm hp hx kn_1 (by decide)) (fun v_34 h_34 q_34 => ?_)
      obtain ⟨rfl, z9⟩ := q_34
      replace z9 := z9.symm
      subst z9
      refine r_lload_n dX9_missesIn_37 rfl ?_
      refine r_lcmp dX9_missesIn_38 ?_
      refine r_if_ne 52 dX9_missesIn_39 (by decide) (fun c_39 => ?_) (fun c_39 => ?_)
      · refine r_aload_n dX9_missesIn_52 rfl ?_
        refine r_iload_n dX9_missesIn_53 rfl ?_
        refine r_iconst (1) dX9_missesIn_54 (by decide) ?_
        refine q_callV2 (cv_X9_sumOf ml_X9_333) hW kc_723 (by decide) rfl ⟨rfl, rfl⟩ rfl (Nat.le_of_ble_eq_true rfl) dX9_missesIn_55 (c_X9_sumOf hW hm hp hx kn_1 (by decide)) (fun v_55 h_55 q_55 => ?_)
        obtain ⟨rfl, z9⟩ := q_55
        replace z9 := z9.symm
        subst z9
        refine r_lload_n dX9_missesIn_58 rfl ?_
        refine r_lcmp dX9_missesIn_59 ?_
        refine r_if_le 67 dX9_missesIn_60 (by decide) (fun c_60 => ?_) (fun c_60 => ?_)
        · refine r_iconst (0) dX9_missesIn_67 (by decide) ?_
          refine r_istore (ls2 := [_, _, _, _, _, some _, _]) dX9_missesIn_68 (by decide) rfl ?_
          refine r_aload_n dX9_missesIn_70 rfl ?_
          refine q_callV0 (cv_X9_ends ml_X9_358) hW kc_723 (by decide) rfl ⟨rfl, rfl⟩ rfl (Nat.le_of_ble_eq_true rfl) dX9_missesIn_71 (c_X9_ends hW hB) (fun v_71 h_71 q_71 => ?_)
          obtain ⟨rfl, eE, hE⟩ := q_71
          refine r_iload dX9_missesIn_74 rfl ?_
          refine r_if_eq 84 dX9_missesIn_76 (by decide) (fun c_76 => ?_) (fun c_76 => ?_)
          · refine r_iconst (-1) dX9_missesIn_84 (by decide) ?_
            refine r_iret dX9_missesIn_85 rfl ⟨Nat.zero_le _, Nat.zero_le _⟩ ?_
            have hpos : ¬ msD p (nn (r.1 1)) (T0 r p) i = 0 → f1A (fi (msB r x) (nn y)) = nI i := fun q => by
              cases i with
              | zero => exact absurd rfl q
              | succ j =>
                rw [Nat.add_sub_cancel] at hf
                rw [eyn, fi_hit (n := k) hf (by rw [hz3 j rfl]; exact decide_eq_true (by omega)) (by omega)]; rfl
            have hzer : msD p (nn (r.1 1)) (T0 r p) i = 0 → k = i → f1A (fi (msB r x) (nn y)) = -1 := fun q hk => by
              rw [eyn, hk]
              cases i with
              | zero => rfl
              | succ j =>
                rw [Nat.add_sub_cancel] at hf
                rw [fi_pass hf (by rw [hz3 j rfl, q]; rfl)]; rfl
            refine ⟨fun q => absurd hcd q, fun _ => ⟨?_, ⟨?_, ?_, fun k k1 k2 => ?_⟩, hE⟩⟩
            · first
              | rw [hpos (by have z9 := hz2.mp (Int32.not_le.mp c_60); omega)]
              | exact absurd rfl c_76
              | (rw [hzer ?_ ?_]
                 · refine Classical.byContradiction fun q => ?_
                   exact absurd (hz2.mpr (by omega)) (Int32.not_lt.mpr c_60)
                 · first
                     | (have c9 := c_28
                        rw [ek] at c9
                        have := (nI_leI (by omega) (by omega)).mp c9
                        omega)
                     | (refine absurd (hz1.mpr ?_) c_39
                        refine Classical.byContradiction fun q => ?_
                        exact absurd (hz2.mpr (by omega)) (Int32.not_lt.mpr c_60)))
            · exact ((eqx.rf.sI (S := RTs) (Or.inl rfl)).tr he).tr (eE.wk (fun i q => by (try unfold RTs); omega))
            · rw [eE.I (by omega), h9, sI_s, hcd]; rfl
            · rw [eE.I (by omega), h9, sI_k k1]
          · first | exact absurd c_76 (by decide) | exact absurd (by decide) c_76
        · refine r_iconst (1) dX9_missesIn_63 (by decide) ?_
          refine r_goto 68 dX9_missesIn_64 (by decide) ?_
          refine r_istore (ls2 := [_, _, _, _, _, some _, _]) dX9_missesIn_68 (by decide) rfl ?_
          refine r_aload_n dX9_missesIn_70 rfl ?_
          refine q_callV0 (cv_X9_ends ml_X9_358) hW kc_723 (by decide) rfl ⟨rfl, rfl⟩ rfl (Nat.le_of_ble_eq_true rfl) dX9_missesIn_71 (c_X9_ends hW hB) (fun v_71 h_71 q_71 => ?_)
          obtain ⟨rfl, eE, hE⟩ := q_71
          refine r_iload dX9_missesIn_74 rfl ?_
          refine r_if_eq 84 dX9_missesIn_76 (by decide) (fun c_76 => ?_) (fun c_76 => ?_)
          · first | exact absurd c_76 (by decide) | exact absurd (by decide) c_76
          · refine r_iload dX9_missesIn_79 rfl ?_
            refine r_goto 85 dX9_missesIn_81 (by decide) ?_
            refine r_iret dX9_missesIn_85 rfl ⟨Nat.zero_le _, Nat.zero_le _⟩ ?_
            have hpos : ¬ msD p (nn (r.1 1)) (T0 r p) i = 0 → f1A (fi (msB r x) (nn y)) = nI i := fun q => by
              cases i with
              | zero => exact absurd rfl q
              | succ j =>
                rw [Nat.add_sub_cancel] at hf
                rw [eyn, fi_hit (n := k) hf (by rw [hz3 j rfl]; exact decide_eq_true (by omega)) (by omega)]; rfl
            have hzer : msD p (nn (r.1 1)) (T0 r p) i = 0 → k = i → f1A (fi (msB r x) (nn y)) = -1 := fun q hk => by
              rw [eyn, hk]
              cases i with
              | zero => rfl
              | succ j =>
                rw [Nat.add_sub_cancel] at hf
                rw [fi_pass hf (by rw [hz3 j rfl, q]; rfl)]; rfl
            refine ⟨fun q => absurd hcd q, fun _ => ⟨?_, ⟨?_, ?_, fun k k1 k2 => ?_⟩, hE⟩⟩
            · first
              | rw [hpos (by have z9 := hz2.mp (Int32.not_le.mp c_60); omega)]
              | exact absurd rfl c_76
              | (rw [hzer ?_ ?_]
                 · refine Classical.byContradiction fun q => ?_
                   exact absurd (hz2.mpr (by omega)) (Int32.not_lt.mpr c_60)
                 · first
                     | (have c9 := c_28
                        rw [ek] at c9
                        have := (nI_leI (by omega) (by omega)).mp c9
                        omega)
                     | (refine absurd (hz1.mpr ?_) c_39
                        refine Classical.byContradiction fun q => ?_
                        exact absurd (hz2.mpr (by omega)) (Int32.not_lt.mpr c_60)))
            · exact ((eqx.rf.sI (S := RTs) (Or.inl rfl)).tr he).tr (eE.wk (fun i q => by (try unfold RTs); omega))
            · rw [eE.I (by omega), h9, sI_s, hcd]; rfl
            · rw [eE.I (by omega), h9, sI_k k1]
      · refine r_aload_n dX9_missesIn_42 rfl ?_
        refine q_callV0 (cv_X9_tick ml_X9_158) hW kc_723 (by decide) rfl ⟨rfl, rfl⟩ rfl (Nat.le_of_ble_eq_true rfl) dX9_missesIn_43 (c_X9_tick hW hm hOi (by omega)) (fun v_43 h_43 q_43 => ?_)
        obtain ⟨rfl, eT, hm⟩ := q_43
        have hW := eT.W hW
        replace hB := hB.cgH eT (by unfold SM; omega) (by unfold SM; omega)
        have he := he.tr (eT.wk (T := RTs) (fun i q => by unfold SM at q; (try unfold RTs); omega))
        have h9 := (eT.I (i := 723) (by unfold SM; omega)).trans h9
        rw [← tkN_s] at hm
        refine r_iinc (1) (by decide) (ls2 := [_, _, _, _, none, _, _]) dX9_missesIn_46 rfl (by decide) rfl ?_
        refine r_goto 25 dX9_missesIn_49 (by decide) ?_
        rw [nI_1]
        refine ih hlt _ hlt hW hm hB he h9 ?_
        have hd0 := hz1.mp c_39
        show fi (msB r x) i = none
        cases i with
        | zero => rfl
        | succ j =>
          rw [Nat.add_sub_cancel] at hf
          exact fi_pass hf (by rw [hz3 j rfl, hd0]; rfl)
  · refine r_iconst (0) dX9_missesIn_9 (by decide) ?_
    refine r_iret dX9_missesIn_10 rfl ⟨Nat.zero_le _, Nat.zero_le _⟩ ?_
    have kn : (okP r x && rgB 1 300 y) = false := bn1 c_6
    refine ⟨fun _ => RQ.of, fun q => absurd q ?_⟩
    unfold cd2
    cases h1 : okP r x
    · exact (by decide : ¬ (1 : Nat) = 0)
    · cases h2 : rgB 1 300 y
      · exact (by decide : ¬ (2 : Nat) = 0)
      · rw [h1, h2] at kn; cases kn

set_option maxRecDepth 100000 in
set_option maxHeartbeats 800000 in
theorem c_X9_changesIn {l9 : Launch} {G : GC} {h : AH} {r : Row} {m : Nat} {x y : Int32} (hW : World h) (hm : MW h r) (hO : RoOK r.1 r.2 m) (hm28 : m < 2 ^ 28) (hb : m + 300 < 2 ^ 23) : PM l9 G mX9_changesIn NT NT [.ref 723, .int x, .int y] h (fun v h' => (cd2 (okP r x) (rgB 1 300 y) ≠ 0 → RQ h h' (cd2 (okP r x) (rgB 1 300 y))) ∧ (cd2 (okP r x) (rgB 1 300 y) = 0 → v = some (.int (nI (qE (TN r x (nn y)).1) - r.1 3)) ∧ RT h h' ∧ MW h' r)) noX := by
  refine PM.of (by decide +kernel) rfl rfl (Nat.le_of_ble_eq_true rfl) (fun hst _ => ?_)
  refine r_aload_n dX9_changesIn_0 rfl ?_
  refine r_iload_n dX9_changesIn_1 rfl ?_
  refine r_iload_n dX9_changesIn_2 rfl ?_
  refine q_callV2 (cv_X9_noSpan ml_X9_349) hW kc_723 (by decide) rfl ⟨rfl, rfl⟩ rfl (Nat.le_of_ble_eq_true rfl) dX9_changesIn_3 (c_X9_noSpan hW hm hO hm28) (fun v_3 h_3 q_3 => ?_)
  obtain ⟨rfl, z9⟩ := q_3
  subst z9
  have hW : World (sI h 723 12 (nI (cd2 (okP r x) (rgB 1 300 y)))) := wsI hW
  replace hm := hm.s9 (k := 12) (x := nI (cd2 (okP r x) (rgB 1 300 y)))
  refine r_if_eq 11 dX9_changesIn_6 (by decide) (fun c_6 => ?_) (fun c_6 => ?_)
  · have kn : (okP r x && rgB 1 300 y) = true := bn0 c_6
    have kr : rgB 1 300 y = true := (Bool.and_eq_true_iff.mp kn).2
    have ko : okP r x = true := (Bool.and_eq_true_iff.mp kn).1
    have hcd : cd2 (okP r x) (rgB 1 300 y) = 0 := cd2_t ko kr
    obtain ⟨p, hp, pn, hx⟩ := okP_t hO ko
    have ex : nn x = p := by rw [hx]; exact nn_I (by omega)
    have hOp := hO.2 p pn
    have y23 : nn (getP r.1 p 23) ≤ 20 := (hOp.at 23).2.2
    have y24 : nn (getP r.1 p 24) ≤ 24 := (hOp.at 24).2.2
    obtain ⟨k, k1, k2, ek⟩ := rgB_t (a := 1) (b := 300) kr (by decide) (by decide)
    have eyn : nn y = k := by rw [ek]; exact nn_I (by omega)
    have hT1 := hO.1.2.1.2.2
    have hsim := sim_N hO (sim_0 hO pn) k (by omega) (by omega)
    have hTN : TN r x (nn y) = trT p (nn (r.1 1)) k (T0 r p) := by unfold TN; rw [ex, eyn]
    have h30 := hO.1.2.2.2
    refine r_aload_n dX9_changesIn_11 rfl ?_
    refine q_callV0 (cv_X9_begins ml_X9_352) hW kc_723 (by decide) rfl ⟨rfl, rfl⟩ rfl (Nat.le_of_ble_eq_true rfl) dX9_changesIn_12 (c_X9_begins hW hm) (fun v_12 h_12 q_12 => ?_)
    obtain ⟨rfl, eB, hB⟩ := q_12
    have hW := eB.W hW
    replace hm := hm.cgH eB (by omega) (by omega)
    refine r_iconst (0) dX9_changesIn_15 (by decide) ?_
    refine r_istore_n (ls2 := [_, _, some _, _, _, _, _]) dX9_changesIn_16 (by decide) rfl ?_
    refine r_iconst (0) dX9_changesIn_17 (by decide) ?_
    refine r_istore (ls2 := [_, _, _, some _, _, _, _]) dX9_changesIn_18 (by decide) rfl ?_
    refine loopN (P := fun i => ∀ (H : AH) (z5 z6 : Option Value) (c : Int32), c = nI (qE (trT p (nn (r.1 1)) i (T0 r p)).1 - nn (r.1 3)) → i ≤ k → World H → MW H (tkN i r) → AW H 726 731 r → eqx (sI h 723 12 (nI (cd2 (okP r x) (rgB 1 300 y)))) H RTs → aI H 723 = aI (sI h 723 12 (nI (cd2 (okP r x) (rgB 1 300 y)))) 723 → PW l9 G mX9_changesIn _ _ NT 20 [some (.ref 723), some (.int x), some (.int y), some (.int c), some (.int (nI i)), z5, z6] [] (0, 0) H) k (fun i ih H z5 z6 c hc hi hW hm hB he h9 => ?_) 0 _ none none 0 (by rw [show qE (trT p (nn (r.1 1)) 0 (T0 r p)).1 = nn (r.1 3) from rfl, Nat.sub_self]; rfl) (Nat.zero_le _) hW hm hB (eB.wk (fun i q => by (try unfold RTs); omega)) (eB.I (by omega))
    subst hc
    have hOi := tkN_ok hO i (by omega)
    refine r_iload dX9_changesIn_20 rfl ?_
    refine r_iload_n dX9_changesIn_22 rfl ?_
    refine r_icmp_ge 93 dX9_changesIn_23 (by decide) (fun c_23 => ?_) (fun c_23 => ?_)
    · have hge : k = i := by
        have c9 := c_23
        rw [ek] at c9
        have := (nI_leI (by omega) (by omega)).mp c9
        omega
      refine r_aload_n dX9_changesIn_93 rfl ?_
      refine q_callV0 (cv_X9_ends ml_X9_358) hW kc_723 (by decide) rfl ⟨rfl, rfl⟩ rfl (Nat.le_of_ble_eq_true rfl) dX9_changesIn_94 (c_X9_ends hW hB) (fun v_94 h_94 q_94 => ?_)
      obtain ⟨rfl, eE, hE⟩ := q_94
      refine r_iload_n dX9_changesIn_97 rfl ?_
      refine r_iret dX9_changesIn_98 rfl ⟨Nat.zero_le _, Nat.zero_le _⟩ ?_
      refine ⟨fun q => absurd hcd q, fun _ => ⟨?_, ⟨?_, ?_, fun k k1 k2 => ?_⟩, hE⟩⟩
      · have e5 := hO.1.2.2.2.1
        obtain ⟨w1, w2⟩ := ev_N hO pn k (by omega) (by omega)
        refine some_int ?_
        rw [hTN, ← hge]
        exact (pk_sub (by omega)).symm.trans (congrArg (fun z => nI (qE (trT p (nn (r.1 1)) k (T0 r p)).1) - z) e5.symm)
      · exact ((eqx.rf.sI (S := RTs) (Or.inl rfl)).tr he).tr (eE.wk (fun i q => by (try unfold RTs); omega))
      · rw [eE.I (by omega), h9, sI_s, hcd]; rfl
      · rw [eE.I (by omega), h9, sI_k k1]
    · have hlt : i < k := by
        have c9 := c_23
        rw [ek] at c9
        exact (nI_ltI (by omega) (by omega)).mp (i_lt.mp c9)
      have hsi := sim_N hO (sim_0 hO pn) i (by omega) (by omega)
      obtain ⟨hv1, hv2, hv3⟩ := ev_tick (p := p) hOi (by omega) (by omega) hsi
      rw [← tkN_s] at hv1 hv2 hv3
      rw [← trT_s] at hv3
      obtain ⟨hv4, hv5⟩ := ev_N hO pn i (by omega) (by omega)
      obtain ⟨D, hD⟩ : ∃ D, D = nn ((tkN (i + 1) r).1 3) - nn ((tkN i r).1 3) := ⟨_, rfl⟩
      rw [← hD] at hv3
      have hR3 := hOi.1.2.2.2
      obtain ⟨E, hE1, hE2⟩ : ∃ E, (tkN i r).1 3 = nI E ∧ nn ((tkN i r).1 3) = E := ⟨_, hR3.1, rfl⟩
      rw [hE2] at hv1 hv2 hv3 hD
      have hE5 : E ≤ 100 + 20 * (m + i) := by rw [← hE2]; exact hR3.2.2
      have hR4 := (tkN_ok hO (i + 1) (by omega)).1.2.2.2
      refine r_aload_n dX9_changesIn_26 rfl ?_
      refine q_getR fl_X9_7 hW kc_723 rfl (kl_9_0 hW) (by decide) dX9_changesIn_27 ?_
      refine r_iconst (3) dX9_changesIn_30 (by decide) ?_
      refine q_wldMW hW hm kn_3 (by omega) dX9_changesIn_31 ?_
      refine r_istore (ls2 := [_, _, _, _, some _, _, _]) dX9_changesIn_32 (by decide) rfl ?_
      refine r_aload_n dX9_changesIn_34 rfl ?_
      refine q_callV0 (cv_X9_tick ml_X9_158) hW kc_723 (by decide) rfl ⟨rfl, rfl⟩ rfl (Nat.le_of_ble_eq_true rfl) dX9_changesIn_35 (c_X9_tick hW hm hOi (by omega)) (fun v_35 h_35 q_35 => ?_)
      obtain ⟨rfl, eT, hm⟩ := q_35
      have hW := eT.W hW
      replace hB := hB.cgH eT (by unfold SM; omega) (by unfold SM; omega)
      have he := he.tr (eT.wk (T := RTs) (fun i q => by unfold SM at q; (try unfold RTs); omega))
      have h9 := (eT.I (i := 723) (by unfold SM; omega)).trans h9
      rw [← tkN_s] at hm
      refine r_iload dX9_changesIn_38 rfl ?_
      refine r_istore (ls2 := [_, _, _, _, _, some _, _]) dX9_changesIn_40 (by decide) rfl ?_
      rw [hE1]
      refine loopN (P := fun j => j ≤ D → PW l9 G mX9_changesIn _ _ NT 42 [some (.ref 723), some (.int x), some (.int y), some (.int (nI (qE (trT p (nn (r.1 1)) i (T0 r p)).1 - nn (r.1 3) + cnE (tkN (i + 1) r).1 (nI p) E j))), some (.int (nI i)), some (.int (nI E)), some (.int (nI (E + j)))] [] (0, 0) h_35) D (fun j jh hj => ?_) 0 (Nat.zero_le _)
      refine r_iload dX9_changesIn_42 rfl ?_
      refine r_aload_n dX9_changesIn_44 rfl ?_
      refine q_getR fl_X9_7 hW kc_723 rfl (kl_9_0 hW) (by decide) dX9_changesIn_45 ?_
      refine r_iconst (3) dX9_changesIn_48 (by decide) ?_
      refine q_wldMW hW hm kn_3 (by omega) dX9_changesIn_49 ?_
      refine r_icmp_ge 87 dX9_changesIn_50 (by decide) (fun c_50 => ?_) (fun c_50 => ?_)
      · have hge2 : j = D := by
          have c9 := c_50
          rw [hR4.1] at c9
          have := (nI_leI (by omega) (by omega)).mp c9
          omega
        subst hge2
        refine r_iinc (1) (by decide) (ls2 := [_, _, _, some _, _, _, _]) dX9_changesIn_87 rfl (by decide) rfl ?_
        refine r_goto 20 dX9_changesIn_90 (by decide) ?_
        rw [nI_1, show qE (trT p (nn (r.1 1)) i (T0 r p)).1 - nn (r.1 3) + cnE (tkN (i + 1) r).1 (nI p) E j = qE (trT p (nn (r.1 1)) (i + 1) (T0 r p)).1 - nn (r.1 3) from by omega]
        exact ih hlt _ _ _ _ rfl hlt hW hm hB he h9
      · have hlt2 : j < D := by
          have c9 := c_50
          rw [hR4.1] at c9
          have := (nI_ltI (by omega) (by omega)).mp (i_lt.mp c9)
          omega
        have ym := Nat.mod_lt (E + j) (show 0 < 60 by decide)
        have hcn : cnE (tkN (i + 1) r).1 (nI p) E (j + 1) = cnE (tkN (i + 1) r).1 (nI p) E j + (if slE (tkN (i + 1) r).1 (E + j) = nI p then 1 else 0) := rfl
        have hsl : (tkN (i + 1) r).1 (4 + 4 * ((E + j) % 60) + 2) = slE (tkN (i + 1) r).1 (E + j) := by unfold slE; exact congrArg (tkN (i + 1) r).1 (by omega)
        refine r_iload_n dX9_changesIn_53 rfl ?_
        refine r_aload_n dX9_changesIn_54 rfl ?_
        refine q_getR fl_X9_7 hW kc_723 rfl (kl_9_0 hW) (by decide) dX9_changesIn_55 ?_
        refine r_iconst (4) dX9_changesIn_58 (by decide) ?_
        refine r_iconst (4) dX9_changesIn_59 (by decide) ?_
        refine r_iload dX9_changesIn_60 rfl ?_
        refine r_bipush (60) dX9_changesIn_62 (by decide) ?_
        refine r_irem dX9_changesIn_64 (by decide) ?_
        refine r_imul dX9_changesIn_65 ?_
        refine r_iadd dX9_changesIn_66 ?_
        refine r_iconst (2) dX9_changesIn_67 (by decide) ?_
        refine r_iadd dX9_changesIn_68 ?_
        refine q_wldMW hW hm (nadd (nadd kn_4 (nmul kn_4 (nrem rfl kn_60 (by omega) (by omega) (by omega)))) kn_2) (by omega) dX9_changesIn_69 ?_
        refine r_iload_n dX9_changesIn_70 rfl ?_
        refine r_icmp_ne 78 dX9_changesIn_71 (by decide) (fun c_71 => ?_) (fun c_71 => ?_)
        · refine r_iconst (0) dX9_changesIn_78 (by decide) ?_
          refine r_iadd dX9_changesIn_79 ?_
          refine r_istore_n (ls2 := [_, _, some _, _, _, _, _]) dX9_changesIn_80 (by decide) rfl ?_
          refine r_iinc (1) (by decide) (ls2 := [_, _, _, _, _, some _, _]) dX9_changesIn_81 rfl (by decide) rfl ?_
          refine r_goto 42 dX9_changesIn_84 (by decide) ?_
          first
            | (have z9 := if_pos (hsl.symm.trans (c_71.trans hx)) (p := slE (tkN (i + 1) r).1 (E + j) = nI p)
               skip)
            | skip
          have hval : (if slE (tkN (i + 1) r).1 (E + j) = nI p then (1 : Nat) else 0) = 1 → True := fun _ => trivial
          first
            | (rw [if_pos (hsl.symm.trans (c_71.trans hx))] at hcn
               rw [nI_1, show qE (trT p (nn (r.1 1)) i (T0 r p)).1 - nn (r.1 3) + cnE (tkN (i + 1) r).1 (nI p) E j + 1 = qE (trT p (nn (r.1 1)) i (T0 r p)).1 - nn (r.1 3) + cnE (tkN (i + 1) r).1 (nI p) E (j + 1) from by omega, nI_1]
               exact jh hlt2 (by omega))
            | (rw [if_neg (fun q => c_71 ((hsl.trans q).trans hx.symm))] at hcn
               rw [Int32.add_zero, show qE (trT p (nn (r.1 1)) i (T0 r p)).1 - nn (r.1 3) + cnE (tkN (i + 1) r).1 (nI p) E j = qE (trT p (nn (r.1 1)) i (T0 r p)).1 - nn (r.1 3) + cnE (tkN (i + 1) r).1 (nI p) E (j + 1) from by omega, nI_1]
               exact jh hlt2 (by omega))
        · refine r_iconst (1) dX9_changesIn_74 (by decide) ?_
          refine r_goto 79 dX9_changesIn_75 (by decide) ?_
          refine r_iadd dX9_changesIn_79 ?_
          refine r_istore_n (ls2 := [_, _, some _, _, _, _, _]) dX9_changesIn_80 (by decide) rfl ?_
          refine r_iinc (1) (by decide) (ls2 := [_, _, _, _, _, some _, _]) dX9_changesIn_81 rfl (by decide) rfl ?_
          refine r_goto 42 dX9_changesIn_84 (by decide) ?_
          first
            | (have z9 := if_pos (hsl.symm.trans (c_71.trans hx)) (p := slE (tkN (i + 1) r).1 (E + j) = nI p)
               skip)
            | skip
          have hval : (if slE (tkN (i + 1) r).1 (E + j) = nI p then (1 : Nat) else 0) = 1 → True := fun _ => trivial
          first
            | (rw [if_pos (hsl.symm.trans (c_71.trans hx))] at hcn
               rw [nI_1, show qE (trT p (nn (r.1 1)) i (T0 r p)).1 - nn (r.1 3) + cnE (tkN (i + 1) r).1 (nI p) E j + 1 = qE (trT p (nn (r.1 1)) i (T0 r p)).1 - nn (r.1 3) + cnE (tkN (i + 1) r).1 (nI p) E (j + 1) from by omega, nI_1]
               exact jh hlt2 (by omega))
            | (rw [if_neg (fun q => c_71 ((hsl.trans q).trans hx.symm))] at hcn
               rw [Int32.add_zero, show qE (trT p (nn (r.1 1)) i (T0 r p)).1 - nn (r.1 3) + cnE (tkN (i + 1) r).1 (nI p) E j = qE (trT p (nn (r.1 1)) i (T0 r p)).1 - nn (r.1 3) + cnE (tkN (i + 1) r).1 (nI p) E (j + 1) from by omega, nI_1]
               exact jh hlt2 (by omega))
  · refine r_iconst (0) dX9_changesIn_9 (by decide) ?_
    refine r_iret dX9_changesIn_10 rfl ⟨Nat.zero_le _, Nat.zero_le _⟩ ?_
    have kn : (okP r x && rgB 1 300 y) = false := bn1 c_6
    refine ⟨fun _ => RQ.of, fun q => absurd q ?_⟩
    unfold cd2
    cases h1 : okP r x
    · exact (by decide : ¬ (1 : Nat) = 0)
    · cases h2 : rgB 1 300 y
      · exact (by decide : ¬ (2 : Nat) = 0)
      · rw [h1, h2] at kn; cases kn
