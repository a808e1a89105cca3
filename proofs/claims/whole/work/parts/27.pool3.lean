theorem n64_dii {x y : Int32} (h : y ≠ 0) : vf_n64 (FP.ddiv (FP.i2d x) (FP.i2d y)) := n64_of (FP.Core.ddiv_out (FP.Core.DFin.notNaN (FP.Core.i2d_fin x)) (FP.Core.i2d_fin y) (fun q => FP.Core.i2d_ne_zero h ((FP.Core.zero_bits2 _).mp q)))
theorem n64_dli {x : Int64} {y : Int32} (h : y ≠ 0) : vf_n64 (FP.ddiv (FP.l2d x) (FP.i2d y)) := n64_of (FP.Core.ddiv_out (FP.Core.DFin.notNaN (FP.Core.l2d_fin x)) (FP.Core.i2d_fin y) (fun q => FP.Core.i2d_ne_zero h ((FP.Core.zero_bits2 _).mp q)))
theorem n64_dll {x y : Int64} (h : y ≠ 0) : vf_n64 (FP.ddiv (FP.l2d x) (FP.l2d y)) := n64_of (FP.Core.ddiv_out (FP.Core.DFin.notNaN (FP.Core.l2d_fin x)) (FP.Core.l2d_fin y) (fun q => FP.Core.l2d_ne_zero h ((FP.Core.zero_bits2 _).mp q)))
theorem n32_fll' {x y : Int64} (h : y ≠ 0) : FP.Core.fIsNaN (FP.fdiv (FP.l2f x) (FP.l2f y)) = false := FP.Core.fdiv_out (FP.Core.FFin.notNaN (FP.Core.l2f_fin x)) (FP.Core.l2f_fin y) (fun q => FP.Core.l2f_ne_zero h ((FP.Core.zero_bits232 _).mp q))
theorem n32_fll {x y : Int64} (h : y ≠ 0) : vf_n32 (FP.fdiv (FP.l2f x) (FP.l2f y)) := n32_of (n32_fll' h)
theorem n64_f2d {r : UInt32} (h : FP.Core.fIsNaN r = false) : vf_n64 (FP.f2d r) := by
  refine n64_of ?_
  show FP.dIsNaN (FP.f2d r) = false
  rw [FP.f2d_nan]; exact h
set_option maxRecDepth 100000 in
set_option maxHeartbeats 4000000 in
theorem c_X3_decisionAt {l9 : Launch} {G : GC} {h : AH} {o : Nat} {c t : Nat} {f : Nat → Int32} {g : Nat → Int64} {u : Nat} (hW : World h) (hk : kd o 3) (hp : PoR h o c t f g) (hO : PoOK f g c t) : PM l9 G mX3_decisionAt NT NT [.ref o, .int (nI u)] h (fun v h' => v = some (.int (nI (deF f u))) ∧ h' = h) noX := by
  refine PM.of (by decide +kernel) rfl rfl (Nat.le_of_ble_eq_true rfl) (fun hst _ => ?_)
  have hp9 := hp
  obtain ⟨zs, zm, zt, ⟨zd, zc⟩, zf, z20, z18, z19, z17, z21, z22, z16⟩ := hp
  have zl : aI h (o + 3) 4 = f 23 := by rw [zm.1, mbs_len]; exact (hO.at 23).1.symm
  have s9 := zs.1 9 (by decide)
  have s12 := zs.1 12 (by decide)
  have s13 := zs.1 13 (by decide)
  refine r_aload_n dX3_decisionAt_0 rfl ?_
  refine q_getI fl_X3_76 hW hk rfl dX3_decisionAt_1 ?_
  rw [z16]
  refine r_if_eq 9 dX3_decisionAt_4 (by decide) (fun c_4 => ?_) (fun c_4 => ?_)
  · refine r_aload_n dX3_decisionAt_9 rfl ?_
    refine q_getI fl_X3_64 hW hk rfl dX3_decisionAt_10 ?_
    refine r_aload_n dX3_decisionAt_13 rfl ?_
    refine q_getR fl_X3_21 hW hk rfl (kl_3_1 hW hk) (Nat.succ_ne_zero _) dX3_decisionAt_14 ?_
    refine q_getI fl_X3_43 hW (kk_3_1 hk) rfl dX3_decisionAt_17 ?_
    rw [z19, zl]
    refine r_icmp_ne 25 dX3_decisionAt_20 (by decide) (fun c_20 => ?_) (fun c_20 => ?_)
    · refine r_aload_n dX3_decisionAt_25 rfl ?_
      refine q_getI fl_X3_64 hW hk rfl dX3_decisionAt_26 ?_
      refine r_aload_n dX3_decisionAt_29 rfl ?_
      refine q_getR fl_X3_21 hW hk rfl (kl_3_1 hW hk) (Nat.succ_ne_zero _) dX3_decisionAt_30 ?_
      refine q_getI fl_X3_43 hW (kk_3_1 hk) rfl dX3_decisionAt_33 ?_
      rw [z19, zl]
      refine r_icmp_le 61 dX3_decisionAt_36 (by decide) (fun c_36 => ?_) (fun c_36 => ?_)
      · refine r_iload_n dX3_decisionAt_61 rfl ?_
        refine r_aload_n dX3_decisionAt_62 rfl ?_
        refine q_getI fl_X3_73 hW hk rfl dX3_decisionAt_63 ?_
        refine r_isub dX3_decisionAt_66 ?_
        refine r_aload_n dX3_decisionAt_67 rfl ?_
        refine q_getR fl_X3_12 hW hk rfl (kl_3_0 hW hk) (Nat.succ_ne_zero _) dX3_decisionAt_68 ?_
        refine q_getI fl_X3_194 hW (kk_3_0 hk) rfl dX3_decisionAt_71 ?_
        rw [z22, s13]
        refine r_icmp_ge 79 dX3_decisionAt_74 (by decide) (fun c_74 => ?_) (fun c_74 => ?_)
        · refine r_aload_n dX3_decisionAt_79 rfl ?_
          refine q_getR fl_X3_21 hW hk rfl (kl_3_1 hW hk) (Nat.succ_ne_zero _) dX3_decisionAt_80 ?_
          refine r_aload_n dX3_decisionAt_83 rfl ?_
          refine q_getR fl_X3_12 hW hk rfl (kl_3_0 hW hk) (Nat.succ_ne_zero _) dX3_decisionAt_84 ?_
          refine q_getI fl_X3_197 hW (kk_3_0 hk) rfl dX3_decisionAt_87 ?_
          rw [s9]
          refine q_callV1 (cv_X1_nextToGo ml_X3_200) hW (kk_3_1 hk) (by decide) rfl ⟨rfl, rfl⟩ rfl (Nat.le_of_ble_eq_true rfl) dX3_decisionAt_90 (c_X1_nextToGo hW (kk_3_1 hk) zm) (fun v_90 h_90 q_90 => ?_)
          obtain ⟨rfl, z9⟩ := q_90
          replace z9 := z9.symm
          subst z9
          refine r_if_ge 100 dX3_decisionAt_93 (by decide) (fun c_93 => ?_) (fun c_93 => ?_)
          · refine r_iconst (1) dX3_decisionAt_100 (by decide) ?_
            refine r_iret dX3_decisionAt_101 rfl ⟨Nat.zero_le _, Nat.zero_le _⟩ ?_
            refine ⟨some_int ?_, rfl⟩
            unfold deF
            rw [if_pos c_4, if_neg c_20, if_neg (Int32.not_lt.mpr c_36), if_neg (Int32.not_lt.mpr c_74)]
            cases hq : ng (mbs f) (f 9) (mbs f).length with
            | none =>
              rw [hq] at c_93
              first
                | rfl
                | exact absurd c_93 (by decide)
            | some k =>
              have yk := ng_lt hq
              have yl := zm.2.1
              rw [hq] at c_93
              first
                | rfl
                | exact absurd c_93 (fun q => q (nI_pos' (n := k) (by omega)))
                | exact absurd (nI_pos' (n := k) (by omega)) c_93
          · refine r_iconst (5) dX3_decisionAt_96 (by decide) ?_
            refine r_goto 101 dX3_decisionAt_97 (by decide) ?_
            refine r_iret dX3_decisionAt_101 rfl ⟨Nat.zero_le _, Nat.zero_le _⟩ ?_
            refine ⟨some_int ?_, rfl⟩
            unfold deF
            rw [if_pos c_4, if_neg c_20, if_neg (Int32.not_lt.mpr c_36), if_neg (Int32.not_lt.mpr c_74)]
            cases hq : ng (mbs f) (f 9) (mbs f).length with
            | none =>
              rw [hq] at c_93
              first
                | rfl
                | exact absurd c_93 (by decide)
            | some k =>
              have yk := ng_lt hq
              have yl := zm.2.1
              rw [hq] at c_93
              first
                | rfl
                | exact absurd c_93 (fun q => q (nI_pos' (n := k) (by omega)))
                | exact absurd (nI_pos' (n := k) (by omega)) c_93
        · refine r_iconst (4) dX3_decisionAt_77 (by decide) ?_
          refine r_iret dX3_decisionAt_78 rfl ⟨Nat.zero_le _, Nat.zero_le _⟩ ?_
          exact ⟨some_int (by unfold deF; rw [if_pos c_4, if_neg c_20, if_neg (Int32.not_lt.mpr c_36), if_pos (i_lt.mp c_74)]; rfl), rfl⟩
      · refine r_iload_n dX3_decisionAt_39 rfl ?_
        refine r_aload_n dX3_decisionAt_40 rfl ?_
        refine q_getI fl_X3_70 hW hk rfl dX3_decisionAt_41 ?_
        refine r_isub dX3_decisionAt_44 ?_
        refine r_aload_n dX3_decisionAt_45 rfl ?_
        refine q_getR fl_X3_12 hW hk rfl (kl_3_0 hW hk) (Nat.succ_ne_zero _) dX3_decisionAt_46 ?_
        refine q_getI fl_X3_191 hW (kk_3_0 hk) rfl dX3_decisionAt_49 ?_
        rw [z21, s12]
        refine r_icmp_ge 59 dX3_decisionAt_52 (by decide) (fun c_52 => ?_) (fun c_52 => ?_)
        · refine r_iconst (0) dX3_decisionAt_59 (by decide) ?_
          refine r_iret dX3_decisionAt_60 rfl ⟨Nat.zero_le _, Nat.zero_le _⟩ ?_
          refine ⟨some_int ?_, rfl⟩
          unfold deF
          rw [if_pos c_4, if_neg c_20, if_pos (i_lt.mp c_36)]
          first
            | (rw [if_pos (i_lt.mp c_52)]; rfl)
            | (rw [if_neg (Int32.not_lt.mpr c_52)]; rfl)
        · refine r_iconst (4) dX3_decisionAt_55 (by decide) ?_
          refine r_goto 60 dX3_decisionAt_56 (by decide) ?_
          refine r_iret dX3_decisionAt_60 rfl ⟨Nat.zero_le _, Nat.zero_le _⟩ ?_
          refine ⟨some_int ?_, rfl⟩
          unfold deF
          rw [if_pos c_4, if_neg c_20, if_pos (i_lt.mp c_36)]
          first
            | (rw [if_pos (i_lt.mp c_52)]; rfl)
            | (rw [if_neg (Int32.not_lt.mpr c_52)]; rfl)
    · refine r_iconst (2) dX3_decisionAt_23 (by decide) ?_
      refine r_iret dX3_decisionAt_24 rfl ⟨Nat.zero_le _, Nat.zero_le _⟩ ?_
      exact ⟨some_int (by unfold deF; rw [if_pos c_4, if_pos c_20]; rfl), rfl⟩
  · refine r_iconst (3) dX3_decisionAt_7 (by decide) ?_
    refine r_iret dX3_decisionAt_8 rfl ⟨Nat.zero_le _, Nat.zero_le _⟩ ?_
    exact ⟨some_int (by unfold deF; rw [if_neg c_4]; rfl), rfl⟩

set_option maxRecDepth 100000 in
set_option maxHeartbeats 4000000 in
theorem c_X3_decide {l9 : Launch} {G : GC} {h : AH} {o : Nat} {c t : Nat} {f : Nat → Int32} {g : Nat → Int64} {u : Nat} (hW : World h) (hk : kd o 3) (hp : PoR h o c t f g) (hO : PoOK f g c t) : PM l9 G mX3_decide NT NT [.ref o, .int (nI u)] h (fun v h' => v = none ∧ eqx h h' (btw o (o + 11)) ∧ PoR h' o c t (decF f u) g) noX := by
  refine PM.of (by decide +kernel) rfl rfl (Nat.le_of_ble_eq_true rfl) (fun hst _ => ?_)
  have hp9 := hp
  obtain ⟨zs, zm, zt, ⟨zd, zc⟩, zf, z20, z18, z19, z17, z21, z22, z16⟩ := hp
  have y6 := deF_lt f u
  refine r_aload_n dX3_decide_0 rfl ?_
  refine r_aload_n dX3_decide_1 rfl ?_
  refine r_iload_n dX3_decide_2 rfl ?_
  refine q_callV1 (cv_X3_decisionAt ml_X3_185) hW hk (by decide) rfl ⟨rfl, rfl⟩ rfl (Nat.le_of_ble_eq_true rfl) dX3_decide_3 (c_X3_decisionAt hW hk ‹_› ‹_›) (fun v_3 h_3 q_3 => ?_)
  obtain ⟨rfl, z9⟩ := q_3
  replace z9 := z9.symm
  subst z9
  refine q_putI fl_X3_67 hW hk rfl rfl dX3_decide_6 ?_
  refine r_aload_n dX3_decide_9 rfl ?_
  refine q_getR fl_X3_28 hW hk rfl (kl_3_2 hW hk) (Nat.succ_ne_zero _) dX3_decide_10 ?_
  refine r_aload_n dX3_decide_13 rfl ?_
  refine q_getI fl_X3_67 hW hk rfl dX3_decide_14 ?_
  rw [show aI (sI h o 9 (nI (deF f u))) o 9 = nI (deF f u) from sI_s]
  have zt3 : TalR (sI h o 9 (nI (deF f u))) (o + 8) (tlG g) (tIF f) (dcF f) := zt.sub (sI_o (by omega)) rfl (sI_o (by omega)) (fun _ _ => rfl) (fun _ _ _ => rfl) (fun _ _ => rfl)
  refine q_callV1 (cv_X7_addDecision ml_X3_188) hW (kk_3_2 hk) (by decide) rfl ⟨rfl, rfl⟩ rfl (Nat.le_of_ble_eq_true rfl) dX3_decide_17 (c_X7_addDecision hW (kk_3_2 hk) zt3 y6) (fun v_17 h_17 q_17 => ?_)
  obtain ⟨rfl, he, hm⟩ := q_17
  have hW := he.W (wsI hW)
  refine r_aload_n dX3_decide_20 rfl ?_
  refine q_getI fl_X3_67 hW hk rfl dX3_decide_21 ?_
  have z9h : aI h_17 o 9 = nI (deF f u) := by rw [he.I (by unfold btw; omega)]; exact sI_s
  rw [z9h]
  refine r_if_ne 32 dX3_decide_24 (by decide) (fun c_24 => ?_) (fun c_24 => ?_)
  · refine r_aload_n dX3_decide_32 rfl ?_
    refine q_getI fl_X3_67 hW hk rfl dX3_decide_33 ?_
    first
      | rw [z9h]
      | rw [show aI (sI h_17 o 10 (nI u)) o 9 = nI (deF f u) from (sI_k (by decide)).trans z9h]
    refine r_if_eq 47 dX3_decide_36 (by decide) (fun c_36 => ?_) (fun c_36 => ?_)
    · refine r_aload_n dX3_decide_47 rfl ?_
      refine r_iload_n dX3_decide_48 rfl ?_
      refine q_putI fl_X3_73 hW hk rfl rfl dX3_decide_49 ?_
      refine r_vret dX3_decide_52 rfl ⟨Nat.zero_le _, Nat.zero_le _⟩ ?_
      have e0 : nI (deF f u) = 0 ↔ deF f u = 0 := nI_eq (b := 0) (by omega) (by decide)
      have e1 : nI (deF f u) = 1 ↔ deF f u = 1 := nI_eq (b := 1) (by omega) (by decide)
      first
        | have k0 := e0.mp c_24
        | have k0 : ¬ deF f u = 0 := fun q => c_24 (e0.mpr q)
      first
        | have k1 := e1.mp c_44
        | have k1 : ¬ deF f u = 1 := fun q => c_44 (e1.mpr q)
        | skip
      first
        | exact absurd c_36 c_24
        | exact absurd c_24 c_36
        | (refine ⟨rfl, ?_, po_dec hp9 hO (fun i h1 h2 => ?_) (hm.sub ?_ rfl ?_ (fun _ _ => rfl) (fun _ _ _ => rfl) (fun _ _ => rfl)) (fun k h1 h2 h3 => ?_) ?_ ?_ ?_⟩
           · refine eqx.tr (h' := h_17) (eqx.tr (eqx.rf.sI (i := o) (by unfold btw; omega)) (he.wk (fun i zi => by unfold btw at *; omega))) ?_
             repeat (first | exact eqx.rf | refine eqx.sI ?_ (by unfold btw; omega))
           · repeat rw [sI_o h1]
             rw [he.I (by unfold btw; omega), sI_o h1]
           · first | rfl | (repeat rw [sI_o (by omega)])
           · first | rfl | (repeat rw [sI_o (by omega)])
           · repeat rw [sI_k (by assumption)]
             rw [he.I (by unfold btw; omega), sI_k h1]
           · repeat rw [sI_k (by decide)]
             exact z9h
           · first
               | rw [if_pos (by omega)]
               | rw [if_neg (by omega)]
             repeat rw [sI_k (by decide)]
             first
               | exact sI_s
               | (rw [he.I (by unfold btw; omega)]; exact sI_k (by decide))
           · first
               | rw [if_pos (by omega)]
               | rw [if_neg (by omega)]
             first
               | exact sI_s
               | (repeat rw [sI_k (by decide)]
                  rw [he.I (by unfold btw; omega)]; exact sI_k (by decide)))
    · refine r_aload_n dX3_decide_39 rfl ?_
      refine q_getI fl_X3_67 hW hk rfl dX3_decide_40 ?_
      refine r_iconst (1) dX3_decide_43 (by decide) ?_
      first
        | rw [z9h]
        | rw [show aI (sI h_17 o 10 (nI u)) o 9 = nI (deF f u) from (sI_k (by decide)).trans z9h]
      refine r_icmp_ne 52 dX3_decide_44 (by decide) (fun c_44 => ?_) (fun c_44 => ?_)
      · refine r_vret dX3_decide_52 rfl ⟨Nat.zero_le _, Nat.zero_le _⟩ ?_
        have e0 : nI (deF f u) = 0 ↔ deF f u = 0 := nI_eq (b := 0) (by omega) (by decide)
        have e1 : nI (deF f u) = 1 ↔ deF f u = 1 := nI_eq (b := 1) (by omega) (by decide)
        first
          | have k0 := e0.mp c_24
          | have k0 : ¬ deF f u = 0 := fun q => c_24 (e0.mpr q)
        first
          | have k1 := e1.mp c_44
          | have k1 : ¬ deF f u = 1 := fun q => c_44 (e1.mpr q)
          | skip
        first
          | exact absurd c_36 c_24
          | exact absurd c_24 c_36
          | (refine ⟨rfl, ?_, po_dec hp9 hO (fun i h1 h2 => ?_) (hm.sub ?_ rfl ?_ (fun _ _ => rfl) (fun _ _ _ => rfl) (fun _ _ => rfl)) (fun k h1 h2 h3 => ?_) ?_ ?_ ?_⟩
             · refine eqx.tr (h' := h_17) (eqx.tr (eqx.rf.sI (i := o) (by unfold btw; omega)) (he.wk (fun i zi => by unfold btw at *; omega))) ?_
               repeat (first | exact eqx.rf | refine eqx.sI ?_ (by unfold btw; omega))
             · repeat rw [sI_o h1]
               rw [he.I (by unfold btw; omega), sI_o h1]
             · first | rfl | (repeat rw [sI_o (by omega)])
             · first | rfl | (repeat rw [sI_o (by omega)])
             · repeat rw [sI_k (by assumption)]
               rw [he.I (by unfold btw; omega), sI_k h1]
             · repeat rw [sI_k (by decide)]
               exact z9h
             · first
                 | rw [if_pos (by omega)]
                 | rw [if_neg (by omega)]
               repeat rw [sI_k (by decide)]
               first
                 | exact sI_s
                 | (rw [he.I (by unfold btw; omega)]; exact sI_k (by decide))
             · first
                 | rw [if_pos (by omega)]
                 | rw [if_neg (by omega)]
               first
                 | exact sI_s
                 | (repeat rw [sI_k (by decide)]
                    rw [he.I (by unfold btw; omega)]; exact sI_k (by decide)))
      · refine r_aload_n dX3_decide_47 rfl ?_
        refine r_iload_n dX3_decide_48 rfl ?_
        refine q_putI fl_X3_73 hW hk rfl rfl dX3_decide_49 ?_
        refine r_vret dX3_decide_52 rfl ⟨Nat.zero_le _, Nat.zero_le _⟩ ?_
        have e0 : nI (deF f u) = 0 ↔ deF f u = 0 := nI_eq (b := 0) (by omega) (by decide)
        have e1 : nI (deF f u) = 1 ↔ deF f u = 1 := nI_eq (b := 1) (by omega) (by decide)
        first
          | have k0 := e0.mp c_24
          | have k0 : ¬ deF f u = 0 := fun q => c_24 (e0.mpr q)
        first
          | have k1 := e1.mp c_44
          | have k1 : ¬ deF f u = 1 := fun q => c_44 (e1.mpr q)
          | skip
        first
          | exact absurd c_36 c_24
          | exact absurd c_24 c_36
          | (refine ⟨rfl, ?_, po_dec hp9 hO (fun i h1 h2 => ?_) (hm.sub ?_ rfl ?_ (fun _ _ => rfl) (fun _ _ _ => rfl) (fun _ _ => rfl)) (fun k h1 h2 h3 => ?_) ?_ ?_ ?_⟩
             · refine eqx.tr (h' := h_17) (eqx.tr (eqx.rf.sI (i := o) (by unfold btw; omega)) (he.wk (fun i zi => by unfold btw at *; omega))) ?_
               repeat (first | exact eqx.rf | refine eqx.sI ?_ (by unfold btw; omega))
             · repeat rw [sI_o h1]
               rw [he.I (by unfold btw; omega), sI_o h1]
             · first | rfl | (repeat rw [sI_o (by omega)])
             · first | rfl | (repeat rw [sI_o (by omega)])
             · repeat rw [sI_k (by assumption)]
               rw [he.I (by unfold btw; omega), sI_k h1]
             · repeat rw [sI_k (by decide)]
               exact z9h
             · first
                 | rw [if_pos (by omega)]
                 | rw [if_neg (by omega)]
               repeat rw [sI_k (by decide)]
               first
                 | exact sI_s
                 | (rw [he.I (by unfold btw; omega)]; exact sI_k (by decide))
             · first
                 | rw [if_pos (by omega)]
                 | rw [if_neg (by omega)]
               first
                 | exact sI_s
                 | (repeat rw [sI_k (by decide)]
                    rw [he.I (by unfold btw; omega)]; exact sI_k (by decide)))
  · refine r_aload_n dX3_decide_27 rfl ?_
    refine r_iload_n dX3_decide_28 rfl ?_
    refine q_putI fl_X3_70 hW hk rfl rfl dX3_decide_29 ?_
    refine r_aload_n dX3_decide_32 rfl ?_
    refine q_getI fl_X3_67 hW hk rfl dX3_decide_33 ?_
    first
      | rw [z9h]
      | rw [show aI (sI h_17 o 10 (nI u)) o 9 = nI (deF f u) from (sI_k (by decide)).trans z9h]
    refine r_if_eq 47 dX3_decide_36 (by decide) (fun c_36 => ?_) (fun c_36 => ?_)
    · refine r_aload_n dX3_decide_47 rfl ?_
      refine r_iload_n dX3_decide_48 rfl ?_
      refine q_putI fl_X3_73 hW hk rfl rfl dX3_decide_49 ?_
      refine r_vret dX3_decide_52 rfl ⟨Nat.zero_le _, Nat.zero_le _⟩ ?_
      have e0 : nI (deF f u) = 0 ↔ deF f u = 0 := nI_eq (b := 0) (by omega) (by decide)
      have e1 : nI (deF f u) = 1 ↔ deF f u = 1 := nI_eq (b := 1) (by omega) (by decide)
      first
        | have k0 := e0.mp c_24
        | have k0 : ¬ deF f u = 0 := fun q => c_24 (e0.mpr q)
      first
        | have k1 := e1.mp c_44
        | have k1 : ¬ deF f u = 1 := fun q => c_44 (e1.mpr q)
        | skip
      first
        | exact absurd c_36 c_24
        | exact absurd c_24 c_36
        | (refine ⟨rfl, ?_, po_dec hp9 hO (fun i h1 h2 => ?_) (hm.sub ?_ rfl ?_ (fun _ _ => rfl) (fun _ _ _ => rfl) (fun _ _ => rfl)) (fun k h1 h2 h3 => ?_) ?_ ?_ ?_⟩
           · refine eqx.tr (h' := h_17) (eqx.tr (eqx.rf.sI (i := o) (by unfold btw; omega)) (he.wk (fun i zi => by unfold btw at *; omega))) ?_
             repeat (first | exact eqx.rf | refine eqx.sI ?_ (by unfold btw; omega))
           · repeat rw [sI_o h1]
             rw [he.I (by unfold btw; omega), sI_o h1]
           · first | rfl | (repeat rw [sI_o (by omega)])
           · first | rfl | (repeat rw [sI_o (by omega)])
           · repeat rw [sI_k (by assumption)]
             rw [he.I (by unfold btw; omega), sI_k h1]
           · repeat rw [sI_k (by decide)]
             exact z9h
           · first
               | rw [if_pos (by omega)]
               | rw [if_neg (by omega)]
             repeat rw [sI_k (by decide)]
             first
               | exact sI_s
               | (rw [he.I (by unfold btw; omega)]; exact sI_k (by decide))
           · first
               | rw [if_pos (by omega)]
               | rw [if_neg (by omega)]
             first
               | exact sI_s
               | (repeat rw [sI_k (by decide)]
                  rw [he.I (by unfold btw; omega)]; exact sI_k (by decide)))
    · refine r_aload_n dX3_decide_39 rfl ?_
      refine q_getI fl_X3_67 hW hk rfl dX3_decide_40 ?_
      refine r_iconst (1) dX3_decide_43 (by decide) ?_
      first
        | rw [z9h]
        | rw [show aI (sI h_17 o 10 (nI u)) o 9 = nI (deF f u) from (sI_k (by decide)).trans z9h]
      refine r_icmp_ne 52 dX3_decide_44 (by decide) (fun c_44 => ?_) (fun c_44 => ?_)
      · refine r_vret dX3_decide_52 rfl ⟨Nat.zero_le _, Nat.zero_le _⟩ ?_
        have e0 : nI (deF f u) = 0 ↔ deF f u = 0 := nI_eq (b := 0) (by omega) (by decide)
        have e1 : nI (deF f u) = 1 ↔ deF f u = 1 := nI_eq (b := 1) (by omega) (by decide)
        first
          | have k0 := e0.mp c_24
          | have k0 : ¬ deF f u = 0 := fun q => c_24 (e0.mpr q)
        first
          | have k1 := e1.mp c_44
          | have k1 : ¬ deF f u = 1 := fun q => c_44 (e1.mpr q)
          | skip
        first
          | exact absurd c_36 c_24
          | exact absurd c_24 c_36
          | (refine ⟨rfl, ?_, po_dec hp9 hO (fun i h1 h2 => ?_) (hm.sub ?_ rfl ?_ (fun _ _ => rfl) (fun _ _ _ => rfl) (fun _ _ => rfl)) (fun k h1 h2 h3 => ?_) ?_ ?_ ?_⟩
             · refine eqx.tr (h' := h_17) (eqx.tr (eqx.rf.sI (i := o) (by unfold btw; omega)) (he.wk (fun i zi => by unfold btw at *; omega))) ?_
               repeat (first | exact eqx.rf | refine eqx.sI ?_ (by unfold btw; omega))
             · repeat rw [sI_o h1]
               rw [he.I (by unfold btw; omega), sI_o h1]
             · first | rfl | (repeat rw [sI_o (by omega)])
             · first | rfl | (repeat rw [sI_o (by omega)])
             · repeat rw [sI_k (by assumption)]
               rw [he.I (by unfold btw; omega), sI_k h1]
             · repeat rw [sI_k (by decide)]
               exact z9h
             · first
                 | rw [if_pos (by omega)]
                 | rw [if_neg (by omega)]
               repeat rw [sI_k (by decide)]
               first
                 | exact sI_s
                 | (rw [he.I (by unfold btw; omega)]; exact sI_k (by decide))
             · first
                 | rw [if_pos (by omega)]
                 | rw [if_neg (by omega)]
               first
                 | exact sI_s
                 | (repeat rw [sI_k (by decide)]
                    rw [he.I (by unfold btw; omega)]; exact sI_k (by decide)))
      · refine r_aload_n dX3_decide_47 rfl ?_
        refine r_iload_n dX3_decide_48 rfl ?_
        refine q_putI fl_X3_73 hW hk rfl rfl dX3_decide_49 ?_
        refine r_vret dX3_decide_52 rfl ⟨Nat.zero_le _, Nat.zero_le _⟩ ?_
        have e0 : nI (deF f u) = 0 ↔ deF f u = 0 := nI_eq (b := 0) (by omega) (by decide)
        have e1 : nI (deF f u) = 1 ↔ deF f u = 1 := nI_eq (b := 1) (by omega) (by decide)
        first
          | have k0 := e0.mp c_24
          | have k0 : ¬ deF f u = 0 := fun q => c_24 (e0.mpr q)
        first
          | have k1 := e1.mp c_44
          | have k1 : ¬ deF f u = 1 := fun q => c_44 (e1.mpr q)
          | skip
        first
          | exact absurd c_36 c_24
          | exact absurd c_24 c_36
          | (refine ⟨rfl, ?_, po_dec hp9 hO (fun i h1 h2 => ?_) (hm.sub ?_ rfl ?_ (fun _ _ => rfl) (fun _ _ _ => rfl) (fun _ _ => rfl)) (fun k h1 h2 h3 => ?_) ?_ ?_ ?_⟩
             · refine eqx.tr (h' := h_17) (eqx.tr (eqx.rf.sI (i := o) (by unfold btw; omega)) (he.wk (fun i zi => by unfold btw at *; omega))) ?_
               repeat (first | exact eqx.rf | refine eqx.sI ?_ (by unfold btw; omega))
             · repeat rw [sI_o h1]
               rw [he.I (by unfold btw; omega), sI_o h1]
             · first | rfl | (repeat rw [sI_o (by omega)])
             · first | rfl | (repeat rw [sI_o (by omega)])
             · repeat rw [sI_k (by assumption)]
               rw [he.I (by unfold btw; omega), sI_k h1]
             · repeat rw [sI_k (by decide)]
               exact z9h
             · first
                 | rw [if_pos (by omega)]
                 | rw [if_neg (by omega)]
               repeat rw [sI_k (by decide)]
               first
                 | exact sI_s
                 | (rw [he.I (by unfold btw; omega)]; exact sI_k (by decide))
             · first
                 | rw [if_pos (by omega)]
                 | rw [if_neg (by omega)]
               first
                 | exact sI_s
                 | (repeat rw [sI_k (by decide)]
                    rw [he.I (by unfold btw; omega)]; exact sI_k (by decide)))
