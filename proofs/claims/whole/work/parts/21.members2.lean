set_option maxRecDepth 100000 in
set_option maxHeartbeats 4000000 in
theorem c_X1_countProtected {l9 : Launch} {G : GC} {h : AH} {o : Nat} {l : List Mb} (hW : World h) (hk : kd o 1) (hm : MemR h o l) : PM l9 G mX1_countProtected NT NT [.ref o] h (fun v h' => v = some (.int (nI (cn (fun k => mPrt l k) l.length))) ∧ h' = h) noX := by
  refine PM.of (by decide) rfl rfl (Nat.le_of_ble_eq_true rfl) (fun hst _ => ?_)
  refine r_iconst (0) dX1_countProtected_0 (by decide) ?_
  refine r_istore_n (ls2 := [some _, _, _]) dX1_countProtected_1 (by decide) rfl ?_
  refine r_iconst (0) dX1_countProtected_2 (by decide) ?_
  refine r_istore_n (ls2 := [_, some _, _]) dX1_countProtected_3 (by decide) rfl ?_
  refine loopN (P := fun i => i ≤ l.length → PW l9 G mX1_countProtected _ _ NT 4 [some (.ref o), some (.int (nI (cn (fun k => mPrt l k) i))), some (.int (nI i))] [] (0, 0) h) l.length (fun i ih hi => ?_) 0 (Nat.zero_le _)
  refine r_iload_n dX1_countProtected_4 rfl ?_
  refine r_aload_n dX1_countProtected_5 rfl ?_
  refine q_getI fl_X1_25 hW hk rfl dX1_countProtected_6 ?_
  refine r_icmp_ge 30 dX1_countProtected_9 (by decide) (fun c_9 => ?_) (fun c_9 => ?_)
  · have hge := hm.ge c_9 hi
    refine r_iload_n dX1_countProtected_30 rfl ?_
    refine r_iret dX1_countProtected_31 rfl ⟨Nat.zero_le _, Nat.zero_le _⟩ ?_
    exact ⟨some_int (by rw [hge]), rfl⟩
  · have hlt : i < l.length := hm.lt c_9 (by have := hm.2.1; omega)
    have hl20 := hm.2.1
    obtain ⟨hr1, hr2, hr3, hr4⟩ := hm.2.2 i hlt
    refine r_aload_n dX1_countProtected_12 rfl ?_
    refine q_getR fl_X1_21 hW hk rfl (kl_1_3 hW hk) (Nat.succ_ne_zero _) dX1_countProtected_13 ?_
    refine r_iload_n dX1_countProtected_16 rfl ?_
    refine q_zald hW (kk_1_3 hk) rfl (by omega) (by decide) dX1_countProtected_17 ?_
    refine r_if_eq 24 dX1_countProtected_18 (by decide) (fun c_18 => ?_) (fun c_18 => ?_)
    · refine r_iinc (1) (by decide) (ls2 := [_, some _, _]) dX1_countProtected_24 rfl (by decide) rfl ?_
      refine r_goto 4 dX1_countProtected_27 (by decide) ?_
      simp only [nI_1]
      have := ih hlt hlt
      rw [hr4] at c_18
      first
        | (rw [cn_f (bI_0.mp c_18)] at this; exact this)
        | (rw [cn_t (bI_1.mp c_18)] at this; exact this)
    · refine r_iinc (1) (by decide) (ls2 := [some _, _, _]) dX1_countProtected_21 rfl (by decide) rfl ?_
      refine r_iinc (1) (by decide) (ls2 := [_, some _, _]) dX1_countProtected_24 rfl (by decide) rfl ?_
      refine r_goto 4 dX1_countProtected_27 (by decide) ?_
      simp only [nI_1]
      have := ih hlt hlt
      rw [hr4] at c_18
      first
        | (rw [cn_f (bI_0.mp c_18)] at this; exact this)
        | (rw [cn_t (bI_1.mp c_18)] at this; exact this)

set_option maxRecDepth 100000 in
set_option maxHeartbeats 4000000 in
theorem c_X1_sumOfAges {l9 : Launch} {G : GC} {h : AH} {o : Nat} {l : List Mb} {t : Int32} (hW : World h) (hk : kd o 1) (hm : MemR h o l) : PM l9 G mX1_sumOfAges NT NT [.ref o, .int t] h (fun v h' => v = some (.long (sAge l t l.length)) ∧ h' = h) noX := by
  refine PM.of (by decide) rfl rfl (Nat.le_of_ble_eq_true rfl) (fun hst _ => ?_)
  refine r_lconst (0) dX1_sumOfAges_0 (by decide) ?_
  refine r_lstore_n (ls2 := [_, some _, _, none, _]) dX1_sumOfAges_1 (by decide) rfl ?_
  refine r_iconst (0) dX1_sumOfAges_2 (by decide) ?_
  refine r_istore (ls2 := [_, _, _, none, _]) dX1_sumOfAges_3 (by decide) rfl ?_
  refine loopN (P := fun i => i ≤ l.length → PW l9 G mX1_sumOfAges _ _ NT 5 [some (.ref o), some (.int t), some (.long (sAge l t i)), none, some (.int (nI i))] [] (0, 0) h) l.length (fun i ih hi => ?_) 0 (Nat.zero_le _)
  refine r_iload dX1_sumOfAges_5 rfl ?_
  refine r_aload_n dX1_sumOfAges_7 rfl ?_
  refine q_getI fl_X1_25 hW hk rfl dX1_sumOfAges_8 ?_
  refine r_icmp_ge 33 dX1_sumOfAges_11 (by decide) (fun c_11 => ?_) (fun c_11 => ?_)
  · have hge := hm.ge c_11 hi
    refine r_lload_n dX1_sumOfAges_33 rfl ?_
    refine r_lret dX1_sumOfAges_34 rfl ⟨Nat.zero_le _, Nat.zero_le _⟩ ?_
    exact ⟨by rw [hge], rfl⟩
  · have hlt : i < l.length := hm.lt c_11 (by have := hm.2.1; omega)
    have hl20 := hm.2.1
    obtain ⟨hr1, hr2, hr3, hr4⟩ := hm.2.2 i hlt
    refine r_lload_n dX1_sumOfAges_14 rfl ?_
    refine r_iload_n dX1_sumOfAges_15 rfl ?_
    refine r_aload_n dX1_sumOfAges_16 rfl ?_
    refine q_getR fl_X1_15 hW hk rfl (kl_1_1 hW hk) (Nat.succ_ne_zero _) dX1_sumOfAges_17 ?_
    refine r_iload dX1_sumOfAges_20 rfl ?_
    refine q_iald hW (kk_1_1 hk) rfl (by omega) (by decide) dX1_sumOfAges_22 ?_
    refine r_isub dX1_sumOfAges_23 ?_
    refine r_i2l dX1_sumOfAges_24 ?_
    refine r_ladd dX1_sumOfAges_25 ?_
    refine r_lstore_n (ls2 := [_, some _, _, none, _]) dX1_sumOfAges_26 (by decide) rfl ?_
    refine r_iinc (1) (by decide) (ls2 := [_, _, _, none, _]) dX1_sumOfAges_27 rfl (by decide) rfl ?_
    refine r_goto 5 dX1_sumOfAges_30 (by decide) ?_
    simp only [nI_1]
    rw [hr2]
    exact ih hlt hlt

set_option maxRecDepth 100000 in
set_option maxHeartbeats 4000000 in
theorem c_X1_goesBefore {l9 : Launch} {G : GC} {h : AH} {o : Nat} {l : List Mb} {a b : Nat} {rule : Int32} (hW : World h) (hk : kd o 1) (hm : MemR h o l) (ha : a < l.length) (hb : b < l.length) : PM l9 G mX1_goesBefore NT NT [.ref o, .int (nI a), .int (nI b), .int rule] h (fun v h' => v = some (.int (bI (ngB l rule a b))) ∧ h' = h) noX := by
  refine PM.of (by decide) rfl rfl (Nat.le_of_ble_eq_true rfl) (fun hst _ => ?_)
  refine r_iload_n dX1_goesBefore_0 rfl ?_
  refine r_iconst (2) dX1_goesBefore_1 (by decide) ?_
  refine r_icmp_ne 26 dX1_goesBefore_2 (by decide) (fun c_2 => ?_) (fun c_2 => ?_)
  · refine r_iload_n dX1_goesBefore_26 rfl ?_
    refine r_if_ne 34 dX1_goesBefore_27 (by decide) (fun c_27 => ?_) (fun c_27 => ?_)
    · refine r_iconst (0) dX1_goesBefore_34 (by decide) ?_
      refine r_zret dX1_goesBefore_35 rfl (by decide) ⟨Nat.zero_le _, Nat.zero_le _⟩ ?_
      unfold ngB
      first
        | (rw [if_pos c_2]; first
            | exact ⟨some_int (dF (fun q => absurd c_17 (i_le.mpr q))).symm, rfl⟩
            | exact ⟨some_int (dT (i_le.mp c_17)).symm, rfl⟩)
        | (rw [if_neg c_2]; first
            | exact ⟨some_int (dF c_27).symm, rfl⟩
            | exact ⟨some_int (dT c_27).symm, rfl⟩)
    · refine r_iconst (1) dX1_goesBefore_30 (by decide) ?_
      refine r_goto 35 dX1_goesBefore_31 (by decide) ?_
      refine r_zret dX1_goesBefore_35 rfl (by decide) ⟨Nat.zero_le _, Nat.zero_le _⟩ ?_
      unfold ngB
      first
        | (rw [if_pos c_2]; first
            | exact ⟨some_int (dF (fun q => absurd c_17 (i_le.mpr q))).symm, rfl⟩
            | exact ⟨some_int (dT (i_le.mp c_17)).symm, rfl⟩)
        | (rw [if_neg c_2]; first
            | exact ⟨some_int (dF c_27).symm, rfl⟩
            | exact ⟨some_int (dT c_27).symm, rfl⟩)
  · have hl20 := hm.2.1
    refine r_aload_n dX1_goesBefore_5 rfl ?_
    refine q_getR fl_X1_18 hW hk rfl (kl_1_2 hW hk) (Nat.succ_ne_zero _) dX1_goesBefore_6 ?_
    refine r_iload_n dX1_goesBefore_9 rfl ?_
    refine q_iald hW (kk_1_2 hk) rfl (by omega) (by decide) dX1_goesBefore_10 ?_
    refine r_aload_n dX1_goesBefore_11 rfl ?_
    refine q_getR fl_X1_18 hW hk rfl (kl_1_2 hW hk) (Nat.succ_ne_zero _) dX1_goesBefore_12 ?_
    refine r_iload_n dX1_goesBefore_15 rfl ?_
    refine q_iald hW (kk_1_2 hk) rfl (by omega) (by decide) dX1_goesBefore_16 ?_
    rw [(hm.2.2 a ha).2.2.1, (hm.2.2 b hb).2.2.1]
    refine r_icmp_lt 24 dX1_goesBefore_17 (by decide) (fun c_17 => ?_) (fun c_17 => ?_)
    · refine r_iconst (0) dX1_goesBefore_24 (by decide) ?_
      refine r_zret dX1_goesBefore_25 rfl (by decide) ⟨Nat.zero_le _, Nat.zero_le _⟩ ?_
      unfold ngB
      first
        | (rw [if_pos c_2]; first
            | exact ⟨some_int (dF (fun q => absurd c_17 (i_le.mpr q))).symm, rfl⟩
            | exact ⟨some_int (dT (i_le.mp c_17)).symm, rfl⟩)
        | (rw [if_neg c_2]; first
            | exact ⟨some_int (dF c_27).symm, rfl⟩
            | exact ⟨some_int (dT c_27).symm, rfl⟩)
    · refine r_iconst (1) dX1_goesBefore_20 (by decide) ?_
      refine r_goto 25 dX1_goesBefore_21 (by decide) ?_
      refine r_zret dX1_goesBefore_25 rfl (by decide) ⟨Nat.zero_le _, Nat.zero_le _⟩ ?_
      unfold ngB
      first
        | (rw [if_pos c_2]; first
            | exact ⟨some_int (dF (fun q => absurd c_17 (i_le.mpr q))).symm, rfl⟩
            | exact ⟨some_int (dT (i_le.mp c_17)).symm, rfl⟩)
        | (rw [if_neg c_2]; first
            | exact ⟨some_int (dF c_27).symm, rfl⟩
            | exact ⟨some_int (dT c_27).symm, rfl⟩)

set_option maxRecDepth 100000 in
set_option maxHeartbeats 4000000 in
theorem c_X1_nextToGo {l9 : Launch} {G : GC} {h : AH} {o : Nat} {l : List Mb} {rule : Int32} (hW : World h) (hk : kd o 1) (hm : MemR h o l) : PM l9 G mX1_nextToGo NT NT [.ref o, .int rule] h (fun v h' => v = some (.int (oI (ng l rule l.length))) ∧ h' = h) noX := by
  refine PM.of (by decide) rfl rfl (Nat.le_of_ble_eq_true rfl) (fun hst _ => ?_)
  refine r_iconst (-1) dX1_nextToGo_0 (by decide) ?_
  refine r_istore_n (ls2 := [_, some _, _, _]) dX1_nextToGo_1 (by decide) rfl ?_
  refine r_iconst (0) dX1_nextToGo_2 (by decide) ?_
  refine r_istore_n (ls2 := [_, _, some _, _]) dX1_nextToGo_3 (by decide) rfl ?_
  refine loopN (P := fun i => i ≤ l.length → PW l9 G mX1_nextToGo _ _ NT 4 [some (.ref o), some (.int rule), some (.int (oI (ng l rule i))), some (.int (nI i))] [] (0, 0) h) l.length (fun i ih hi => ?_) 0 (Nat.zero_le _)
  refine r_iload_n dX1_nextToGo_4 rfl ?_
  refine r_aload_n dX1_nextToGo_5 rfl ?_
  refine q_getI fl_X1_25 hW hk rfl dX1_nextToGo_6 ?_
  refine r_icmp_ge 44 dX1_nextToGo_9 (by decide) (fun c_9 => ?_) (fun c_9 => ?_)
  · have hge := hm.ge c_9 hi
    refine r_iload_n dX1_nextToGo_44 rfl ?_
    refine r_iret dX1_nextToGo_45 rfl ⟨Nat.zero_le _, Nat.zero_le _⟩ ?_
    exact ⟨some_int (by rw [hge]), rfl⟩
  · have hlt : i < l.length := hm.lt c_9 (by have := hm.2.1; omega)
    have hl20 := hm.2.1
    obtain ⟨hr1, hr2, hr3, hr4⟩ := hm.2.2 i hlt
    refine r_aload_n dX1_nextToGo_12 rfl ?_
    refine q_getR fl_X1_21 hW hk rfl (kl_1_3 hW hk) (Nat.succ_ne_zero _) dX1_nextToGo_13 ?_
    refine r_iload_n dX1_nextToGo_16 rfl ?_
    refine q_zald hW (kk_1_3 hk) rfl (by omega) (by decide) dX1_nextToGo_17 ?_
    refine r_if_ne 38 dX1_nextToGo_18 (by decide) (fun c_18 => ?_) (fun c_18 => ?_)
    · refine r_iinc (1) (by decide) (ls2 := [_, _, some _, _]) dX1_nextToGo_38 rfl (by decide) rfl ?_
      refine r_goto 4 dX1_nextToGo_41 (by decide) ?_
      simp only [nI_1]
      have hth := ih hlt hlt
      rw [hr4] at c_18
      first
        | (rw [ng_p (bI_1.mp c_18)] at hth; exact hth)
        | (rw [ng_n (bI_0.mp c_18) ((oI_m1 (fun k q => by have := ng_lt q; omega)).mp c_23)] at hth; exact hth)
        | (rw [ng_s (bI_0.mp c_18) hb, bI_0.mp c_33] at hth; exact hth)
        | (rw [ng_s (bI_0.mp c_18) hb, bI_1.mp c_33] at hth; exact hth)
    · refine r_iload_n dX1_nextToGo_21 rfl ?_
      refine r_iconst (-1) dX1_nextToGo_22 (by decide) ?_
      refine r_icmp_eq 36 dX1_nextToGo_23 (by decide) (fun c_23 => ?_) (fun c_23 => ?_)
      · refine r_iload_n dX1_nextToGo_36 rfl ?_
        refine r_istore_n (ls2 := [_, some _, _, _]) dX1_nextToGo_37 (by decide) rfl ?_
        refine r_iinc (1) (by decide) (ls2 := [_, _, some _, _]) dX1_nextToGo_38 rfl (by decide) rfl ?_
        refine r_goto 4 dX1_nextToGo_41 (by decide) ?_
        simp only [nI_1]
        have hth := ih hlt hlt
        rw [hr4] at c_18
        first
          | (rw [ng_p (bI_1.mp c_18)] at hth; exact hth)
          | (rw [ng_n (bI_0.mp c_18) ((oI_m1 (fun k q => by have := ng_lt q; omega)).mp c_23)] at hth; exact hth)
          | (rw [ng_s (bI_0.mp c_18) hb, bI_0.mp c_33] at hth; exact hth)
          | (rw [ng_s (bI_0.mp c_18) hb, bI_1.mp c_33] at hth; exact hth)
      · obtain ⟨b, hb⟩ : ∃ b, ng l rule i = some b := by
          cases hq : ng l rule i with
          | none => exact absurd (by rw [hq]; rfl) c_23
          | some b => exact ⟨b, rfl⟩
        have hb2 := ng_lt hb
        rw [show oI (ng l rule i) = nI b from by rw [hb]; rfl] at *
        refine r_aload_n dX1_nextToGo_26 rfl ?_
        refine r_iload_n dX1_nextToGo_27 rfl ?_
        refine r_iload_n dX1_nextToGo_28 rfl ?_
        refine r_iload_n dX1_nextToGo_29 rfl ?_
        refine q_callV3 (cv_X1_goesBefore ml_X1_41) hW hk (by decide) rfl ⟨rfl, rfl⟩ rfl (Nat.le_of_ble_eq_true rfl) dX1_nextToGo_30 (c_X1_goesBefore hW hk hm hlt (by omega)) (fun v_30 h_30 q_30 => ?_)
        obtain ⟨rfl, z9⟩ := q_30
        replace z9 := z9.symm
        subst z9
        refine r_if_eq 38 dX1_nextToGo_33 (by decide) (fun c_33 => ?_) (fun c_33 => ?_)
        · refine r_iinc (1) (by decide) (ls2 := [_, _, some _, _]) dX1_nextToGo_38 rfl (by decide) rfl ?_
          refine r_goto 4 dX1_nextToGo_41 (by decide) ?_
          simp only [nI_1]
          have hth := ih hlt hlt
          rw [hr4] at c_18
          first
            | (rw [ng_p (bI_1.mp c_18)] at hth; exact hth)
            | (rw [ng_n (bI_0.mp c_18) ((oI_m1 (fun k q => by have := ng_lt q; omega)).mp c_23)] at hth; exact hth)
            | (rw [ng_s (bI_0.mp c_18) hb, bI_0.mp c_33] at hth; exact hth)
            | (rw [ng_s (bI_0.mp c_18) hb, bI_1.mp c_33] at hth; exact hth)
        · refine r_iload_n dX1_nextToGo_36 rfl ?_
          refine r_istore_n (ls2 := [_, some _, _, _]) dX1_nextToGo_37 (by decide) rfl ?_
          refine r_iinc (1) (by decide) (ls2 := [_, _, some _, _]) dX1_nextToGo_38 rfl (by decide) rfl ?_
          refine r_goto 4 dX1_nextToGo_41 (by decide) ?_
          simp only [nI_1]
          have hth := ih hlt hlt
          rw [hr4] at c_18
          first
            | (rw [ng_p (bI_1.mp c_18)] at hth; exact hth)
            | (rw [ng_n (bI_0.mp c_18) ((oI_m1 (fun k q => by have := ng_lt q; omega)).mp c_23)] at hth; exact hth)
            | (rw [ng_s (bI_0.mp c_18) hb, bI_0.mp c_33] at hth; exact hth)
            | (rw [ng_s (bI_0.mp c_18) hb, bI_1.mp c_33] at hth; exact hth)

set_option maxRecDepth 100000 in
set_option maxHeartbeats 4000000 in
theorem c_X1_add {l9 : Launch} {G : GC} {h : AH} {o : Nat} {l : List Mb} {a b c : Int32} (hW : World h) (hk : kd o 1) (hm : MemR h o l) (hn : l.length < 20) : PM l9 G mX1_add NT NT [.ref o, .int a, .int b, .int c] h (fun v h' => v = none ∧ eqx h h' (btw o (o + 4)) ∧ MemR h' o (l ++ [(a, b, c, false)])) noX := by
  refine PM.of (by decide) rfl rfl (Nat.le_of_ble_eq_true rfl) (fun hst _ => ?_)
  refine r_aload_n dX1_add_0 rfl ?_
  refine q_getI fl_X1_25 hW hk rfl dX1_add_1 ?_
  refine r_bipush (20) dX1_add_4 (by decide) ?_
  refine r_icmp_ge 59 dX1_add_6 (by decide) (fun c_6 => ?_) (fun c_6 => ?_)
  · exact absurd c_6 (by rw [hm.1]; exact fun q => absurd ((nI_leI (a := 20) (by omega) (by omega)).mp q) (by omega))
  · refine r_aload_n dX1_add_9 rfl ?_
    refine q_getR fl_X1_9 hW hk rfl (kl_1_0 hW hk) (Nat.succ_ne_zero _) dX1_add_10 ?_
    refine r_aload_n dX1_add_13 rfl ?_
    refine q_getI fl_X1_25 hW hk rfl dX1_add_14 ?_
    refine r_iload_n dX1_add_17 rfl ?_
    refine q_iast hW (kk_1_0 hk) hm.1 (by omega) (by decide) dX1_add_18 ?_
    refine r_aload_n dX1_add_19 rfl ?_
    refine q_getR fl_X1_15 hW hk rfl (kl_1_1 hW hk) (Nat.succ_ne_zero _) dX1_add_20 ?_
    refine r_aload_n dX1_add_23 rfl ?_
    refine q_getI fl_X1_25 hW hk rfl dX1_add_24 ?_
    refine r_iload_n dX1_add_27 rfl ?_
    refine q_iast hW (kk_1_1 hk) (k := l.length) (by simp (discharger := omega) only [sI_o, sI_k, hm.1]) (by omega) (by decide) dX1_add_28 ?_
    refine r_aload_n dX1_add_29 rfl ?_
    refine q_getR fl_X1_18 hW hk rfl (kl_1_2 hW hk) (Nat.succ_ne_zero _) dX1_add_30 ?_
    refine r_aload_n dX1_add_33 rfl ?_
    refine q_getI fl_X1_25 hW hk rfl dX1_add_34 ?_
    refine r_iload_n dX1_add_37 rfl ?_
    refine q_iast hW (kk_1_2 hk) (k := l.length) (by simp (discharger := omega) only [sI_o, sI_k, hm.1]) (by omega) (by decide) dX1_add_38 ?_
    refine r_aload_n dX1_add_39 rfl ?_
    refine q_getR fl_X1_21 hW hk rfl (kl_1_3 hW hk) (Nat.succ_ne_zero _) dX1_add_40 ?_
    refine r_aload_n dX1_add_43 rfl ?_
    refine q_getI fl_X1_25 hW hk rfl dX1_add_44 ?_
    refine r_iconst (0) dX1_add_47 (by decide) ?_
    refine q_zast hW (kk_1_3 hk) (k := l.length) (by simp (discharger := omega) only [sI_o, sI_k, hm.1]) (by omega) (by decide) dX1_add_48 ?_
    refine r_aload_n dX1_add_49 rfl ?_
    refine r_dup dX1_add_50 rfl ?_
    refine q_getI fl_X1_25 hW hk rfl dX1_add_51 ?_
    refine r_iconst (1) dX1_add_54 (by decide) ?_
    refine r_iadd dX1_add_55 ?_
    refine q_putI fl_X1_25 hW hk rfl rfl dX1_add_56 ?_
    refine r_vret dX1_add_59 rfl ⟨Nat.zero_le _, Nat.zero_le _⟩ ?_
    refine ⟨rfl, ((((eqx.rf.sI ?_).sI ?_).sI ?_).sI ?_).sI ?_, MemR.app hm hn ?_ ?_ ?_ ?_ ?_⟩
    all_goals first
      | (unfold btw; omega)
      | (simp (discharger := omega) only [sI_o, sI_s, sI_k, hm.1, nI_1]; done)
      | (simp (discharger := omega) only [sI_o, sI_r]; done)
      | (simp (discharger := omega) only [sI_o, sI_r]; rfl)

set_option maxRecDepth 100000 in
set_option maxHeartbeats 4000000 in
theorem c_X1_removeAt {l9 : Launch} {G : GC} {h : AH} {o : Nat} {l : List Mb} {g : Nat} (hW : World h) (hk : kd o 1) (hm : MemR h o l) (hg : g < l.length) : PM l9 G mX1_removeAt NT NT [.ref o, .int (nI g)] h (fun v h' => v = none ∧ eqx h h' (btw o (o + 4)) ∧ MemR h' o (l.eraseIdx g)) noX := by
  refine PM.of (by decide) rfl rfl (Nat.le_of_ble_eq_true rfl) (fun hst _ => ?_)
  have z20 := hm.2.1
  refine r_aload_n dX1_removeAt_0 rfl ?_
  refine r_iload_n dX1_removeAt_1 rfl ?_
  refine q_callV1 (cv_X1_has ml_X1_33) hW hk (by decide) rfl ⟨rfl, rfl⟩ rfl (Nat.le_of_ble_eq_true rfl) dX1_removeAt_2 (c_X1_has hW hk) (fun v_2 h_2 q_2 => ?_)
  obtain ⟨rfl, z9⟩ := q_2
  replace z9 := z9.symm
  subst z9
  refine r_if_ne 9 dX1_removeAt_5 (by decide) (fun c_5 => ?_) (fun c_5 => ?_)
  · refine r_iload_n dX1_removeAt_9 rfl ?_
    refine r_iconst (1) dX1_removeAt_10 (by decide) ?_
    refine r_iadd dX1_removeAt_11 ?_
    refine r_istore_n (ls2 := [_, some _, _]) dX1_removeAt_12 (by decide) rfl ?_
    rw [nI_1]
    have key : ∀ (p : Nat) (H : AH), p ≤ l.length → g < p → eqx h H (btw o (o + 4)) → aI H o = aI h o → aI H (o + 1) = shf (aI h (o + 1)) g p → aI H (o + 2) = shf (aI h (o + 2)) g p → aI H (o + 3) = shf (aI h (o + 3)) g p → aI H (o + 4) = shf (aI h (o + 4)) g p → PW l9 G mX1_removeAt (mO mX1_removeAt) (fiM G mX1_removeAt NT (fun v h' => v = none ∧ eqx h h' (btw o (o + 4)) ∧ MemR h' o (l.eraseIdx g)) noX) NT 13 [some (.ref o), some (.int (nI g)), some (.int (nI p))] [] (0, 0) H := by
      intro p
      refine loopN (P := fun p => ∀ (H : AH), p ≤ l.length → g < p → eqx h H (btw o (o + 4)) → aI H o = aI h o → aI H (o + 1) = shf (aI h (o + 1)) g p → aI H (o + 2) = shf (aI h (o + 2)) g p → aI H (o + 3) = shf (aI h (o + 3)) g p → aI H (o + 4) = shf (aI h (o + 4)) g p → PW l9 G mX1_removeAt (mO mX1_removeAt) (fiM G mX1_removeAt NT (fun v h' => v = none ∧ eqx h h' (btw o (o + 4)) ∧ MemR h' o (l.eraseIdx g)) noX) NT 13 [some (.ref o), some (.int (nI g)), some (.int (nI p))] [] (0, 0) H) l.length (fun p ih H hp hgp he hF0 hF1 hF2 hF3 hF4 => ?_) p
      have hWH := he.W hW
      refine r_iload_n dX1_removeAt_13 rfl ?_
      refine r_aload_n dX1_removeAt_14 rfl ?_
      refine q_getI fl_X1_25 hWH hk rfl dX1_removeAt_15 ?_
      refine r_icmp_ge 83 dX1_removeAt_18 (by decide) (fun c_18 => ?_) (fun c_18 => ?_)
      · have hge : l.length = p := by rw [hF0] at c_18; exact hm.ge c_18 hp
        refine r_aload_n dX1_removeAt_83 rfl ?_
        refine r_dup dX1_removeAt_84 rfl ?_
        refine q_getI fl_X1_25 hWH hk rfl dX1_removeAt_85 ?_
        refine r_iconst (1) dX1_removeAt_88 (by decide) ?_
        refine r_isub dX1_removeAt_89 ?_
        refine q_putI fl_X1_25 hWH hk rfl rfl dX1_removeAt_90 ?_
        refine r_vret dX1_removeAt_93 rfl ⟨Nat.zero_le _, Nat.zero_le _⟩ ?_
        refine ⟨rfl, he.sI ?_, MemR.del hm hg ?_ ?_ ?_ ?_ ?_⟩
        all_goals first
          | (unfold btw; omega)
          | (simp (discharger := omega) only [sI_s, hF0, hm.1]; exact nI_s1 (by omega))
          | (simp (discharger := omega) only [sI_o]; rw [hge]; assumption)
      · have hlt : p < l.length := by rw [hF0] at c_18; exact hm.lt c_18 (by omega)
        obtain ⟨-, -, -, hr4⟩ := hm.2.2 p hlt
        refine r_aload_n dX1_removeAt_21 rfl ?_
        refine q_getR fl_X1_9 hWH hk rfl (kl_1_0 hWH hk) (Nat.succ_ne_zero _) dX1_removeAt_22 ?_
        refine r_iload_n dX1_removeAt_25 rfl ?_
        refine r_iconst (1) dX1_removeAt_26 (by decide) ?_
        refine r_isub dX1_removeAt_27 ?_
        refine r_aload_n dX1_removeAt_28 rfl ?_
        refine q_getR fl_X1_9 hWH hk rfl (kl_1_0 hWH hk) (Nat.succ_ne_zero _) dX1_removeAt_29 ?_
        refine r_iload_n dX1_removeAt_32 rfl ?_
        refine q_iald hWH (kk_1_0 hk)  (k := p) rfl (by omega) (by decide) dX1_removeAt_33 ?_
        refine q_iast hWH (kk_1_0 hk)  (k := p - 1) (nI_s1 (by omega)) (by omega) (by decide) dX1_removeAt_34 ?_
        refine r_aload_n dX1_removeAt_35 rfl ?_
        refine q_getR fl_X1_15 hWH hk rfl (kl_1_1 hWH hk) (Nat.succ_ne_zero _) dX1_removeAt_36 ?_
        refine r_iload_n dX1_removeAt_39 rfl ?_
        refine r_iconst (1) dX1_removeAt_40 (by decide) ?_
        refine r_isub dX1_removeAt_41 ?_
        refine r_aload_n dX1_removeAt_42 rfl ?_
        refine q_getR fl_X1_15 hWH hk rfl (kl_1_1 hWH hk) (Nat.succ_ne_zero _) dX1_removeAt_43 ?_
        refine r_iload_n dX1_removeAt_46 rfl ?_
        refine q_iald hWH (kk_1_1 hk)  (k := p) rfl (by omega) (by decide) dX1_removeAt_47 ?_
        refine q_iast hWH (kk_1_1 hk)  (k := p - 1) (nI_s1 (by omega)) (by omega) (by decide) dX1_removeAt_48 ?_
        refine r_aload_n dX1_removeAt_49 rfl ?_
        refine q_getR fl_X1_18 hWH hk rfl (kl_1_2 hWH hk) (Nat.succ_ne_zero _) dX1_removeAt_50 ?_
        refine r_iload_n dX1_removeAt_53 rfl ?_
        refine r_iconst (1) dX1_removeAt_54 (by decide) ?_
        refine r_isub dX1_removeAt_55 ?_
        refine r_aload_n dX1_removeAt_56 rfl ?_
        refine q_getR fl_X1_18 hWH hk rfl (kl_1_2 hWH hk) (Nat.succ_ne_zero _) dX1_removeAt_57 ?_
        refine r_iload_n dX1_removeAt_60 rfl ?_
        refine q_iald hWH (kk_1_2 hk)  (k := p) rfl (by omega) (by decide) dX1_removeAt_61 ?_
        refine q_iast hWH (kk_1_2 hk)  (k := p - 1) (nI_s1 (by omega)) (by omega) (by decide) dX1_removeAt_62 ?_
        refine r_aload_n dX1_removeAt_63 rfl ?_
        refine q_getR fl_X1_21 hWH hk rfl (kl_1_3 hWH hk) (Nat.succ_ne_zero _) dX1_removeAt_64 ?_
        refine r_iload_n dX1_removeAt_67 rfl ?_
        refine r_iconst (1) dX1_removeAt_68 (by decide) ?_
        refine r_isub dX1_removeAt_69 ?_
        refine r_aload_n dX1_removeAt_70 rfl ?_
        refine q_getR fl_X1_21 hWH hk rfl (kl_1_3 hWH hk) (Nat.succ_ne_zero _) dX1_removeAt_71 ?_
        refine r_iload_n dX1_removeAt_74 rfl ?_
        refine q_zald hWH (kk_1_3 hk)  (k := p) rfl (by omega) (by decide) dX1_removeAt_75 ?_
        refine q_zast hWH (kk_1_3 hk)  (k := p - 1) (nI_s1 (by omega)) (by omega) (by decide) dX1_removeAt_76 ?_
        refine r_iinc (1) (by decide) (ls2 := [_, some _, _]) dX1_removeAt_77 rfl (by decide) rfl ?_
        refine r_goto 13 dX1_removeAt_80 (by decide) ?_
        rw [nI_1]
        refine ih hlt _ hlt (by omega) ((((he.sI ?_).sI ?_).sI ?_).sI ?_) ?_ ?_ ?_ ?_ ?_
        all_goals first
          | (unfold btw; omega)
          | (simp (discharger := omega) only [sI_o]; exact hF0)
          | (simp (discharger := omega) only [sI_o, sI_r]; first
              | exact shf_1 hF1 hgp rfl
              | exact shf_1 hF2 hgp rfl
              | exact shf_1 hF3 hgp rfl
              | (refine shf_1 hF4 hgp ?_
                 rw [hF4]; unfold shf
                 rw [if_neg (by omega), hr4, nar_bI]))
    exact key (g + 1) h hg (by omega) eqx.rf rfl (shf_0 _ _).symm (shf_0 _ _).symm (shf_0 _ _).symm (shf_0 _ _).symm
  · exact absurd c_5 (by rw [hm.1]; exact fun q => absurd (dT (p := 0 ≤ nI g ∧ nI g < nI l.length) ⟨nI_pos' (by omega), (nI_ltI (by omega) (by omega)).mpr hg⟩) (by rw [q]; decide))

set_option maxRecDepth 100000 in
set_option maxHeartbeats 4000000 in
theorem c_X1_copyFrom {l9 : Launch} {G : GC} {h : AH} {o : Nat} {l : List Mb} {o2 : Nat} (hW : World h) (hk : kd o 1) (hk2 : kd o2 1) (hne : o + 4 < o2 ∨ o2 + 4 < o) (hm : MemR h o2 l) : PM l9 G mX1_copyFrom NT NT [.ref o, .ref o2] h (fun v h' => v = none ∧ eqx h h' (btw o (o + 4)) ∧ MemR h' o l) noX := by
  refine PM.of (by decide) rfl rfl (Nat.le_of_ble_eq_true rfl) (fun hst _ => ?_)
  have z20 := hm.2.1
  refine r_aload_n dX1_copyFrom_0 rfl ?_
  refine r_iconst (0) dX1_copyFrom_1 (by decide) ?_
  refine q_putI fl_X1_25 hW hk rfl rfl dX1_copyFrom_2 ?_
  refine r_iconst (0) dX1_copyFrom_5 (by decide) ?_
  refine r_istore_n (ls2 := [_, some _, _]) dX1_copyFrom_6 (by decide) rfl ?_
  have key : ∀ (p : Nat) (H : AH), p ≤ l.length → eqx h H (btw o (o + 4)) → MemR H o (l.take p) → PW l9 G mX1_copyFrom (mO mX1_copyFrom) (fiM G mX1_copyFrom NT (fun v h' => v = none ∧ eqx h h' (btw o (o + 4)) ∧ MemR h' o l) noX) NT 7 [some (.ref o), some (.ref o2), some (.int (nI p))] [] (0, 0) H := by
    intro p
    refine loopN (P := fun p => ∀ (H : AH), p ≤ l.length → eqx h H (btw o (o + 4)) → MemR H o (l.take p) → PW l9 G mX1_copyFrom (mO mX1_copyFrom) (fiM G mX1_copyFrom NT (fun v h' => v = none ∧ eqx h h' (btw o (o + 4)) ∧ MemR h' o l) noX) NT 7 [some (.ref o), some (.ref o2), some (.int (nI p))] [] (0, 0) H) l.length (fun p ih H hp he hmp => ?_) p
    have hWH := he.W hW
    have hm2 : MemR H o2 l := hm.eqx he (fun i h1 h2 q => by unfold btw at q; omega)
    refine r_iload_n dX1_copyFrom_7 rfl ?_
    refine r_aload_n dX1_copyFrom_8 rfl ?_
    refine q_getI fl_X1_25 hWH hk2 rfl dX1_copyFrom_9 ?_
    refine r_icmp_ge 55 dX1_copyFrom_12 (by decide) (fun c_12 => ?_) (fun c_12 => ?_)
    · have hge : l.length = p := hm2.ge c_12 hp
      refine r_vret dX1_copyFrom_55 rfl ⟨Nat.zero_le _, Nat.zero_le _⟩ ?_
      refine ⟨rfl, he, ?_⟩
      rw [← List.take_length (l := l), hge]; exact hmp
    · have hlt : p < l.length := hm2.lt c_12 (by omega)
      obtain ⟨hr1, hr2, hr3, hr4⟩ := hm2.2.2 p hlt
      have hlen : (l.take p).length = p := by rw [List.length_take]; omega
      refine r_aload_n dX1_copyFrom_15 rfl ?_
      refine r_aload_n dX1_copyFrom_16 rfl ?_
      refine q_getR fl_X1_9 hWH hk2 rfl (kl_1_0 hWH hk2) (Nat.succ_ne_zero _) dX1_copyFrom_17 ?_
      refine r_iload_n dX1_copyFrom_20 rfl ?_
      refine q_iald hWH (kk_1_0 hk2)  (k := p) rfl (by omega) (by decide) dX1_copyFrom_21 ?_
      refine r_aload_n dX1_copyFrom_22 rfl ?_
      refine q_getR fl_X1_15 hWH hk2 rfl (kl_1_1 hWH hk2) (Nat.succ_ne_zero _) dX1_copyFrom_23 ?_
      refine r_iload_n dX1_copyFrom_26 rfl ?_
      refine q_iald hWH (kk_1_1 hk2)  (k := p) rfl (by omega) (by decide) dX1_copyFrom_27 ?_
      refine r_aload_n dX1_copyFrom_28 rfl ?_
      refine q_getR fl_X1_18 hWH hk2 rfl (kl_1_2 hWH hk2) (Nat.succ_ne_zero _) dX1_copyFrom_29 ?_
      refine r_iload_n dX1_copyFrom_32 rfl ?_
      refine q_iald hWH (kk_1_2 hk2)  (k := p) rfl (by omega) (by decide) dX1_copyFrom_33 ?_
      refine q_callV3 (cv_X1_add ml_X1_29) hWH hk (by decide) rfl ⟨rfl, rfl⟩ rfl (Nat.le_of_ble_eq_true rfl) dX1_copyFrom_34 (c_X1_add hWH hk hmp (by omega)) (fun v_34 h_34 q_34 => ?_)
      obtain ⟨rfl, he2, hm3⟩ := q_34
      have hm4 := hm2.eqx he2 (fun i h1 h2 q => by unfold btw at q; omega)
      have hWH := he2.W hWH
      obtain ⟨-, -, -, hr5⟩ := hm4.2.2 p hlt
      refine r_aload_n dX1_copyFrom_37 rfl ?_
      refine q_getR fl_X1_21 hWH hk rfl (kl_1_3 hWH hk) (Nat.succ_ne_zero _) dX1_copyFrom_38 ?_
      refine r_iload_n dX1_copyFrom_41 rfl ?_
      refine r_aload_n dX1_copyFrom_42 rfl ?_
      refine q_getR fl_X1_21 hWH hk2 rfl (kl_1_3 hWH hk2) (Nat.succ_ne_zero _) dX1_copyFrom_43 ?_
      refine r_iload_n dX1_copyFrom_46 rfl ?_
      refine q_zald hWH (kk_1_3 hk2)  (k := p) rfl (by omega) (by decide) dX1_copyFrom_47 ?_
      refine q_zast hWH (kk_1_3 hk)  (k := p) rfl (by omega) (by decide) dX1_copyFrom_48 ?_
      refine r_iinc (1) (by decide) (ls2 := [_, some _, _]) dX1_copyFrom_49 rfl (by decide) rfl ?_
      refine r_goto 7 dX1_copyFrom_52 (by decide) ?_
      rw [nI_1]
      refine ih hlt _ hlt ((he.tr he2).sI (by unfold btw; omega)) ?_
      rw [take_succ' hlt, hr5, nar_bI]
      have e1 : (mNum l p, mCame l p, mRdy l p, mPrt l p) = l.getD p mD := rfl
      rw [← e1, ← mSetP_last (d := false), hlen, ← hr1, ← hr2, ← hr3]
      exact hm3.setP (by rw [List.length_append, hlen]; exact Nat.lt_succ_self _)
  exact key 0 _ (Nat.zero_le _) (eqx.rf.sI (by unfold btw; omega)) ⟨sI_s, by simp, fun k hk => absurd hk (by simp)⟩
