set_option maxRecDepth 100000 in
set_option maxHeartbeats 4000000 in
theorem c_floorMod {l9 : Launch} {G : GC} {h : AH} {a b : Nat} (ha : a < 2 ^ 31) (hb0 : 0 < b) (hb : b < 2 ^ 31) : PM l9 G mJ9_floorMod_7cf53 NT NT [.int (nI a), .int (nI b)] h (fun v h' => v = some (.int (nI (a % b))) ∧ h' = h) noX := by
  refine PM.of (by decide +kernel) rfl rfl (Nat.le_of_ble_eq_true rfl) (fun hst _ => ?_)
  refine r_iload_n dJ9_floorMod_7cf53_0 rfl ?_
  refine r_iload_n dJ9_floorMod_7cf53_1 rfl ?_
  refine r_irem dJ9_floorMod_7cf53_2 (nI_ne0 hb0 hb) ?_
  refine r_istore_n (ls2 := [_, some _, _]) dJ9_floorMod_7cf53_3 (by decide) rfl ?_
  refine r_iload_n dJ9_floorMod_7cf53_4 rfl ?_
  refine r_iload_n dJ9_floorMod_7cf53_5 rfl ?_
  refine r_ixor dJ9_floorMod_7cf53_6 ?_
  refine r_if_ge 18 dJ9_floorMod_7cf53_7 (by decide) (fun c_7 => ?_) (fun c_7 => ?_)
  · refine r_iload_n dJ9_floorMod_7cf53_18 rfl ?_
    refine r_iret dJ9_floorMod_7cf53_19 rfl ⟨Nat.zero_le _, Nat.zero_le _⟩ ?_
    exact ⟨some_int (pk_rem ha hb0 hb), rfl⟩
  · exact absurd (i_le.mp (xor_nn ha hb)) c_7

set_option maxRecDepth 100000 in
set_option maxHeartbeats 4000000 in
theorem c_fill {l9 : Launch} {G : GC} {h : AH} {i n : Nat} {x : Int32} (hW : World h) (hk : ka i 11 n) (hn : n < 2 ^ 31) : PM l9 G mJ7_fill_53178 NT NT [.ref i, .int x] h (fun v h' => v = none ∧ eqx h h' (btw i i) ∧ ∀ j, aI h' i j = if j < n then x else aI h i j) noX := by
  refine PM.of (by decide +kernel) rfl rfl (Nat.le_of_ble_eq_true rfl) (fun hst _ => ?_)
  refine r_iconst (0) dJ7_fill_53178_0 (by decide) ?_
  refine r_istore_n (ls2 := [_, some _, _, _]) dJ7_fill_53178_1 (by decide) rfl ?_
  refine r_aload_n dJ7_fill_53178_2 rfl ?_
  refine q_aleni hW hk dJ7_fill_53178_3 ?_
  refine r_istore_n (ls2 := [_, _, some _, _]) dJ7_fill_53178_4 (by decide) rfl ?_
  have key : ∀ (p : Nat) (H : AH), p ≤ n → eqx h H (btw i i) → (∀ j, aI H i j = if j < p then x else aI h i j) → PW l9 G mJ7_fill_53178 (mO mJ7_fill_53178) (fiM G mJ7_fill_53178 NT (fun v h' => v = none ∧ eqx h h' (btw i i) ∧ ∀ j, aI h' i j = if j < n then x else aI h i j) noX) NT 5 [some (.ref i), some (.int x), some (.int (nI p)), some (.int (nI n))] [] (0, 0) H := by
    intro p
    refine loopN (P := fun p => ∀ (H : AH), p ≤ n → eqx h H (btw i i) → (∀ j, aI H i j = if j < p then x else aI h i j) → PW l9 G mJ7_fill_53178 (mO mJ7_fill_53178) (fiM G mJ7_fill_53178 NT (fun v h' => v = none ∧ eqx h h' (btw i i) ∧ ∀ j, aI h' i j = if j < n then x else aI h i j) noX) NT 5 [some (.ref i), some (.int x), some (.int (nI p)), some (.int (nI n))] [] (0, 0) H) n (fun p ih H hp he hf => ?_) p
    have hWH := he.W hW
    refine r_iload_n dJ7_fill_53178_5 rfl ?_
    refine r_iload_n dJ7_fill_53178_6 rfl ?_
    refine r_icmp_ge 20 dJ7_fill_53178_7 (by decide) (fun c_7 => ?_) (fun c_7 => ?_)
    · have zge : n = p := by have := (nI_leI (by omega) (by omega)).mp c_7; omega
      refine r_vret dJ7_fill_53178_20 rfl ⟨Nat.zero_le _, Nat.zero_le _⟩ ?_
      exact ⟨rfl, he, zge ▸ hf⟩
    · have zlt : p < n := (nI_ltI (by omega) (by omega)).mp (i_lt.mp c_7)
      refine r_aload_n dJ7_fill_53178_10 rfl ?_
      refine r_iload_n dJ7_fill_53178_11 rfl ?_
      refine r_iload_n dJ7_fill_53178_12 rfl ?_
      refine q_iast hWH hk (k := p) rfl zlt hn dJ7_fill_53178_13 ?_
      refine r_iinc (1) (by decide) (ls2 := [_, some _, _, _]) dJ7_fill_53178_14 rfl (by decide) rfl ?_
      refine r_goto 5 dJ7_fill_53178_17 (by decide) ?_
      rw [nI_1]
      refine ih zlt _ zlt (he.sI (by unfold btw; omega)) (fun j => ?_)
      by_cases e : j = p
      · subst e; rw [sI_s, if_pos (by omega)]
      · rw [sI_k e, hf j]
        by_cases e2 : j < p
        · rw [if_pos e2, if_pos (by omega)]
        · rw [if_neg e2, if_neg (by omega)]
  exact key 0 h (Nat.zero_le _) eqx.rf (fun j => rfl)

set_option maxRecDepth 100000 in
set_option maxHeartbeats 4000000 in
theorem c_X8_dividedUp {l9 : Launch} {G : GC} {h : AH} {x y : Int32} : PM l9 G mX8_dividedUp NT NT [.int x, .int y] h (fun v h' => v = some (.int (dUp x y)) ∧ h' = h) noX := by
  refine PM.of (by decide +kernel) rfl rfl (Nat.le_of_ble_eq_true rfl) (fun hst _ => ?_)
  refine r_iload_n dX8_dividedUp_0 rfl ?_
  refine r_if_gt 8 dX8_dividedUp_1 (by decide) (fun c_1 => ?_) (fun c_1 => ?_)
  · refine r_iload_n dX8_dividedUp_8 rfl ?_
    refine r_iload_n dX8_dividedUp_9 rfl ?_
    refine r_iadd dX8_dividedUp_10 ?_
    refine r_iconst (1) dX8_dividedUp_11 (by decide) ?_
    refine r_isub dX8_dividedUp_12 ?_
    refine r_iload_n dX8_dividedUp_13 rfl ?_
    refine r_idiv dX8_dividedUp_14 (fun q => absurd c_1 (by rw [q]; decide)) ?_
    refine r_iret dX8_dividedUp_15 rfl ⟨Nat.zero_le _, Nat.zero_le _⟩ ?_
    unfold dUp
    first
      | exact ⟨some_int (by rw [if_neg (Int32.not_le.mpr c_1)]), rfl⟩
      | exact ⟨some_int (by rw [if_pos (i_le.mp c_1)]), rfl⟩
  · refine r_iconst (0) dX8_dividedUp_4 (by decide) ?_
    refine r_goto 15 dX8_dividedUp_5 (by decide) ?_
    refine r_iret dX8_dividedUp_15 rfl ⟨Nat.zero_le _, Nat.zero_le _⟩ ?_
    unfold dUp
    first
      | exact ⟨some_int (by rw [if_neg (Int32.not_le.mpr c_1)]), rfl⟩
      | exact ⟨some_int (by rw [if_pos (i_le.mp c_1)]), rfl⟩

set_option maxRecDepth 100000 in
set_option maxHeartbeats 4000000 in
theorem c_X7_begin {l9 : Launch} {G : GC} {h : AH} {o : Nat} (hW : World h) (hk : kd o 7) : PM l9 G mX7_begin NT NT [.ref o] h (fun v h' => v = none ∧ eqx h h' (btw o (o + 1)) ∧ TalR h' o (fun _ => 0) (fun _ => 0) (fun _ => 0)) noX := by
  refine PM.of (by decide +kernel) rfl rfl (Nat.le_of_ble_eq_true rfl) (fun hst _ => ?_)
  refine r_aload_n dX7_begin_0 rfl ?_
  refine r_lconst (0) dX7_begin_1 (by decide) ?_
  refine q_putJ fl_X7_15 hW hk rfl rfl dX7_begin_2 ?_
  refine r_aload_n dX7_begin_5 rfl ?_
  refine r_lconst (0) dX7_begin_6 (by decide) ?_
  refine q_putJ fl_X7_19 hW hk rfl rfl dX7_begin_7 ?_
  refine r_aload_n dX7_begin_10 rfl ?_
  refine r_lconst (0) dX7_begin_11 (by decide) ?_
  refine q_putJ fl_X7_22 hW hk rfl rfl dX7_begin_12 ?_
  refine r_aload_n dX7_begin_15 rfl ?_
  refine r_lconst (0) dX7_begin_16 (by decide) ?_
  refine q_putJ fl_X7_25 hW hk rfl rfl dX7_begin_17 ?_
  refine r_aload_n dX7_begin_20 rfl ?_
  refine r_lconst (0) dX7_begin_21 (by decide) ?_
  refine q_putJ fl_X7_28 hW hk rfl rfl dX7_begin_22 ?_
  refine r_aload_n dX7_begin_25 rfl ?_
  refine r_iconst (0) dX7_begin_26 (by decide) ?_
  refine q_putI fl_X7_31 hW hk rfl rfl dX7_begin_27 ?_
  refine r_aload_n dX7_begin_30 rfl ?_
  refine r_iconst (0) dX7_begin_31 (by decide) ?_
  refine q_putI fl_X7_35 hW hk rfl rfl dX7_begin_32 ?_
  refine r_aload_n dX7_begin_35 rfl ?_
  refine r_iconst (0) dX7_begin_36 (by decide) ?_
  refine q_putI fl_X7_38 hW hk rfl rfl dX7_begin_37 ?_
  refine r_aload_n dX7_begin_40 rfl ?_
  refine r_iconst (0) dX7_begin_41 (by decide) ?_
  refine q_putI fl_X7_41 hW hk rfl rfl dX7_begin_42 ?_
  refine r_aload_n dX7_begin_45 rfl ?_
  refine q_getR fl_X7_9 hW hk rfl (kl_7_9 hW hk) (Nat.succ_ne_zero _) dX7_begin_46 ?_
  refine r_iconst (0) dX7_begin_49 (by decide) ?_
  refine q_callS2 (cs_J7_fill_53178 ml_X7_44) ⟨rfl, rfl⟩ rfl (Nat.le_of_ble_eq_true rfl) dX7_begin_50 (c_fill hW (kk_7_9 hk) (by decide)) (fun v_50 h_50 q_50 => ?_)
  obtain ⟨rfl, he_q_50, hm_q_50⟩ := q_50
  refine r_vret dX7_begin_53 rfl ⟨Nat.zero_le _, Nat.zero_le _⟩ ?_
  refine ⟨rfl, ?_, ?_⟩
  · refine eqx.tr ?_ (he_q_50.wk (fun i zi => by unfold btw at *; omega))
    repeat (first | exact eqx.rf | refine eqx.sI ?_ (by unfold btw; omega) | refine eqx.sJ ?_ (by unfold btw; omega))
  · have z1 : ¬ btw (o + 1) (o + 1) o := by unfold btw; omega
    unfold TalR
    rw [he_q_50.I z1, he_q_50.J z1]
    refine ⟨fun k zk => ?_, fun k zk zk2 => ?_, fun k zk => ?_⟩
    · obtain rfl | rfl | rfl | rfl | rfl : k = 0 ∨ k = 1 ∨ k = 2 ∨ k = 3 ∨ k = 4 := by omega
      all_goals (simp (discharger := omega) only [sI_o, sI_s, sI_k, sJ_o, sJ_s, sJ_k, sIJ, sJI, cI_ne, cI_eq, cIJ])
    · obtain rfl | rfl | rfl | rfl : k = 5 ∨ k = 6 ∨ k = 7 ∨ k = 8 := by omega
      all_goals (simp (discharger := omega) only [sI_o, sI_s, sI_k, sJ_o, sJ_s, sJ_k, sIJ, sJI, cI_ne, cI_eq, cIJ])
    · rw [hm_q_50, if_pos zk]

set_option maxRecDepth 100000 in
set_option maxHeartbeats 4000000 in
theorem c_X7_copyFrom {l9 : Launch} {G : GC} {h : AH} {o : Nat} {o2 : Nat} {tl : Nat → Int64} {tI dc : Nat → Int32} (hW : World h) (hk : kd o 7) (hk2 : kd o2 7) (hne : o + 1 < o2 ∨ o2 + 1 < o) (hm : TalR h o2 tl tI dc) : PM l9 G mX7_copyFrom NT NT [.ref o, .ref o2] h (fun v h' => v = none ∧ eqx h h' (btw o (o + 1)) ∧ TalR h' o tl tI dc) noX := by
  refine PM.of (by decide +kernel) rfl rfl (Nat.le_of_ble_eq_true rfl) (fun hst _ => ?_)
  refine r_aload_n dX7_copyFrom_0 rfl ?_
  refine r_aload_n dX7_copyFrom_1 rfl ?_
  refine q_getJ fl_X7_15 hW hk2 rfl dX7_copyFrom_2 ?_
  refine q_putJ fl_X7_15 hW hk rfl rfl dX7_copyFrom_5 ?_
  refine r_aload_n dX7_copyFrom_8 rfl ?_
  refine r_aload_n dX7_copyFrom_9 rfl ?_
  refine q_getJ fl_X7_19 hW hk2 rfl dX7_copyFrom_10 ?_
  refine q_putJ fl_X7_19 hW hk rfl rfl dX7_copyFrom_13 ?_
  refine r_aload_n dX7_copyFrom_16 rfl ?_
  refine r_aload_n dX7_copyFrom_17 rfl ?_
  refine q_getJ fl_X7_22 hW hk2 rfl dX7_copyFrom_18 ?_
  refine q_putJ fl_X7_22 hW hk rfl rfl dX7_copyFrom_21 ?_
  refine r_aload_n dX7_copyFrom_24 rfl ?_
  refine r_aload_n dX7_copyFrom_25 rfl ?_
  refine q_getJ fl_X7_25 hW hk2 rfl dX7_copyFrom_26 ?_
  refine q_putJ fl_X7_25 hW hk rfl rfl dX7_copyFrom_29 ?_
  refine r_aload_n dX7_copyFrom_32 rfl ?_
  refine r_aload_n dX7_copyFrom_33 rfl ?_
  refine q_getJ fl_X7_28 hW hk2 rfl dX7_copyFrom_34 ?_
  refine q_putJ fl_X7_28 hW hk rfl rfl dX7_copyFrom_37 ?_
  refine r_aload_n dX7_copyFrom_40 rfl ?_
  refine r_aload_n dX7_copyFrom_41 rfl ?_
  refine q_getI fl_X7_31 hW hk2 rfl dX7_copyFrom_42 ?_
  refine q_putI fl_X7_31 hW hk rfl rfl dX7_copyFrom_45 ?_
  refine r_aload_n dX7_copyFrom_48 rfl ?_
  refine r_aload_n dX7_copyFrom_49 rfl ?_
  refine q_getI fl_X7_35 hW hk2 rfl dX7_copyFrom_50 ?_
  refine q_putI fl_X7_35 hW hk rfl rfl dX7_copyFrom_53 ?_
  refine r_aload_n dX7_copyFrom_56 rfl ?_
  refine r_aload_n dX7_copyFrom_57 rfl ?_
  refine q_getI fl_X7_38 hW hk2 rfl dX7_copyFrom_58 ?_
  refine q_putI fl_X7_38 hW hk rfl rfl dX7_copyFrom_61 ?_
  refine r_aload_n dX7_copyFrom_64 rfl ?_
  refine r_aload_n dX7_copyFrom_65 rfl ?_
  refine q_getI fl_X7_41 hW hk2 rfl dX7_copyFrom_66 ?_
  refine q_putI fl_X7_41 hW hk rfl rfl dX7_copyFrom_69 ?_
  refine r_aload_n dX7_copyFrom_72 rfl ?_
  refine q_getR fl_X7_9 hW hk2 rfl (kl_7_9 hW hk2) (Nat.succ_ne_zero _) dX7_copyFrom_73 ?_
  refine r_iconst (0) dX7_copyFrom_76 (by decide) ?_
  refine r_aload_n dX7_copyFrom_77 rfl ?_
  refine q_getR fl_X7_9 hW hk rfl (kl_7_9 hW hk) (Nat.succ_ne_zero _) dX7_copyFrom_78 ?_
  refine r_iconst (0) dX7_copyFrom_81 (by decide) ?_
  refine r_bipush (6) dX7_copyFrom_82 (by decide) ?_
  refine q_copy0 (k := 6) ac_X7_50 hW (kk_7_9 hk2) (kk_7_9 hk) rfl (by decide) (by decide) (by decide) rfl rfl (Nat.le_of_ble_eq_true rfl) dX7_copyFrom_84 ?_
  refine r_vret dX7_copyFrom_87 rfl ⟨Nat.zero_le _, Nat.zero_le _⟩ ?_
  refine ⟨rfl, ?_, ?_⟩
  · repeat (first | exact eqx.rf | refine eqx.cI ?_ (by unfold btw; omega) | refine eqx.sI ?_ (by unfold btw; omega) | refine eqx.sJ ?_ (by unfold btw; omega))
  · refine ⟨fun k zk => ?_, fun k zk zk2 => ?_, fun k zk => ?_⟩
    · obtain rfl | rfl | rfl | rfl | rfl : k = 0 ∨ k = 1 ∨ k = 2 ∨ k = 3 ∨ k = 4 := by omega
      all_goals (simp (discharger := omega) only [sI_o, sI_s, sI_k, sJ_o, sJ_s, sJ_k, sIJ, sJI, cI_ne, cI_eq, cIJ]; first | exact hm.1 _ (by omega) | exact hm.2.1 _ (by omega) (by omega))
    · obtain rfl | rfl | rfl | rfl : k = 5 ∨ k = 6 ∨ k = 7 ∨ k = 8 := by omega
      all_goals (simp (discharger := omega) only [sI_o, sI_s, sI_k, sJ_o, sJ_s, sJ_k, sIJ, sJI, cI_ne, cI_eq, cIJ]; first | exact hm.1 _ (by omega) | exact hm.2.1 _ (by omega) (by omega))
    · simp (discharger := omega) only [sI_o, sI_s, sI_k, sJ_o, sJ_s, sJ_k, sIJ, sJI, cI_ne, cI_eq, cIJ, cpT_in zk]; exact hm.2.2 k zk

set_option maxRecDepth 100000 in
set_option maxHeartbeats 4000000 in
theorem c_X7_addTick {l9 : Launch} {G : GC} {h : AH} {o : Nat} {d pw ch fe : Int32} {tl : Nat → Int64} {tI dc : Nat → Int32} (hW : World h) (hk : kd o 7) (hm : TalR h o tl tI dc) : PM l9 G mX7_addTick NT NT [.ref o, .int d, .int pw, .int ch, .int fe] h (fun v h' => v = none ∧ eqx h h' (btw o (o + 1)) ∧ TalR h' o (tlT tl d pw ch fe) (tIT tI d pw) dc) noX := by
  refine PM.of (by decide +kernel) rfl rfl (Nat.le_of_ble_eq_true rfl) (fun hst _ => ?_)
  refine r_iconst (0) dX7_addTick_0 (by decide) ?_
  refine r_iload_n dX7_addTick_1 rfl ?_
  refine r_iload_n dX7_addTick_2 rfl ?_
  refine r_isub dX7_addTick_3 ?_
  refine q_max mm_X7_56 rfl (Nat.le_of_ble_eq_true rfl) dX7_addTick_4 ?_
  change PW _ _ _ _ _ _ _ _ (.int (imx 0 (d - pw)) :: _) _ _
  refine r_istore (ls2 := [_, _, _, _, some _, _]) dX7_addTick_7 (by decide) rfl ?_
  refine r_aload_n dX7_addTick_9 rfl ?_
  refine r_dup dX7_addTick_10 rfl ?_
  refine q_getJ fl_X7_15 hW hk rfl dX7_addTick_11 ?_
  refine r_iload_n dX7_addTick_14 rfl ?_
  refine r_iload dX7_addTick_15 rfl ?_
  refine r_isub dX7_addTick_17 ?_
  refine r_i2l dX7_addTick_18 ?_
  refine r_ladd dX7_addTick_19 ?_
  refine q_putJ fl_X7_15 hW hk rfl rfl dX7_addTick_20 ?_
  refine r_aload_n dX7_addTick_23 rfl ?_
  refine r_dup dX7_addTick_24 rfl ?_
  refine q_getJ fl_X7_19 hW hk rfl dX7_addTick_25 ?_
  refine r_iload dX7_addTick_28 rfl ?_
  refine r_i2l dX7_addTick_30 ?_
  refine r_ladd dX7_addTick_31 ?_
  refine q_putJ fl_X7_19 hW hk rfl rfl dX7_addTick_32 ?_
  refine r_aload_n dX7_addTick_35 rfl ?_
  refine r_dup dX7_addTick_36 rfl ?_
  refine q_getJ fl_X7_22 hW hk rfl dX7_addTick_37 ?_
  refine r_iload_n dX7_addTick_40 rfl ?_
  refine r_iload dX7_addTick_41 rfl ?_
  refine r_iload dX7_addTick_43 rfl ?_
  refine r_imul dX7_addTick_45 ?_
  refine r_iadd dX7_addTick_46 ?_
  refine r_i2l dX7_addTick_47 ?_
  refine r_ladd dX7_addTick_48 ?_
  refine q_putJ fl_X7_22 hW hk rfl rfl dX7_addTick_49 ?_
  refine r_aload_n dX7_addTick_52 rfl ?_
  refine r_dup dX7_addTick_53 rfl ?_
  refine q_getJ fl_X7_25 hW hk rfl dX7_addTick_54 ?_
  refine r_iload_n dX7_addTick_57 rfl ?_
  refine r_i2l dX7_addTick_58 ?_
  refine r_ladd dX7_addTick_59 ?_
  refine q_putJ fl_X7_25 hW hk rfl rfl dX7_addTick_60 ?_
  refine r_aload_n dX7_addTick_63 rfl ?_
  refine r_aload_n dX7_addTick_64 rfl ?_
  refine q_getI fl_X7_35 hW hk rfl dX7_addTick_65 ?_
  refine r_iload_n dX7_addTick_68 rfl ?_
  refine q_max mm_X7_56 rfl (Nat.le_of_ble_eq_true rfl) dX7_addTick_69 ?_
  refine q_putI fl_X7_35 hW hk rfl rfl dX7_addTick_72 ?_
  refine r_aload_n dX7_addTick_75 rfl ?_
  refine r_iload dX7_addTick_76 rfl ?_
  refine r_if_le 90 dX7_addTick_78 (by decide) (fun c_78 => ?_) (fun c_78 => ?_)
  · refine r_iconst (0) dX7_addTick_90 (by decide) ?_
    refine q_putI fl_X7_38 hW hk rfl rfl dX7_addTick_91 ?_
    refine r_aload_n dX7_addTick_94 rfl ?_
    refine r_aload_n dX7_addTick_95 rfl ?_
    refine q_getI fl_X7_41 hW hk rfl dX7_addTick_96 ?_
    refine r_aload_n dX7_addTick_99 rfl ?_
    refine q_getI fl_X7_38 hW hk rfl dX7_addTick_100 ?_
    refine q_max mm_X7_56 rfl (Nat.le_of_ble_eq_true rfl) dX7_addTick_103 ?_
    refine q_putI fl_X7_41 hW hk rfl rfl dX7_addTick_106 ?_
    refine r_vret dX7_addTick_109 rfl ⟨Nat.zero_le _, Nat.zero_le _⟩ ?_
    refine ⟨rfl, ?_, ?_⟩
    · repeat (first | exact eqx.rf | refine eqx.sI ?_ (by unfold btw; omega) | refine eqx.sJ ?_ (by unfold btw; omega))
    · have z0 := hm.1 0 (by omega)
      have z1 := hm.1 1 (by omega)
      have z2 := hm.1 2 (by omega)
      have z3 := hm.1 3 (by omega)
      have z4 := hm.1 4 (by omega)
      have z5 := hm.2.1 5 (by omega) (by omega)
      have z6 := hm.2.1 6 (by omega) (by omega)
      have z7 := hm.2.1 7 (by omega) (by omega)
      have z8 := hm.2.1 8 (by omega) (by omega)
      refine ⟨fun k zk => ?_, fun k zk zk2 => ?_, fun k zk => ?_⟩
      · obtain rfl | rfl | rfl | rfl | rfl : k = 0 ∨ k = 1 ∨ k = 2 ∨ k = 3 ∨ k = 4 := by omega
        all_goals (simp (discharger := omega) only [sI_o, sI_s, sI_k, sJ_o, sJ_s, sJ_k, sIJ, sJI, cI_ne, cI_eq, cIJ, z0, z1, z2, z3, z4, z5, z6, z7, z8]; first | rfl | (unfold tIT; first | rfl | (rw [if_pos (Int32.not_le.mp c_78)]; rfl) | (rw [if_neg (Int32.not_lt.mpr c_78)]; rfl)))
      · obtain rfl | rfl | rfl | rfl : k = 5 ∨ k = 6 ∨ k = 7 ∨ k = 8 := by omega
        all_goals (simp (discharger := omega) only [sI_o, sI_s, sI_k, sJ_o, sJ_s, sJ_k, sIJ, sJI, cI_ne, cI_eq, cIJ, z0, z1, z2, z3, z4, z5, z6, z7, z8]; first | rfl | (unfold tIT; first | rfl | (rw [if_pos (Int32.not_le.mp c_78)]; rfl) | (rw [if_neg (Int32.not_lt.mpr c_78)]; rfl)))
      · simp (discharger := omega) only [sI_o, sI_s, sI_k, sJ_o, sJ_s, sJ_k, sIJ, sJI, cI_ne, cI_eq, cIJ]; exact hm.2.2 k zk
  · refine r_aload_n dX7_addTick_81 rfl ?_
    refine q_getI fl_X7_38 hW hk rfl dX7_addTick_82 ?_
    refine r_iconst (1) dX7_addTick_85 (by decide) ?_
    refine r_iadd dX7_addTick_86 ?_
    refine r_goto 91 dX7_addTick_87 (by decide) ?_
    refine q_putI fl_X7_38 hW hk rfl rfl dX7_addTick_91 ?_
    refine r_aload_n dX7_addTick_94 rfl ?_
    refine r_aload_n dX7_addTick_95 rfl ?_
    refine q_getI fl_X7_41 hW hk rfl dX7_addTick_96 ?_
    refine r_aload_n dX7_addTick_99 rfl ?_
    refine q_getI fl_X7_38 hW hk rfl dX7_addTick_100 ?_
    refine q_max mm_X7_56 rfl (Nat.le_of_ble_eq_true rfl) dX7_addTick_103 ?_
    refine q_putI fl_X7_41 hW hk rfl rfl dX7_addTick_106 ?_
    refine r_vret dX7_addTick_109 rfl ⟨Nat.zero_le _, Nat.zero_le _⟩ ?_
    refine ⟨rfl, ?_, ?_⟩
    · repeat (first | exact eqx.rf | refine eqx.sI ?_ (by unfold btw; omega) | refine eqx.sJ ?_ (by unfold btw; omega))
    · have z0 := hm.1 0 (by omega)
      have z1 := hm.1 1 (by omega)
      have z2 := hm.1 2 (by omega)
      have z3 := hm.1 3 (by omega)
      have z4 := hm.1 4 (by omega)
      have z5 := hm.2.1 5 (by omega) (by omega)
      have z6 := hm.2.1 6 (by omega) (by omega)
      have z7 := hm.2.1 7 (by omega) (by omega)
      have z8 := hm.2.1 8 (by omega) (by omega)
      refine ⟨fun k zk => ?_, fun k zk zk2 => ?_, fun k zk => ?_⟩
      · obtain rfl | rfl | rfl | rfl | rfl : k = 0 ∨ k = 1 ∨ k = 2 ∨ k = 3 ∨ k = 4 := by omega
        all_goals (simp (discharger := omega) only [sI_o, sI_s, sI_k, sJ_o, sJ_s, sJ_k, sIJ, sJI, cI_ne, cI_eq, cIJ, z0, z1, z2, z3, z4, z5, z6, z7, z8]; first | rfl | (unfold tIT; first | rfl | (rw [if_pos (Int32.not_le.mp c_78)]; rfl) | (rw [if_neg (Int32.not_lt.mpr c_78)]; rfl)))
      · obtain rfl | rfl | rfl | rfl : k = 5 ∨ k = 6 ∨ k = 7 ∨ k = 8 := by omega
        all_goals (simp (discharger := omega) only [sI_o, sI_s, sI_k, sJ_o, sJ_s, sJ_k, sIJ, sJI, cI_ne, cI_eq, cIJ, z0, z1, z2, z3, z4, z5, z6, z7, z8]; first | rfl | (unfold tIT; first | rfl | (rw [if_pos (Int32.not_le.mp c_78)]; rfl) | (rw [if_neg (Int32.not_lt.mpr c_78)]; rfl)))
      · simp (discharger := omega) only [sI_o, sI_s, sI_k, sJ_o, sJ_s, sJ_k, sIJ, sJI, cI_ne, cI_eq, cIJ]; exact hm.2.2 k zk

set_option maxRecDepth 100000 in
set_option maxHeartbeats 4000000 in
theorem c_X7_addError {l9 : Launch} {G : GC} {h : AH} {o : Nat} {e9 : Int32} {tl : Nat → Int64} {tI dc : Nat → Int32} (hW : World h) (hk : kd o 7) (hm : TalR h o tl tI dc) : PM l9 G mX7_addError NT NT [.ref o, .int e9] h (fun v h' => v = none ∧ eqx h h' (btw o (o + 1)) ∧ TalR h' o (vp_updL tl 4 (tl 4 + e9.toInt64)) (upd tI 5 (tI 5 + 1)) dc) noX := by
  refine PM.of (by decide +kernel) rfl rfl (Nat.le_of_ble_eq_true rfl) (fun hst _ => ?_)
  refine r_aload_n dX7_addError_0 rfl ?_
  refine r_dup dX7_addError_1 rfl ?_
  refine q_getJ fl_X7_28 hW hk rfl dX7_addError_2 ?_
  refine r_iload_n dX7_addError_5 rfl ?_
  refine r_i2l dX7_addError_6 ?_
  refine r_ladd dX7_addError_7 ?_
  refine q_putJ fl_X7_28 hW hk rfl rfl dX7_addError_8 ?_
  refine r_aload_n dX7_addError_11 rfl ?_
  refine r_dup dX7_addError_12 rfl ?_
  refine q_getI fl_X7_31 hW hk rfl dX7_addError_13 ?_
  refine r_iconst (1) dX7_addError_16 (by decide) ?_
  refine r_iadd dX7_addError_17 ?_
  refine q_putI fl_X7_31 hW hk rfl rfl dX7_addError_18 ?_
  refine r_vret dX7_addError_21 rfl ⟨Nat.zero_le _, Nat.zero_le _⟩ ?_
  refine ⟨rfl, ?_, ?_⟩
  · repeat (first | exact eqx.rf | refine eqx.sI ?_ (by unfold btw; omega) | refine eqx.sJ ?_ (by unfold btw; omega))
  · have z4 := hm.1 4 (by omega)
    have z5 := hm.2.1 5 (by omega) (by omega)
    refine ⟨fun k zk => ?_, fun k zk zk2 => ?_, fun k zk => ?_⟩
    · obtain rfl | rfl | rfl | rfl | rfl : k = 0 ∨ k = 1 ∨ k = 2 ∨ k = 3 ∨ k = 4 := by omega
      all_goals (simp (discharger := omega) only [sI_o, sI_s, sI_k, sJ_o, sJ_s, sJ_k, sIJ, sJI, cI_ne, cI_eq, cIJ, pk_us, pk_uLs, z4, z5]; first | done | (rw [pk_uLn (by omega)]; exact hm.1 _ (by omega)) | (rw [pk_un (by omega)]; exact hm.2.1 _ (by omega) (by omega)))
    · obtain rfl | rfl | rfl | rfl : k = 5 ∨ k = 6 ∨ k = 7 ∨ k = 8 := by omega
      all_goals (simp (discharger := omega) only [sI_o, sI_s, sI_k, sJ_o, sJ_s, sJ_k, sIJ, sJI, cI_ne, cI_eq, cIJ, pk_us, pk_uLs, z4, z5]; first | done | (rw [pk_uLn (by omega)]; exact hm.1 _ (by omega)) | (rw [pk_un (by omega)]; exact hm.2.1 _ (by omega) (by omega)))
    · simp (discharger := omega) only [sI_o, sI_s, sI_k, sJ_o, sJ_s, sJ_k, sIJ, sJI, cI_ne, cI_eq, cIJ]; exact hm.2.2 k zk

set_option maxRecDepth 100000 in
set_option maxHeartbeats 4000000 in
theorem c_X7_addDecision {l9 : Launch} {G : GC} {h : AH} {o : Nat} {k9 : Nat} {tl : Nat → Int64} {tI dc : Nat → Int32} (hW : World h) (hk : kd o 7) (hm : TalR h o tl tI dc) (h9 : k9 < 6) : PM l9 G mX7_addDecision NT NT [.ref o, .int (nI k9)] h (fun v h' => v = none ∧ eqx h h' (btw o (o + 1)) ∧ TalR h' o tl tI (upd dc k9 (dc k9 + 1))) noX := by
  refine PM.of (by decide +kernel) rfl rfl (Nat.le_of_ble_eq_true rfl) (fun hst _ => ?_)
  refine r_iload_n dX7_addDecision_0 rfl ?_
  refine r_if_lt 20 dX7_addDecision_1 (by decide) (fun c_1 => ?_) (fun c_1 => ?_)
  · exact absurd c_1 (nI_pos (by omega))
  · refine r_iload_n dX7_addDecision_4 rfl ?_
    refine r_bipush (6) dX7_addDecision_5 (by decide) ?_
    refine r_icmp_ge 20 dX7_addDecision_7 (by decide) (fun c_7 => ?_) (fun c_7 => ?_)
    · exact absurd ((nI_leI (a := 6) (by omega) (by omega)).mp c_7) (by omega)
    · refine r_aload_n dX7_addDecision_10 rfl ?_
      refine q_getR fl_X7_9 hW hk rfl (kl_7_9 hW hk) (Nat.succ_ne_zero _) dX7_addDecision_11 ?_
      refine r_iload_n dX7_addDecision_14 rfl ?_
      refine r_dup2 dX7_addDecision_15 rfl rfl ?_
      refine q_iald hW (kk_7_9 hk) (k := k9) rfl h9 (by decide) dX7_addDecision_16 ?_
      refine r_iconst (1) dX7_addDecision_17 (by decide) ?_
      refine r_iadd dX7_addDecision_18 ?_
      refine q_iast hW (kk_7_9 hk) (k := k9) rfl h9 (by decide) dX7_addDecision_19 ?_
      refine r_vret dX7_addDecision_20 rfl ⟨Nat.zero_le _, Nat.zero_le _⟩ ?_
      refine ⟨rfl, eqx.rf.sI (by unfold btw; omega), fun k zk => ?_, fun k zk zk2 => ?_, fun k zk => ?_⟩
      · exact hm.1 k zk
      · rw [sI_o (by omega)]; exact hm.2.1 k zk zk2
      · rw [sI_r, hm.2.2 k9 h9]
        by_cases e : k = k9
        · subst e; rw [pk_us, pk_us]
        · rw [pk_un e, pk_un e]; exact hm.2.2 k zk
