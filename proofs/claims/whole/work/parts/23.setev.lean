theorem SetR.sub {h : AH} {o : Nat} {s s' : Nat → Int32} {ld ld' : List Int32} (hm : SetR h o s ld) (h1 : ∀ k, k < 16 → s k = s' k) (h2 : ld = ld') : SetR h o s' ld' := by
  subst h2
  exact ⟨fun k hk => (hm.1 k hk).trans (h1 k hk), hm.2⟩
set_option maxRecDepth 100000 in
set_option maxHeartbeats 4000000 in
theorem c_X4_begin {l9 : Launch} {G : GC} {h : AH} {o : Nat} {a b c : Int32} (hW : World h) (hk : kd o 4) : PM l9 G mX4_begin NT NT [.ref o, .int a, .int b, .int c] h (fun v h' => v = none ∧ eqx h h' (btw o o) ∧ SetR h' o (set0 a b c) []) noX := by
  refine PM.of (by decide +kernel) rfl rfl (Nat.le_of_ble_eq_true rfl) (fun hst _ => ?_)
  refine r_aload_n dX4_begin_0 rfl ?_
  refine r_iload_n dX4_begin_1 rfl ?_
  refine q_putI fl_X4_15 hW hk rfl rfl dX4_begin_2 ?_
  refine r_aload_n dX4_begin_5 rfl ?_
  refine r_iload_n dX4_begin_6 rfl ?_
  refine q_putI fl_X4_19 hW hk rfl rfl dX4_begin_7 ?_
  refine r_aload_n dX4_begin_10 rfl ?_
  refine r_iload_n dX4_begin_11 rfl ?_
  refine q_putI fl_X4_22 hW hk rfl rfl dX4_begin_12 ?_
  refine r_aload_n dX4_begin_15 rfl ?_
  refine r_bipush (70) dX4_begin_16 (by decide) ?_
  refine q_putI fl_X4_25 hW hk rfl rfl dX4_begin_18 ?_
  refine r_aload_n dX4_begin_21 rfl ?_
  refine r_iconst (2) dX4_begin_22 (by decide) ?_
  refine q_putI fl_X4_28 hW hk rfl rfl dX4_begin_23 ?_
  refine r_aload_n dX4_begin_26 rfl ?_
  refine r_iconst (4) dX4_begin_27 (by decide) ?_
  refine q_putI fl_X4_31 hW hk rfl rfl dX4_begin_28 ?_
  refine r_aload_n dX4_begin_31 rfl ?_
  refine r_iconst (2) dX4_begin_32 (by decide) ?_
  refine q_putI fl_X4_34 hW hk rfl rfl dX4_begin_33 ?_
  refine r_aload_n dX4_begin_36 rfl ?_
  refine r_iconst (0) dX4_begin_37 (by decide) ?_
  refine q_putI fl_X4_37 hW hk rfl rfl dX4_begin_38 ?_
  refine r_aload_n dX4_begin_41 rfl ?_
  refine r_iconst (0) dX4_begin_42 (by decide) ?_
  refine q_putI fl_X4_40 hW hk rfl rfl dX4_begin_43 ?_
  refine r_aload_n dX4_begin_46 rfl ?_
  refine r_iconst (0) dX4_begin_47 (by decide) ?_
  refine q_putI fl_X4_43 hW hk rfl rfl dX4_begin_48 ?_
  refine r_aload_n dX4_begin_51 rfl ?_
  refine r_iconst (1) dX4_begin_52 (by decide) ?_
  refine q_putI fl_X4_46 hW hk rfl rfl dX4_begin_53 ?_
  refine r_aload_n dX4_begin_56 rfl ?_
  refine r_iconst (1) dX4_begin_57 (by decide) ?_
  refine q_putI fl_X4_49 hW hk rfl rfl dX4_begin_58 ?_
  refine r_aload_n dX4_begin_61 rfl ?_
  refine r_iconst (3) dX4_begin_62 (by decide) ?_
  refine q_putI fl_X4_52 hW hk rfl rfl dX4_begin_63 ?_
  refine r_aload_n dX4_begin_66 rfl ?_
  refine r_iconst (5) dX4_begin_67 (by decide) ?_
  refine q_putI fl_X4_55 hW hk rfl rfl dX4_begin_68 ?_
  refine r_aload_n dX4_begin_71 rfl ?_
  refine r_iconst (1) dX4_begin_72 (by decide) ?_
  refine q_putI fl_X4_58 hW hk rfl rfl dX4_begin_73 ?_
  refine r_aload_n dX4_begin_76 rfl ?_
  refine r_iconst (1) dX4_begin_77 (by decide) ?_
  refine q_putI fl_X4_61 hW hk rfl rfl dX4_begin_78 ?_
  refine r_aload_n dX4_begin_81 rfl ?_
  refine r_iconst (0) dX4_begin_82 (by decide) ?_
  refine q_putI fl_X4_64 hW hk rfl rfl dX4_begin_83 ?_
  refine r_vret dX4_begin_86 rfl ⟨Nat.zero_le _, Nat.zero_le _⟩ ?_
  refine ⟨rfl, ?_, fun k zk => ?_, ?_, by decide, fun j hj => absurd hj (Nat.not_lt_zero _)⟩
  · repeat (first | exact eqx.rf | refine eqx.cI ?_ (by unfold btw; omega) | refine eqx.sI ?_ (by unfold btw; omega) | refine eqx.sJ ?_ (by unfold btw; omega))
  · obtain rfl | rfl | rfl | rfl | rfl | rfl | rfl | rfl | rfl | rfl | rfl | rfl | rfl | rfl | rfl | rfl : k = 0 ∨ k = 1 ∨ k = 2 ∨ k = 3 ∨ k = 4 ∨ k = 5 ∨ k = 6 ∨ k = 7 ∨ k = 8 ∨ k = 9 ∨ k = 10 ∨ k = 11 ∨ k = 12 ∨ k = 13 ∨ k = 14 ∨ k = 15 := by omega
    all_goals (simp (discharger := omega) only [sI_o, sI_s, sI_k, sJ_o, sJ_s, sJ_k, sIJ, sJI, cI_ne, cI_eq, cIJ] <;> rfl)
  · simp (discharger := omega) only [sI_o, sI_s, sI_k, sJ_o, sJ_s, sJ_k, sIJ, sJI, cI_ne, cI_eq, cIJ]
    rfl

set_option maxRecDepth 100000 in
set_option maxHeartbeats 4000000 in
theorem c_X4_copyFrom {l9 : Launch} {G : GC} {h : AH} {o : Nat} {o2 : Nat} {s : Nat → Int32} {ld : List Int32} (hW : World h) (hk : kd o 4) (hk2 : kd o2 4) (hne : o + 1 < o2 ∨ o2 + 1 < o) (hm : SetR h o2 s ld) : PM l9 G mX4_copyFrom NT NT [.ref o, .ref o2] h (fun v h' => v = none ∧ eqx h h' (btw o (o + 1)) ∧ SetR h' o s ld) noX := by
  refine PM.of (by decide +kernel) rfl rfl (Nat.le_of_ble_eq_true rfl) (fun hst _ => ?_)
  refine r_aload_n dX4_copyFrom_0 rfl ?_
  refine r_aload_n dX4_copyFrom_1 rfl ?_
  refine q_getI fl_X4_15 hW hk2 rfl dX4_copyFrom_2 ?_
  refine q_putI fl_X4_15 hW hk rfl rfl dX4_copyFrom_5 ?_
  refine r_aload_n dX4_copyFrom_8 rfl ?_
  refine r_aload_n dX4_copyFrom_9 rfl ?_
  refine q_getI fl_X4_19 hW hk2 rfl dX4_copyFrom_10 ?_
  refine q_putI fl_X4_19 hW hk rfl rfl dX4_copyFrom_13 ?_
  refine r_aload_n dX4_copyFrom_16 rfl ?_
  refine r_aload_n dX4_copyFrom_17 rfl ?_
  refine q_getI fl_X4_22 hW hk2 rfl dX4_copyFrom_18 ?_
  refine q_putI fl_X4_22 hW hk rfl rfl dX4_copyFrom_21 ?_
  refine r_aload_n dX4_copyFrom_24 rfl ?_
  refine r_aload_n dX4_copyFrom_25 rfl ?_
  refine q_getI fl_X4_25 hW hk2 rfl dX4_copyFrom_26 ?_
  refine q_putI fl_X4_25 hW hk rfl rfl dX4_copyFrom_29 ?_
  refine r_aload_n dX4_copyFrom_32 rfl ?_
  refine r_aload_n dX4_copyFrom_33 rfl ?_
  refine q_getI fl_X4_28 hW hk2 rfl dX4_copyFrom_34 ?_
  refine q_putI fl_X4_28 hW hk rfl rfl dX4_copyFrom_37 ?_
  refine r_aload_n dX4_copyFrom_40 rfl ?_
  refine r_aload_n dX4_copyFrom_41 rfl ?_
  refine q_getI fl_X4_31 hW hk2 rfl dX4_copyFrom_42 ?_
  refine q_putI fl_X4_31 hW hk rfl rfl dX4_copyFrom_45 ?_
  refine r_aload_n dX4_copyFrom_48 rfl ?_
  refine r_aload_n dX4_copyFrom_49 rfl ?_
  refine q_getI fl_X4_34 hW hk2 rfl dX4_copyFrom_50 ?_
  refine q_putI fl_X4_34 hW hk rfl rfl dX4_copyFrom_53 ?_
  refine r_aload_n dX4_copyFrom_56 rfl ?_
  refine r_aload_n dX4_copyFrom_57 rfl ?_
  refine q_getI fl_X4_37 hW hk2 rfl dX4_copyFrom_58 ?_
  refine q_putI fl_X4_37 hW hk rfl rfl dX4_copyFrom_61 ?_
  refine r_aload_n dX4_copyFrom_64 rfl ?_
  refine r_aload_n dX4_copyFrom_65 rfl ?_
  refine q_getI fl_X4_40 hW hk2 rfl dX4_copyFrom_66 ?_
  refine q_putI fl_X4_40 hW hk rfl rfl dX4_copyFrom_69 ?_
  refine r_aload_n dX4_copyFrom_72 rfl ?_
  refine r_aload_n dX4_copyFrom_73 rfl ?_
  refine q_getI fl_X4_43 hW hk2 rfl dX4_copyFrom_74 ?_
  refine q_putI fl_X4_43 hW hk rfl rfl dX4_copyFrom_77 ?_
  refine r_aload_n dX4_copyFrom_80 rfl ?_
  refine r_aload_n dX4_copyFrom_81 rfl ?_
  refine q_getI fl_X4_46 hW hk2 rfl dX4_copyFrom_82 ?_
  refine q_putI fl_X4_46 hW hk rfl rfl dX4_copyFrom_85 ?_
  refine r_aload_n dX4_copyFrom_88 rfl ?_
  refine r_aload_n dX4_copyFrom_89 rfl ?_
  refine q_getI fl_X4_49 hW hk2 rfl dX4_copyFrom_90 ?_
  refine q_putI fl_X4_49 hW hk rfl rfl dX4_copyFrom_93 ?_
  refine r_aload_n dX4_copyFrom_96 rfl ?_
  refine r_aload_n dX4_copyFrom_97 rfl ?_
  refine q_getI fl_X4_52 hW hk2 rfl dX4_copyFrom_98 ?_
  refine q_putI fl_X4_52 hW hk rfl rfl dX4_copyFrom_101 ?_
  refine r_aload_n dX4_copyFrom_104 rfl ?_
  refine r_aload_n dX4_copyFrom_105 rfl ?_
  refine q_getI fl_X4_55 hW hk2 rfl dX4_copyFrom_106 ?_
  refine q_putI fl_X4_55 hW hk rfl rfl dX4_copyFrom_109 ?_
  refine r_aload_n dX4_copyFrom_112 rfl ?_
  refine r_aload_n dX4_copyFrom_113 rfl ?_
  refine q_getI fl_X4_58 hW hk2 rfl dX4_copyFrom_114 ?_
  refine q_putI fl_X4_58 hW hk rfl rfl dX4_copyFrom_117 ?_
  refine r_aload_n dX4_copyFrom_120 rfl ?_
  refine r_aload_n dX4_copyFrom_121 rfl ?_
  refine q_getI fl_X4_61 hW hk2 rfl dX4_copyFrom_122 ?_
  refine q_putI fl_X4_61 hW hk rfl rfl dX4_copyFrom_125 ?_
  refine r_aload_n dX4_copyFrom_128 rfl ?_
  refine q_getR fl_X4_9 hW hk2 rfl (kl_4_16 hW hk2) (Nat.succ_ne_zero _) dX4_copyFrom_129 ?_
  refine r_iconst (0) dX4_copyFrom_132 (by decide) ?_
  refine r_aload_n dX4_copyFrom_133 rfl ?_
  refine q_getR fl_X4_9 hW hk rfl (kl_4_16 hW hk) (Nat.succ_ne_zero _) dX4_copyFrom_134 ?_
  refine r_iconst (0) dX4_copyFrom_137 (by decide) ?_
  refine r_bipush (24) dX4_copyFrom_138 (by decide) ?_
  refine q_copy0 (k := 24) ac_X4_67 hW (kk_4_16 hk2) (kk_4_16 hk) rfl (by decide) (by decide) (by decide) rfl rfl (Nat.le_of_ble_eq_true rfl) dX4_copyFrom_140 ?_
  refine r_aload_n dX4_copyFrom_143 rfl ?_
  refine r_aload_n dX4_copyFrom_144 rfl ?_
  refine q_getI fl_X4_64 hW hk2 rfl dX4_copyFrom_145 ?_
  refine q_putI fl_X4_64 hW hk rfl rfl dX4_copyFrom_148 ?_
  refine r_vret dX4_copyFrom_151 rfl ⟨Nat.zero_le _, Nat.zero_le _⟩ ?_
  refine ⟨rfl, ?_, fun k zk => ?_, ?_, hm.2.2.1, fun j hj => ?_⟩
  · repeat (first | exact eqx.rf | refine eqx.cI ?_ (by unfold btw; omega) | refine eqx.sI ?_ (by unfold btw; omega) | refine eqx.sJ ?_ (by unfold btw; omega))
  · have z1 := hm.1 k zk
    obtain rfl | rfl | rfl | rfl | rfl | rfl | rfl | rfl | rfl | rfl | rfl | rfl | rfl | rfl | rfl | rfl : k = 0 ∨ k = 1 ∨ k = 2 ∨ k = 3 ∨ k = 4 ∨ k = 5 ∨ k = 6 ∨ k = 7 ∨ k = 8 ∨ k = 9 ∨ k = 10 ∨ k = 11 ∨ k = 12 ∨ k = 13 ∨ k = 14 ∨ k = 15 := by omega
    all_goals (simp (discharger := omega) only [sI_o, sI_s, sI_k, sJ_o, sJ_s, sJ_k, sIJ, sJI, cI_ne, cI_eq, cIJ]; exact z1)
  · simp (discharger := omega) only [sI_o, sI_s, sI_k, sJ_o, sJ_s, sJ_k, sIJ, sJI, cI_ne, cI_eq, cIJ]
    exact hm.2.1
  · have z1 := hm.2.2.2 j hj
    have z2 := hm.2.2.1
    rw [sI_o (by omega), cI_eq, cpT_in (by omega)]
    simp (discharger := omega) only [sI_o, sI_s, sI_k, sJ_o, sJ_s, sJ_k, sIJ, sJI, cI_ne, cI_eq, cIJ]
    exact z1

set_option maxRecDepth 100000 in
set_option maxHeartbeats 4000000 in
theorem c_X4_numbered {l9 : Launch} {G : GC} {h : AH} {o : Nat} {k : Nat} {s : Nat → Int32} {ld : List Int32} (hW : World h) (hk : kd o 4) (hm : SetR h o s ld) (zk : k ≤ 2 ∨ 6 ≤ k ∧ k ≤ 18) : PM l9 G mX4_numbered NT NT [.ref o, .int (nI k)] h (fun v h' => v = some (.int (s (if k ≤ 2 then k else k - 3))) ∧ h' = h) noX := by
  refine PM.of (by decide +kernel) rfl rfl (Nat.le_of_ble_eq_true rfl) (fun hst _ => ?_)
  have zc : k = 0 ∨ k = 1 ∨ k = 2 ∨ k = 6 ∨ k = 7 ∨ k = 8 ∨ k = 9 ∨ k = 10 ∨ k = 11 ∨ k = 12 ∨ k = 13 ∨ k = 14 ∨ k = 15 ∨ k = 16 ∨ k = 17 ∨ k = 18 := by omega
  rcases zc with rfl | rfl | rfl | rfl | rfl | rfl | rfl | rfl | rfl | rfl | rfl | rfl | rfl | rfl | rfl | rfl
  · refine r_iload_n dX4_numbered_0 rfl ?_
    refine r_tabIn 92 dX4_numbered_1 (by decide) (by decide) rfl (by decide) ?_
    refine r_aload_n dX4_numbered_92 rfl ?_
    refine q_getI fl_X4_15 hW hk rfl dX4_numbered_93 ?_
    refine r_iret dX4_numbered_96 rfl ⟨Nat.zero_le _, Nat.zero_le _⟩ ?_
    exact ⟨some_int (hm.1 0 (by decide)), rfl⟩
  · refine r_iload_n dX4_numbered_0 rfl ?_
    refine r_tabIn 97 dX4_numbered_1 (by decide) (by decide) rfl (by decide) ?_
    refine r_aload_n dX4_numbered_97 rfl ?_
    refine q_getI fl_X4_19 hW hk rfl dX4_numbered_98 ?_
    refine r_iret dX4_numbered_101 rfl ⟨Nat.zero_le _, Nat.zero_le _⟩ ?_
    exact ⟨some_int (hm.1 1 (by decide)), rfl⟩
  · refine r_iload_n dX4_numbered_0 rfl ?_
    refine r_tabIn 102 dX4_numbered_1 (by decide) (by decide) rfl (by decide) ?_
    refine r_aload_n dX4_numbered_102 rfl ?_
    refine q_getI fl_X4_22 hW hk rfl dX4_numbered_103 ?_
    refine r_iret dX4_numbered_106 rfl ⟨Nat.zero_le _, Nat.zero_le _⟩ ?_
    exact ⟨some_int (hm.1 2 (by decide)), rfl⟩
  · refine r_iload_n dX4_numbered_0 rfl ?_
    refine r_tabIn 107 dX4_numbered_1 (by decide) (by decide) rfl (by decide) ?_
    refine r_aload_n dX4_numbered_107 rfl ?_
    refine q_getI fl_X4_25 hW hk rfl dX4_numbered_108 ?_
    refine r_iret dX4_numbered_111 rfl ⟨Nat.zero_le _, Nat.zero_le _⟩ ?_
    exact ⟨some_int (hm.1 3 (by decide)), rfl⟩
  · refine r_iload_n dX4_numbered_0 rfl ?_
    refine r_tabIn 112 dX4_numbered_1 (by decide) (by decide) rfl (by decide) ?_
    refine r_aload_n dX4_numbered_112 rfl ?_
    refine q_getI fl_X4_28 hW hk rfl dX4_numbered_113 ?_
    refine r_iret dX4_numbered_116 rfl ⟨Nat.zero_le _, Nat.zero_le _⟩ ?_
    exact ⟨some_int (hm.1 4 (by decide)), rfl⟩
  · refine r_iload_n dX4_numbered_0 rfl ?_
    refine r_tabIn 117 dX4_numbered_1 (by decide) (by decide) rfl (by decide) ?_
    refine r_aload_n dX4_numbered_117 rfl ?_
    refine q_getI fl_X4_31 hW hk rfl dX4_numbered_118 ?_
    refine r_iret dX4_numbered_121 rfl ⟨Nat.zero_le _, Nat.zero_le _⟩ ?_
    exact ⟨some_int (hm.1 5 (by decide)), rfl⟩
  · refine r_iload_n dX4_numbered_0 rfl ?_
    refine r_tabIn 122 dX4_numbered_1 (by decide) (by decide) rfl (by decide) ?_
    refine r_aload_n dX4_numbered_122 rfl ?_
    refine q_getI fl_X4_34 hW hk rfl dX4_numbered_123 ?_
    refine r_iret dX4_numbered_126 rfl ⟨Nat.zero_le _, Nat.zero_le _⟩ ?_
    exact ⟨some_int (hm.1 6 (by decide)), rfl⟩
  · refine r_iload_n dX4_numbered_0 rfl ?_
    refine r_tabIn 127 dX4_numbered_1 (by decide) (by decide) rfl (by decide) ?_
    refine r_aload_n dX4_numbered_127 rfl ?_
    refine q_getI fl_X4_37 hW hk rfl dX4_numbered_128 ?_
    refine r_iret dX4_numbered_131 rfl ⟨Nat.zero_le _, Nat.zero_le _⟩ ?_
    exact ⟨some_int (hm.1 7 (by decide)), rfl⟩
  · refine r_iload_n dX4_numbered_0 rfl ?_
    refine r_tabIn 132 dX4_numbered_1 (by decide) (by decide) rfl (by decide) ?_
    refine r_aload_n dX4_numbered_132 rfl ?_
    refine q_getI fl_X4_40 hW hk rfl dX4_numbered_133 ?_
    refine r_iret dX4_numbered_136 rfl ⟨Nat.zero_le _, Nat.zero_le _⟩ ?_
    exact ⟨some_int (hm.1 8 (by decide)), rfl⟩
  · refine r_iload_n dX4_numbered_0 rfl ?_
    refine r_tabIn 137 dX4_numbered_1 (by decide) (by decide) rfl (by decide) ?_
    refine r_aload_n dX4_numbered_137 rfl ?_
    refine q_getI fl_X4_43 hW hk rfl dX4_numbered_138 ?_
    refine r_iret dX4_numbered_141 rfl ⟨Nat.zero_le _, Nat.zero_le _⟩ ?_
    exact ⟨some_int (hm.1 9 (by decide)), rfl⟩
  · refine r_iload_n dX4_numbered_0 rfl ?_
    refine r_tabIn 142 dX4_numbered_1 (by decide) (by decide) rfl (by decide) ?_
    refine r_aload_n dX4_numbered_142 rfl ?_
    refine q_getI fl_X4_46 hW hk rfl dX4_numbered_143 ?_
    refine r_iret dX4_numbered_146 rfl ⟨Nat.zero_le _, Nat.zero_le _⟩ ?_
    exact ⟨some_int (hm.1 10 (by decide)), rfl⟩
  · refine r_iload_n dX4_numbered_0 rfl ?_
    refine r_tabIn 147 dX4_numbered_1 (by decide) (by decide) rfl (by decide) ?_
    refine r_aload_n dX4_numbered_147 rfl ?_
    refine q_getI fl_X4_49 hW hk rfl dX4_numbered_148 ?_
    refine r_iret dX4_numbered_151 rfl ⟨Nat.zero_le _, Nat.zero_le _⟩ ?_
    exact ⟨some_int (hm.1 11 (by decide)), rfl⟩
  · refine r_iload_n dX4_numbered_0 rfl ?_
    refine r_tabIn 152 dX4_numbered_1 (by decide) (by decide) rfl (by decide) ?_
    refine r_aload_n dX4_numbered_152 rfl ?_
    refine q_getI fl_X4_52 hW hk rfl dX4_numbered_153 ?_
    refine r_iret dX4_numbered_156 rfl ⟨Nat.zero_le _, Nat.zero_le _⟩ ?_
    exact ⟨some_int (hm.1 12 (by decide)), rfl⟩
  · refine r_iload_n dX4_numbered_0 rfl ?_
    refine r_tabIn 157 dX4_numbered_1 (by decide) (by decide) rfl (by decide) ?_
    refine r_aload_n dX4_numbered_157 rfl ?_
    refine q_getI fl_X4_55 hW hk rfl dX4_numbered_158 ?_
    refine r_iret dX4_numbered_161 rfl ⟨Nat.zero_le _, Nat.zero_le _⟩ ?_
    exact ⟨some_int (hm.1 13 (by decide)), rfl⟩
  · refine r_iload_n dX4_numbered_0 rfl ?_
    refine r_tabIn 162 dX4_numbered_1 (by decide) (by decide) rfl (by decide) ?_
    refine r_aload_n dX4_numbered_162 rfl ?_
    refine q_getI fl_X4_58 hW hk rfl dX4_numbered_163 ?_
    refine r_iret dX4_numbered_166 rfl ⟨Nat.zero_le _, Nat.zero_le _⟩ ?_
    exact ⟨some_int (hm.1 14 (by decide)), rfl⟩
  · refine r_iload_n dX4_numbered_0 rfl ?_
    refine r_tabIn 167 dX4_numbered_1 (by decide) (by decide) rfl (by decide) ?_
    refine r_aload_n dX4_numbered_167 rfl ?_
    refine q_getI fl_X4_61 hW hk rfl dX4_numbered_168 ?_
    refine r_iret dX4_numbered_171 rfl ⟨Nat.zero_le _, Nat.zero_le _⟩ ?_
    exact ⟨some_int (hm.1 15 (by decide)), rfl⟩

set_option maxRecDepth 100000 in
set_option maxHeartbeats 4000000 in
theorem c_X4_tryPolicy {l9 : Launch} {G : GC} {h : AH} {o : Nat} {p : Int32} {s : Nat → Int32} {ld : List Int32} (hW : World h) (hk : kd o 4) (hm : SetR h o s ld) : PM l9 G mX4_tryPolicy NT NT [.ref o, .int p] h (fun v h' => v = none ∧ eqx h h' (btw o o) ∧ SetR h' o (tpS s p) ld) noX := by
  refine PM.of (by decide +kernel) rfl rfl (Nat.le_of_ble_eq_true rfl) (fun hst _ => ?_)
  refine r_iload_n dX4_tryPolicy_0 rfl ?_
  refine r_iconst (2) dX4_tryPolicy_1 (by decide) ?_
  refine r_icmp_eq 13 dX4_tryPolicy_2 (by decide) (fun c_2 => ?_) (fun c_2 => ?_)
  · refine r_aload_n dX4_tryPolicy_13 rfl ?_
    refine q_getI fl_X4_37 hW hk rfl dX4_tryPolicy_14 ?_
    refine r_iconst (2) dX4_tryPolicy_17 (by decide) ?_
    refine r_icmp_eq 27 dX4_tryPolicy_18 (by decide) (fun c_18 => ?_) (fun c_18 => ?_)
    · refine r_aload_n dX4_tryPolicy_27 rfl ?_
      refine r_iload_n dX4_tryPolicy_28 rfl ?_
      refine q_putI fl_X4_37 hW hk rfl rfl dX4_tryPolicy_29 ?_
      refine r_vret dX4_tryPolicy_32 rfl ⟨Nat.zero_le _, Nat.zero_le _⟩ ?_
      have z7 := hm.1 7 (by decide)
      refine ⟨rfl, ?_, fun k zk => ?_, ?_, hm.2.2.1, fun j hj => ?_⟩
      · repeat (first | exact eqx.rf | refine eqx.cI ?_ (by unfold btw; omega) | refine eqx.sI ?_ (by unfold btw; omega) | refine eqx.sJ ?_ (by unfold btw; omega))
      · have z1 := hm.1 k zk
        unfold tpS
        first
          | (have y1 := c_18; rw [z7] at y1; rw [if_pos c_2, if_pos y1])
          | (have y1 := c_18; rw [z7] at y1; rw [if_pos c_2, if_neg y1])
          | rw [if_neg c_2]
        obtain rfl | rfl | rfl | rfl | rfl | rfl | rfl | rfl | rfl | rfl | rfl | rfl | rfl | rfl | rfl | rfl : k = 0 ∨ k = 1 ∨ k = 2 ∨ k = 3 ∨ k = 4 ∨ k = 5 ∨ k = 6 ∨ k = 7 ∨ k = 8 ∨ k = 9 ∨ k = 10 ∨ k = 11 ∨ k = 12 ∨ k = 13 ∨ k = 14 ∨ k = 15 := by omega
        all_goals (simp (discharger := omega) only [sI_o, sI_s, sI_k, sJ_o, sJ_s, sJ_k, sIJ, sJI, cI_ne, cI_eq, cIJ, pk_us, pk_un]; first | done | exact z1)
      · simp (discharger := omega) only [sI_o, sI_s, sI_k, sJ_o, sJ_s, sJ_k, sIJ, sJI, cI_ne, cI_eq, cIJ]
        exact hm.2.1
      · simp (discharger := omega) only [sI_o, sI_s, sI_k, sJ_o, sJ_s, sJ_k, sIJ, sJI, cI_ne, cI_eq, cIJ]
        exact hm.2.2.2 j hj
    · refine r_aload_n dX4_tryPolicy_21 rfl ?_
      refine r_bipush (24) dX4_tryPolicy_22 (by decide) ?_
      refine q_putI fl_X4_40 hW hk rfl rfl dX4_tryPolicy_24 ?_
      refine r_aload_n dX4_tryPolicy_27 rfl ?_
      refine r_iload_n dX4_tryPolicy_28 rfl ?_
      refine q_putI fl_X4_37 hW hk rfl rfl dX4_tryPolicy_29 ?_
      refine r_vret dX4_tryPolicy_32 rfl ⟨Nat.zero_le _, Nat.zero_le _⟩ ?_
      have z7 := hm.1 7 (by decide)
      refine ⟨rfl, ?_, fun k zk => ?_, ?_, hm.2.2.1, fun j hj => ?_⟩
      · repeat (first | exact eqx.rf | refine eqx.cI ?_ (by unfold btw; omega) | refine eqx.sI ?_ (by unfold btw; omega) | refine eqx.sJ ?_ (by unfold btw; omega))
      · have z1 := hm.1 k zk
        unfold tpS
        first
          | (have y1 := c_18; rw [z7] at y1; rw [if_pos c_2, if_pos y1])
          | (have y1 := c_18; rw [z7] at y1; rw [if_pos c_2, if_neg y1])
          | rw [if_neg c_2]
        obtain rfl | rfl | rfl | rfl | rfl | rfl | rfl | rfl | rfl | rfl | rfl | rfl | rfl | rfl | rfl | rfl : k = 0 ∨ k = 1 ∨ k = 2 ∨ k = 3 ∨ k = 4 ∨ k = 5 ∨ k = 6 ∨ k = 7 ∨ k = 8 ∨ k = 9 ∨ k = 10 ∨ k = 11 ∨ k = 12 ∨ k = 13 ∨ k = 14 ∨ k = 15 := by omega
        all_goals (simp (discharger := omega) only [sI_o, sI_s, sI_k, sJ_o, sJ_s, sJ_k, sIJ, sJI, cI_ne, cI_eq, cIJ, pk_us, pk_un]; first | done | exact z1)
      · simp (discharger := omega) only [sI_o, sI_s, sI_k, sJ_o, sJ_s, sJ_k, sIJ, sJI, cI_ne, cI_eq, cIJ]
        exact hm.2.1
      · simp (discharger := omega) only [sI_o, sI_s, sI_k, sJ_o, sJ_s, sJ_k, sIJ, sJI, cI_ne, cI_eq, cIJ]
        exact hm.2.2.2 j hj
  · refine r_aload_n dX4_tryPolicy_5 rfl ?_
    refine r_iconst (0) dX4_tryPolicy_6 (by decide) ?_
    refine q_putI fl_X4_40 hW hk rfl rfl dX4_tryPolicy_7 ?_
    refine r_goto 27 dX4_tryPolicy_10 (by decide) ?_
    refine r_aload_n dX4_tryPolicy_27 rfl ?_
    refine r_iload_n dX4_tryPolicy_28 rfl ?_
    refine q_putI fl_X4_37 hW hk rfl rfl dX4_tryPolicy_29 ?_
    refine r_vret dX4_tryPolicy_32 rfl ⟨Nat.zero_le _, Nat.zero_le _⟩ ?_
    have z7 := hm.1 7 (by decide)
    refine ⟨rfl, ?_, fun k zk => ?_, ?_, hm.2.2.1, fun j hj => ?_⟩
    · repeat (first | exact eqx.rf | refine eqx.cI ?_ (by unfold btw; omega) | refine eqx.sI ?_ (by unfold btw; omega) | refine eqx.sJ ?_ (by unfold btw; omega))
    · have z1 := hm.1 k zk
      unfold tpS
      first
        | (have y1 := c_18; rw [z7] at y1; rw [if_pos c_2, if_pos y1])
        | (have y1 := c_18; rw [z7] at y1; rw [if_pos c_2, if_neg y1])
        | rw [if_neg c_2]
      obtain rfl | rfl | rfl | rfl | rfl | rfl | rfl | rfl | rfl | rfl | rfl | rfl | rfl | rfl | rfl | rfl : k = 0 ∨ k = 1 ∨ k = 2 ∨ k = 3 ∨ k = 4 ∨ k = 5 ∨ k = 6 ∨ k = 7 ∨ k = 8 ∨ k = 9 ∨ k = 10 ∨ k = 11 ∨ k = 12 ∨ k = 13 ∨ k = 14 ∨ k = 15 := by omega
      all_goals (simp (discharger := omega) only [sI_o, sI_s, sI_k, sJ_o, sJ_s, sJ_k, sIJ, sJI, cI_ne, cI_eq, cIJ, pk_us, pk_un]; first | done | exact z1)
    · simp (discharger := omega) only [sI_o, sI_s, sI_k, sJ_o, sJ_s, sJ_k, sIJ, sJI, cI_ne, cI_eq, cIJ]
      exact hm.2.1
    · simp (discharger := omega) only [sI_o, sI_s, sI_k, sJ_o, sJ_s, sJ_k, sIJ, sJI, cI_ne, cI_eq, cIJ]
      exact hm.2.2.2 j hj

set_option maxRecDepth 100000 in
set_option maxHeartbeats 4000000 in
theorem c_X4_loadAt {l9 : Launch} {G : GC} {h : AH} {o : Nat} {t : Nat} {s : Nat → Int32} {ld : List Int32} (hW : World h) (hk : kd o 4) (hm : SetR h o s ld) (ht : t < 2 ^ 31) : PM l9 G mX4_loadAt NT NT [.ref o, .int (nI t)] h (fun v h' => v = some (.int (ldA ld t)) ∧ h' = h) noX := by
  refine PM.of (by decide +kernel) rfl rfl (Nat.le_of_ble_eq_true rfl) (fun hst _ => ?_)
  have z24 := hm.2.2.1
  have z17 := hm.2.1
  refine r_aload_n dX4_loadAt_0 rfl ?_
  refine q_getI fl_X4_64 hW hk rfl dX4_loadAt_1 ?_
  refine r_if_gt 11 dX4_loadAt_4 (by decide) (fun c_4 => ?_) (fun c_4 => ?_)
  · have zl : 0 < ld.length := by
      rcases Nat.eq_zero_or_pos ld.length with q | q
      · rw [z17, q] at c_4; exact absurd c_4 (by decide)
      · exact q
    have zm := Nat.mod_lt t zl
    refine r_aload_n dX4_loadAt_11 rfl ?_
    refine q_getR fl_X4_9 hW hk rfl (kl_4_16 hW hk) (Nat.succ_ne_zero _) dX4_loadAt_12 ?_
    refine r_iload_n dX4_loadAt_15 rfl ?_
    refine r_aload_n dX4_loadAt_16 rfl ?_
    refine q_getI fl_X4_64 hW hk rfl dX4_loadAt_17 ?_
    rw [z17]
    refine q_callS2 (cs_J9_floorMod_7cf53 ml_X4_73) ⟨rfl, rfl⟩ rfl (Nat.le_of_ble_eq_true rfl) dX4_loadAt_20 (c_floorMod (b := ld.length) (by omega) zl (by omega)) (fun v_20 h_20 q_20 => ?_)
    obtain ⟨rfl, z9⟩ := q_20
    replace z9 := z9.symm
    subst z9
    refine q_iald hW (kk_4_16 hk) (k := t % ld.length) rfl (by omega) (by decide) dX4_loadAt_23 ?_
    refine r_iret dX4_loadAt_24 rfl ⟨Nat.zero_le _, Nat.zero_le _⟩ ?_
    unfold ldA
    first
      | (have zl : ld.length = 0 := by
           rw [z17] at c_4; have := (nI_leI (a := ld.length) (b := 0) (by omega) (by omega)).mp (i_le.mp c_4); omega
         rw [if_pos zl]; exact ⟨rfl, rfl⟩)
      | (rw [if_neg (by omega)]; exact ⟨some_int (hm.2.2.2 _ zm), rfl⟩)
  · refine r_iconst (0) dX4_loadAt_7 (by decide) ?_
    refine r_goto 24 dX4_loadAt_8 (by decide) ?_
    refine r_iret dX4_loadAt_24 rfl ⟨Nat.zero_le _, Nat.zero_le _⟩ ?_
    unfold ldA
    first
      | (have zl : ld.length = 0 := by
           rw [z17] at c_4; have := (nI_leI (a := ld.length) (b := 0) (by omega) (by omega)).mp (i_le.mp c_4); omega
         rw [if_pos zl]; exact ⟨rfl, rfl⟩)
      | (rw [if_neg (by omega)]; exact ⟨some_int (hm.2.2.2 _ zm), rfl⟩)

set_option maxRecDepth 100000 in
set_option maxHeartbeats 4000000 in
theorem c_X4_sizeFor {l9 : Launch} {G : GC} {h : AH} {o : Nat} {fc : Int32} {s : Nat → Int32} {ld : List Int32} (hW : World h) (hk : kd o 4) (hm : SetR h o s ld) : PM l9 G mX4_sizeFor NT NT [.ref o, .int fc] h (fun v h' => v = some (.int (szF s fc)) ∧ h' = h) noX := by
  refine PM.of (by decide +kernel) rfl rfl (Nat.le_of_ble_eq_true rfl) (fun hst _ => ?_)
  refine r_bipush (100) dX4_sizeFor_0 (by decide) ?_
  refine r_iload_n dX4_sizeFor_2 rfl ?_
  refine r_imul dX4_sizeFor_3 ?_
  refine r_aload_n dX4_sizeFor_4 rfl ?_
  refine q_getI fl_X4_25 hW hk rfl dX4_sizeFor_5 ?_
  refine r_aload_n dX4_sizeFor_8 rfl ?_
  refine q_getI fl_X4_22 hW hk rfl dX4_sizeFor_9 ?_
  refine r_imul dX4_sizeFor_12 ?_
  refine q_callSN2 cn_X4_79 ⟨rfl, rfl⟩ rfl (Nat.le_of_ble_eq_true rfl) dX4_sizeFor_13 c_X8_dividedUp (fun v_13 h_13 q_13 => ?_)
  obtain ⟨rfl, z9⟩ := q_13
  replace z9 := z9.symm
  subst z9
  refine r_istore_n (ls2 := [_, some _, _]) dX4_sizeFor_16 (by decide) rfl ?_
  refine r_aload_n dX4_sizeFor_17 rfl ?_
  refine q_getI fl_X4_19 hW hk rfl dX4_sizeFor_18 ?_
  refine r_aload_n dX4_sizeFor_21 rfl ?_
  refine q_getI fl_X4_15 hW hk rfl dX4_sizeFor_22 ?_
  refine r_iload_n dX4_sizeFor_25 rfl ?_
  refine q_max mm_X4_82 rfl (Nat.le_of_ble_eq_true rfl) dX4_sizeFor_26 ?_
  refine q_min mm_X4_84 rfl (Nat.le_of_ble_eq_true rfl) dX4_sizeFor_29 ?_
  refine r_iret dX4_sizeFor_32 rfl ⟨Nat.zero_le _, Nat.zero_le _⟩ ?_
  refine ⟨some_int ?_, rfl⟩
  rw [hm.1 0 (by decide), hm.1 1 (by decide), hm.1 2 (by decide), hm.1 3 (by decide)]
  rfl

def EvW (h : AH) (o : Nat) (w : Nat → Int32) (n : Nat) : Prop := aI h o 4 = nI n ∧ ∀ j, j < 60 → j < n → aI h (o + 1) j = w (4 + 4 * j) ∧ aI h (o + 2) j = w (5 + 4 * j) ∧ aI h (o + 3) j = w (6 + 4 * j) ∧ aI h (o + 4) j = w (7 + 4 * j)
theorem EvW.eqx {h h' : AH} {o n : Nat} {w : Nat → Int32} {S : Nat → Prop} (hm : EvW h o w n) (e : eqx h h' S) (hS : ∀ i, o ≤ i → i ≤ o + 4 → ¬ S i) : EvW h' o w n := by
  unfold EvW
  rw [e.I (hS o (by omega) (by omega)), e.I (hS (o + 1) (by omega) (by omega)), e.I (hS (o + 2) (by omega) (by omega)), e.I (hS (o + 3) (by omega) (by omega)), e.I (hS (o + 4) (by omega) (by omega))]
  exact hm
theorem EvW.cg {h : AH} {o n : Nat} {w w' : Nat → Int32} (hm : EvW h o w n) (hw : ∀ k, k < 240 → w' (4 + k) = w (4 + k)) : EvW h o w' n := by
  refine ⟨hm.1, fun j h1 h2 => ?_⟩
  rw [hw (4 * j) (by omega), show 5 + 4 * j = 4 + (4 * j + 1) from by omega, hw _ (by omega), show 6 + 4 * j = 4 + (4 * j + 2) from by omega, hw _ (by omega), show 7 + 4 * j = 4 + (4 * j + 3) from by omega, hw _ (by omega)]
  have := hm.2 j h1 h2
  rwa [show 5 + 4 * j = 4 + (4 * j + 1) from by omega, show 6 + 4 * j = 4 + (4 * j + 2) from by omega, show 7 + 4 * j = 4 + (4 * j + 3) from by omega] at this
/-- the events' row with one more -/
def evP (w : Nat → Int32) (n : Nat) (a b c d : Int32) : Nat → Int32 := upd (upd (upd (upd w (4 + 4 * (n % 60)) a) (5 + 4 * (n % 60)) b) (6 + 4 * (n % 60)) c) (7 + 4 * (n % 60)) d
set_option maxRecDepth 100000 in
set_option maxHeartbeats 4000000 in
theorem c_X0_add {l9 : Launch} {G : GC} {h : AH} {o : Nat} {a b c d : Int32} {n : Nat} {w : Nat → Int32} (hW : World h) (hk : kd o 0) (hm : EvW h o w n) (hn : n < 2 ^ 31) : PM l9 G mX0_add NT NT [.ref o, .int a, .int b, .int c, .int d] h (fun v h' => v = none ∧ eqx h h' (btw o (o + 4)) ∧ EvW h' o (evP w n a b c d) (n + 1)) noX := by
  refine PM.of (by decide +kernel) rfl rfl (Nat.le_of_ble_eq_true rfl) (fun hst _ => ?_)
  have zm : n % 60 < 60 := Nat.mod_lt _ (by decide)
  have z4 := hm.1
  refine r_aload_n dX0_add_0 rfl ?_
  refine q_getI fl_X0_30 hW hk rfl dX0_add_1 ?_
  refine r_bipush (60) dX0_add_4 (by decide) ?_
  rw [z4]
  refine q_callS2 (cs_J9_floorMod_7cf53 ml_X0_34) ⟨rfl, rfl⟩ rfl (Nat.le_of_ble_eq_true rfl) dX0_add_6 (c_floorMod (b := 60) hn (by decide) (by decide)) (fun v_6 h_6 q_6 => ?_)
  obtain ⟨rfl, z9⟩ := q_6
  replace z9 := z9.symm
  subst z9
  refine r_istore (ls2 := [_, _, _, _, some _, _]) dX0_add_9 (by decide) rfl ?_
  refine r_aload_n dX0_add_11 rfl ?_
  refine q_getR fl_X0_9 hW hk rfl (kl_0_0 hW hk) (Nat.succ_ne_zero _) dX0_add_12 ?_
  refine r_iload dX0_add_15 rfl ?_
  refine r_iload_n dX0_add_17 rfl ?_
  refine q_iast hW (kk_0_0 hk) (k := n % 60) rfl (by omega) (by decide) dX0_add_18 ?_
  refine r_aload_n dX0_add_19 rfl ?_
  refine q_getR fl_X0_15 hW hk rfl (kl_0_1 hW hk) (Nat.succ_ne_zero _) dX0_add_20 ?_
  refine r_iload dX0_add_23 rfl ?_
  refine r_iload_n dX0_add_25 rfl ?_
  refine q_iast hW (kk_0_1 hk) (k := n % 60) rfl (by omega) (by decide) dX0_add_26 ?_
  refine r_aload_n dX0_add_27 rfl ?_
  refine q_getR fl_X0_18 hW hk rfl (kl_0_2 hW hk) (Nat.succ_ne_zero _) dX0_add_28 ?_
  refine r_iload dX0_add_31 rfl ?_
  refine r_iload_n dX0_add_33 rfl ?_
  refine q_iast hW (kk_0_2 hk) (k := n % 60) rfl (by omega) (by decide) dX0_add_34 ?_
  refine r_aload_n dX0_add_35 rfl ?_
  refine q_getR fl_X0_21 hW hk rfl (kl_0_3 hW hk) (Nat.succ_ne_zero _) dX0_add_36 ?_
  refine r_iload dX0_add_39 rfl ?_
  refine r_iload dX0_add_41 rfl ?_
  refine q_iast hW (kk_0_3 hk) (k := n % 60) rfl (by omega) (by decide) dX0_add_43 ?_
  refine r_aload_n dX0_add_44 rfl ?_
  refine r_dup dX0_add_45 rfl ?_
  refine q_getI fl_X0_30 hW hk rfl dX0_add_46 ?_
  refine r_iconst (1) dX0_add_49 (by decide) ?_
  refine r_iadd dX0_add_50 ?_
  refine q_putI fl_X0_30 hW hk rfl rfl dX0_add_51 ?_
  refine r_vret dX0_add_54 rfl ⟨Nat.zero_le _, Nat.zero_le _⟩ ?_
  refine ⟨rfl, ?_, ?_, fun j h1 h2 => ?_⟩
  · repeat (first | exact eqx.rf | refine eqx.cI ?_ (by unfold btw; omega) | refine eqx.sI ?_ (by unfold btw; omega) | refine eqx.sJ ?_ (by unfold btw; omega))
  · simp (discharger := omega) only [sI_o, sI_s, sI_k, sJ_o, sJ_s, sJ_k, sIJ, sJI, cI_ne, cI_eq, cIJ, z4, nI_1]
  · unfold evP
    by_cases e : j = n % 60
    · subst e
      refine ⟨?_, ?_, ?_, ?_⟩
      all_goals
        simp (discharger := omega) only [sI_o, sI_s, sI_k, sJ_o, sJ_s, sJ_k, sIJ, sJI, cI_ne, cI_eq, cIJ, sI_s]
        repeat (first | rw [pk_us] | rw [pk_un (by omega)])
    · obtain ⟨y1, y2, y3, y4⟩ := hm.2 j h1 (by omega)
      refine ⟨?_, ?_, ?_, ?_⟩
      all_goals
        simp (discharger := omega) only [sI_o, sI_s, sI_k, sJ_o, sJ_s, sJ_k, sIJ, sJI, cI_ne, cI_eq, cIJ]
        repeat rw [pk_un (by omega)]
        assumption

set_option maxRecDepth 100000 in
set_option maxHeartbeats 4000000 in
theorem c_X0_copyFrom {l9 : Launch} {G : GC} {h : AH} {o : Nat} {o2 n : Nat} {w : Nat → Int32} (hW : World h) (hk : kd o 0) (hk2 : kd o2 0) (hne : o + 4 < o2 ∨ o2 + 4 < o) (hm : EvW h o2 w n) : PM l9 G mX0_copyFrom NT NT [.ref o, .ref o2] h (fun v h' => v = none ∧ eqx h h' (btw o (o + 4)) ∧ EvW h' o w n) noX := by
  refine PM.of (by decide +kernel) rfl rfl (Nat.le_of_ble_eq_true rfl) (fun hst _ => ?_)
  refine r_aload_n dX0_copyFrom_0 rfl ?_
  refine q_getR fl_X0_9 hW hk2 rfl (kl_0_0 hW hk2) (Nat.succ_ne_zero _) dX0_copyFrom_1 ?_
  refine r_iconst (0) dX0_copyFrom_4 (by decide) ?_
  refine r_aload_n dX0_copyFrom_5 rfl ?_
  refine q_getR fl_X0_9 hW hk rfl (kl_0_0 hW hk) (Nat.succ_ne_zero _) dX0_copyFrom_6 ?_
  refine r_iconst (0) dX0_copyFrom_9 (by decide) ?_
  refine r_bipush (60) dX0_copyFrom_10 (by decide) ?_
  refine q_copy0 (k := 60) ac_X0_24 hW (kk_0_0 hk2) (kk_0_0 hk) rfl (by decide) (by decide) (by decide) rfl rfl (Nat.le_of_ble_eq_true rfl) dX0_copyFrom_12 ?_
  refine r_aload_n dX0_copyFrom_15 rfl ?_
  refine q_getR fl_X0_15 hW hk2 rfl (kl_0_1 hW hk2) (Nat.succ_ne_zero _) dX0_copyFrom_16 ?_
  refine r_iconst (0) dX0_copyFrom_19 (by decide) ?_
  refine r_aload_n dX0_copyFrom_20 rfl ?_
  refine q_getR fl_X0_15 hW hk rfl (kl_0_1 hW hk) (Nat.succ_ne_zero _) dX0_copyFrom_21 ?_
  refine r_iconst (0) dX0_copyFrom_24 (by decide) ?_
  refine r_bipush (60) dX0_copyFrom_25 (by decide) ?_
  refine q_copy0 (k := 60) ac_X0_24 hW (kk_0_1 hk2) (kk_0_1 hk) rfl (by decide) (by decide) (by decide) rfl rfl (Nat.le_of_ble_eq_true rfl) dX0_copyFrom_27 ?_
  refine r_aload_n dX0_copyFrom_30 rfl ?_
  refine q_getR fl_X0_18 hW hk2 rfl (kl_0_2 hW hk2) (Nat.succ_ne_zero _) dX0_copyFrom_31 ?_
  refine r_iconst (0) dX0_copyFrom_34 (by decide) ?_
  refine r_aload_n dX0_copyFrom_35 rfl ?_
  refine q_getR fl_X0_18 hW hk rfl (kl_0_2 hW hk) (Nat.succ_ne_zero _) dX0_copyFrom_36 ?_
  refine r_iconst (0) dX0_copyFrom_39 (by decide) ?_
  refine r_bipush (60) dX0_copyFrom_40 (by decide) ?_
  refine q_copy0 (k := 60) ac_X0_24 hW (kk_0_2 hk2) (kk_0_2 hk) rfl (by decide) (by decide) (by decide) rfl rfl (Nat.le_of_ble_eq_true rfl) dX0_copyFrom_42 ?_
  refine r_aload_n dX0_copyFrom_45 rfl ?_
  refine q_getR fl_X0_21 hW hk2 rfl (kl_0_3 hW hk2) (Nat.succ_ne_zero _) dX0_copyFrom_46 ?_
  refine r_iconst (0) dX0_copyFrom_49 (by decide) ?_
  refine r_aload_n dX0_copyFrom_50 rfl ?_
  refine q_getR fl_X0_21 hW hk rfl (kl_0_3 hW hk) (Nat.succ_ne_zero _) dX0_copyFrom_51 ?_
  refine r_iconst (0) dX0_copyFrom_54 (by decide) ?_
  refine r_bipush (60) dX0_copyFrom_55 (by decide) ?_
  refine q_copy0 (k := 60) ac_X0_24 hW (kk_0_3 hk2) (kk_0_3 hk) rfl (by decide) (by decide) (by decide) rfl rfl (Nat.le_of_ble_eq_true rfl) dX0_copyFrom_57 ?_
  refine r_aload_n dX0_copyFrom_60 rfl ?_
  refine r_aload_n dX0_copyFrom_61 rfl ?_
  refine q_getI fl_X0_30 hW hk2 rfl dX0_copyFrom_62 ?_
  refine q_putI fl_X0_30 hW hk rfl rfl dX0_copyFrom_65 ?_
  refine r_vret dX0_copyFrom_68 rfl ⟨Nat.zero_le _, Nat.zero_le _⟩ ?_
  refine ⟨rfl, ?_, ?_, fun j h1 h2 => ?_⟩
  · repeat (first | exact eqx.rf | refine eqx.cI ?_ (by unfold btw; omega) | refine eqx.sI ?_ (by unfold btw; omega) | refine eqx.sJ ?_ (by unfold btw; omega))
  · simp (discharger := omega) only [sI_o, sI_s, sI_k, sJ_o, sJ_s, sJ_k, sIJ, sJI, cI_ne, cI_eq, cIJ]
    exact hm.1
  · simp (discharger := omega) only [sI_o, sI_s, sI_k, sJ_o, sJ_s, sJ_k, sIJ, sJI, cI_ne, cI_eq, cIJ, cpT_in h1]
    exact hm.2 j h1 h2

set_option maxRecDepth 100000 in
set_option maxHeartbeats 4000000 in
theorem c_X0_kept {l9 : Launch} {G : GC} {h : AH} {o : Nat} {n : Nat} {w : Nat → Int32} (hW : World h) (hk : kd o 0) (hm : EvW h o w n) : PM l9 G mX0_kept NT NT [.ref o] h (fun v h' => v = some (.int (imn 60 (nI n))) ∧ h' = h) noX := by
  refine PM.of (by decide +kernel) rfl rfl (Nat.le_of_ble_eq_true rfl) (fun hst _ => ?_)
  refine r_bipush (60) dX0_kept_0 (by decide) ?_
  refine r_aload_n dX0_kept_2 rfl ?_
  refine q_getI fl_X0_30 hW hk rfl dX0_kept_3 ?_
  refine q_min mm_X0_40 rfl (Nat.le_of_ble_eq_true rfl) dX0_kept_6 ?_
  refine r_iret dX0_kept_9 rfl ⟨Nat.zero_le _, Nat.zero_le _⟩ ?_
  exact ⟨some_int (by rw [hm.1]), rfl⟩

set_option maxRecDepth 100000 in
set_option maxHeartbeats 4000000 in
theorem c_X0_part_0 {l9 : Launch} {G : GC} {h : AH} {o : Nat} {b n : Nat} {w : Nat → Int32} (hW : World h) (hk : kd o 0) (hm : EvW h o w n) (hn : n < 2 ^ 31) (hb : b < n) (hb2 : b < 60) : PM l9 G mX0_part NT NT [.ref o, .int (nI b), .int 0] h (fun v h' => v = some (.int (w (4 + 4 * ((n - 1 - b) % 60)))) ∧ h' = h) noX := by
  refine PM.of (by decide +kernel) rfl rfl (Nat.le_of_ble_eq_true rfl) (fun hst _ => ?_)
  have zm : (n - 1 - b) % 60 < 60 := Nat.mod_lt _ (by decide)
  have z4 := hm.1
  have z5 : nI n - 1 - nI b = nI (n - 1 - b) := by rw [nI_s1 (by omega), pk_sub (by omega)]
  obtain ⟨y1, y2, y3, y4⟩ := hm.2 ((n - 1 - b) % 60) zm (by rcases Nat.lt_or_ge (n - 1 - b) 60 with q | q <;> omega)
  refine r_aload_n dX0_part_0 rfl ?_
  refine q_getI fl_X0_30 hW hk rfl dX0_part_1 ?_
  refine r_iconst (1) dX0_part_4 (by decide) ?_
  refine r_isub dX0_part_5 ?_
  refine r_iload_n dX0_part_6 rfl ?_
  refine r_isub dX0_part_7 ?_
  refine r_bipush (60) dX0_part_8 (by decide) ?_
  rw [z4, z5]
  refine q_callS2 (cs_J9_floorMod_7cf53 ml_X0_34) ⟨rfl, rfl⟩ rfl (Nat.le_of_ble_eq_true rfl) dX0_part_10 (c_floorMod (b := 60) (by omega) (by decide) (by decide)) (fun v_10 h_10 q_10 => ?_)
  obtain ⟨rfl, z9⟩ := q_10
  replace z9 := z9.symm
  subst z9
  refine r_istore_n (ls2 := [_, _, some _, _]) dX0_part_13 (by decide) rfl ?_
  refine r_iload_n dX0_part_14 rfl ?_
  refine r_tabIn 40 dX0_part_15 (by decide) (by decide) rfl (by decide) ?_
  refine r_aload_n dX0_part_40 rfl ?_
  refine q_getR fl_X0_9 hW hk rfl (kl_0_0 hW hk) (Nat.succ_ne_zero _) dX0_part_41 ?_
  refine r_iload_n dX0_part_44 rfl ?_
  refine q_iald hW (kk_0_0 hk) (k := (n - 1 - b) % 60) rfl (by omega) (by decide) dX0_part_45 ?_
  refine r_iret dX0_part_46 rfl ⟨Nat.zero_le _, Nat.zero_le _⟩ ?_
  exact ⟨some_int (by assumption), rfl⟩

set_option maxRecDepth 100000 in
set_option maxHeartbeats 4000000 in
theorem c_X0_part_1 {l9 : Launch} {G : GC} {h : AH} {o : Nat} {b n : Nat} {w : Nat → Int32} (hW : World h) (hk : kd o 0) (hm : EvW h o w n) (hn : n < 2 ^ 31) (hb : b < n) (hb2 : b < 60) : PM l9 G mX0_part NT NT [.ref o, .int (nI b), .int 1] h (fun v h' => v = some (.int (w (5 + 4 * ((n - 1 - b) % 60)))) ∧ h' = h) noX := by
  refine PM.of (by decide +kernel) rfl rfl (Nat.le_of_ble_eq_true rfl) (fun hst _ => ?_)
  have zm : (n - 1 - b) % 60 < 60 := Nat.mod_lt _ (by decide)
  have z4 := hm.1
  have z5 : nI n - 1 - nI b = nI (n - 1 - b) := by rw [nI_s1 (by omega), pk_sub (by omega)]
  obtain ⟨y1, y2, y3, y4⟩ := hm.2 ((n - 1 - b) % 60) zm (by rcases Nat.lt_or_ge (n - 1 - b) 60 with q | q <;> omega)
  refine r_aload_n dX0_part_0 rfl ?_
  refine q_getI fl_X0_30 hW hk rfl dX0_part_1 ?_
  refine r_iconst (1) dX0_part_4 (by decide) ?_
  refine r_isub dX0_part_5 ?_
  refine r_iload_n dX0_part_6 rfl ?_
  refine r_isub dX0_part_7 ?_
  refine r_bipush (60) dX0_part_8 (by decide) ?_
  rw [z4, z5]
  refine q_callS2 (cs_J9_floorMod_7cf53 ml_X0_34) ⟨rfl, rfl⟩ rfl (Nat.le_of_ble_eq_true rfl) dX0_part_10 (c_floorMod (b := 60) (by omega) (by decide) (by decide)) (fun v_10 h_10 q_10 => ?_)
  obtain ⟨rfl, z9⟩ := q_10
  replace z9 := z9.symm
  subst z9
  refine r_istore_n (ls2 := [_, _, some _, _]) dX0_part_13 (by decide) rfl ?_
  refine r_iload_n dX0_part_14 rfl ?_
  refine r_tabIn 47 dX0_part_15 (by decide) (by decide) rfl (by decide) ?_
  refine r_aload_n dX0_part_47 rfl ?_
  refine q_getR fl_X0_15 hW hk rfl (kl_0_1 hW hk) (Nat.succ_ne_zero _) dX0_part_48 ?_
  refine r_iload_n dX0_part_51 rfl ?_
  refine q_iald hW (kk_0_1 hk) (k := (n - 1 - b) % 60) rfl (by omega) (by decide) dX0_part_52 ?_
  refine r_iret dX0_part_53 rfl ⟨Nat.zero_le _, Nat.zero_le _⟩ ?_
  exact ⟨some_int (by assumption), rfl⟩

set_option maxRecDepth 100000 in
set_option maxHeartbeats 4000000 in
theorem c_X0_part_2 {l9 : Launch} {G : GC} {h : AH} {o : Nat} {b n : Nat} {w : Nat → Int32} (hW : World h) (hk : kd o 0) (hm : EvW h o w n) (hn : n < 2 ^ 31) (hb : b < n) (hb2 : b < 60) : PM l9 G mX0_part NT NT [.ref o, .int (nI b), .int 2] h (fun v h' => v = some (.int (w (6 + 4 * ((n - 1 - b) % 60)))) ∧ h' = h) noX := by
  refine PM.of (by decide +kernel) rfl rfl (Nat.le_of_ble_eq_true rfl) (fun hst _ => ?_)
  have zm : (n - 1 - b) % 60 < 60 := Nat.mod_lt _ (by decide)
  have z4 := hm.1
  have z5 : nI n - 1 - nI b = nI (n - 1 - b) := by rw [nI_s1 (by omega), pk_sub (by omega)]
  obtain ⟨y1, y2, y3, y4⟩ := hm.2 ((n - 1 - b) % 60) zm (by rcases Nat.lt_or_ge (n - 1 - b) 60 with q | q <;> omega)
  refine r_aload_n dX0_part_0 rfl ?_
  refine q_getI fl_X0_30 hW hk rfl dX0_part_1 ?_
  refine r_iconst (1) dX0_part_4 (by decide) ?_
  refine r_isub dX0_part_5 ?_
  refine r_iload_n dX0_part_6 rfl ?_
  refine r_isub dX0_part_7 ?_
  refine r_bipush (60) dX0_part_8 (by decide) ?_
  rw [z4, z5]
  refine q_callS2 (cs_J9_floorMod_7cf53 ml_X0_34) ⟨rfl, rfl⟩ rfl (Nat.le_of_ble_eq_true rfl) dX0_part_10 (c_floorMod (b := 60) (by omega) (by decide) (by decide)) (fun v_10 h_10 q_10 => ?_)
  obtain ⟨rfl, z9⟩ := q_10
  replace z9 := z9.symm
  subst z9
  refine r_istore_n (ls2 := [_, _, some _, _]) dX0_part_13 (by decide) rfl ?_
  refine r_iload_n dX0_part_14 rfl ?_
  refine r_tabIn 54 dX0_part_15 (by decide) (by decide) rfl (by decide) ?_
  refine r_aload_n dX0_part_54 rfl ?_
  refine q_getR fl_X0_18 hW hk rfl (kl_0_2 hW hk) (Nat.succ_ne_zero _) dX0_part_55 ?_
  refine r_iload_n dX0_part_58 rfl ?_
  refine q_iald hW (kk_0_2 hk) (k := (n - 1 - b) % 60) rfl (by omega) (by decide) dX0_part_59 ?_
  refine r_iret dX0_part_60 rfl ⟨Nat.zero_le _, Nat.zero_le _⟩ ?_
  exact ⟨some_int (by assumption), rfl⟩

set_option maxRecDepth 100000 in
set_option maxHeartbeats 4000000 in
theorem c_X0_part_3 {l9 : Launch} {G : GC} {h : AH} {o : Nat} {b n : Nat} {w : Nat → Int32} (hW : World h) (hk : kd o 0) (hm : EvW h o w n) (hn : n < 2 ^ 31) (hb : b < n) (hb2 : b < 60) : PM l9 G mX0_part NT NT [.ref o, .int (nI b), .int 3] h (fun v h' => v = some (.int (w (7 + 4 * ((n - 1 - b) % 60)))) ∧ h' = h) noX := by
  refine PM.of (by decide +kernel) rfl rfl (Nat.le_of_ble_eq_true rfl) (fun hst _ => ?_)
  have zm : (n - 1 - b) % 60 < 60 := Nat.mod_lt _ (by decide)
  have z4 := hm.1
  have z5 : nI n - 1 - nI b = nI (n - 1 - b) := by rw [nI_s1 (by omega), pk_sub (by omega)]
  obtain ⟨y1, y2, y3, y4⟩ := hm.2 ((n - 1 - b) % 60) zm (by rcases Nat.lt_or_ge (n - 1 - b) 60 with q | q <;> omega)
  refine r_aload_n dX0_part_0 rfl ?_
  refine q_getI fl_X0_30 hW hk rfl dX0_part_1 ?_
  refine r_iconst (1) dX0_part_4 (by decide) ?_
  refine r_isub dX0_part_5 ?_
  refine r_iload_n dX0_part_6 rfl ?_
  refine r_isub dX0_part_7 ?_
  refine r_bipush (60) dX0_part_8 (by decide) ?_
  rw [z4, z5]
  refine q_callS2 (cs_J9_floorMod_7cf53 ml_X0_34) ⟨rfl, rfl⟩ rfl (Nat.le_of_ble_eq_true rfl) dX0_part_10 (c_floorMod (b := 60) (by omega) (by decide) (by decide)) (fun v_10 h_10 q_10 => ?_)
  obtain ⟨rfl, z9⟩ := q_10
  replace z9 := z9.symm
  subst z9
  refine r_istore_n (ls2 := [_, _, some _, _]) dX0_part_13 (by decide) rfl ?_
  refine r_iload_n dX0_part_14 rfl ?_
  refine r_tabOut 61 dX0_part_15 (by decide) (by decide) ?_
  refine r_aload_n dX0_part_61 rfl ?_
  refine q_getR fl_X0_21 hW hk rfl (kl_0_3 hW hk) (Nat.succ_ne_zero _) dX0_part_62 ?_
  refine r_iload_n dX0_part_65 rfl ?_
  refine q_iald hW (kk_0_3 hk) (k := (n - 1 - b) % 60) rfl (by omega) (by decide) dX0_part_66 ?_
  refine r_iret dX0_part_67 rfl ⟨Nat.zero_le _, Nat.zero_le _⟩ ?_
  exact ⟨some_int (by assumption), rfl⟩
