theorem lds_begF {a b c : Int32} : lds (begF a b c) = [] := rfl
theorem mbs_begF {a b c : Int32} : mbs (begF a b c) = [] := rfl
set_option maxRecDepth 100000 in
set_option maxHeartbeats 4000000 in
theorem c_X3_begin {l9 : Launch} {G : GC} {h : AH} {o : Nat} {a b c : Int32} (hW : World h) (hk : kd o 3) : PM l9 G mX3_begin NT NT [.ref o, .int a, .int b, .int c] h (fun v h' => v = none ∧ eqx h h' (btw o (o + 11)) ∧ PoR h' o 0 0 (begF a b c) (fun _ => 0)) noX := by
  refine PM.of (by decide +kernel) rfl rfl (Nat.le_of_ble_eq_true rfl) (fun hst _ => ?_)
  refine r_aload_n dX3_begin_0 rfl ?_
  refine q_getR fl_X3_12 hW hk rfl (kl_3_0 hW hk) (Nat.succ_ne_zero _) dX3_begin_1 ?_
  refine r_iload_n dX3_begin_4 rfl ?_
  refine r_iload_n dX3_begin_5 rfl ?_
  refine r_iload_n dX3_begin_6 rfl ?_
  refine q_callV3 (cv_X4_begin ml_X3_39) hW (kk_3_0 hk) (by decide) rfl ⟨rfl, rfl⟩ rfl (Nat.le_of_ble_eq_true rfl) dX3_begin_7 (c_X4_begin hW (kk_3_0 hk)) (fun v_7 h_7 q_7 => ?_)
  obtain ⟨rfl, he1, hm1⟩ := q_7
  have hW := he1.W hW
  refine r_aload_n dX3_begin_10 rfl ?_
  refine q_getR fl_X3_21 hW hk rfl (kl_3_1 hW hk) (Nat.succ_ne_zero _) dX3_begin_11 ?_
  refine r_iconst (0) dX3_begin_14 (by decide) ?_
  refine q_putI fl_X3_43 hW (kk_3_1 hk) rfl rfl dX3_begin_15 ?_
  refine r_aload_n dX3_begin_18 rfl ?_
  refine q_getR fl_X3_28 hW hk rfl (kl_3_2 hW hk) (Nat.succ_ne_zero _) dX3_begin_19 ?_
  refine q_callV0 (cv_X7_begin ml_X3_47) hW (kk_3_2 hk) (by decide) rfl ⟨rfl, rfl⟩ rfl (Nat.le_of_ble_eq_true rfl) dX3_begin_22 (c_X7_begin hW (kk_3_2 hk)) (fun v_22 h_22 q_22 => ?_)
  obtain ⟨rfl, he2, hm2⟩ := q_22
  have hW := he2.W hW
  refine r_aload_n dX3_begin_25 rfl ?_
  refine r_iconst (0) dX3_begin_26 (by decide) ?_
  refine q_putI fl_X3_49 hW hk rfl rfl dX3_begin_27 ?_
  refine r_aload_n dX3_begin_30 rfl ?_
  refine q_getR fl_X3_36 hW hk rfl (kl_3_5 hW hk) (Nat.succ_ne_zero _) dX3_begin_31 ?_
  refine r_iconst (-1) dX3_begin_34 (by decide) ?_
  refine q_callS2 (cs_J7_fill_53178 ml_X3_52) ⟨rfl, rfl⟩ rfl (Nat.le_of_ble_eq_true rfl) dX3_begin_35 (c_fill hW (kk_3_5 hk) (by decide)) (fun v_35 h_35 q_35 => ?_)
  obtain ⟨rfl, he3, hm3⟩ := q_35
  have hW := he3.W hW
  refine r_aload_n dX3_begin_38 rfl ?_
  refine r_iconst (0) dX3_begin_39 (by decide) ?_
  refine q_putI fl_X3_58 hW hk rfl rfl dX3_begin_40 ?_
  refine r_aload_n dX3_begin_43 rfl ?_
  refine r_iconst (-1) dX3_begin_44 (by decide) ?_
  refine q_putI fl_X3_61 hW hk rfl rfl dX3_begin_45 ?_
  refine r_aload_n dX3_begin_48 rfl ?_
  refine r_iconst (-1) dX3_begin_49 (by decide) ?_
  refine q_putI fl_X3_64 hW hk rfl rfl dX3_begin_50 ?_
  refine r_aload_n dX3_begin_53 rfl ?_
  refine r_iconst (-1) dX3_begin_54 (by decide) ?_
  refine q_putI fl_X3_67 hW hk rfl rfl dX3_begin_55 ?_
  refine r_aload_n dX3_begin_58 rfl ?_
  refine r_sipush (-1000) dX3_begin_59 (by decide) ?_
  refine q_putI fl_X3_70 hW hk rfl rfl dX3_begin_62 ?_
  refine r_aload_n dX3_begin_65 rfl ?_
  refine r_sipush (-1000) dX3_begin_66 (by decide) ?_
  refine q_putI fl_X3_73 hW hk rfl rfl dX3_begin_69 ?_
  refine r_aload_n dX3_begin_72 rfl ?_
  refine r_iconst (0) dX3_begin_73 (by decide) ?_
  refine q_putZ fl_X3_76 hW hk rfl (by decide) rfl dX3_begin_74 ?_
  refine r_vret dX3_begin_77 rfl ⟨Nat.zero_le _, Nat.zero_le _⟩ ?_
  have e3 : ∀ i, i ≠ o → i ≠ o + 11 → aI h_35 i = aI h_22 i := fun i h1 h2 => by rw [he3.I (by unfold btw; omega), sI_o h1]
  have e2 : ∀ i, i < o + 8 ∨ o + 9 < i → i ≠ o + 3 → aI h_22 i = aI h_7 i := fun i h1 h2 => by rw [he2.I (by unfold btw; omega), sI_o h2]
  have e1 : aI h_22 (o + 3) 4 = 0 := by rw [he2.I (by unfold btw; omega), sI_s]
  have e4 : aI h_35 o = upd (aI h_22 o) 4 0 := by rw [he3.I (by unfold btw; omega), sI_r]
  refine ⟨rfl, ?_, ?_⟩
  · repeat (refine eqx.sI ?_ (by unfold btw; omega))
    refine eqx.tr ?_ (he3.wk (fun i zi => by unfold btw at *; omega))
    refine eqx.sI ?_ (by unfold btw; omega)
    refine eqx.tr ?_ (he2.wk (fun i zi => by unfold btw at *; omega))
    refine eqx.sI ?_ (by unfold btw; omega)
    exact he1.wk (fun i zi => by unfold btw at *; omega)
  · refine ⟨(hm1.sub (fun k hk => (if_pos hk).symm) lds_begF.symm).cg ?_ ?_, ⟨?_, by rw [mbs_begF]; exact Nat.zero_le _, fun k hk => absurd hk (Nat.not_lt_zero _)⟩, hm2.sub ?_ ?_ ?_ (fun k hk => ?_) (fun k h1 h2 => ?_) (fun k hk => ?_), ⟨fun j h1 h2 => absurd h2 (Nat.not_lt_zero _), ?_⟩, fun u h1 h2 => ?_, ?_, ?_, ?_, ?_, ?_, ?_, ?_⟩
    · repeat rw [sI_o (by omega)]
      rw [e3 _ (by omega) (by omega), e2 _ (by omega) (by omega)]
    · repeat rw [sI_o (by omega)]
      rw [e3 _ (by omega) (by omega), e2 _ (by omega) (by omega)]
    · repeat rw [sI_o (by omega)]
      rw [e3 _ (by omega) (by omega), e1]; rfl
    · repeat rw [sI_o (by omega)]
      rw [e3 _ (by omega) (by omega)]
    · exact he3.J (by unfold btw; omega)
    · repeat rw [sI_o (by omega)]
      rw [e3 _ (by omega) (by omega)]
    · obtain rfl | rfl | rfl | rfl | rfl : k = 0 ∨ k = 1 ∨ k = 2 ∨ k = 3 ∨ k = 4 := by omega
      all_goals rfl
    · obtain rfl | rfl | rfl | rfl : k = 5 ∨ k = 6 ∨ k = 7 ∨ k = 8 := by omega
      all_goals rfl
    · obtain rfl | rfl | rfl | rfl | rfl | rfl : k = 0 ∨ k = 1 ∨ k = 2 ∨ k = 3 ∨ k = 4 ∨ k = 5 := by omega
      all_goals rfl
    · repeat rw [sI_k (by decide)]
      rw [e4, pk_us]; rfl
    · have e6 : nn (begF a b c 6) = 2 := rfl
      rw [e6] at h2 ⊢
      repeat rw [sI_o (by omega)]
      rw [hm3, if_pos (Nat.mod_lt _ (by decide)), if_pos (by omega)]
    all_goals
      repeat (first | rw [sI_s] | rw [sI_k (by decide)])
      first
        | rfl
        | (rw [e4, pk_us]; rfl)

set_option maxRecDepth 100000 in
set_option maxHeartbeats 4000000 in
theorem c_X3_copyFrom {l9 : Launch} {G : GC} {h : AH} {o : Nat} {o2 : Nat} {c t : Nat} {f : Nat → Int32} {g : Nat → Int64} (hW : World h) (hk : kd o 3) (hk2 : kd o2 3) (hne : o + 11 < o2 ∨ o2 + 11 < o) (hp : PoR h o2 c t f g) (h16 : f 16 = 0 ∨ f 16 = 1) : PM l9 G mX3_copyFrom NT NT [.ref o, .ref o2] h (fun v h' => v = none ∧ eqx h h' (btw o (o + 11)) ∧ PoR h' o c t f g) noX := by
  refine PM.of (by decide +kernel) rfl rfl (Nat.le_of_ble_eq_true rfl) (fun hst _ => ?_)
  have hp9 := hp
  obtain ⟨zs, zm, zt, ⟨zd, zc⟩, zf, z20, z18, z19, z17, z21, z22, z16⟩ := hp
  refine r_aload_n dX3_copyFrom_0 rfl ?_
  refine q_getR fl_X3_12 hW hk rfl (kl_3_0 hW hk) (Nat.succ_ne_zero _) dX3_copyFrom_1 ?_
  refine r_aload_n dX3_copyFrom_4 rfl ?_
  refine q_getR fl_X3_12 hW hk2 rfl (kl_3_0 hW hk2) (Nat.succ_ne_zero _) dX3_copyFrom_5 ?_
  refine q_callV1 (cv_X4_copyFrom ml_X3_80) hW (kk_3_0 hk) (by decide) rfl ⟨rfl, rfl⟩ rfl (Nat.le_of_ble_eq_true rfl) dX3_copyFrom_8 (c_X4_copyFrom hW (kk_3_0 hk) (kk_3_0 hk2) (by omega) zs) (fun v_8 h_8 q_8 => ?_)
  obtain ⟨rfl, he1, hm1⟩ := q_8
  have hW := he1.W hW
  have zm1 := zm.eqx he1 (fun i h1 h2 => by unfold btw; omega)
  have zt1 := zt.eqx he1 (by unfold btw; omega) (by unfold btw; omega)
  refine r_aload_n dX3_copyFrom_11 rfl ?_
  refine q_getR fl_X3_21 hW hk rfl (kl_3_1 hW hk) (Nat.succ_ne_zero _) dX3_copyFrom_12 ?_
  refine r_aload_n dX3_copyFrom_15 rfl ?_
  refine q_getR fl_X3_21 hW hk2 rfl (kl_3_1 hW hk2) (Nat.succ_ne_zero _) dX3_copyFrom_16 ?_
  refine q_callV1 (cv_X1_copyFrom ml_X3_84) hW (kk_3_1 hk) (by decide) rfl ⟨rfl, rfl⟩ rfl (Nat.le_of_ble_eq_true rfl) dX3_copyFrom_19 (c_X1_copyFrom hW (kk_3_1 hk) (kk_3_1 hk2) (by omega) zm1) (fun v_19 h_19 q_19 => ?_)
  obtain ⟨rfl, he2, hm2⟩ := q_19
  have hW := he2.W hW
  have zt2 := zt1.eqx he2 (by unfold btw; omega) (by unfold btw; omega)
  have hs2 := hm1.eqx he2 (by unfold btw; omega) (by unfold btw; omega)
  refine r_aload_n dX3_copyFrom_22 rfl ?_
  refine q_getR fl_X3_28 hW hk rfl (kl_3_2 hW hk) (Nat.succ_ne_zero _) dX3_copyFrom_23 ?_
  refine r_aload_n dX3_copyFrom_26 rfl ?_
  refine q_getR fl_X3_28 hW hk2 rfl (kl_3_2 hW hk2) (Nat.succ_ne_zero _) dX3_copyFrom_27 ?_
  refine q_callV1 (cv_X7_copyFrom ml_X3_87) hW (kk_3_2 hk) (by decide) rfl ⟨rfl, rfl⟩ rfl (Nat.le_of_ble_eq_true rfl) dX3_copyFrom_30 (c_X7_copyFrom hW (kk_3_2 hk) (kk_3_2 hk2) (by omega) zt2) (fun v_30 h_30 q_30 => ?_)
  obtain ⟨rfl, he3, hm3⟩ := q_30
  have hW := he3.W hW
  have hs3 := hs2.eqx he3 (by unfold btw; omega) (by unfold btw; omega)
  have hm9 := hm2.eqx he3 (fun i h1 h2 => by unfold btw; omega)
  have e3 : eqx h h_30 (btw (o + 1) (o + 9)) := (he1.wk (fun i zi => by unfold btw at *; omega)).tr ((he2.wk (fun i zi => by unfold btw at *; omega)).tr (he3.wk (fun i zi => by unfold btw at *; omega)))
  refine r_aload_n dX3_copyFrom_33 rfl ?_
  refine q_getR fl_X3_32 hW hk2 rfl (kl_3_3 hW hk2) (Nat.succ_ne_zero _) dX3_copyFrom_34 ?_
  refine r_iconst (0) dX3_copyFrom_37 (by decide) ?_
  refine r_aload_n dX3_copyFrom_38 rfl ?_
  refine q_getR fl_X3_32 hW hk rfl (kl_3_3 hW hk) (Nat.succ_ne_zero _) dX3_copyFrom_39 ?_
  refine r_iconst (0) dX3_copyFrom_42 (by decide) ?_
  refine r_bipush (24) dX3_copyFrom_43 (by decide) ?_
  refine q_copy0 (k := 24) ac_X3_90 hW (kk_3_3 hk2) (kk_3_3 hk) rfl (by decide) (by decide) (by decide) rfl rfl (Nat.le_of_ble_eq_true rfl) dX3_copyFrom_45 ?_
  refine r_aload_n dX3_copyFrom_48 rfl ?_
  refine r_aload_n dX3_copyFrom_49 rfl ?_
  refine q_getI fl_X3_49 hW hk2 rfl dX3_copyFrom_50 ?_
  refine q_putI fl_X3_49 hW hk rfl rfl dX3_copyFrom_53 ?_
  refine r_aload_n dX3_copyFrom_56 rfl ?_
  refine q_getR fl_X3_36 hW hk2 rfl (kl_3_5 hW hk2) (Nat.succ_ne_zero _) dX3_copyFrom_57 ?_
  refine r_iconst (0) dX3_copyFrom_60 (by decide) ?_
  refine r_aload_n dX3_copyFrom_61 rfl ?_
  refine q_getR fl_X3_36 hW hk rfl (kl_3_5 hW hk) (Nat.succ_ne_zero _) dX3_copyFrom_62 ?_
  refine r_iconst (0) dX3_copyFrom_65 (by decide) ?_
  refine r_bipush (8) dX3_copyFrom_66 (by decide) ?_
  refine q_copy0 (k := 8) ac_X3_90 hW (kk_3_5 hk2) (kk_3_5 hk) rfl (by decide) (by decide) (by decide) rfl rfl (Nat.le_of_ble_eq_true rfl) dX3_copyFrom_68 ?_
  refine r_aload_n dX3_copyFrom_71 rfl ?_
  refine r_aload_n dX3_copyFrom_72 rfl ?_
  refine q_getI fl_X3_58 hW hk2 rfl dX3_copyFrom_73 ?_
  refine q_putI fl_X3_58 hW hk rfl rfl dX3_copyFrom_76 ?_
  refine r_aload_n dX3_copyFrom_79 rfl ?_
  refine r_aload_n dX3_copyFrom_80 rfl ?_
  refine q_getI fl_X3_61 hW hk2 rfl dX3_copyFrom_81 ?_
  refine q_putI fl_X3_61 hW hk rfl rfl dX3_copyFrom_84 ?_
  refine r_aload_n dX3_copyFrom_87 rfl ?_
  refine r_aload_n dX3_copyFrom_88 rfl ?_
  refine q_getI fl_X3_64 hW hk2 rfl dX3_copyFrom_89 ?_
  refine q_putI fl_X3_64 hW hk rfl rfl dX3_copyFrom_92 ?_
  refine r_aload_n dX3_copyFrom_95 rfl ?_
  refine r_aload_n dX3_copyFrom_96 rfl ?_
  refine q_getI fl_X3_67 hW hk2 rfl dX3_copyFrom_97 ?_
  refine q_putI fl_X3_67 hW hk rfl rfl dX3_copyFrom_100 ?_
  refine r_aload_n dX3_copyFrom_103 rfl ?_
  refine r_aload_n dX3_copyFrom_104 rfl ?_
  refine q_getI fl_X3_70 hW hk2 rfl dX3_copyFrom_105 ?_
  refine q_putI fl_X3_70 hW hk rfl rfl dX3_copyFrom_108 ?_
  refine r_aload_n dX3_copyFrom_111 rfl ?_
  refine r_aload_n dX3_copyFrom_112 rfl ?_
  refine q_getI fl_X3_73 hW hk2 rfl dX3_copyFrom_113 ?_
  refine q_putI fl_X3_73 hW hk rfl rfl dX3_copyFrom_116 ?_
  refine r_aload_n dX3_copyFrom_119 rfl ?_
  refine r_aload_n dX3_copyFrom_120 rfl ?_
  refine q_getI fl_X3_76 hW hk2 rfl dX3_copyFrom_121 ?_
  refine q_putZ fl_X3_76 hW hk rfl (by simp (discharger := omega) only [sI_o, sI_s, sI_k, sJ_o, sJ_s, sJ_k, sIJ, sJI, cI_ne, cI_eq, cIJ, show aI h_30 o2 = aI h o2 from e3.I (by unfold btw; omega), z16]; exact h16) rfl dX3_copyFrom_124 ?_
  refine r_vret dX3_copyFrom_127 rfl ⟨Nat.zero_le _, Nat.zero_le _⟩ ?_
  refine ⟨rfl, ?_, ?_⟩
  · repeat (first | refine eqx.sI ?_ (by unfold btw; omega) | refine eqx.cI ?_ (by unfold btw; omega))
    exact e3.wk (fun i zi => by unfold btw at *; omega)
  · have eo2 : aI h_30 o2 = aI h o2 := e3.I (by unfold btw; omega)
    have eoA : aI h_30 (o2 + 10) = aI h (o2 + 10) := e3.I (by unfold btw; omega)
    have eoB : aI h_30 (o2 + 11) = aI h (o2 + 11) := e3.I (by unfold btw; omega)
    refine ⟨hs3.cg ?_ ?_, hm9.cg ?_ ?_ ?_ ?_ ?_, hm3.sub ?_ rfl ?_ (fun _ _ => rfl) (fun _ _ _ => rfl) (fun _ _ => rfl), ⟨fun j h1 h2 => ?_, ?_⟩, fun u h1 h2 => ?_, ?_, ?_, ?_, ?_, ?_, ?_, ?_⟩
    · simp (discharger := omega) only [sI_o, sI_s, sI_k, sJ_o, sJ_s, sJ_k, sIJ, sJI, cI_ne, cI_eq, cIJ]
    · simp (discharger := omega) only [sI_o, sI_s, sI_k, sJ_o, sJ_s, sJ_k, sIJ, sJI, cI_ne, cI_eq, cIJ]
    · simp (discharger := omega) only [sI_o, sI_s, sI_k, sJ_o, sJ_s, sJ_k, sIJ, sJI, cI_ne, cI_eq, cIJ]
    · simp (discharger := omega) only [sI_o, sI_s, sI_k, sJ_o, sJ_s, sJ_k, sIJ, sJI, cI_ne, cI_eq, cIJ]
    · simp (discharger := omega) only [sI_o, sI_s, sI_k, sJ_o, sJ_s, sJ_k, sIJ, sJI, cI_ne, cI_eq, cIJ]
    · simp (discharger := omega) only [sI_o, sI_s, sI_k, sJ_o, sJ_s, sJ_k, sIJ, sJI, cI_ne, cI_eq, cIJ]
    · simp (discharger := omega) only [sI_o, sI_s, sI_k, sJ_o, sJ_s, sJ_k, sIJ, sJI, cI_ne, cI_eq, cIJ]
    · simp (discharger := omega) only [sI_o, sI_s, sI_k, sJ_o, sJ_s, sJ_k, sIJ, sJI, cI_ne, cI_eq, cIJ]
    · simp (discharger := omega) only [sI_o, sI_s, sI_k, sJ_o, sJ_s, sJ_k, sIJ, sJI, cI_ne, cI_eq, cIJ]
    · simp (discharger := omega) only [sI_o, sI_s, sI_k, sJ_o, sJ_s, sJ_k, sIJ, sJI, cI_ne, cI_eq, cIJ, cpT_in h1, eoA]
      exact zd j h1 h2
    · simp (discharger := omega) only [sI_o, sI_s, sI_k, sJ_o, sJ_s, sJ_k, sIJ, sJI, cI_ne, cI_eq, cIJ, eo2]
      exact zc
    · simp (discharger := omega) only [sI_o, sI_s, sI_k, sJ_o, sJ_s, sJ_k, sIJ, sJI, cI_ne, cI_eq, cIJ, cpT_in (Nat.mod_lt u (show 0 < 8 by decide)), eoB]
      exact zf u h1 h2
    all_goals
      simp (discharger := omega) only [sI_o, sI_s, sI_k, sJ_o, sJ_s, sJ_k, sIJ, sJI, cI_ne, cI_eq, cIJ, eo2]
      assumption

/-- the part of its power that a pool uses, in percent -/
def mzF (f : Nat → Int32) (c : Nat) (x : Int32) : Int32 := if c = 0 then 0 else if pwF f x = 0 then 999 else imn 999 (100 * ws f c (wn f c) / (nI (wn f c) * pwF f x))
def sdF (f : Nat → Int32) (c a : Nat) : Nat → Int32
  | 0 => 0
  | n + 1 => sdF f c a n + iab (bk f c n - bk f c (n + a))
def cdB (f : Nat → Int32) (c : Nat) (lo hi : Int32) : Nat → Bool := fun k => decide (lo ≤ bk f c k) && decide (bk f c k ≤ hi)
def cdN (f : Nat → Int32) (c : Nat) (lo hi : Int32) : Nat := cn (cdB f c lo hi) (min 24 c)
def mdB (f : Nat → Int32) (c : Nat) : Nat → Bool := fun k => decide (cdN f c 0 (bk f c k - 1) ≤ (min 24 c - 1) / 2) && decide ((min 24 c - 1) / 2 < cdN f c 0 (bk f c k))
def mdF (f : Nat → Int32) (c : Nat) : Int32 := match fi (mdB f c) (min 24 c) with
  | some k => bk f c k
  | none => 0
theorem mid_I : ∀ k, k < 25 → (nI k - 1) / 2 = nI ((k - 1) / 2) := by decide +kernel
set_option maxRecDepth 100000 in
set_option maxHeartbeats 4000000 in
theorem c_X3_percentUsed {l9 : Launch} {G : GC} {h : AH} {o : Nat} {c t : Nat} {f : Nat → Int32} {g : Nat → Int64} {x : Int32} (hW : World h) (hk : kd o 3) (hp : PoR h o c t f g) (hO : PoOK f g c t) : PM l9 G mX3_percentUsed NT NT [.ref o, .int x] h (fun v h' => v = some (.int (mzF f c x)) ∧ h' = h) noX := by
  refine PM.of (by decide +kernel) rfl rfl (Nat.le_of_ble_eq_true rfl) (fun hst _ => ?_)
  have hp9 := hp
  obtain ⟨zs, zm, zt, ⟨zd, zc⟩, zf, z20, z18, z19, z17, z21, z22, z16⟩ := hp
  have zd0 : DemR h o c f := ⟨zd, zc⟩
  have zc3 := hO.2.2.2.2.1.2.1
  have z5 : rg (f 5) 1 8 := hO.at 5
  obtain ⟨y8, yc, yw⟩ := wn_le (c := c) z5
  refine r_aload_n dX3_percentUsed_0 rfl ?_
  refine q_getI fl_X3_49 hW hk rfl dX3_percentUsed_1 ?_
  rw [zc]
  refine r_if_ne 9 dX3_percentUsed_4 (by decide) (fun c_4 => ?_) (fun c_4 => ?_)
  · have yc0 : ¬ c = 0 := fun q => c_4 (by rw [q]; rfl)
    have yw0 := yw (by omega)
    obtain ⟨P, P1, P2, P3⟩ := (pwF_rg (x := x) hO).nat
    refine r_aload_n dX3_percentUsed_9 rfl ?_
    refine r_iload_n dX3_percentUsed_10 rfl ?_
    refine q_callV1 (cv_X3_powerAt ml_X3_138) hW hk (by decide) rfl ⟨rfl, rfl⟩ rfl (Nat.le_of_ble_eq_true rfl) dX3_percentUsed_11 (c_X3_powerAt hW hk zs zm) (fun v_11 h_11 q_11 => ?_)
    obtain ⟨rfl, z9⟩ := q_11
    replace z9 := z9.symm
    subst z9
    change PW _ _ _ _ _ _ _ _ (.int (pwF f x) :: _) _ _
    refine r_istore_n (ls2 := [_, some _, _, _]) dX3_percentUsed_14 (by decide) rfl ?_
    refine r_aload_n dX3_percentUsed_15 rfl ?_
    refine q_callV0 (cv_X3_windowLength ml_X3_115) hW hk (by decide) rfl ⟨rfl, rfl⟩ rfl (Nat.le_of_ble_eq_true rfl) dX3_percentUsed_16 (c_X3_windowLength hW hk zs zc (by omega) z5) (fun v_16 h_16 q_16 => ?_)
    obtain ⟨rfl, z9⟩ := q_16
    replace z9 := z9.symm
    subst z9
    refine r_iload_n dX3_percentUsed_19 rfl ?_
    refine r_imul dX3_percentUsed_20 ?_
    refine r_istore_n (ls2 := [_, _, some _, _]) dX3_percentUsed_21 (by decide) rfl ?_
    refine r_iload_n dX3_percentUsed_22 rfl ?_
    refine r_if_gt 30 dX3_percentUsed_23 (by decide) (fun c_23 => ?_) (fun c_23 => ?_)
    · refine r_sipush (999) dX3_percentUsed_30 (by decide) ?_
      refine r_bipush (100) dX3_percentUsed_33 (by decide) ?_
      refine r_aload_n dX3_percentUsed_35 rfl ?_
      refine q_callV0 (cv_X3_windowSum ml_X3_167) hW hk (by decide) rfl ⟨rfl, rfl⟩ rfl (Nat.le_of_ble_eq_true rfl) dX3_percentUsed_36 (c_X3_windowSum hW hk zs zd0 (by omega) z5) (fun v_36 h_36 q_36 => ?_)
      obtain ⟨rfl, z9⟩ := q_36
      replace z9 := z9.symm
      subst z9
      refine r_imul dX3_percentUsed_39 ?_
      refine r_iload_n dX3_percentUsed_40 rfl ?_
      refine r_idiv dX3_percentUsed_41 (fun q => by rw [q] at c_23; exact absurd c_23 (by decide)) ?_
      refine q_min mm_X3_106 rfl (Nat.le_of_ble_eq_true rfl) dX3_percentUsed_42 ?_
      refine r_iret dX3_percentUsed_45 rfl ⟨Nat.zero_le _, Nat.zero_le _⟩ ?_
      refine ⟨some_int ?_, rfl⟩
      unfold mzF
      rw [if_neg yc0, if_neg (fun q => by rw [q, Int32.mul_zero] at c_23; exact absurd c_23 (by decide))]
    · skip
      refine r_sipush (999) dX3_percentUsed_26 (by decide) ?_
      refine r_iret dX3_percentUsed_29 rfl ⟨Nat.zero_le _, Nat.zero_le _⟩ ?_
      refine ⟨some_int ?_, rfl⟩
      have y0 : P = 0 := by
        rcases Nat.eq_zero_or_pos P with q | q
        · exact q
        · have q2 : wn f c * P ≤ 8 * 2000 := Nat.mul_le_mul y8 P2
          have q3 : 0 < wn f c * P := Nat.mul_pos yw0 q
          rw [P3, pk_mul] at c_23
          exact absurd ((nI_ltI (a := 0) (by decide) (by omega)).mpr q3) c_23
      unfold mzF
      rw [if_neg yc0, if_pos (by rw [P3, y0]; rfl)]
  · refine r_iconst (0) dX3_percentUsed_7 (by decide) ?_
    refine r_iret dX3_percentUsed_8 rfl ⟨Nat.zero_le _, Nat.zero_le _⟩ ?_
    refine ⟨some_int ?_, rfl⟩
    unfold mzF
    rw [if_pos ((nI_eq (b := 0) (by omega) (by decide)).mp c_4)]

set_option maxRecDepth 100000 in
set_option maxHeartbeats 4000000 in
theorem c_X3_sumOfDifferences {l9 : Launch} {G : GC} {h : AH} {o : Nat} {c : Nat} {f : Nat → Int32} {a : Nat} (hW : World h) (hk : kd o 3) (zd : DemR h o c f) (hc : c < 2 ^ 30) (ha : a < 2 ^ 30) : PM l9 G mX3_sumOfDifferences NT NT [.ref o, .int (nI a)] h (fun v h' => v = some (.int (sdF f c a (min 24 c - a))) ∧ h' = h) noX := by
  refine PM.of (by decide +kernel) rfl rfl (Nat.le_of_ble_eq_true rfl) (fun hst _ => ?_)
  have zc := zd.2
  refine r_iconst (0) dX3_sumOfDifferences_0 (by decide) ?_
  refine r_istore_n (ls2 := [_, some _, _, _]) dX3_sumOfDifferences_1 (by decide) rfl ?_
  refine r_iconst (0) dX3_sumOfDifferences_2 (by decide) ?_
  refine r_istore_n (ls2 := [_, _, some _, _]) dX3_sumOfDifferences_3 (by decide) rfl ?_
  refine loopN (P := fun i => i ≤ min 24 c - a → PW l9 G mX3_sumOfDifferences _ _ NT 4 [some (.ref o), some (.int (nI a)), some (.int (sdF f c a i)), some (.int (nI i))] [] (0, 0) h) (min 24 c - a) (fun i ih hi => ?_) 0 (Nat.zero_le _)
  refine r_iload_n dX3_sumOfDifferences_4 rfl ?_
  refine r_iload_n dX3_sumOfDifferences_5 rfl ?_
  refine r_iadd dX3_sumOfDifferences_6 ?_
  rw [nI_add]
  refine r_aload_n dX3_sumOfDifferences_7 rfl ?_
  refine q_callV0 (cv_X3_keptDemands ml_X3_203) hW hk (by decide) rfl ⟨rfl, rfl⟩ rfl (Nat.le_of_ble_eq_true rfl) dX3_sumOfDifferences_8 (c_X3_keptDemands hW hk zc (by omega)) (fun v_8 h_8 q_8 => ?_)
  obtain ⟨rfl, z9⟩ := q_8
  replace z9 := z9.symm
  subst z9
  refine r_icmp_ge 39 dX3_sumOfDifferences_11 (by decide) (fun c_11 => ?_) (fun c_11 => ?_)
  · have hge : min 24 c - a = i := by have := (nI_leI (by omega) (by omega)).mp c_11; omega
    refine r_iload_n dX3_sumOfDifferences_39 rfl ?_
    refine r_iret dX3_sumOfDifferences_40 rfl ⟨Nat.zero_le _, Nat.zero_le _⟩ ?_
    rw [hge]; exact ⟨rfl, rfl⟩
  · have hlt : i + a < min 24 c := (nI_ltI (by omega) (by omega)).mp (i_lt.mp c_11)
    refine r_iload_n dX3_sumOfDifferences_14 rfl ?_
    refine r_aload_n dX3_sumOfDifferences_15 rfl ?_
    refine r_iload_n dX3_sumOfDifferences_16 rfl ?_
    refine q_callV1 (cv_X3_demandBack ml_X3_119) hW hk (by decide) rfl ⟨rfl, rfl⟩ rfl (Nat.le_of_ble_eq_true rfl) dX3_sumOfDifferences_17 (c_X3_demandBack hW hk ‹_› (by omega) (by omega)) (fun v_17 h_17 q_17 => ?_)
    obtain ⟨rfl, z9⟩ := q_17
    replace z9 := z9.symm
    subst z9
    rw [bkz_in (by omega) (by omega)]
    refine r_aload_n dX3_sumOfDifferences_20 rfl ?_
    refine r_iload_n dX3_sumOfDifferences_21 rfl ?_
    refine r_iload_n dX3_sumOfDifferences_22 rfl ?_
    refine r_iadd dX3_sumOfDifferences_23 ?_
    rw [nI_add]
    refine q_callV1 (cv_X3_demandBack ml_X3_119) hW hk (by decide) rfl ⟨rfl, rfl⟩ rfl (Nat.le_of_ble_eq_true rfl) dX3_sumOfDifferences_24 (c_X3_demandBack hW hk ‹_› (by omega) (by omega)) (fun v_24 h_24 q_24 => ?_)
    obtain ⟨rfl, z9⟩ := q_24
    replace z9 := z9.symm
    subst z9
    rw [bkz_in (by omega) (by omega)]
    refine r_isub dX3_sumOfDifferences_27 ?_
    refine q_abs mm_X3_151 rfl (Nat.le_of_ble_eq_true rfl) dX3_sumOfDifferences_28 ?_
    refine r_iadd dX3_sumOfDifferences_31 ?_
    refine r_istore_n (ls2 := [_, some _, _, _]) dX3_sumOfDifferences_32 (by decide) rfl ?_
    refine r_iinc (1) (by decide) (ls2 := [_, _, some _, _]) dX3_sumOfDifferences_33 rfl (by decide) rfl ?_
    refine r_goto 4 dX3_sumOfDifferences_36 (by decide) ?_
    rw [nI_1]
    exact ih (by omega) (by omega)

set_option maxRecDepth 100000 in
set_option maxHeartbeats 4000000 in
theorem c_X3_countDemands {l9 : Launch} {G : GC} {h : AH} {o : Nat} {c : Nat} {f : Nat → Int32} {x y : Int32} (hW : World h) (hk : kd o 3) (zd : DemR h o c f) (hc : c < 2 ^ 30) : PM l9 G mX3_countDemands NT NT [.ref o, .int x, .int y] h (fun v h' => v = some (.int (nI (cdN f c x y))) ∧ h' = h) noX := by
  refine PM.of (by decide +kernel) rfl rfl (Nat.le_of_ble_eq_true rfl) (fun hst _ => ?_)
  have zc := zd.2
  refine r_iconst (0) dX3_countDemands_0 (by decide) ?_
  refine r_istore_n (ls2 := [_, _, some _, _, _, _]) dX3_countDemands_1 (by decide) rfl ?_
  refine r_iconst (0) dX3_countDemands_2 (by decide) ?_
  refine r_istore (ls2 := [_, _, _, some _, _, _]) dX3_countDemands_3 (by decide) rfl ?_
  refine loopN (P := fun i => i ≤ min 24 c → ∀ w : Option Value, PW l9 G mX3_countDemands _ _ NT 5 [some (.ref o), some (.int x), some (.int y), some (.int (nI (cn (cdB f c x y) i))), some (.int (nI i)), w] [] (0, 0) h) (min 24 c) (fun i ih hi w => ?_) 0 (Nat.zero_le _) none
  refine r_iload dX3_countDemands_5 rfl ?_
  refine r_aload_n dX3_countDemands_7 rfl ?_
  refine q_callV0 (cv_X3_keptDemands ml_X3_203) hW hk (by decide) rfl ⟨rfl, rfl⟩ rfl (Nat.le_of_ble_eq_true rfl) dX3_countDemands_8 (c_X3_keptDemands hW hk zc (by omega)) (fun v_8 h_8 q_8 => ?_)
  obtain ⟨rfl, z9⟩ := q_8
  replace z9 := z9.symm
  subst z9
  refine r_icmp_ge 43 dX3_countDemands_11 (by decide) (fun c_11 => ?_) (fun c_11 => ?_)
  · have hge : min 24 c = i := by have := (nI_leI (by omega) (by omega)).mp c_11; omega
    refine r_iload_n dX3_countDemands_43 rfl ?_
    refine r_iret dX3_countDemands_44 rfl ⟨Nat.zero_le _, Nat.zero_le _⟩ ?_
    unfold cdN; rw [hge]; exact ⟨rfl, rfl⟩
  · have hlt : i < min 24 c := (nI_ltI (by omega) (by omega)).mp (i_lt.mp c_11)
    refine r_aload_n dX3_countDemands_14 rfl ?_
    refine r_iload dX3_countDemands_15 rfl ?_
    refine q_callV1 (cv_X3_demandBack ml_X3_119) hW hk (by decide) rfl ⟨rfl, rfl⟩ rfl (Nat.le_of_ble_eq_true rfl) dX3_countDemands_17 (c_X3_demandBack hW hk ‹_› (by omega) (by omega)) (fun v_17 h_17 q_17 => ?_)
    obtain ⟨rfl, z9⟩ := q_17
    replace z9 := z9.symm
    subst z9
    rw [bkz_in (by omega) (by omega)]
    refine r_istore (ls2 := [_, _, _, _, some _, _]) dX3_countDemands_20 (by decide) rfl ?_
    refine r_iload_n dX3_countDemands_22 rfl ?_
    refine r_iload dX3_countDemands_23 rfl ?_
    refine r_icmp_gt 37 dX3_countDemands_25 (by decide) (fun c_25 => ?_) (fun c_25 => ?_)
    · refine r_iinc (1) (by decide) (ls2 := [_, _, _, some _, _, _]) dX3_countDemands_37 rfl (by decide) rfl ?_
      refine r_goto 5 dX3_countDemands_40 (by decide) ?_
      simp only [nI_1]
      have hth := ih hlt hlt (some (.int (bk f c i)))
      first
        | (rw [cn_f (by unfold cdB; rw [decide_eq_false (Int32.not_le.mpr c_25)]; rfl)] at hth; exact hth)
        | (rw [cn_f (by unfold cdB; rw [decide_eq_false (Int32.not_le.mpr c_31)]; exact Bool.and_false _)] at hth; exact hth)
        | (rw [cn_t (by unfold cdB; rw [decide_eq_true (i_le.mp c_25), decide_eq_true (i_le.mp c_31)]; rfl)] at hth; exact hth)
    · refine r_iload dX3_countDemands_28 rfl ?_
      refine r_iload_n dX3_countDemands_30 rfl ?_
      refine r_icmp_gt 37 dX3_countDemands_31 (by decide) (fun c_31 => ?_) (fun c_31 => ?_)
      · refine r_iinc (1) (by decide) (ls2 := [_, _, _, some _, _, _]) dX3_countDemands_37 rfl (by decide) rfl ?_
        refine r_goto 5 dX3_countDemands_40 (by decide) ?_
        simp only [nI_1]
        have hth := ih hlt hlt (some (.int (bk f c i)))
        first
          | (rw [cn_f (by unfold cdB; rw [decide_eq_false (Int32.not_le.mpr c_25)]; rfl)] at hth; exact hth)
          | (rw [cn_f (by unfold cdB; rw [decide_eq_false (Int32.not_le.mpr c_31)]; exact Bool.and_false _)] at hth; exact hth)
          | (rw [cn_t (by unfold cdB; rw [decide_eq_true (i_le.mp c_25), decide_eq_true (i_le.mp c_31)]; rfl)] at hth; exact hth)
      · refine r_iinc (1) (by decide) (ls2 := [_, _, some _, _, _, _]) dX3_countDemands_34 rfl (by decide) rfl ?_
        refine r_iinc (1) (by decide) (ls2 := [_, _, _, some _, _, _]) dX3_countDemands_37 rfl (by decide) rfl ?_
        refine r_goto 5 dX3_countDemands_40 (by decide) ?_
        simp only [nI_1]
        have hth := ih hlt hlt (some (.int (bk f c i)))
        first
          | (rw [cn_f (by unfold cdB; rw [decide_eq_false (Int32.not_le.mpr c_25)]; rfl)] at hth; exact hth)
          | (rw [cn_f (by unfold cdB; rw [decide_eq_false (Int32.not_le.mpr c_31)]; exact Bool.and_false _)] at hth; exact hth)
          | (rw [cn_t (by unfold cdB; rw [decide_eq_true (i_le.mp c_25), decide_eq_true (i_le.mp c_31)]; rfl)] at hth; exact hth)

set_option maxRecDepth 100000 in
set_option maxHeartbeats 4000000 in
theorem c_X3_middleDemand {l9 : Launch} {G : GC} {h : AH} {o : Nat} {c : Nat} {f : Nat → Int32} (hW : World h) (hk : kd o 3) (zd : DemR h o c f) (hc : c < 2 ^ 30) : PM l9 G mX3_middleDemand NT NT [.ref o] h (fun v h' => v = some (.int (mdF f c)) ∧ h' = h) noX := by
  refine PM.of (by decide +kernel) rfl rfl (Nat.le_of_ble_eq_true rfl) (fun hst _ => ?_)
  have zc := zd.2
  refine r_aload_n dX3_middleDemand_0 rfl ?_
  refine q_callV0 (cv_X3_keptDemands ml_X3_203) hW hk (by decide) rfl ⟨rfl, rfl⟩ rfl (Nat.le_of_ble_eq_true rfl) dX3_middleDemand_1 (c_X3_keptDemands hW hk zc (by omega)) (fun v_1 h_1 q_1 => ?_)
  obtain ⟨rfl, z9⟩ := q_1
  replace z9 := z9.symm
  subst z9
  refine r_iconst (1) dX3_middleDemand_4 (by decide) ?_
  refine r_isub dX3_middleDemand_5 ?_
  refine r_iconst (2) dX3_middleDemand_6 (by decide) ?_
  refine r_idiv dX3_middleDemand_7 (by decide) ?_
  rw [mid_I (min 24 c) (by omega)]
  refine r_istore_n (ls2 := [some _, _, _, _]) dX3_middleDemand_8 (by decide) rfl ?_
  refine r_iconst (0) dX3_middleDemand_9 (by decide) ?_
  refine r_istore_n (ls2 := [_, some _, _, _]) dX3_middleDemand_10 (by decide) rfl ?_
  refine loopN (P := fun i => i ≤ min 24 c → fi (mdB f c) i = none → ∀ w : Option Value, PW l9 G mX3_middleDemand _ _ NT 11 [some (.ref o), some (.int (nI ((min 24 c - 1) / 2))), some (.int (nI i)), w] [] (0, 0) h) (min 24 c) (fun i ih hi hf w => ?_) 0 (Nat.zero_le _) rfl none
  refine r_iload_n dX3_middleDemand_11 rfl ?_
  refine r_aload_n dX3_middleDemand_12 rfl ?_
  refine q_callV0 (cv_X3_keptDemands ml_X3_203) hW hk (by decide) rfl ⟨rfl, rfl⟩ rfl (Nat.le_of_ble_eq_true rfl) dX3_middleDemand_13 (c_X3_keptDemands hW hk zc (by omega)) (fun v_13 h_13 q_13 => ?_)
  obtain ⟨rfl, z9⟩ := q_13
  replace z9 := z9.symm
  subst z9
  refine r_icmp_ge 55 dX3_middleDemand_16 (by decide) (fun c_16 => ?_) (fun c_16 => ?_)
  · have hge : min 24 c = i := by have := (nI_leI (by omega) (by omega)).mp c_16; omega
    refine r_iconst (0) dX3_middleDemand_55 (by decide) ?_
    refine r_iret dX3_middleDemand_56 rfl ⟨Nat.zero_le _, Nat.zero_le _⟩ ?_
    refine ⟨some_int ?_, rfl⟩
    unfold mdF
    rw [hge, hf]
  · have hlt : i < min 24 c := (nI_ltI (by omega) (by omega)).mp (i_lt.mp c_16)
    refine r_aload_n dX3_middleDemand_19 rfl ?_
    refine r_iload_n dX3_middleDemand_20 rfl ?_
    refine q_callV1 (cv_X3_demandBack ml_X3_119) hW hk (by decide) rfl ⟨rfl, rfl⟩ rfl (Nat.le_of_ble_eq_true rfl) dX3_middleDemand_21 (c_X3_demandBack hW hk ‹_› (by omega) (by omega)) (fun v_21 h_21 q_21 => ?_)
    obtain ⟨rfl, z9⟩ := q_21
    replace z9 := z9.symm
    subst z9
    rw [bkz_in (by omega) (by omega)]
    refine r_istore_n (ls2 := [_, _, some _, _]) dX3_middleDemand_24 (by decide) rfl ?_
    refine r_aload_n dX3_middleDemand_25 rfl ?_
    refine r_iconst (0) dX3_middleDemand_26 (by decide) ?_
    refine r_iload_n dX3_middleDemand_27 rfl ?_
    refine r_iconst (1) dX3_middleDemand_28 (by decide) ?_
    refine r_isub dX3_middleDemand_29 ?_
    have hca : cdN f c 0 (bk f c i - 1) ≤ min 24 c := cn_le _ _
    have hcb : cdN f c 0 (bk f c i) ≤ min 24 c := cn_le _ _
    refine q_callV2 (cv_X3_countDemands ml_X3_209) hW hk (by decide) rfl ⟨rfl, rfl⟩ rfl (Nat.le_of_ble_eq_true rfl) dX3_middleDemand_30 (c_X3_countDemands hW hk ‹_› (by omega)) (fun v_30 h_30 q_30 => ?_)
    obtain ⟨rfl, z9⟩ := q_30
    replace z9 := z9.symm
    subst z9
    refine r_iload_n dX3_middleDemand_33 rfl ?_
    refine r_icmp_gt 49 dX3_middleDemand_34 (by decide) (fun c_34 => ?_) (fun c_34 => ?_)
    · refine r_iinc (1) (by decide) (ls2 := [_, some _, _, _]) dX3_middleDemand_49 rfl (by decide) rfl ?_
      refine r_goto 11 dX3_middleDemand_52 (by decide) ?_
      rw [nI_1]
      refine ih hlt hlt (fi_pass hf ?_) _
      unfold mdB
      first
        | (have y2 := (nI_leI (by omega) (by omega)).mp c_44
           rw [decide_eq_false (show ¬ (min 24 c - 1) / 2 < cdN f c 0 (bk f c i) from by omega)]; exact Bool.and_false _)
        | (have y1 := (nI_ltI (by omega) (by omega)).mp c_34
           rw [decide_eq_false (show ¬ cdN f c 0 (bk f c i - 1) ≤ (min 24 c - 1) / 2 from by omega)]; rfl)
    · have y1 := (nI_leI (by omega) (by omega)).mp (i_le.mp c_34)
      refine r_iload_n dX3_middleDemand_37 rfl ?_
      refine r_aload_n dX3_middleDemand_38 rfl ?_
      refine r_iconst (0) dX3_middleDemand_39 (by decide) ?_
      refine r_iload_n dX3_middleDemand_40 rfl ?_
      refine q_callV2 (cv_X3_countDemands ml_X3_209) hW hk (by decide) rfl ⟨rfl, rfl⟩ rfl (Nat.le_of_ble_eq_true rfl) dX3_middleDemand_41 (c_X3_countDemands hW hk ‹_› (by omega)) (fun v_41 h_41 q_41 => ?_)
      obtain ⟨rfl, z9⟩ := q_41
      replace z9 := z9.symm
      subst z9
      refine r_icmp_ge 49 dX3_middleDemand_44 (by decide) (fun c_44 => ?_) (fun c_44 => ?_)
      · refine r_iinc (1) (by decide) (ls2 := [_, some _, _, _]) dX3_middleDemand_49 rfl (by decide) rfl ?_
        refine r_goto 11 dX3_middleDemand_52 (by decide) ?_
        rw [nI_1]
        refine ih hlt hlt (fi_pass hf ?_) _
        unfold mdB
        first
          | (have y2 := (nI_leI (by omega) (by omega)).mp c_44
             rw [decide_eq_false (show ¬ (min 24 c - 1) / 2 < cdN f c 0 (bk f c i) from by omega)]; exact Bool.and_false _)
          | (have y1 := (nI_ltI (by omega) (by omega)).mp c_34
             rw [decide_eq_false (show ¬ cdN f c 0 (bk f c i - 1) ≤ (min 24 c - 1) / 2 from by omega)]; rfl)
      · have y2 := (nI_ltI (by omega) (by omega)).mp (i_lt.mp c_44)
        refine r_iload_n dX3_middleDemand_47 rfl ?_
        refine r_iret dX3_middleDemand_48 rfl ⟨Nat.zero_le _, Nat.zero_le _⟩ ?_
        refine ⟨some_int ?_, rfl⟩
        unfold mdF
        rw [fi_hit hf (by unfold mdB; rw [decide_eq_true y1, decide_eq_true y2]; rfl) hlt]

/-- the mean of the differences of demands so far apart; whether it is less -/
def mnD (f : Nat → Int32) (c a : Nat) : UInt64 := FP.ddiv (FP.i2d (sdF f c a (min 24 c - a))) (FP.i2d (nI (min 24 c - a)))
def lsD (x y : UInt64) : Bool := decide (Op.cmpValue (FP.dcmp x y) .g < 0)
/-- the best period of those below n -/
def bpS (f : Nat → Int32) (c : Nat) : Nat → Option Nat
  | 0 => none
  | n + 1 => if 2 ≤ n ∧ n < min 24 c then (match bpS f c n with
    | none => some n
    | some b => if lsD (mnD f c n) (mnD f c b) then some n else some b) else bpS f c n
theorem bpS_lt {f : Nat → Int32} {c : Nat} : ∀ {n k : Nat}, bpS f c n = some k → k < n ∧ k < 24
  | 0, k, h => by cases h
  | n + 1, k, h => by
    have h' : (if 2 ≤ n ∧ n < min 24 c then (match bpS f c n with | none => some n | some b => if lsD (mnD f c n) (mnD f c b) then some n else some b) else bpS f c n) = some k := h
    split at h'
    · next q =>
      cases hq : bpS f c n with
      | none => rw [hq] at h'; cases h'; omega
      | some b =>
        rw [hq] at h'
        have := bpS_lt hq
        have h'' : (if lsD (mnD f c n) (mnD f c b) then some n else some b) = some k := h'
        split at h'' <;> (cases h''; omega)
    · have := bpS_lt h'; omega
def bpD (f : Nat → Int32) (c n : Nat) : UInt64 := match bpS f c n with | none => 0 | some b => mnD f c b
set_option maxRecDepth 100000 in
set_option maxHeartbeats 4000000 in
theorem c_X3_periodThatRepeatsBest {l9 : Launch} {G : GC} {h : AH} {o : Nat} {c : Nat} {f : Nat → Int32} (hW : World h) (hk : kd o 3) (zd : DemR h o c f) (hc : c < 2 ^ 30) : PM l9 G mX3_periodThatRepeatsBest NT NT [.ref o] h (fun v h' => v = some (.int (oI (bpS f c 25))) ∧ h' = h) noX := by
  refine PM.of (by decide +kernel) rfl rfl (Nat.le_of_ble_eq_true rfl) (fun hst _ => ?_)
  have zc := zd.2
  refine r_iconst (-1) dX3_periodThatRepeatsBest_0 (by decide) ?_
  refine r_istore_n (ls2 := [some _, _, _, _, _, _, _, _]) dX3_periodThatRepeatsBest_1 (by decide) rfl ?_
  refine r_dconst0 dX3_periodThatRepeatsBest_2 ?_
  refine r_dstore_n (ls2 := [_, some _, _, none, _, _, _, _]) dX3_periodThatRepeatsBest_3 (by decide) rfl ?_
  refine r_iconst (2) dX3_periodThatRepeatsBest_4 (by decide) ?_
  refine r_istore (ls2 := [_, _, _, none, _, _, _, _]) dX3_periodThatRepeatsBest_5 (by decide) rfl ?_
  have e0 : bpS f c 2 = none := rfl
  refine loopN (P := fun i => 2 ≤ i → i ≤ 25 → ∀ w w1 w2 : Option Value, PW l9 G mX3_periodThatRepeatsBest _ _ NT 7 [some (.ref o), some (.int (oI (bpS f c i))), some (.double (bpD f c i)), none, some (.int (nI i)), w, w1, w2] [] (0, 0) h) 25 (fun i ih hi2 hi w w1 w2 => ?_) 2 (by decide) (by decide) none none none
  refine r_iload dX3_periodThatRepeatsBest_7 rfl ?_
  refine r_bipush (24) dX3_periodThatRepeatsBest_9 (by decide) ?_
  refine r_icmp_gt 65 dX3_periodThatRepeatsBest_11 (by decide) (fun c_11 => ?_) (fun c_11 => ?_)
  · have hge : i = 25 := by have := (nI_ltI (a := 24) (by omega) (by omega)).mp c_11; omega
    refine r_iload_n dX3_periodThatRepeatsBest_65 rfl ?_
    refine r_iret dX3_periodThatRepeatsBest_66 rfl ⟨Nat.zero_le _, Nat.zero_le _⟩ ?_
    rw [hge]; exact ⟨rfl, rfl⟩
  · have hlt : i < 25 := by have := (nI_leI (b := 24) (by omega) (by omega)).mp (i_le.mp c_11); omega
    refine r_aload_n dX3_periodThatRepeatsBest_14 rfl ?_
    refine q_callV0 (cv_X3_keptDemands ml_X3_203) hW hk (by decide) rfl ⟨rfl, rfl⟩ rfl (Nat.le_of_ble_eq_true rfl) dX3_periodThatRepeatsBest_15 (c_X3_keptDemands hW hk zc (by omega)) (fun v_15 h_15 q_15 => ?_)
    obtain ⟨rfl, z9⟩ := q_15
    replace z9 := z9.symm
    subst z9
    refine r_iload dX3_periodThatRepeatsBest_18 rfl ?_
    refine r_isub dX3_periodThatRepeatsBest_20 ?_
    refine r_istore (ls2 := [_, _, _, _, some _, _, _, _]) dX3_periodThatRepeatsBest_21 (by decide) rfl ?_
    refine r_iload dX3_periodThatRepeatsBest_23 rfl ?_
    refine r_if_le 59 dX3_periodThatRepeatsBest_25 (by decide) (fun c_25 => ?_) (fun c_25 => ?_)
    · refine r_iinc (1) (by decide) (ls2 := [_, _, _, none, _, _, _, _]) dX3_periodThatRepeatsBest_59 rfl (by decide) rfl ?_
      refine r_goto 7 dX3_periodThatRepeatsBest_62 (by decide) ?_
      rw [nI_1]
      have hth := ih hlt (by omega) (by omega)
      have yy : bpS f c (i + 1) = if 2 ≤ i ∧ i < min 24 c then (match bpS f c i with | none => some i | some b => if lsD (mnD f c i) (mnD f c b) then some i else some b) else bpS f c i := rfl
      first
        | (rw [if_pos ⟨hi2, hpos⟩] at yy
           first
             | (rw [hb] at yy
                have yd : bpD f c i = mnD f c b := by unfold bpD; rw [hb]
                rw [yd] at c_50
                have yl : lsD (mnD f c i) (mnD f c b) = true := decide_eq_true (i_lt.mp c_50)
                have yy2 : bpS f c (i + 1) = some i := yy.trans (if_pos yl)
                have yd2 : bpD f c (i + 1) = mnD f c i := by unfold bpD; rw [yy2]
                rw [yy2, yd2] at hth
                exact hth _ _ _)
             | (rw [hb] at yy
                have yd : bpD f c i = mnD f c b := by unfold bpD; rw [hb]
                have c_50' := c_50
                rw [yd] at c_50'
                have yl : ¬ lsD (mnD f c i) (mnD f c b) = true := fun q => absurd (of_decide_eq_true q) (Int32.not_lt.mpr c_50')
                have yy2 : bpS f c (i + 1) = some b := yy.trans (if_neg yl)
                have yd2 : bpD f c (i + 1) = bpD f c i := by unfold bpD; rw [yy2, hb]
                rw [yy2, ← hb, yd2] at hth
                exact hth _ _ _)
             | (have yn : bpS f c i = none := by
                  cases hq : bpS f c i with
                  | none => rfl
                  | some b =>
                    have := bpS_lt hq
                    rw [hq] at c_43
                    exact absurd ((oI_m1 (o := some b) (fun k q => by cases q; omega)).mp c_43) (by simp)
                rw [yn] at yy
                have yd2 : bpD f c (i + 1) = mnD f c i := by unfold bpD; rw [yy]
                rw [yy, yd2] at hth
                exact hth _ _ _))
        | (have yn : ¬ (2 ≤ i ∧ i < min 24 c) := fun q => by
             rw [pk_sub (by omega)] at c_25
             exact absurd (nI_lt (a := 0) (b := min 24 c - i) (by omega) (by omega)) (Int32.not_lt.mpr c_25)
           rw [if_neg yn] at yy
           have yd2 : bpD f c (i + 1) = bpD f c i := by unfold bpD; rw [yy]
           rw [yy, yd2] at hth
           exact hth _ _ _)
    · have hpos : i < min 24 c := by
        rcases Nat.lt_or_ge i (min 24 c) with q | q
        · exact q
        · rcases Nat.eq_or_lt_of_le q with q2 | q2
          · rw [q2, Int32.sub_self] at c_25; exact absurd c_25 (by decide)
          · exact absurd (Int32.lt_trans (pk_sneg (by omega) q2) (i_lt.mp c_25)) Int32.lt_irrefl
      rw [pk_sub (by omega)]
      refine r_aload_n dX3_periodThatRepeatsBest_28 rfl ?_
      refine r_iload dX3_periodThatRepeatsBest_29 rfl ?_
      refine q_callV1 (cv_X3_sumOfDifferences ml_X3_206) hW hk (by decide) rfl ⟨rfl, rfl⟩ rfl (Nat.le_of_ble_eq_true rfl) dX3_periodThatRepeatsBest_31 (c_X3_sumOfDifferences hW hk zd (by omega) (by omega)) (fun v_31 h_31 q_31 => ?_)
      obtain ⟨rfl, z9⟩ := q_31
      replace z9 := z9.symm
      subst z9
      refine r_i2d dX3_periodThatRepeatsBest_34 ?_
      refine r_iload dX3_periodThatRepeatsBest_35 rfl ?_
      refine r_i2d dX3_periodThatRepeatsBest_37 ?_
      refine r_ddiv dX3_periodThatRepeatsBest_38 (n64_dii (nI_ne0 (by omega) (by omega))) ?_
      refine r_dstore (ls2 := [_, _, _, _, _, some _, _, none]) dX3_periodThatRepeatsBest_39 (by decide) rfl ?_
      refine r_iload_n dX3_periodThatRepeatsBest_41 rfl ?_
      refine r_iconst (-1) dX3_periodThatRepeatsBest_42 (by decide) ?_
      refine r_icmp_eq 53 dX3_periodThatRepeatsBest_43 (by decide) (fun c_43 => ?_) (fun c_43 => ?_)
      · skip
        refine r_iload dX3_periodThatRepeatsBest_53 rfl ?_
        refine r_istore_n (ls2 := [some _, _, _, _, _, _, _, _]) dX3_periodThatRepeatsBest_55 (by decide) rfl ?_
        refine r_dload dX3_periodThatRepeatsBest_56 rfl ?_
        refine r_dstore_n (ls2 := [_, some _, _, none, _, _, _, _]) dX3_periodThatRepeatsBest_58 (by decide) rfl ?_
        refine r_iinc (1) (by decide) (ls2 := [_, _, _, none, _, _, _, _]) dX3_periodThatRepeatsBest_59 rfl (by decide) rfl ?_
        refine r_goto 7 dX3_periodThatRepeatsBest_62 (by decide) ?_
        rw [nI_1]
        have hth := ih hlt (by omega) (by omega)
        have yy : bpS f c (i + 1) = if 2 ≤ i ∧ i < min 24 c then (match bpS f c i with | none => some i | some b => if lsD (mnD f c i) (mnD f c b) then some i else some b) else bpS f c i := rfl
        first
          | (rw [if_pos ⟨hi2, hpos⟩] at yy
             first
               | (rw [hb] at yy
                  have yd : bpD f c i = mnD f c b := by unfold bpD; rw [hb]
                  rw [yd] at c_50
                  have yl : lsD (mnD f c i) (mnD f c b) = true := decide_eq_true (i_lt.mp c_50)
                  have yy2 : bpS f c (i + 1) = some i := yy.trans (if_pos yl)
                  have yd2 : bpD f c (i + 1) = mnD f c i := by unfold bpD; rw [yy2]
                  rw [yy2, yd2] at hth
                  exact hth _ _ _)
               | (rw [hb] at yy
                  have yd : bpD f c i = mnD f c b := by unfold bpD; rw [hb]
                  have c_50' := c_50
                  rw [yd] at c_50'
                  have yl : ¬ lsD (mnD f c i) (mnD f c b) = true := fun q => absurd (of_decide_eq_true q) (Int32.not_lt.mpr c_50')
                  have yy2 : bpS f c (i + 1) = some b := yy.trans (if_neg yl)
                  have yd2 : bpD f c (i + 1) = bpD f c i := by unfold bpD; rw [yy2, hb]
                  rw [yy2, ← hb, yd2] at hth
                  exact hth _ _ _)
               | (have yn : bpS f c i = none := by
                    cases hq : bpS f c i with
                    | none => rfl
                    | some b =>
                      have := bpS_lt hq
                      rw [hq] at c_43
                      exact absurd ((oI_m1 (o := some b) (fun k q => by cases q; omega)).mp c_43) (by simp)
                  rw [yn] at yy
                  have yd2 : bpD f c (i + 1) = mnD f c i := by unfold bpD; rw [yy]
                  rw [yy, yd2] at hth
                  exact hth _ _ _))
          | (have yn : ¬ (2 ≤ i ∧ i < min 24 c) := fun q => by
               rw [pk_sub (by omega)] at c_25
               exact absurd (nI_lt (a := 0) (b := min 24 c - i) (by omega) (by omega)) (Int32.not_lt.mpr c_25)
             rw [if_neg yn] at yy
             have yd2 : bpD f c (i + 1) = bpD f c i := by unfold bpD; rw [yy]
             rw [yy, yd2] at hth
             exact hth _ _ _)
      · obtain ⟨b, hb⟩ : ∃ b, bpS f c i = some b := by
          cases hq : bpS f c i with
          | none => exact absurd (by rw [hq]; rfl) c_43
          | some b => exact ⟨b, rfl⟩
        refine r_dload dX3_periodThatRepeatsBest_46 rfl ?_
        refine r_dload_n dX3_periodThatRepeatsBest_48 rfl ?_
        refine r_dcmp dX3_periodThatRepeatsBest_49 ?_
        refine r_if_ge 59 dX3_periodThatRepeatsBest_50 (by decide) (fun c_50 => ?_) (fun c_50 => ?_)
        · refine r_iinc (1) (by decide) (ls2 := [_, _, _, none, _, _, _, _]) dX3_periodThatRepeatsBest_59 rfl (by decide) rfl ?_
          refine r_goto 7 dX3_periodThatRepeatsBest_62 (by decide) ?_
          rw [nI_1]
          have hth := ih hlt (by omega) (by omega)
          have yy : bpS f c (i + 1) = if 2 ≤ i ∧ i < min 24 c then (match bpS f c i with | none => some i | some b => if lsD (mnD f c i) (mnD f c b) then some i else some b) else bpS f c i := rfl
          first
            | (rw [if_pos ⟨hi2, hpos⟩] at yy
               first
                 | (rw [hb] at yy
                    have yd : bpD f c i = mnD f c b := by unfold bpD; rw [hb]
                    rw [yd] at c_50
                    have yl : lsD (mnD f c i) (mnD f c b) = true := decide_eq_true (i_lt.mp c_50)
                    have yy2 : bpS f c (i + 1) = some i := yy.trans (if_pos yl)
                    have yd2 : bpD f c (i + 1) = mnD f c i := by unfold bpD; rw [yy2]
                    rw [yy2, yd2] at hth
                    exact hth _ _ _)
                 | (rw [hb] at yy
                    have yd : bpD f c i = mnD f c b := by unfold bpD; rw [hb]
                    have c_50' := c_50
                    rw [yd] at c_50'
                    have yl : ¬ lsD (mnD f c i) (mnD f c b) = true := fun q => absurd (of_decide_eq_true q) (Int32.not_lt.mpr c_50')
                    have yy2 : bpS f c (i + 1) = some b := yy.trans (if_neg yl)
                    have yd2 : bpD f c (i + 1) = bpD f c i := by unfold bpD; rw [yy2, hb]
                    rw [yy2, ← hb, yd2] at hth
                    exact hth _ _ _)
                 | (have yn : bpS f c i = none := by
                      cases hq : bpS f c i with
                      | none => rfl
                      | some b =>
                        have := bpS_lt hq
                        rw [hq] at c_43
                        exact absurd ((oI_m1 (o := some b) (fun k q => by cases q; omega)).mp c_43) (by simp)
                    rw [yn] at yy
                    have yd2 : bpD f c (i + 1) = mnD f c i := by unfold bpD; rw [yy]
                    rw [yy, yd2] at hth
                    exact hth _ _ _))
            | (have yn : ¬ (2 ≤ i ∧ i < min 24 c) := fun q => by
                 rw [pk_sub (by omega)] at c_25
                 exact absurd (nI_lt (a := 0) (b := min 24 c - i) (by omega) (by omega)) (Int32.not_lt.mpr c_25)
               rw [if_neg yn] at yy
               have yd2 : bpD f c (i + 1) = bpD f c i := by unfold bpD; rw [yy]
               rw [yy, yd2] at hth
               exact hth _ _ _)
        · skip
          refine r_iload dX3_periodThatRepeatsBest_53 rfl ?_
          refine r_istore_n (ls2 := [some _, _, _, _, _, _, _, _]) dX3_periodThatRepeatsBest_55 (by decide) rfl ?_
          refine r_dload dX3_periodThatRepeatsBest_56 rfl ?_
          refine r_dstore_n (ls2 := [_, some _, _, none, _, _, _, _]) dX3_periodThatRepeatsBest_58 (by decide) rfl ?_
          refine r_iinc (1) (by decide) (ls2 := [_, _, _, none, _, _, _, _]) dX3_periodThatRepeatsBest_59 rfl (by decide) rfl ?_
          refine r_goto 7 dX3_periodThatRepeatsBest_62 (by decide) ?_
          rw [nI_1]
          have hth := ih hlt (by omega) (by omega)
          have yy : bpS f c (i + 1) = if 2 ≤ i ∧ i < min 24 c then (match bpS f c i with | none => some i | some b => if lsD (mnD f c i) (mnD f c b) then some i else some b) else bpS f c i := rfl
          first
            | (rw [if_pos ⟨hi2, hpos⟩] at yy
               first
                 | (rw [hb] at yy
                    have yd : bpD f c i = mnD f c b := by unfold bpD; rw [hb]
                    rw [yd] at c_50
                    have yl : lsD (mnD f c i) (mnD f c b) = true := decide_eq_true (i_lt.mp c_50)
                    have yy2 : bpS f c (i + 1) = some i := yy.trans (if_pos yl)
                    have yd2 : bpD f c (i + 1) = mnD f c i := by unfold bpD; rw [yy2]
                    rw [yy2, yd2] at hth
                    exact hth _ _ _)
                 | (rw [hb] at yy
                    have yd : bpD f c i = mnD f c b := by unfold bpD; rw [hb]
                    have c_50' := c_50
                    rw [yd] at c_50'
                    have yl : ¬ lsD (mnD f c i) (mnD f c b) = true := fun q => absurd (of_decide_eq_true q) (Int32.not_lt.mpr c_50')
                    have yy2 : bpS f c (i + 1) = some b := yy.trans (if_neg yl)
                    have yd2 : bpD f c (i + 1) = bpD f c i := by unfold bpD; rw [yy2, hb]
                    rw [yy2, ← hb, yd2] at hth
                    exact hth _ _ _)
                 | (have yn : bpS f c i = none := by
                      cases hq : bpS f c i with
                      | none => rfl
                      | some b =>
                        have := bpS_lt hq
                        rw [hq] at c_43
                        exact absurd ((oI_m1 (o := some b) (fun k q => by cases q; omega)).mp c_43) (by simp)
                    rw [yn] at yy
                    have yd2 : bpD f c (i + 1) = mnD f c i := by unfold bpD; rw [yy]
                    rw [yy, yd2] at hth
                    exact hth _ _ _))
            | (have yn : ¬ (2 ≤ i ∧ i < min 24 c) := fun q => by
                 rw [pk_sub (by omega)] at c_25
                 exact absurd (nI_lt (a := 0) (b := min 24 c - i) (by omega) (by omega)) (Int32.not_lt.mpr c_25)
               rw [if_neg yn] at yy
               have yd2 : bpD f c (i + 1) = bpD f c i := by unfold bpD; rw [yy]
               rw [yy, yd2] at hth
               exact hth _ _ _)
