-- the reference's reader: a new pool
theorem beg_put {A B C : Int32} : (upd (upd (upd (upd (upd (upd (upd (upd (upd (upd (upd (upd (upd (upd (upd (upd (upd (upd (fun _ => 0) 0 (A)) 1 (B)) 2 (C)) 3 (70)) 4 (2)) 5 (4)) 6 (2)) 10 (1)) 11 (1)) 12 (3)) 13 (5)) 14 (1)) 15 (1)) 17 (-1)) 18 (-1)) 19 (-1)) 21 (-1000)) 22 (-1000)) = begF A B C := by
  funext k
  by_cases h : k < 23
  · have : k = 0 ∨ k = 1 ∨ k = 2 ∨ k = 3 ∨ k = 4 ∨ k = 5 ∨ k = 6 ∨ k = 7 ∨ k = 8 ∨ k = 9 ∨ k = 10 ∨ k = 11 ∨ k = 12 ∨ k = 13 ∨ k = 14 ∨ k = 15 ∨ k = 16 ∨ k = 17 ∨ k = 18 ∨ k = 19 ∨ k = 20 ∨ k = 21 ∨ k = 22 := by omega
    rcases this with rfl | rfl | rfl | rfl | rfl | rfl | rfl | rfl | rfl | rfl | rfl | rfl | rfl | rfl | rfl | rfl | rfl | rfl | rfl | rfl | rfl | rfl | rfl <;> rfl
  · rw [pk_un (by omega), pk_un (by omega), pk_un (by omega), pk_un (by omega), pk_un (by omega), pk_un (by omega), pk_un (by omega), pk_un (by omega), pk_un (by omega), pk_un (by omega), pk_un (by omega), pk_un (by omega), pk_un (by omega), pk_un (by omega), pk_un (by omega), pk_un (by omega), pk_un (by omega), pk_un (by omega)]
    unfold begF
    rw [if_neg (by omega), if_neg (by omega), if_neg (by omega), if_neg (by omega), if_neg (by omega), if_neg (by omega)]
theorem getP_u0 {w : Nat → Int32} {p : Nat} {x : Int32} : getP (upd w 0 x) p = getP w p := getP_cg (fun k hk => pk_un (by omega))
/-- the row while a pool comes, i members there -/
def cmW (w : Nat → Int32) (x i : Nat) : Nat → Int32 := upd (upd w 0 (w 0 + 1)) 2 (nI (x + i))
set_option maxRecDepth 100000 in
set_option maxHeartbeats 1600000 in
theorem c_X9_comesPool {l9 : Launch} {G : GC} {h : AH} {w : Nat → Int32} {A B C : Int32} {m a x2 : Nat} (hW : World h) (hm : MW h (w, ZG)) (h0 : w 0 = nI m) (hm4 : m < 4) (h2 : w 2 = nI x2) (hx2 : x2 ≤ 100) (hz : getP w m = fun _ => 0) (ha : A = nI a) (ha2 : a ≤ 20) (hB : rg B 1 20) (hC : rg C 1 100) (hab : nn A ≤ nn B) : PM l9 G mX9_comesPool NT NT [.ref 723, .int A, .int B, .int C] h (fun v h' => v = none ∧ eqx h h' SM ∧ MW h' (apW w A B C, ZG)) noX := by
  refine PM.of (by decide +kernel) rfl rfl (Nat.le_of_ble_eq_true rfl) (fun hst _ => ?_)
  have he : eqx h h SM := eqx.rf
  have em : nn (w 0) = m := by rw [h0]; exact nn_I (by omega)
  have ea : nn A = a := by rw [ha]; exact nn_I (by omega)
  have ex2 : nn (w 2) = x2 := by rw [h2]; exact nn_I (by omega)
  have hbO := begF_ok (a := A) (b := B) (c := C) (by rw [ha]; exact rg_I (Nat.zero_le _) ha2 (by decide)) hB hC hab
  have hx4 := h0
  refine r_aload_n dX9_comesPool_0 rfl ?_
  refine q_getR fl_X9_7 hW kc_723 rfl (kl_9_0 hW) (by decide) dX9_comesPool_1 ?_
  refine r_iconst (0) dX9_comesPool_4 (by decide) ?_
  refine q_wldMW hW hm kn_0 (by omega) dX9_comesPool_5 ?_
  refine r_istore (ls2 := [_, _, _, some _, _, _]) dX9_comesPool_6 (by decide) rfl ?_
  refine r_aload_n dX9_comesPool_8 rfl ?_
  refine q_getR fl_X9_7 hW kc_723 rfl (kl_9_0 hW) (by decide) dX9_comesPool_9 ?_
  refine r_iconst (0) dX9_comesPool_12 (by decide) ?_
  refine r_dup2 dX9_comesPool_13 rfl rfl ?_
  refine q_wldMW hW hm kn_0 (by omega) dX9_comesPool_14 ?_
  refine r_iconst (1) dX9_comesPool_15 (by decide) ?_
  refine r_iadd dX9_comesPool_16 ?_
  refine q_wstMW hW hm kn_0 (by omega) dX9_comesPool_17 (fun h_17 hW hm e_17 => ?_)
  have he := he.tr e_17
  have hm : PV h_17 (upd w 0 (w 0 + 1)) ZG m (getP w m) (getG ZG m) := by
    have z := MW.pv hm m
    rw [show getP ((upd w 0 (w 0 + 1), ZG) : Row).1 m = getP w m from getP_u0] at z
    exact z
  rw [hz] at hm
  refine r_aload_n dX9_comesPool_18 rfl ?_
  refine r_iload dX9_comesPool_19 rfl ?_
  refine r_iconst (0) dX9_comesPool_21 (by decide) ?_
  refine r_iload_n dX9_comesPool_22 rfl ?_
  refine q_callV3 (cv_X9_put ml_X9_64) hW kc_723 (by decide) rfl ⟨rfl, rfl⟩ rfl (Nat.le_of_ble_eq_true rfl) dX9_comesPool_23 (c_X9_put hW hm hm4 hx4 kn_0 (by decide)) (fun v_23 h_23 q_23 => ?_)
  obtain ⟨rfl, eP, hm⟩ := q_23
  have hW := eP.W hW
  have he := he.tr eP
  refine r_aload_n dX9_comesPool_26 rfl ?_
  refine r_iload dX9_comesPool_27 rfl ?_
  refine r_iconst (1) dX9_comesPool_29 (by decide) ?_
  refine r_iload_n dX9_comesPool_30 rfl ?_
  refine q_callV3 (cv_X9_put ml_X9_64) hW kc_723 (by decide) rfl ⟨rfl, rfl⟩ rfl (Nat.le_of_ble_eq_true rfl) dX9_comesPool_31 (c_X9_put hW hm hm4 hx4 kn_1 (by decide)) (fun v_31 h_31 q_31 => ?_)
  obtain ⟨rfl, eP, hm⟩ := q_31
  have hW := eP.W hW
  have he := he.tr eP
  refine r_aload_n dX9_comesPool_34 rfl ?_
  refine r_iload dX9_comesPool_35 rfl ?_
  refine r_iconst (2) dX9_comesPool_37 (by decide) ?_
  refine r_iload_n dX9_comesPool_38 rfl ?_
  refine q_callV3 (cv_X9_put ml_X9_64) hW kc_723 (by decide) rfl ⟨rfl, rfl⟩ rfl (Nat.le_of_ble_eq_true rfl) dX9_comesPool_39 (c_X9_put hW hm hm4 hx4 kn_2 (by decide)) (fun v_39 h_39 q_39 => ?_)
  obtain ⟨rfl, eP, hm⟩ := q_39
  have hW := eP.W hW
  have he := he.tr eP
  refine r_aload_n dX9_comesPool_42 rfl ?_
  refine r_iload dX9_comesPool_43 rfl ?_
  refine r_iconst (3) dX9_comesPool_45 (by decide) ?_
  refine r_bipush (70) dX9_comesPool_46 (by decide) ?_
  refine q_callV3 (cv_X9_put ml_X9_64) hW kc_723 (by decide) rfl ⟨rfl, rfl⟩ rfl (Nat.le_of_ble_eq_true rfl) dX9_comesPool_48 (c_X9_put hW hm hm4 hx4 kn_3 (by decide)) (fun v_48 h_48 q_48 => ?_)
  obtain ⟨rfl, eP, hm⟩ := q_48
  have hW := eP.W hW
  have he := he.tr eP
  refine r_aload_n dX9_comesPool_51 rfl ?_
  refine r_iload dX9_comesPool_52 rfl ?_
  refine r_iconst (4) dX9_comesPool_54 (by decide) ?_
  refine r_iconst (2) dX9_comesPool_55 (by decide) ?_
  refine q_callV3 (cv_X9_put ml_X9_64) hW kc_723 (by decide) rfl ⟨rfl, rfl⟩ rfl (Nat.le_of_ble_eq_true rfl) dX9_comesPool_56 (c_X9_put hW hm hm4 hx4 kn_4 (by decide)) (fun v_56 h_56 q_56 => ?_)
  obtain ⟨rfl, eP, hm⟩ := q_56
  have hW := eP.W hW
  have he := he.tr eP
  refine r_aload_n dX9_comesPool_59 rfl ?_
  refine r_iload dX9_comesPool_60 rfl ?_
  refine r_iconst (5) dX9_comesPool_62 (by decide) ?_
  refine r_iconst (4) dX9_comesPool_63 (by decide) ?_
  refine q_callV3 (cv_X9_put ml_X9_64) hW kc_723 (by decide) rfl ⟨rfl, rfl⟩ rfl (Nat.le_of_ble_eq_true rfl) dX9_comesPool_64 (c_X9_put hW hm hm4 hx4 kn_5 (by decide)) (fun v_64 h_64 q_64 => ?_)
  obtain ⟨rfl, eP, hm⟩ := q_64
  have hW := eP.W hW
  have he := he.tr eP
  refine r_aload_n dX9_comesPool_67 rfl ?_
  refine r_iload dX9_comesPool_68 rfl ?_
  refine r_bipush (6) dX9_comesPool_70 (by decide) ?_
  refine r_iconst (2) dX9_comesPool_72 (by decide) ?_
  refine q_callV3 (cv_X9_put ml_X9_64) hW kc_723 (by decide) rfl ⟨rfl, rfl⟩ rfl (Nat.le_of_ble_eq_true rfl) dX9_comesPool_73 (c_X9_put hW hm hm4 hx4 kn_6 (by decide)) (fun v_73 h_73 q_73 => ?_)
  obtain ⟨rfl, eP, hm⟩ := q_73
  have hW := eP.W hW
  have he := he.tr eP
  refine r_aload_n dX9_comesPool_76 rfl ?_
  refine r_iload dX9_comesPool_77 rfl ?_
  refine r_bipush (10) dX9_comesPool_79 (by decide) ?_
  refine r_iconst (1) dX9_comesPool_81 (by decide) ?_
  refine q_callV3 (cv_X9_put ml_X9_64) hW kc_723 (by decide) rfl ⟨rfl, rfl⟩ rfl (Nat.le_of_ble_eq_true rfl) dX9_comesPool_82 (c_X9_put hW hm hm4 hx4 kn_10 (by decide)) (fun v_82 h_82 q_82 => ?_)
  obtain ⟨rfl, eP, hm⟩ := q_82
  have hW := eP.W hW
  have he := he.tr eP
  refine r_aload_n dX9_comesPool_85 rfl ?_
  refine r_iload dX9_comesPool_86 rfl ?_
  refine r_bipush (11) dX9_comesPool_88 (by decide) ?_
  refine r_iconst (1) dX9_comesPool_90 (by decide) ?_
  refine q_callV3 (cv_X9_put ml_X9_64) hW kc_723 (by decide) rfl ⟨rfl, rfl⟩ rfl (Nat.le_of_ble_eq_true rfl) dX9_comesPool_91 (c_X9_put hW hm hm4 hx4 kn_11 (by decide)) (fun v_91 h_91 q_91 => ?_)
  obtain ⟨rfl, eP, hm⟩ := q_91
  have hW := eP.W hW
  have he := he.tr eP
  refine r_aload_n dX9_comesPool_94 rfl ?_
  refine r_iload dX9_comesPool_95 rfl ?_
  refine r_bipush (12) dX9_comesPool_97 (by decide) ?_
  refine r_iconst (3) dX9_comesPool_99 (by decide) ?_
  refine q_callV3 (cv_X9_put ml_X9_64) hW kc_723 (by decide) rfl ⟨rfl, rfl⟩ rfl (Nat.le_of_ble_eq_true rfl) dX9_comesPool_100 (c_X9_put hW hm hm4 hx4 kn_12 (by decide)) (fun v_100 h_100 q_100 => ?_)
  obtain ⟨rfl, eP, hm⟩ := q_100
  have hW := eP.W hW
  have he := he.tr eP
  refine r_aload_n dX9_comesPool_103 rfl ?_
  refine r_iload dX9_comesPool_104 rfl ?_
  refine r_bipush (13) dX9_comesPool_106 (by decide) ?_
  refine r_iconst (5) dX9_comesPool_108 (by decide) ?_
  refine q_callV3 (cv_X9_put ml_X9_64) hW kc_723 (by decide) rfl ⟨rfl, rfl⟩ rfl (Nat.le_of_ble_eq_true rfl) dX9_comesPool_109 (c_X9_put hW hm hm4 hx4 kn_13 (by decide)) (fun v_109 h_109 q_109 => ?_)
  obtain ⟨rfl, eP, hm⟩ := q_109
  have hW := eP.W hW
  have he := he.tr eP
  refine r_aload_n dX9_comesPool_112 rfl ?_
  refine r_iload dX9_comesPool_113 rfl ?_
  refine r_bipush (14) dX9_comesPool_115 (by decide) ?_
  refine r_iconst (1) dX9_comesPool_117 (by decide) ?_
  refine q_callV3 (cv_X9_put ml_X9_64) hW kc_723 (by decide) rfl ⟨rfl, rfl⟩ rfl (Nat.le_of_ble_eq_true rfl) dX9_comesPool_118 (c_X9_put hW hm hm4 hx4 kn_14 (by decide)) (fun v_118 h_118 q_118 => ?_)
  obtain ⟨rfl, eP, hm⟩ := q_118
  have hW := eP.W hW
  have he := he.tr eP
  refine r_aload_n dX9_comesPool_121 rfl ?_
  refine r_iload dX9_comesPool_122 rfl ?_
  refine r_bipush (15) dX9_comesPool_124 (by decide) ?_
  refine r_iconst (1) dX9_comesPool_126 (by decide) ?_
  refine q_callV3 (cv_X9_put ml_X9_64) hW kc_723 (by decide) rfl ⟨rfl, rfl⟩ rfl (Nat.le_of_ble_eq_true rfl) dX9_comesPool_127 (c_X9_put hW hm hm4 hx4 kn_15 (by decide)) (fun v_127 h_127 q_127 => ?_)
  obtain ⟨rfl, eP, hm⟩ := q_127
  have hW := eP.W hW
  have he := he.tr eP
  refine r_aload_n dX9_comesPool_130 rfl ?_
  refine r_iload dX9_comesPool_131 rfl ?_
  refine r_bipush (17) dX9_comesPool_133 (by decide) ?_
  refine r_iconst (-1) dX9_comesPool_135 (by decide) ?_
  refine q_callV3 (cv_X9_put ml_X9_64) hW kc_723 (by decide) rfl ⟨rfl, rfl⟩ rfl (Nat.le_of_ble_eq_true rfl) dX9_comesPool_136 (c_X9_put hW hm hm4 hx4 kn_17 (by decide)) (fun v_136 h_136 q_136 => ?_)
  obtain ⟨rfl, eP, hm⟩ := q_136
  have hW := eP.W hW
  have he := he.tr eP
  refine r_aload_n dX9_comesPool_139 rfl ?_
  refine r_iload dX9_comesPool_140 rfl ?_
  refine r_bipush (18) dX9_comesPool_142 (by decide) ?_
  refine r_iconst (-1) dX9_comesPool_144 (by decide) ?_
  refine q_callV3 (cv_X9_put ml_X9_64) hW kc_723 (by decide) rfl ⟨rfl, rfl⟩ rfl (Nat.le_of_ble_eq_true rfl) dX9_comesPool_145 (c_X9_put hW hm hm4 hx4 kn_18 (by decide)) (fun v_145 h_145 q_145 => ?_)
  obtain ⟨rfl, eP, hm⟩ := q_145
  have hW := eP.W hW
  have he := he.tr eP
  refine r_aload_n dX9_comesPool_148 rfl ?_
  refine r_iload dX9_comesPool_149 rfl ?_
  refine r_bipush (19) dX9_comesPool_151 (by decide) ?_
  refine r_iconst (-1) dX9_comesPool_153 (by decide) ?_
  refine q_callV3 (cv_X9_put ml_X9_64) hW kc_723 (by decide) rfl ⟨rfl, rfl⟩ rfl (Nat.le_of_ble_eq_true rfl) dX9_comesPool_154 (c_X9_put hW hm hm4 hx4 kn_19 (by decide)) (fun v_154 h_154 q_154 => ?_)
  obtain ⟨rfl, eP, hm⟩ := q_154
  have hW := eP.W hW
  have he := he.tr eP
  refine r_aload_n dX9_comesPool_157 rfl ?_
  refine r_iload dX9_comesPool_158 rfl ?_
  refine r_bipush (21) dX9_comesPool_160 (by decide) ?_
  refine r_sipush (-1000) dX9_comesPool_162 (by decide) ?_
  refine q_callV3 (cv_X9_put ml_X9_64) hW kc_723 (by decide) rfl ⟨rfl, rfl⟩ rfl (Nat.le_of_ble_eq_true rfl) dX9_comesPool_165 (c_X9_put hW hm hm4 hx4 kn_21 (by decide)) (fun v_165 h_165 q_165 => ?_)
  obtain ⟨rfl, eP, hm⟩ := q_165
  have hW := eP.W hW
  have he := he.tr eP
  refine r_aload_n dX9_comesPool_168 rfl ?_
  refine r_iload dX9_comesPool_169 rfl ?_
  refine r_bipush (22) dX9_comesPool_171 (by decide) ?_
  refine r_sipush (-1000) dX9_comesPool_173 (by decide) ?_
  refine q_callV3 (cv_X9_put ml_X9_64) hW kc_723 (by decide) rfl ⟨rfl, rfl⟩ rfl (Nat.le_of_ble_eq_true rfl) dX9_comesPool_176 (c_X9_put hW hm hm4 hx4 kn_22 (by decide)) (fun v_176 h_176 q_176 => ?_)
  obtain ⟨rfl, eP, hm⟩ := q_176
  have hW := eP.W hW
  have he := he.tr eP
  refine r_iconst (0) dX9_comesPool_179 (by decide) ?_
  refine r_istore (ls2 := [_, _, _, _, some _, _]) dX9_comesPool_180 (by decide) rfl ?_
  rw [beg_put] at hm
  have hm0 : PV h_176 (cmW w x2 0) ZG m (jnF 0 (begF A B C) x2) (getG ZG m) := by
    have e : cmW w x2 0 = upd w 0 (w 0 + 1) := by
      unfold cmW
      rw [show nI (x2 + 0) = upd w 0 (w 0 + 1) 2 from by rw [pk_un (by decide), h2]; rfl]
      exact upd_eq
    rw [e]
    exact hm
  refine loopN (P := fun i => ∀ H : AH, i ≤ a → World H → eqx h H SM → PV H (cmW w x2 i) ZG m (jnF i (begF A B C) x2) (getG ZG m) → PW l9 G mX9_comesPool _ _ NT 182 [some (.ref 723), some (.int A), some (.int B), some (.int C), some (.int (w 0)), some (.int (nI i))] [] (0, 0) H) a (fun i ih H hi hW he hm => ?_) 0 _ (Nat.zero_le _) hW he hm0
  refine r_iload dX9_comesPool_182 rfl ?_
  refine r_iload_n dX9_comesPool_184 rfl ?_
  refine r_icmp_ge 203 dX9_comesPool_185 (by decide) (fun c_185 => ?_) (fun c_185 => ?_)
  · refine r_vret dX9_comesPool_203 rfl ⟨Nat.zero_le _, Nat.zero_le _⟩ ?_
    have hge : i = a := by
      have c9 := c_185
      rw [ha] at c9
      have := (nI_leI (by omega) (by omega)).mp c9
      omega
    subst hge
    refine ⟨rfl, he, ?_⟩
    have eA : setP (cmW w x2 i) m (jnF i (begF A B C) x2) = apW w A B C := by
      unfold apW cmW
      rw [em, ea, ex2]
    rw [← eA]
    unfold PV at hm
    rw [setG_get] at hm
    exact hm
  · have hlt : i < a := by
      have c9 := c_185
      rw [ha] at c9
      exact (nI_ltI (by omega) (by omega)).mp (i_lt.mp c9)
    obtain ⟨j1, j2, j3⟩ := jnF_ok (x := x2) hbO rfl i (by omega)
    refine r_aload_n dX9_comesPool_188 rfl ?_
    refine r_iload dX9_comesPool_189 rfl ?_
    refine r_iconst (0) dX9_comesPool_191 (by decide) ?_
    refine r_iconst (0) dX9_comesPool_192 (by decide) ?_
    refine q_callV3 (cv_X9_joins ml_X9_67) hW kc_723 (by decide) rfl ⟨rfl, rfl⟩ rfl (Nat.le_of_ble_eq_true rfl) dX9_comesPool_193 (c_X9_joins hW hm hm4 hx4 j2 (by omega)) (fun v_193 h_193 q_193 => ?_)
    obtain ⟨rfl, eJ, hm⟩ := q_193
    have hW := eJ.W hW
    refine r_pop dX9_comesPool_196 rfl ?_
    refine r_iinc (1) (by decide) (ls2 := [_, _, _, _, some _, _]) dX9_comesPool_197 rfl (by decide) rfl ?_
    refine r_goto 182 dX9_comesPool_200 (by decide) ?_
    rw [nI_1]
    have e2 : cmW w x2 i 2 = nI (x2 + i) := by unfold cmW; exact pk_us
    have eW : upd (cmW w x2 i) 2 (cmW w x2 i 2 + 1) = cmW w x2 (i + 1) := by
      rw [e2, nI_1, Nat.add_assoc]
      unfold cmW
      funext k
      by_cases h : k = 2
      · rw [h, pk_us, pk_us]
      · rw [pk_un h, pk_un h, pk_un h]
    rw [eW, e2] at hm
    exact ih hlt _ hlt hW (he.tr eJ) hm

set_option maxRecDepth 100000 in
set_option maxHeartbeats 1600000 in
theorem c_X9_readPool {l9 : Launch} {G : GC} {h : AH} {b : Nat → Int32} {n : Nat} {w : Nat → Int32} {p : Nat} (hW : World h) (hr : RpS h b n p) (hm : MW h (w, ZG)) (hP : PI w) : PM l9 G mX9_readPool NT NT [.ref 723] h (fun v h' => v = some (.int (bI (decide ((if nn (w 0) < 4 then poE3 b n (tE b n p) else (4, tS b n p) : ER).1 = 0)))) ∧ eqx h h' SRp ∧ OthF h h' ∧ ((if nn (w 0) < 4 then poE3 b n (tE b n p) else (4, tS b n p) : ER).1 = 0 → RpS h' b n (if nn (w 0) < 4 then poE3 b n (tE b n p) else (4, tS b n p) : ER).2 ∧ MW h' (apW w (poA b n (tE b n p)) (poB b n (tE b n p)) (poC b n (tE b n p)), ZG) ∧ aI h' 723 23 = 0) ∧ ((if nn (w 0) < 4 then poE3 b n (tE b n p) else (4, tS b n p) : ER).1 ≠ 0 → FlS h' (if nn (w 0) < 4 then poE3 b n (tE b n p) else (4, tS b n p)))) noX := by
  refine PM.of (by decide +kernel) rfl rfl (Nat.le_of_ble_eq_true rfl) (fun hst _ => ?_)
  obtain ⟨m, m1, m2, m3⟩ := hP.n4.nat
  have em : nn (w 0) = m := by rw [m3]; exact nn_I (by omega)
  obtain ⟨x2, x21, x22, x23⟩ := hP.1.1.1.2.2.1.nat
  refine r_aload_n dX9_readPool_0 rfl ?_
  refine q_getR fl_X9_7 hW kc_723 rfl (kl_9_0 hW) (by decide) dX9_readPool_1 ?_
  refine r_iconst (0) dX9_readPool_4 (by decide) ?_
  refine q_wldMW hW hm kn_0 (by omega) dX9_readPool_5 ?_
  rw [show (w, ZG).1 0 = nI m from m3]
  refine r_iconst (4) dX9_readPool_6 (by decide) ?_
  refine r_icmp_ne 16 dX9_readPool_7 (by decide) (fun c_7 => ?_) (fun c_7 => ?_)
  · have hlt : nn (w 0) < 4 := by
      have : m ≠ 4 := fun q => c_7 (by rw [q]; rfl)
      omega
    refine r_aload_n dX9_readPool_16 rfl ?_
    refine q_callV0 (cv_X9_advanceToken ml_X9_208) hW kc_723 (by decide) rfl ⟨rfl, rfl⟩ rfl (Nat.le_of_ble_eq_true rfl) dX9_readPool_17 (c_X9_advanceToken hW hr.1 hr.2.1.2.2.1 (tE_le hr.2.2.2.2)) (fun v_17 h_17 q_17 => ?_)
    obtain ⟨rfl, eA, lA, fA⟩ := q_17
    have hW := eA.W hW
    have hr1 : RpS h_17 b n (tE b n p) := ⟨hr.1.cg eA (by decide) (fA 14 (by decide) (by decide) (by decide) (by decide)), lA, (fA 17 (by decide) (by decide) (by decide) (by decide)).trans hr.2.2.1, (fA 18 (by decide) (by decide) (by decide) (by decide)).trans hr.2.2.2.1, tE_le hr.2.2.2.2⟩
    have oA : OthF h h_17 := fun k hk => fA k (by omega) (by omega) (by omega) (by omega)
    have hm := hm.cgH eA (by decide) (by decide)
    refine r_aload_n dX9_readPool_20 rfl ?_
    refine r_iconst (0) dX9_readPool_21 (by decide) ?_
    refine r_iconst (0) dX9_readPool_22 (by decide) ?_
    refine r_bipush (20) dX9_readPool_23 (by decide) ?_
    refine q_callV3 (cv_X9_takes ml_X9_211) hW kc_723 (by decide) rfl ⟨rfl, rfl⟩ rfl (Nat.le_of_ble_eq_true rfl) dX9_readPool_25 (c_X9_takes hW hr1 kn_0 (by decide)) (fun v_25 h_25 q_25 => ?_)
    obtain ⟨rfl, eK1, oK1, tK1, gK1, bK1⟩ := q_25
    have hW := eK1.W hW
    refine r_if_eq 62 dX9_readPool_28 (by decide) (fun c_28 => ?_) (fun c_28 => ?_)
    · refine r_iconst (0) dX9_readPool_62 (by decide) ?_
      refine r_zret dX9_readPool_63 rfl (by decide) ⟨Nat.zero_le _, Nat.zero_le _⟩ ?_
      first
        | (have hN : nmC b n (tE b n p) 0 20 ≠ 0 := of_decide_eq_false (bI_0.mp c_28)
           have hE : poE3 b n (tE b n p) = (nmC b n (tE b n p) 0 20, tS b n (tE b n p)) := by unfold poE3 poE2 poE1; rw [nm_1 hN, nm_s (e := (nmC b n (tE b n p) 0 20, tS b n (tE b n p))) hN, nm_s (e := (nmC b n (tE b n p) 0 20, tS b n (tE b n p))) hN]
           rw [if_pos hlt, hE]
           exact ⟨by rw [decide_eq_false hN]; rfl, ((eA.wk (T := SRp) (fun i q => SRp9 q)).tr (eK1.wk (T := SRp) (fun i q => by unfold SRp; omega))), (oA.tr oK1), fun z => absurd z hN, fun _ => bK1 hN⟩)
        | (have hN : nmC b n (tE b n (tE b n p)) (imx 1 (tV b n (tE b n p))) 20 ≠ 0 := of_decide_eq_false (bI_0.mp c_48)
           have hE : poE3 b n (tE b n p) = (nmC b n (tE b n (tE b n p)) (imx 1 (tV b n (tE b n p))) 20, tS b n (tE b n (tE b n p))) := by unfold poE3 poE2; rw [eE1, eA1, nm_1 hN, nm_s (e := (nmC b n (tE b n (tE b n p)) (imx 1 (tV b n (tE b n p))) 20, tS b n (tE b n (tE b n p)))) hN]
           rw [if_pos hlt, hE]
           exact ⟨by rw [decide_eq_false hN]; rfl, (((eA.wk (T := SRp) (fun i q => SRp9 q)).tr (eK1.wk (T := SRp) (fun i q => by unfold SRp; omega))).tr (eK2.wk (T := SRp) (fun i q => by unfold SRp; omega))), ((oA.tr oK1).tr oK2), fun z => absurd z hN, fun _ => bK2 hN⟩)
        | (have hN : nmC b n (tE b n (tE b n (tE b n p))) 1 100 ≠ 0 := of_decide_eq_false (bI_0.mp c_59)
           have hE : poE3 b n (tE b n p) = (nmC b n (tE b n (tE b n (tE b n p))) 1 100, tS b n (tE b n (tE b n (tE b n p)))) := by unfold poE3; rw [eE2, nm_1 hN]
           rw [if_pos hlt, hE]
           exact ⟨by rw [decide_eq_false hN]; rfl, ((((eA.wk (T := SRp) (fun i q => SRp9 q)).tr (eK1.wk (T := SRp) (fun i q => by unfold SRp; omega))).tr (eK2.wk (T := SRp) (fun i q => by unfold SRp; omega))).tr (eK3.wk (T := SRp) (fun i q => by unfold SRp; omega))), (((oA.tr oK1).tr oK2).tr oK3), fun z => absurd z hN, fun _ => bK3 hN⟩)
    · have hN1 : nmC b n (tE b n p) 0 20 = 0 := of_decide_eq_true (bI_1.mp c_28)
      obtain ⟨g1, hr2⟩ := gK1 hN1
      have hm := hm.cgH eK1 (by decide) (by decide)
      have eE1 : poE1 b n (tE b n p) = (0, tE b n (tE b n p)) := (nm_0 hN1).1
      have eA1 : poA b n (tE b n p) = tV b n (tE b n p) := (nm_0 hN1).2
      refine r_aload_n dX9_readPool_31 rfl ?_
      refine r_iconst (1) dX9_readPool_32 (by decide) ?_
      refine r_iconst (1) dX9_readPool_33 (by decide) ?_
      refine r_aload_n dX9_readPool_34 rfl ?_
      refine q_getR fl_X9_48 hW kc_723 rfl (kl_9_24 hW) (by decide) dX9_readPool_35 ?_
      refine r_iconst (0) dX9_readPool_38 (by decide) ?_
      refine q_iald hW kc_735 kn_0 (by decide) (by decide) dX9_readPool_39 ?_
      rw [show aI h_25 735 0 = tV b n (tE b n p) from by rw [g1, pk_us]]
      refine q_max mm_X9_123 rfl (Nat.le_of_ble_eq_true rfl) dX9_readPool_40 ?_
      refine r_bipush (20) dX9_readPool_43 (by decide) ?_
      refine q_callV3 (cv_X9_takes ml_X9_211) hW kc_723 (by decide) rfl ⟨rfl, rfl⟩ rfl (Nat.le_of_ble_eq_true rfl) dX9_readPool_45 (c_X9_takes hW hr2 kn_1 (by decide)) (fun v_45 h_45 q_45 => ?_)
      obtain ⟨rfl, eK2, oK2, tK2, gK2, bK2⟩ := q_45
      have hW := eK2.W hW
      refine r_if_eq 62 dX9_readPool_48 (by decide) (fun c_48 => ?_) (fun c_48 => ?_)
      · refine r_iconst (0) dX9_readPool_62 (by decide) ?_
        refine r_zret dX9_readPool_63 rfl (by decide) ⟨Nat.zero_le _, Nat.zero_le _⟩ ?_
        first
          | (have hN : nmC b n (tE b n p) 0 20 ≠ 0 := of_decide_eq_false (bI_0.mp c_28)
             have hE : poE3 b n (tE b n p) = (nmC b n (tE b n p) 0 20, tS b n (tE b n p)) := by unfold poE3 poE2 poE1; rw [nm_1 hN, nm_s (e := (nmC b n (tE b n p) 0 20, tS b n (tE b n p))) hN, nm_s (e := (nmC b n (tE b n p) 0 20, tS b n (tE b n p))) hN]
             rw [if_pos hlt, hE]
             exact ⟨by rw [decide_eq_false hN]; rfl, ((eA.wk (T := SRp) (fun i q => SRp9 q)).tr (eK1.wk (T := SRp) (fun i q => by unfold SRp; omega))), (oA.tr oK1), fun z => absurd z hN, fun _ => bK1 hN⟩)
          | (have hN : nmC b n (tE b n (tE b n p)) (imx 1 (tV b n (tE b n p))) 20 ≠ 0 := of_decide_eq_false (bI_0.mp c_48)
             have hE : poE3 b n (tE b n p) = (nmC b n (tE b n (tE b n p)) (imx 1 (tV b n (tE b n p))) 20, tS b n (tE b n (tE b n p))) := by unfold poE3 poE2; rw [eE1, eA1, nm_1 hN, nm_s (e := (nmC b n (tE b n (tE b n p)) (imx 1 (tV b n (tE b n p))) 20, tS b n (tE b n (tE b n p)))) hN]
             rw [if_pos hlt, hE]
             exact ⟨by rw [decide_eq_false hN]; rfl, (((eA.wk (T := SRp) (fun i q => SRp9 q)).tr (eK1.wk (T := SRp) (fun i q => by unfold SRp; omega))).tr (eK2.wk (T := SRp) (fun i q => by unfold SRp; omega))), ((oA.tr oK1).tr oK2), fun z => absurd z hN, fun _ => bK2 hN⟩)
          | (have hN : nmC b n (tE b n (tE b n (tE b n p))) 1 100 ≠ 0 := of_decide_eq_false (bI_0.mp c_59)
             have hE : poE3 b n (tE b n p) = (nmC b n (tE b n (tE b n (tE b n p))) 1 100, tS b n (tE b n (tE b n (tE b n p)))) := by unfold poE3; rw [eE2, nm_1 hN]
             rw [if_pos hlt, hE]
             exact ⟨by rw [decide_eq_false hN]; rfl, ((((eA.wk (T := SRp) (fun i q => SRp9 q)).tr (eK1.wk (T := SRp) (fun i q => by unfold SRp; omega))).tr (eK2.wk (T := SRp) (fun i q => by unfold SRp; omega))).tr (eK3.wk (T := SRp) (fun i q => by unfold SRp; omega))), (((oA.tr oK1).tr oK2).tr oK3), fun z => absurd z hN, fun _ => bK3 hN⟩)
      · have hN2 : nmC b n (tE b n (tE b n p)) (imx 1 (tV b n (tE b n p))) 20 = 0 := of_decide_eq_true (bI_1.mp c_48)
        obtain ⟨g2, hr3⟩ := gK2 hN2
        have hm := hm.cgH eK2 (by decide) (by decide)
        have eE2 : poE2 b n (tE b n p) = (0, tE b n (tE b n (tE b n p))) := by unfold poE2; rw [eE1, eA1]; exact (nm_0 hN2).1
        have eB1 : poB b n (tE b n p) = tV b n (tE b n (tE b n p)) := by unfold poB; rw [eE1, eA1]; exact (nm_0 hN2).2
        refine r_aload_n dX9_readPool_51 rfl ?_
        refine r_iconst (2) dX9_readPool_52 (by decide) ?_
        refine r_iconst (1) dX9_readPool_53 (by decide) ?_
        refine r_bipush (100) dX9_readPool_54 (by decide) ?_
        refine q_callV3 (cv_X9_takes ml_X9_211) hW kc_723 (by decide) rfl ⟨rfl, rfl⟩ rfl (Nat.le_of_ble_eq_true rfl) dX9_readPool_56 (c_X9_takes hW hr3 kn_2 (by decide)) (fun v_56 h_56 q_56 => ?_)
        obtain ⟨rfl, eK3, oK3, tK3, gK3, bK3⟩ := q_56
        have hW := eK3.W hW
        refine r_if_ne 64 dX9_readPool_59 (by decide) (fun c_59 => ?_) (fun c_59 => ?_)
        · have hN3 : nmC b n (tE b n (tE b n (tE b n p))) 1 100 = 0 := of_decide_eq_true (bI_1.mp c_59)
          obtain ⟨g3, hr4⟩ := gK3 hN3
          have hm := hm.cgH eK3 (by decide) (by decide)
          have eE3 : poE3 b n (tE b n p) = (0, tE b n (tE b n (tE b n (tE b n p)))) := by unfold poE3; rw [eE2]; exact (nm_0 hN3).1
          have eC1 : poC b n (tE b n p) = tV b n (tE b n (tE b n (tE b n p))) := by unfold poC; rw [eE2]; exact (nm_0 hN3).2
          obtain ⟨a, a1, a2, a3⟩ := (vlS_rg (b := b) (n := n) (e := (0, tE b n p)) (lo := 0) (hi := 20) (by decide) (by decide)).nat
          have a3' : poA b n (tE b n p) = nI a := a3
          obtain ⟨pB1, pB2⟩ := poB_rg (b := b) (n := n) (p := tE b n p)
          have pC : rg (poC b n (tE b n p)) 1 100 := vlS_rg (lo := 1) (hi := 100) (by decide) (by decide)
          refine r_aload_n dX9_readPool_64 rfl ?_
          refine r_aload_n dX9_readPool_65 rfl ?_
          refine q_getR fl_X9_48 hW kc_723 rfl (kl_9_24 hW) (by decide) dX9_readPool_66 ?_
          refine r_iconst (0) dX9_readPool_69 (by decide) ?_
          refine q_iald hW kc_735 kn_0 (by decide) (by decide) dX9_readPool_70 ?_
          rw [show aI h_56 735 0 = poA b n (tE b n p) from by rw [g3, pk_un (by decide), g2, pk_un (by decide), g1, pk_us, eA1]]
          refine r_aload_n dX9_readPool_71 rfl ?_
          refine q_getR fl_X9_48 hW kc_723 rfl (kl_9_24 hW) (by decide) dX9_readPool_72 ?_
          refine r_iconst (1) dX9_readPool_75 (by decide) ?_
          refine q_iald hW kc_735 kn_1 (by decide) (by decide) dX9_readPool_76 ?_
          rw [show aI h_56 735 1 = poB b n (tE b n p) from by rw [g3, pk_un (by decide), g2, pk_us, eB1]]
          refine r_aload_n dX9_readPool_77 rfl ?_
          refine q_getR fl_X9_48 hW kc_723 rfl (kl_9_24 hW) (by decide) dX9_readPool_78 ?_
          refine r_iconst (2) dX9_readPool_81 (by decide) ?_
          refine q_iald hW kc_735 kn_2 (by decide) (by decide) dX9_readPool_82 ?_
          rw [show aI h_56 735 2 = poC b n (tE b n p) from by rw [g3, pk_us, eC1]]
          refine q_callV3 (cv_X9_comesPool ml_X9_57) hW kc_723 (by decide) rfl ⟨rfl, rfl⟩ rfl (Nat.le_of_ble_eq_true rfl) dX9_readPool_83 (c_X9_comesPool hW hm m3 (by omega) x23 (by omega) (by rw [← em]; exact hP.2.2.2.2.1 _ (Nat.le_refl _) hlt) a3' a2 pB1 pC pB2) (fun v_83 h_83 q_83 => ?_)
          obtain ⟨rfl, eC, hm⟩ := q_83
          have hW := eC.W hW
          refine r_aload_n dX9_readPool_86 rfl ?_
          refine r_iconst (0) dX9_readPool_87 (by decide) ?_
          refine q_putM fl_X9_214 hW hm rfl rfl dX9_readPool_88 (fun hm => ?_)
          refine r_iconst (1) dX9_readPool_91 (by decide) ?_
          refine r_zret dX9_readPool_92 rfl (by decide) ⟨Nat.zero_le _, Nat.zero_le _⟩ ?_
          rw [if_pos hlt, eE3]
          have e9 : eqx h_83 (sI h_83 723 23 0) S9 := (eqx.rf (S := S9)).sI rfl
          refine ⟨rfl, ((((((eA.wk (T := SRp) (fun i q => SRp9 q)).tr (eK1.wk (T := SRp) (fun i q => by unfold SRp; omega))).tr (eK2.wk (T := SRp) (fun i q => by unfold SRp; omega))).tr (eK3.wk (T := SRp) (fun i q => by unfold SRp; omega)))).tr (eC.wk (fun i q => SRpM q))).tr (e9.wk (fun i q => SRp9 q)), ((((oA.tr oK1).tr oK2).tr oK3).tr (OthF.of eC (by unfold SM; omega))).tr (fun k hk => sI_k (by omega)), fun _ => ⟨?_, hm, sI_s⟩, fun z => absurd rfl z⟩
          exact (hr4.cg eC (by unfold SM; omega) (fun k _ _ => by rw [eC.I (by unfold SM; omega)]) (by rw [eC.I (by unfold SM; omega)])).cg e9 (by decide) (fun k k1 k2 => sI_k (by omega)) (sI_k (by decide))
        · refine r_iconst (0) dX9_readPool_62 (by decide) ?_
          refine r_zret dX9_readPool_63 rfl (by decide) ⟨Nat.zero_le _, Nat.zero_le _⟩ ?_
          first
            | (have hN : nmC b n (tE b n p) 0 20 ≠ 0 := of_decide_eq_false (bI_0.mp c_28)
               have hE : poE3 b n (tE b n p) = (nmC b n (tE b n p) 0 20, tS b n (tE b n p)) := by unfold poE3 poE2 poE1; rw [nm_1 hN, nm_s (e := (nmC b n (tE b n p) 0 20, tS b n (tE b n p))) hN, nm_s (e := (nmC b n (tE b n p) 0 20, tS b n (tE b n p))) hN]
               rw [if_pos hlt, hE]
               exact ⟨by rw [decide_eq_false hN]; rfl, ((eA.wk (T := SRp) (fun i q => SRp9 q)).tr (eK1.wk (T := SRp) (fun i q => by unfold SRp; omega))), (oA.tr oK1), fun z => absurd z hN, fun _ => bK1 hN⟩)
            | (have hN : nmC b n (tE b n (tE b n p)) (imx 1 (tV b n (tE b n p))) 20 ≠ 0 := of_decide_eq_false (bI_0.mp c_48)
               have hE : poE3 b n (tE b n p) = (nmC b n (tE b n (tE b n p)) (imx 1 (tV b n (tE b n p))) 20, tS b n (tE b n (tE b n p))) := by unfold poE3 poE2; rw [eE1, eA1, nm_1 hN, nm_s (e := (nmC b n (tE b n (tE b n p)) (imx 1 (tV b n (tE b n p))) 20, tS b n (tE b n (tE b n p)))) hN]
               rw [if_pos hlt, hE]
               exact ⟨by rw [decide_eq_false hN]; rfl, (((eA.wk (T := SRp) (fun i q => SRp9 q)).tr (eK1.wk (T := SRp) (fun i q => by unfold SRp; omega))).tr (eK2.wk (T := SRp) (fun i q => by unfold SRp; omega))), ((oA.tr oK1).tr oK2), fun z => absurd z hN, fun _ => bK2 hN⟩)
            | (have hN : nmC b n (tE b n (tE b n (tE b n p))) 1 100 ≠ 0 := of_decide_eq_false (bI_0.mp c_59)
               have hE : poE3 b n (tE b n p) = (nmC b n (tE b n (tE b n (tE b n p))) 1 100, tS b n (tE b n (tE b n (tE b n p)))) := by unfold poE3; rw [eE2, nm_1 hN]
               rw [if_pos hlt, hE]
               exact ⟨by rw [decide_eq_false hN]; rfl, ((((eA.wk (T := SRp) (fun i q => SRp9 q)).tr (eK1.wk (T := SRp) (fun i q => by unfold SRp; omega))).tr (eK2.wk (T := SRp) (fun i q => by unfold SRp; omega))).tr (eK3.wk (T := SRp) (fun i q => by unfold SRp; omega))), (((oA.tr oK1).tr oK2).tr oK3), fun z => absurd z hN, fun _ => bK3 hN⟩)
  · refine r_aload_n dX9_readPool_10 rfl ?_
    refine r_iconst (4) dX9_readPool_11 (by decide) ?_
    refine q_callV1 (cv_X9_failsAt ml_X9_204) hW kc_723 (by decide) rfl ⟨rfl, rfl⟩ rfl (Nat.le_of_ble_eq_true rfl) dX9_readPool_12 (c_X9_failsAt (c := 4) hW kn_4 hr.2.2.1 hr.2.1.1) (fun v_12 h_12 q_12 => ?_)
    obtain ⟨rfl, eF, f17, f18, fF⟩ := q_12
    refine r_zret dX9_readPool_15 rfl (by decide) ⟨Nat.zero_le _, Nat.zero_le _⟩ ?_
    have hlt : ¬ nn (w 0) < 4 := by
      have := (nI_eqI (a := m) (b := 4) (by omega) (by decide)).mp c_7
      omega
    rw [if_neg hlt]
    exact ⟨rfl, eF.wk (fun i q => SRp9 q), fun k hk => fF k (by omega) (by omega), fun z => absurd z (by show ¬ (4 : Nat) = 0; decide), fun _ => ⟨f17, f18⟩⟩
