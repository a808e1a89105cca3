-- the class: run, hurry, undo, save, restore
theorem StR.ev3 {h : AH} {b : Nat} {w : Nat → Int32} {v : Nat → Int64} {m : Nat} (hs : StR h b w v) (hO : RoOK w v m) : aI h (b + 2) 4 = w 3 := hs.2.2.2.1.1.trans hO.1.2.2.2.1.symm
/-- a pool's part, with both cooling times at zero, and a tick, and them back -/
def hz0 (r : Row) (p : Nat) : Row := upP r p (upd (upd (getP r.1 p) 12 0) 13 0)
def huR (r : Row) (p : Nat) : Row := upP (tickW (hz0 r p)) p (upd (upd (getP (tickW (hz0 r p)).1 p) 12 (getP r.1 p 12)) 13 (getP r.1 p 13))
theorem upP_lo {r : Row} {p k : Nat} {f : Nat → Int32} (hk : k < 244) : (upP r p f).1 k = r.1 k := setP_lo hk
theorem upP_p {r : Row} {p : Nat} {f : Nat → Int32} : getP (upP r p f).1 p = trP f := getP_set
theorem hz_ok {r : Row} {m p : Nat} (hO : RoOK r.1 r.2 m) (hp : p < nn (r.1 0)) : RoOK (hz0 r p).1 (hz0 r p).2 m := by
  have h := hO.2 p hp
  refine ro_up hO hp (h.st (fun j hj => by rw [pk_un (by omega), pk_un (by omega)]) (by rw [pk_un (by decide), pk_un (by decide)]) ?_ (by rw [pk_un (by decide), pk_un (by decide), pk_un (by decide), pk_un (by decide)]; exact h.2.1.1) (by rw [pk_un (by decide), pk_un (by decide), pk_un (by decide), pk_un (by decide)]; exact h.2.1.2))
  exact PoB.upd (PoB.upd h.1 (fun _ => rg_I (k := 0) (by decide) (by decide) (by decide))) (fun _ => rg_I (k := 0) (by decide) (by decide) (by decide))
theorem tickW_0 {r : Row} {m : Nat} (hO : RoOK r.1 r.2 m) (hb : 100 + 20 * (m + 1) < 2 ^ 28) : (tickW r).1 0 = r.1 0 := by
  obtain ⟨i1, -⟩ := tk_inv hO rfl rfl hb (nn (r.1 0)) (Nat.le_refl _)
  rw [tickW_1, pk_un (by decide)]; exact i1
theorem huR_ok {r : Row} {m p : Nat} (hO : RoOK r.1 r.2 m) (hp : p < nn (r.1 0)) (hb : 100 + 20 * (m + 1) < 2 ^ 28) : RoOK (tickW (hz0 r p)).1 (tickW (hz0 r p)).2 (m + 1) ∧ p < nn ((tickW (hz0 r p)).1 0) ∧ RoOK (huR r p).1 (huR r p).2 (m + 1) := by
  have h1 := hz_ok hO hp
  have h2 := tick_ok h1 hb
  have h0 : p < nn ((tickW (hz0 r p)).1 0) := by
    rw [tickW_0 h1 hb]
    show p < nn ((upP r p _).1 0)
    rw [upP_lo (by decide)]; exact hp
  refine ⟨h2, h0, ?_⟩
  have h := h2.2 p h0
  have hf := hO.2 p hp
  refine ro_up h2 h0 (h.st (fun j hj => by rw [pk_un (by omega), pk_un (by omega)]) (by rw [pk_un (by decide), pk_un (by decide)]) ?_ (by rw [pk_un (by decide), pk_un (by decide), pk_un (by decide), pk_un (by decide)]; exact h.2.1.1) (by rw [pk_un (by decide), pk_un (by decide), pk_un (by decide), pk_un (by decide)]; exact h.2.1.2))
  exact PoB.upd (PoB.upd h.1 (fun _ => hf.at 12)) (fun _ => hf.at 13)
set_option maxRecDepth 100000 in
set_option maxHeartbeats 4000000 in
theorem c_X8_run {l9 : Launch} {G : GC} {h : AH} {r : Row} {m : Nat} {L : List Row} {x : Int32} (hW : World h) (hs : StR h 7 r.1 r.2) (hO : RoOK r.1 r.2 m) (hL : PsC h L) (hLO : LsOK L m) (hb : m + 300 < 2 ^ 23) : PM l9 G mX8_run NT NT [.ref 1, .int x] h (fun v h' => cd1 (rgB 1 300 x) = 0 ∧ v = some (.int ((tkN (nn x) r).1 3 - r.1 3)) ∧ CFr h h' ∧ StR h' 7 (tkN (nn x) r).1 (tkN (nn x) r).2 ∧ PsC h' (pushL L r)) (fun E h' => thr [eA] (cd1 (rgB 1 300 x)) E ∧ h' = h) := by
  refine PM.of (by decide +kernel) rfl rfl (Nat.le_of_ble_eq_true rfl) (fun hst _ => ?_)
  have hLq := hL.2.1
  have h04 : nn (r.1 0) ≤ 4 := hO.1.1.2.2
  refine r_iload_n dX8_run_0 rfl ?_
  refine r_iconst (1) dX8_run_1 (by decide) ?_
  refine r_sipush (300) dX8_run_2 (by decide) ?_
  refine q_callXS3 (cs_X8_requireRange ml_X8_116) rfl (Nat.le_of_ble_eq_true rfl) dX8_run_5 c_X8_requireRange (fun v_5 h_5 q_5 => ?_) (fun E_5 h_5 q_5 => ?_)
  · obtain ⟨z9, kr, rfl⟩ := q_5
    replace z9 := z9.symm
    subst z9
    have kr : rgB 1 300 x = true := decide_eq_true kr
    obtain ⟨n, n1, n2, hx⟩ := rgB_t (a := 1) (b := 300) kr (by decide) (by decide)
    have ex : nn x = n := by rw [hx]; exact nn_I (by omega)
    refine r_aload_n dX8_run_8 rfl ?_
    refine q_callV0 (cv_X8_remember ml_X8_289) hW kc_1 (by decide) rfl ⟨rfl, rfl⟩ rfl (Nat.le_of_ble_eq_true rfl) dX8_run_9 (c_X8_remember hW hs hO hL hLO) (fun v_9 h_9 q_9 => ?_)
    obtain ⟨z9, hcf, hL2, hrm1, hrm2⟩ := q_9
    subst z9
    have hW := hcf.1
    have hLO2 := LsOK.push hLO hO hLq
    have hsR : StR h_9 7 r.1 r.2 := hs.cgA (fun i i1 i2 => hrm1 i (by omega) (by rcases i2 with i2 | ⟨p9, i2, i3⟩ <;> omega))
    refine r_aload_n dX8_run_12 rfl ?_
    refine q_getR fl_X8_37 hW kc_1 rfl (kl_8_6 hW) (by decide) dX8_run_13 ?_
    refine q_getR fl_X8_96 hW kc_7 rfl (kl_6_4 hW kc_7) (Nat.succ_ne_zero _) dX8_run_16 ?_
    refine q_getI fl_X8_100 hW (kk_6_4 kc_7) rfl dX8_run_19 ?_
    rw [show aI h_9 (7 + 2) 4 = r.1 3 from hsR.ev3 hO]
    refine r_istore_n (ls2 := [_, some _, _, _]) dX8_run_22 (by decide) rfl ?_
    refine r_iconst (0) dX8_run_23 (by decide) ?_
    refine r_istore_n (ls2 := [_, _, some _, _]) dX8_run_24 (by decide) rfl ?_
    refine loopN (P := fun i => ∀ H : AH, i ≤ n → World H → eqx h_9 H (SB 7) → StR H 7 (tkN i r).1 (tkN i r).2 → PW l9 G mX8_run _ _ NT 25 [some (.ref 1), some (.int x), some (.int (r.1 3)), some (.int (nI i))] [] _ H) n (fun i ih H hi hW he hsH => ?_) 0 h_9 (Nat.zero_le _) hW eqx.rf hsR
    have hOi := tkN_ok hO i (by omega)
    refine r_iload_n dX8_run_25 rfl ?_
    refine r_iload_n dX8_run_26 rfl ?_
    refine r_icmp_ge 43 dX8_run_27 (by decide) (fun c_27 => ?_) (fun c_27 => ?_)
    · have hge : n = i := by
        have c9 := c_27
        rw [hx] at c9
        have := (nI_leI (by omega) (by omega)).mp c9
        omega
      subst hge
      refine r_aload_n dX8_run_43 rfl ?_
      refine q_getR fl_X8_37 hW kc_1 rfl (kl_8_6 hW) (by decide) dX8_run_44 ?_
      refine q_getR fl_X8_96 hW kc_7 rfl (kl_6_4 hW kc_7) (Nat.succ_ne_zero _) dX8_run_47 ?_
      refine q_getI fl_X8_100 hW (kk_6_4 kc_7) rfl dX8_run_50 ?_
      rw [show aI H (7 + 2) 4 = (tkN n r).1 3 from hsH.ev3 hOi]
      refine r_iload_n dX8_run_53 rfl ?_
      refine r_isub dX8_run_54 ?_
      refine r_iret dX8_run_55 rfl ⟨Nat.le_of_ble_eq_true rfl, Nat.le_of_ble_eq_true rfl⟩ ?_
      rw [ex]
      exact ⟨cd1_t kr, rfl, CFr.of hcf hrm1 hrm2 he (fun i q => q), hsH, hL2.eqx hLO2 he (fun i q => q)⟩
    · have hlt : i < n := by
        have c9 := c_27
        rw [hx] at c9
        exact (nI_ltI (by omega) (by omega)).mp (i_lt.mp c9)
      refine r_aload_n dX8_run_30 rfl ?_
      refine q_getR fl_X8_37 hW kc_1 rfl (kl_8_6 hW) (by decide) dX8_run_31 ?_
      refine q_callV0 (cv_X6_tickAll ml_X8_292) hW kc_7 (by decide) rfl ⟨rfl, rfl⟩ rfl (Nat.le_of_ble_eq_true rfl) dX8_run_34 (c_X6_tickAll hW kc_7 hsH hOi (by omega)) (fun v_34 h_34 q_34 => ?_)
      obtain ⟨rfl, e1, s1⟩ := q_34
      have hW := e1.W hW
      refine r_iinc (1) (by decide) (ls2 := [_, _, some _, _]) dX8_run_37 rfl (by decide) rfl ?_
      refine r_goto 25 dX8_run_40 (by decide) ?_
      rw [nI_1]
      exact ih hlt _ hlt hW (he.tr e1) s1
  · refine PX.out rfl ⟨Nat.le_of_ble_eq_true rfl, Nat.le_of_ble_eq_true rfl⟩ ?_
    obtain ⟨rfl, kx, rfl⟩ := q_5
    exact ⟨thr_1 (decide_eq_false kx), rfl⟩

set_option maxRecDepth 100000 in
set_option maxHeartbeats 4000000 in
theorem c_X8_hurry {l9 : Launch} {G : GC} {h : AH} {r : Row} {m : Nat} {L : List Row} {x : Int32} (hW : World h) (hs : StR h 7 r.1 r.2) (hO : RoOK r.1 r.2 m) (hL : PsC h L) (hLO : LsOK L m) (hb : m + 300 < 2 ^ 23) : PM l9 G mX8_hurry NT NT [.ref 1, .int x] h (fun v h' => cd1 (okP r x) = 0 ∧ v = some (.int (getP (huR r (nn x)).1 (nn x) 17)) ∧ CFr h h' ∧ StR h' 7 (huR r (nn x)).1 (huR r (nn x)).2 ∧ PsC h' (pushL L r)) (fun E h' => thr [eB] (cd1 (okP r x)) E ∧ h' = h) := by
  refine PM.of (by decide +kernel) rfl rfl (Nat.le_of_ble_eq_true rfl) (fun hst _ => ?_)
  refine r_aload_n dX8_hurry_0 rfl ?_
  refine r_iload_n dX8_hurry_1 rfl ?_
  refine q_callX1 (cv_X8_existingPool ml_X8_112) hW kc_1 (by decide) rfl rfl (Nat.le_of_ble_eq_true rfl) dX8_hurry_2 (c_X8_existingPool hW hs hO) (fun v_2 h_2 q_2 => ?_) (fun E_2 h_2 q_2 => ?_)
  · obtain ⟨z9, ko, p, p1, p2, rfl, rfl⟩ := q_2
    replace z9 := z9.symm
    subst z9
    have ex : nn (nI p) = p := nn_I (by omega)
    have hOp := hO.2 p p2
    have hpo : PoR h (14 + 12 * p) (nn (r.1 1)) (nn (r.1 1)) (getP r.1 p) (getG r.2 p) := hs.po p2
    have hpo9 := hpo
    obtain ⟨zs, zm, zt, ⟨zd, zc⟩, zf, z20, z18, z19, z17, z21, z22, z16⟩ := hpo
    have zd0 : DemR h (14 + 12 * p) (nn (r.1 1)) (getP r.1 p) := ⟨zd, zc⟩
    have yc := hOp.2.2.2.2.1.2.1
    have hLq := hL.2.1
    have h04 : nn (r.1 0) ≤ 4 := hO.1.1.2.2
    have y23 : nn (getP r.1 p 23) ≤ 20 := (hOp.at 23).2.2
    have y24 : nn (getP r.1 p 24) ≤ 24 := (hOp.at 24).2.2
    refine r_astore_n (ls2 := [_, some _, _, _, _]) dX8_hurry_5 (by decide) rfl ?_
    refine r_aload_n dX8_hurry_6 rfl ?_
    refine q_callV0 (cv_X8_remember ml_X8_289) hW kc_1 (by decide) rfl ⟨rfl, rfl⟩ rfl (Nat.le_of_ble_eq_true rfl) dX8_hurry_7 (c_X8_remember hW hs hO hL hLO) (fun v_7 h_7 q_7 => ?_)
    obtain ⟨z9, hcf, hL2, hrm1, hrm2⟩ := q_7
    subst z9
    have hW := hcf.1
    have hLO2 := LsOK.push hLO hO hLq
    have hsR : StR h_7 7 r.1 r.2 := hs.cgA (fun i i1 i2 => hrm1 i (by omega) (by rcases i2 with i2 | ⟨p9, i2, i3⟩ <;> omega))
    have hpoR : PoR h_7 (14 + 12 * p) (nn (r.1 1)) (nn (r.1 1)) (getP r.1 p) (getG r.2 p) := hsR.po p2
    refine r_aload_n dX8_hurry_10 rfl ?_
    refine q_getR fl_X8_143 hW (kd_po p1) rfl (kl_3_0 hW (kd_po p1)) (Nat.succ_ne_zero _) dX8_hurry_11 ?_
    refine q_getI fl_X8_230 hW (kk_3_0 (kd_po p1)) rfl dX8_hurry_14 ?_
    rw [show aI h_7 (14 + 12 * p + 1) 12 = getP r.1 p 12 from hpoR.1.1 12 (by decide)]
    refine r_istore_n (ls2 := [_, _, some _, _, _]) dX8_hurry_17 (by decide) rfl ?_
    refine r_aload_n dX8_hurry_18 rfl ?_
    refine q_getR fl_X8_143 hW (kd_po p1) rfl (kl_3_0 hW (kd_po p1)) (Nat.succ_ne_zero _) dX8_hurry_19 ?_
    refine q_getI fl_X8_236 hW (kk_3_0 (kd_po p1)) rfl dX8_hurry_22 ?_
    rw [show aI h_7 (14 + 12 * p + 1) 13 = getP r.1 p 13 from hpoR.1.1 13 (by decide)]
    refine r_istore (ls2 := [_, _, _, some _, _]) dX8_hurry_25 (by decide) rfl ?_
    refine r_aload_n dX8_hurry_27 rfl ?_
    refine q_getR fl_X8_143 hW (kd_po p1) rfl (kl_3_0 hW (kd_po p1)) (Nat.succ_ne_zero _) dX8_hurry_28 ?_
    refine r_iconst (0) dX8_hurry_31 (by decide) ?_
    refine q_putI fl_X8_230 hW (kk_3_0 (kd_po p1)) rfl rfl dX8_hurry_32 ?_
    refine r_aload_n dX8_hurry_35 rfl ?_
    refine q_getR fl_X8_143 hW (kd_po p1) rfl (kl_3_0 hW (kd_po p1)) (Nat.succ_ne_zero _) dX8_hurry_36 ?_
    refine r_iconst (0) dX8_hurry_39 (by decide) ?_
    refine q_putI fl_X8_236 hW (kk_3_0 (kd_po p1)) rfl rfl dX8_hurry_40 ?_
    have e1 : eqx h_7 (sI (sI h_7 (14 + 12 * p + 1) 12 0) (14 + 12 * p + 1) 13 0) (btw (14 + 12 * p) (14 + 12 * p + 11)) := (eqx.rf.sI (by unfold btw; omega)).sI (by unfold btw; omega)
    have hp1 : PoR (sI (sI h_7 (14 + 12 * p + 1) 12 0) (14 + 12 * p + 1) 13 0) (14 + 12 * p) (nn (r.1 1)) (nn (r.1 1)) (upd (upd (getP r.1 p) 12 0) 13 0) (getG r.2 p) := (hpoR.set (by decide) (by decide) y24).set (by decide) (by decide) (by rw [pk_un (by decide)]; exact y24)
    have hs1 : StR (sI (sI h_7 (14 + 12 * p + 1) 12 0) (14 + 12 * p + 1) 13 0) 7 (hz0 r p).1 (hz0 r p).2 := st_up hsR hO p2 e1 hp1 (by rw [pk_un (by decide), pk_un (by decide)]; exact y23) (by rw [pk_un (by decide), pk_un (by decide)]; exact y24)
    have hO1 := hz_ok hO p2
    obtain ⟨hO2, hp9, hO3⟩ := huR_ok hO p2 (by omega)
    refine r_aload_n dX8_hurry_43 rfl ?_
    refine q_getR fl_X8_37 hW kc_1 rfl (kl_8_6 hW) (by decide) dX8_hurry_44 ?_
    refine q_callV0 (cv_X6_tickAll ml_X8_292) hW kc_7 (by decide) rfl ⟨rfl, rfl⟩ rfl (Nat.le_of_ble_eq_true rfl) dX8_hurry_47 (c_X6_tickAll hW kc_7 hs1 hO1 (by omega)) (fun v_47 h_47 q_47 => ?_)
    obtain ⟨rfl, e2, hsT⟩ := q_47
    have hW := e2.W (wsI (wsI hW))
    refine r_aload_n dX8_hurry_50 rfl ?_
    refine q_getR fl_X8_143 hW (kd_po p1) rfl (kl_3_0 hW (kd_po p1)) (Nat.succ_ne_zero _) dX8_hurry_51 ?_
    refine r_iload_n dX8_hurry_54 rfl ?_
    refine q_putI fl_X8_230 hW (kk_3_0 (kd_po p1)) rfl rfl dX8_hurry_55 ?_
    refine r_aload_n dX8_hurry_58 rfl ?_
    refine q_getR fl_X8_143 hW (kd_po p1) rfl (kl_3_0 hW (kd_po p1)) (Nat.succ_ne_zero _) dX8_hurry_59 ?_
    refine r_iload dX8_hurry_62 rfl ?_
    refine q_putI fl_X8_236 hW (kk_3_0 (kd_po p1)) rfl rfl dX8_hurry_64 ?_
    refine r_aload_n dX8_hurry_67 rfl ?_
    refine q_getI fl_X8_140 hW (kd_po p1) rfl dX8_hurry_68 ?_
    rw [sI_o (by omega), sI_o (by omega), show aI h_47 (14 + 12 * p) 9 = getP (tickW (hz0 r p)).1 p 17 from (hsT.po hp9).2.2.2.2.2.2.2.2.1]
    refine r_iret dX8_hurry_71 rfl ⟨Nat.le_of_ble_eq_true rfl, Nat.le_of_ble_eq_true rfl⟩ ?_
    have hOq := hO2.2 p hp9
    have z23 : nn (getP (tickW (hz0 r p)).1 p 23) ≤ 20 := (hOq.at 23).2.2
    have z24 : nn (getP (tickW (hz0 r p)).1 p 24) ≤ 24 := (hOq.at 24).2.2
    have e3 : eqx h_47 (sI (sI h_47 (14 + 12 * p + 1) 12 (getP r.1 p 12)) (14 + 12 * p + 1) 13 (getP r.1 p 13)) (btw (14 + 12 * p) (14 + 12 * p + 11)) := (eqx.rf.sI (by unfold btw; omega)).sI (by unfold btw; omega)
    have hp3 : PoR (sI (sI h_47 (14 + 12 * p + 1) 12 (getP r.1 p 12)) (14 + 12 * p + 1) 13 (getP r.1 p 13)) (14 + 12 * p) _ _ (upd (upd (getP (tickW (hz0 r p)).1 p) 12 (getP r.1 p 12)) 13 (getP r.1 p 13)) (getG (tickW (hz0 r p)).2 p) := ((hsT.po hp9).set (by decide) (by decide) z24).set (by decide) (by decide) (by rw [pk_un (by decide)]; exact z24)
    have hs3 := st_up hsT hO2 hp9 e3 hp3 (by rw [pk_un (by decide), pk_un (by decide)]; exact z23) (by rw [pk_un (by decide), pk_un (by decide)]; exact z24)
    have e9 : eqx h_7 (sI (sI h_47 (14 + 12 * p + 1) 12 (getP r.1 p 12)) (14 + 12 * p + 1) 13 (getP r.1 p 13)) (SB 7) := (e1.wk (fun i q => by unfold btw at q; (try unfold SB); omega)).tr (e2.tr (e3.wk (fun i q => by unfold btw at q; (try unfold SB); omega)))
    rw [ex]
    refine ⟨cd1_t ko, some_int ?_, CFr.of hcf hrm1 hrm2 e9 (fun i q => q), hs3, hL2.eqx hLO2 e9 (fun i q => q)⟩
    unfold huR
    rw [upP_p, trP_k (by decide), pk_un (by decide), pk_un (by decide)]
  · refine PX.out rfl ⟨Nat.le_of_ble_eq_true rfl, Nat.le_of_ble_eq_true rfl⟩ ?_
    obtain ⟨rfl, kx, rfl⟩ := q_2
    exact ⟨thr_1 kx, rfl⟩

theorem PsC.at {h : AH} {L : List Row} (hL : PsC h L) : ∃ f, BfR h f ∧ ∀ i, i < L.length → StR h (173 + 55 * f i) (L.getD i r00).1 (L.getD i r00).2 := hL.2.2
set_option maxRecDepth 100000 in
set_option maxHeartbeats 4000000 in
theorem c_X8_undo {l9 : Launch} {G : GC} {h : AH} {r : Row} {m : Nat} {L : List Row} (hW : World h) (hs : StR h 7 r.1 r.2) (hO : RoOK r.1 r.2 m) (hL : PsC h L) (hLO : LsOK L m) : PM l9 G mX8_undo NT NT [.ref 1] h (fun v h' => (L.length = 0 → v = some (.int (-1)) ∧ h' = h) ∧ (L.length ≠ 0 → v = some (.int (nI (L.length - 1))) ∧ CFr h h' ∧ StR h' 7 (L.getD (L.length - 1) r00).1 (L.getD (L.length - 1) r00).2 ∧ PsC h' (L.take (L.length - 1)))) noX := by
  refine PM.of (by decide +kernel) rfl rfl (Nat.le_of_ble_eq_true rfl) (fun hst _ => ?_)
  obtain ⟨l1, l2, f, ⟨f1, f2⟩, l3⟩ := hL
  refine r_aload_n dX8_undo_0 rfl ?_
  refine q_getI fl_X8_76 hW kc_1 rfl dX8_undo_1 ?_
  rw [l1]
  refine r_if_gt 9 dX8_undo_4 (by decide) (fun c_4 => ?_) (fun c_4 => ?_)
  · have hn0 : 0 < L.length := by
      rcases Nat.eq_zero_or_pos L.length with q | q
      · exact absurd c_4 (by rw [q]; decide)
      · exact q
    have hlo := hLO (L.length - 1) (by omega)
    have hfb := (f1 (L.length - 1) (by omega)).2
    have hst9 : StR (sI h 1 11 (nI (L.length - 1))) (173 + 55 * f (L.length - 1)) (L.getD (L.length - 1) r00).1 (L.getD (L.length - 1) r00).2 := (l3 _ (by omega)).eqx (eqx.rf.sI (S := fun i => i = 1) rfl) hlo.1.1.2.2 (fun j j1 j2 => by omega)
    refine r_aload_n dX8_undo_9 rfl ?_
    refine r_dup dX8_undo_10 rfl ?_
    refine q_getI fl_X8_76 hW kc_1 rfl dX8_undo_11 ?_
    rw [l1]
    refine r_iconst (1) dX8_undo_14 (by decide) ?_
    refine r_isub dX8_undo_15 ?_
    rw [nI_s1 (by omega)]
    refine q_putI fl_X8_76 hW kc_1 rfl rfl dX8_undo_16 ?_
    refine r_aload_n dX8_undo_19 rfl ?_
    refine q_getR fl_X8_37 hW kc_1 rfl (kl_8_6 hW) (by decide) dX8_undo_20 ?_
    refine r_aload_n dX8_undo_23 rfl ?_
    refine q_getR fl_X8_47 hW kc_1 rfl (kl_8_10 hW) (by decide) dX8_undo_24 ?_
    refine r_aload_n dX8_undo_27 rfl ?_
    refine q_getI fl_X8_76 hW kc_1 rfl dX8_undo_28 ?_
    rw [sI_s]
    refine q_sald hW rfl (by omega) (f1 (L.length - 1) (by omega)).1 (by omega) dX8_undo_31 ?_
    refine q_callV1 (cv_X6_copyFrom ml_X8_72) hW kc_7 (by decide) rfl ⟨rfl, rfl⟩ rfl (Nat.le_of_ble_eq_true rfl) dX8_undo_32 (c_X6_copyFrom hW kc_7 (kd_bf hfb) (by omega) hst9 hlo.1.1 hlo.f16) (fun v_32 h_32 q_32 => ?_)
    obtain ⟨rfl, e1, s1⟩ := q_32
    have hW0 := hW
    have hW := e1.W (wsI hW)
    refine r_aload_n dX8_undo_35 rfl ?_
    refine q_getI fl_X8_76 hW kc_1 rfl dX8_undo_36 ?_
    refine r_iret dX8_undo_39 rfl ⟨Nat.zero_le _, Nat.zero_le _⟩ ?_
    have ex1 : aI h_32 1 = upd (aI h 1) 11 (nI (L.length - 1)) := by rw [e1.I (by unfold SB; omega), sI_r]
    refine ⟨fun q => absurd q (by omega), fun _ => ⟨some_int (by rw [ex1, pk_us]), ⟨(CF.of hW0 (eqx.rf.sI (S := fun i => i = 1) rfl) (fun i hi => by omega)).tr (CF.of (wsI hW0) e1 (fun i hi => by unfold SB; omega)), fun i i1 i2 i3 => ?_, fun k hk => by rw [ex1]; exact pk_un hk⟩, s1, by rw [ex1, pk_us, List.length_take, Nat.min_eq_left (by omega)], by rw [List.length_take]; omega, f, ⟨fun i hi => by rw [e1.R]; exact f1 i hi, f2⟩, fun i hi => ?_⟩⟩
    · rw [e1.I i3, e1.J i3]; exact ⟨sI_o i1, rfl⟩
    · rw [List.length_take] at hi
      have hg : (L.take (L.length - 1)).getD i r00 = L.getD i r00 := by
        rw [List.getD_eq_getElem?_getD, List.getD_eq_getElem?_getD, List.getElem?_take, if_pos (by omega)]
      rw [hg]
      have hi9 := (f1 i (by omega)).2
      exact ((l3 i (by omega)).eqx (eqx.rf.sI (S := fun i => i = 1) rfl) (hLO i (by omega)).1.1.2.2 (fun j j1 j2 => by omega)).eqx e1 (hLO i (by omega)).1.1.2.2 (fun j j1 j2 => by unfold SB; omega)
  · refine r_iconst (-1) dX8_undo_7 (by decide) ?_
    refine r_iret dX8_undo_8 rfl ⟨Nat.zero_le _, Nat.zero_le _⟩ ?_
    refine ⟨fun _ => ⟨rfl, rfl⟩, fun q => absurd ?_ c_4⟩
    exact (nI_ltI (a := 0) (by decide) (by omega)).mpr (by omega)

set_option maxRecDepth 100000 in
set_option maxHeartbeats 4000000 in
theorem c_X8_saveState {l9 : Launch} {G : GC} {h : AH} {r : Row} {m : Nat} (hW : World h) (hs : StR h 7 r.1 r.2) (hO : RoOK r.1 r.2 m) : PM l9 G mX8_saveState NT NT [.ref 1] h (fun v h' => v = some (.int (r.1 1)) ∧ eqx h h' (fun i => i = 1 ∨ SB 117 i) ∧ aI h' 1 = upd (aI h 1) 9 1 ∧ StR h' 117 r.1 r.2) noX := by
  refine PM.of (by decide +kernel) rfl rfl (Nat.le_of_ble_eq_true rfl) (fun hst _ => ?_)
  refine r_aload_n dX8_saveState_0 rfl ?_
  refine q_getR fl_X8_44 hW kc_1 rfl (kl_8_8 hW) (by decide) dX8_saveState_1 ?_
  refine r_aload_n dX8_saveState_4 rfl ?_
  refine q_getR fl_X8_37 hW kc_1 rfl (kl_8_6 hW) (by decide) dX8_saveState_5 ?_
  refine q_callV1 (cv_X6_copyFrom ml_X8_72) hW kc_117 (by decide) rfl ⟨rfl, rfl⟩ rfl (Nat.le_of_ble_eq_true rfl) dX8_saveState_8 (c_X6_copyFrom hW kc_117 kc_7 (by decide) hs hO.1.1 hO.f16) (fun v_8 h_8 q_8 => ?_)
  obtain ⟨rfl, e1, s1⟩ := q_8
  have hW := e1.W hW
  refine r_aload_n dX8_saveState_11 rfl ?_
  refine r_iconst (1) dX8_saveState_12 (by decide) ?_
  refine q_putZ fl_X8_79 hW kc_1 rfl (by decide) rfl dX8_saveState_13 ?_
  refine r_aload_n dX8_saveState_16 rfl ?_
  refine q_getR fl_X8_37 hW kc_1 rfl (kl_8_6 hW) (by decide) dX8_saveState_17 ?_
  refine q_getI fl_X8_86 hW kc_7 rfl dX8_saveState_20 ?_
  rw [show aI (sI h_8 1 9 1) 7 2 = r.1 1 from by rw [sI_o (by decide), e1.I (by unfold SB; omega)]; exact hs.2.1]
  refine r_iret dX8_saveState_23 rfl ⟨Nat.zero_le _, Nat.zero_le _⟩ ?_
  have e2 : eqx h_8 (sI h_8 1 9 1) (fun i => i = 1) := eqx.rf.sI rfl
  exact ⟨rfl, (e1.wk (fun i q => Or.inr q)).tr (e2.wk (fun i q => Or.inl q)), by rw [sI_r, e1.I (by unfold SB; omega)], s1.eqx e2 hO.1.1.2.2 (fun j j1 j2 => by omega)⟩

set_option maxRecDepth 100000 in
set_option maxHeartbeats 4000000 in
theorem c_X8_restoreState {l9 : Launch} {G : GC} {h : AH} {s : Row} {m : Nat} {sv : Bool} (hW : World h) (h9 : aI h 1 9 = bI sv) (hs : sv = true → StR h 117 s.1 s.2 ∧ RoOK s.1 s.2 m) : PM l9 G mX8_restoreState NT NT [.ref 1] h (fun v h' => cd1 sv = 0 ∧ v = some (.int (s.1 1)) ∧ eqx h h' (fun i => i = 1 ∨ SB 7 i) ∧ aI h' 1 = upd (aI h 1) 11 0 ∧ StR h' 7 s.1 s.2) (fun E h' => thr [eS] (cd1 sv) E ∧ h' = h) := by
  refine PM.of (by decide +kernel) rfl rfl (Nat.le_of_ble_eq_true rfl) (fun hst _ => ?_)
  refine r_aload_n dX8_restoreState_0 rfl ?_
  refine q_getI fl_X8_79 hW kc_1 rfl dX8_restoreState_1 ?_
  rw [h9]
  refine r_if_ne 18 dX8_restoreState_4 (by decide) (fun c_4 => ?_) (fun c_4 => ?_)
  · have hsv := bI_1.mp c_4
    obtain ⟨hs1, hO1⟩ := hs hsv
    refine r_aload_n dX8_restoreState_18 rfl ?_
    refine q_getR fl_X8_37 hW kc_1 rfl (kl_8_6 hW) (by decide) dX8_restoreState_19 ?_
    refine r_aload_n dX8_restoreState_22 rfl ?_
    refine q_getR fl_X8_44 hW kc_1 rfl (kl_8_8 hW) (by decide) dX8_restoreState_23 ?_
    refine q_callV1 (cv_X6_copyFrom ml_X8_72) hW kc_7 (by decide) rfl ⟨rfl, rfl⟩ rfl (Nat.le_of_ble_eq_true rfl) dX8_restoreState_26 (c_X6_copyFrom hW kc_7 kc_117 (by decide) hs1 hO1.1.1 hO1.f16) (fun v_26 h_26 q_26 => ?_)
    obtain ⟨rfl, e1, s1⟩ := q_26
    have hW := e1.W hW
    refine r_aload_n dX8_restoreState_29 rfl ?_
    refine r_iconst (0) dX8_restoreState_30 (by decide) ?_
    refine q_putI fl_X8_76 hW kc_1 rfl rfl dX8_restoreState_31 ?_
    refine r_aload_n dX8_restoreState_34 rfl ?_
    refine q_getR fl_X8_37 hW kc_1 rfl (kl_8_6 hW) (by decide) dX8_restoreState_35 ?_
    refine q_getI fl_X8_86 hW kc_7 rfl dX8_restoreState_38 ?_
    rw [show aI (sI h_26 1 11 0) 7 2 = s.1 1 from by rw [sI_o (by decide)]; exact s1.2.1]
    refine r_iret dX8_restoreState_41 rfl ⟨Nat.le_of_ble_eq_true rfl, Nat.le_of_ble_eq_true rfl⟩ ?_
    have e2 : eqx h_26 (sI h_26 1 11 0) (fun i => i = 1) := eqx.rf.sI rfl
    exact ⟨cd1_t hsv, rfl, (e1.wk (fun i q => Or.inr q)).tr (e2.wk (fun i q => Or.inl q)), by rw [sI_r, e1.I (by unfold SB; omega)], s1.eqx e2 hO1.1.1.2.2 (fun j j1 j2 => by omega)⟩
  · refine r_throwW ths_303_383 rfl rfl (Nat.le_of_ble_eq_true rfl) dX8_restoreState_7 dX8_restoreState_10 dX8_restoreState_11 dX8_restoreState_14 dX8_restoreState_17 ?_
    exact ⟨thr_1 (bI_0.mp (by first | exact c_4 | simpa using c_4)), rfl⟩
