-- drop cold; the reference: grow, drop, transfer, drop cold
def clB (f : Nat → Int32) (t : Int32) (k : Nat) : Bool := !decide (f (102 + 4 * k) ≤ t)
def dcS (p : Nat) (t : Int32) (tn : Nat) : Nat → Q4 → Q4
  | 0, q => q
  | c + 1, q => dcS p t tn c (if spB (qF q) c && clB (qF q) t c then goQ p tn c q else q)
theorem dcS_ok {p tn c' u : Nat} {t : Int32} {g : Nat → Int64} : ∀ {c : Nat} {q : Q4}, PoOK (qF q) g c' u → c ≤ nn (qF q 23) → PoOK (qF (dcS p t tn c q)) g c' u ∧ qX (dcS p t tn c q) = qX q ∧ qE (dcS p t tn c q) ≤ qE q + c ∧ ∀ k, k < 4 ∨ 244 ≤ k → qW (dcS p t tn c q) k = qW q k
  | 0, q, h, _ => ⟨h, rfl, Nat.le_refl _, fun _ _ => rfl⟩
  | c + 1, q, h, hc => by
    show PoOK (qF (dcS p t tn c (if spB (qF q) c && clB (qF q) t c then goQ p tn c q else q))) g c' u ∧ qX (dcS p t tn c (if spB (qF q) c && clB (qF q) t c then goQ p tn c q else q)) = qX q ∧ qE (dcS p t tn c (if spB (qF q) c && clB (qF q) t c then goQ p tn c q else q)) ≤ qE q + (c + 1) ∧ ∀ k, k < 4 ∨ 244 ≤ k → qW (dcS p t tn c (if spB (qF q) c && clB (qF q) t c then goQ p tn c q else q)) k = qW q k
    by_cases e : (spB (qF q) c && clB (qF q) t c) = true
    · rw [if_pos e]
      have y23 : nn (qF q 23) ≤ 20 := (h.at 23).2.2
      have h2 : PoOK (qF (goQ p tn c q)) g c' u := h.go (by omega)
      have h3 : nn (qF (goQ p tn c q) 23) = nn (qF q 23) - 1 := goF_23 (x := c) (h.at 23).1 y23 (by omega)
      obtain ⟨i1, i2, i3, i4⟩ := dcS_ok (p := p) (tn := tn) (t := t) h2 (show c ≤ nn (qF (goQ p tn c q) 23) by omega)
      have h4 : qE (goQ p tn c q) = qE q + 1 := rfl
      exact ⟨i1, i2, by omega, fun k hk => (i4 k hk).trans (evP_o hk)⟩
    · rw [if_neg e]
      obtain ⟨i1, i2, i3, i4⟩ := dcS_ok (p := p) (tn := tn) (t := t) h (show c ≤ nn (qF q 23) by omega)
      exact ⟨i1, i2, by omega, i4⟩
def dcR (r : Row) (p : Nat) : Row := (putQ p (dcS p (r.1 1) (nn (r.1 1)) (nn (getP r.1 p 23)) (rowQ r.1 p)), r.2)
theorem dcR_ok {r : Row} {m p : Nat} (hO : RoOK r.1 r.2 m) (hp : p < nn (r.1 0)) (hb : 100 + 20 * (m + 1) < 2 ^ 28) : RoOK (dcR r p).1 (dcR r p).2 (m + 1) := by
  have h2 := hO.1.2.2.1.2.2
  have h3 := hO.1.2.2.2.2.2
  have y23 : nn (getP r.1 p 23) ≤ 20 := ((hO.2 p hp).at 23).2.2
  obtain ⟨i1, i2, i3, i4⟩ := dcS_ok (p := p) (tn := nn (r.1 1)) (t := r.1 1) (q := rowQ r.1 p) (hO.2 p hp) (Nat.le_refl (nn (getP r.1 p 23)))
  have i2' : qX (dcS p (r.1 1) (nn (r.1 1)) (nn (getP r.1 p 23)) (rowQ r.1 p)) = nn (r.1 2) := i2
  have i3' : qE (dcS p (r.1 1) (nn (r.1 1)) (nn (getP r.1 p 23)) (rowQ r.1 p)) ≤ nn (r.1 3) + nn (getP r.1 p 23) := i3
  exact ro_q (r := r) hO i1 i4 (by omega) (by omega) hb
theorem pk_dec {x : Int32} : x + (-1) = x - 1 := (Int32.sub_eq_add_neg x 1).symm
set_option maxRecDepth 100000 in
set_option maxHeartbeats 4000000 in
theorem c_X8_dropCold {l9 : Launch} {G : GC} {h : AH} {r : Row} {m : Nat} {L : List Row} {x : Int32} (hW : World h) (hs : StR h 7 r.1 r.2) (hO : RoOK r.1 r.2 m) (hL : PsC h L) (hLO : LsOK L m) (hb : m + 300 < 2 ^ 23) : PM l9 G mX8_dropCold NT NT [.ref 1, .int x] h (fun v h' => cd1 (okP r x) = 0 ∧ v = some (.int (getP r.1 (nn x) 23 - getP (dcR r (nn x)).1 (nn x) 23)) ∧ CFr h h' ∧ StR h' 7 (dcR r (nn x)).1 (dcR r (nn x)).2 ∧ PsC h' (pushL L r)) (fun E h' => thr [eB] (cd1 (okP r x)) E ∧ h' = h) := by
  refine PM.of (by decide +kernel) rfl rfl (Nat.le_of_ble_eq_true rfl) (fun hst _ => ?_)
  refine r_aload_n dX8_dropCold_0 rfl ?_
  refine r_iload_n dX8_dropCold_1 rfl ?_
  refine q_callX1 (cv_X8_existingPool ml_X8_112) hW kc_1 (by decide) rfl rfl (Nat.le_of_ble_eq_true rfl) dX8_dropCold_2 (c_X8_existingPool hW hs hO) (fun v_2 h_2 q_2 => ?_) (fun E_2 h_2 q_2 => ?_)
  · obtain ⟨z9, ko, p, p1, p2, rfl, rfl⟩ := q_2
    replace z9 := z9.symm
    subst z9
    have ex : nn (nI p) = p := nn_I (by omega)
    have hOp := hO.2 p p2
    have hpo : PoR h (14 + 12 * p) (nn (r.1 1)) (nn (r.1 1)) (getP r.1 p) (getG r.2 p) := hs.po p2
    have hpo9 := hpo
    obtain ⟨zs, zm, zt, ⟨zd, zc⟩, zf, z20, z18, z19, z17, z21, z22, z16⟩ := hpo
    have zd0 : DemR h (14 + 12 * p) (nn (r.1 1)) (getP r.1 p) := ⟨zd, zc⟩
    have yc := hOp.2.2.2.2.1.2.1
    have hLq := hL.2.1
    have h04 : nn (r.1 0) ≤ 4 := hO.1.1.2.2
    have y23 : nn (getP r.1 p 23) ≤ 20 := (hOp.at 23).2.2
    have y24 : nn (getP r.1 p 24) ≤ 24 := (hOp.at 24).2.2
    refine r_astore_n (ls2 := [_, some _, _, _, _]) dX8_dropCold_5 (by decide) rfl ?_
    refine r_aload_n dX8_dropCold_6 rfl ?_
    refine q_callV0 (cv_X8_remember ml_X8_289) hW kc_1 (by decide) rfl ⟨rfl, rfl⟩ rfl (Nat.le_of_ble_eq_true rfl) dX8_dropCold_7 (c_X8_remember hW hs hO hL hLO) (fun v_7 h_7 q_7 => ?_)
    obtain ⟨z9, hcf, hL2, hrm1, hrm2⟩ := q_7
    subst z9
    have hW := hcf.1
    have hLO2 := LsOK.push hLO hO hLq
    have hsR : StR h_7 7 r.1 r.2 := hs.cgA (fun i i1 i2 => hrm1 i (by omega) (by rcases i2 with i2 | ⟨p9, i2, i3⟩ <;> omega))
    have hpoR : PoR h_7 (14 + 12 * p) (nn (r.1 1)) (nn (r.1 1)) (getP r.1 p) (getG r.2 p) := hsR.po p2
    have hsq := sq_row hsR hO p2
    have h2t : aI h_7 7 2 = nI (nn (r.1 1)) := hsR.2.1.trans hO.1.2.1.1
    have hX9 := hO.1.2.2.1.2.2
    have hE9 := hO.1.2.2.2.2.2
    have hE8 : qE (rowQ r.1 p) < 2 ^ 28 := by show nn (r.1 3) < _; omega
    refine r_aload_n dX8_dropCold_10 rfl ?_
    refine q_getR fl_X8_119 hW (kd_po p1) rfl (kl_3_1 hW (kd_po p1)) (Nat.succ_ne_zero _) dX8_dropCold_11 ?_
    refine q_getI fl_X8_125 hW (kk_3_1 (kd_po p1)) rfl dX8_dropCold_14 ?_
    obtain ⟨n, g1, g2, h23⟩ := (hOp.at 23).nat
    have g2' : n ≤ 20 := g2
    have en : nn (getP r.1 p 23) = n := by rw [h23]; exact nn_I (by omega)
    rw [show aI h_7 (14 + 12 * p + 3) 4 = nI n from by rw [hpoR.2.1.1, mbs_len, en]]
    refine r_istore_n (ls2 := [_, _, some _, _, _]) dX8_dropCold_17 (by decide) rfl ?_
    refine r_iload_n dX8_dropCold_18 rfl ?_
    refine r_iconst (1) dX8_dropCold_19 (by decide) ?_
    refine r_isub dX8_dropCold_20 ?_
    refine r_istore (ls2 := [_, _, _, some _, _]) dX8_dropCold_21 (by decide) rfl ?_
    refine loopN (P := fun i => ∀ (H : AH) (q : Q4), i ≤ n → World H → eqx h_7 H (SS 7 p) → (∀ k, k ≠ 3 → aI H 7 k = aI h_7 7 k) → SQ H 7 p (nn (r.1 1)) (nn (r.1 1)) q (getG r.2 p) → PoOK (qF q) (getG r.2 p) (nn (r.1 1)) (nn (r.1 1)) → qX q = nn (r.1 2) → qE q ≤ nn (r.1 3) + i → (∀ k, k < 4 ∨ 244 ≤ k → qW q k = r.1 k) → n - i ≤ nn (qF q 23) → dcS p (r.1 1) (nn (r.1 1)) (n - i) q = dcS p (r.1 1) (nn (r.1 1)) n (rowQ r.1 p) → PW l9 G mX8_dropCold _ _ NT 23 [some (.ref 1), some (.int (nI p)), some (.ref (14 + 12 * p)), some (.int (nI n)), some (.int (nI (n - i) - 1))] [] _ H) n (fun i ih H q hi hW he h3 hq hOq hX2 hE2 hWq hcs hd => ?_) 0 h_7 (rowQ r.1 p) (Nat.zero_le _) hW eqx.rf (fun _ _ => rfl) hsq hOp rfl (Nat.le_refl _) (fun _ _ => rfl) (by show n - 0 ≤ nn (getP r.1 p 23); omega) rfl
    rcases Nat.eq_zero_or_pos (n - i) with h0 | h0
    · rw [h0]
      have hqd : q = dcS p (r.1 1) (nn (r.1 1)) (nn (getP r.1 p 23)) (rowQ r.1 p) := by rw [en, ← hd, h0]; rfl
      rw [show nI 0 - 1 = (-1 : Int32) from by decide]
      refine r_iload dX8_dropCold_23 rfl ?_
      refine r_if_lt 72 dX8_dropCold_25 (by decide) (fun c_25 => ?_) (fun c_25 => ?_)
      · refine r_iload_n dX8_dropCold_72 rfl ?_
        refine r_aload_n dX8_dropCold_73 rfl ?_
        refine q_getR fl_X8_119 hW (kd_po p1) rfl (kl_3_1 hW (kd_po p1)) (Nat.succ_ne_zero _) dX8_dropCold_74 ?_
        refine q_getI fl_X8_125 hW (kk_3_1 (kd_po p1)) rfl dX8_dropCold_77 ?_
        rw [show aI H (14 + 12 * p + 3) 4 = getP (dcR r p).1 p 23 from by
          have z : aI H (14 + 12 * p + 3) 4 = nI (mbs (qF q)).length := hq.2.2.2.1.1
          rw [z, mbs_len, ← (hOq.at 23).1, hqd]
          exact (trP_k (by decide)).symm.trans (congrFun putQ_p.symm 23)]
        refine r_isub dX8_dropCold_80 ?_
        refine r_iret dX8_dropCold_81 rfl ⟨Nat.le_of_ble_eq_true rfl, Nat.le_of_ble_eq_true rfl⟩ ?_
        rw [ex]
        have hs9 : StR H 7 (dcR r p).1 (dcR r p).2 := by
          have z := st_q (r := r) hsR hO p2 he h3 hq hWq (by omega) (hOq.at 23).2.2 (hOq.at 24).2.2
          rw [hqd] at z
          exact z
        refine ⟨cd1_t ko, some_int ?_, CFr.of hcf hrm1 hrm2 he (fun i q => SS_7 p1 q), hs9, hL2.eqx hLO2 he (fun i q => SS_7 p1 q)⟩
        rw [h23]
      · exact absurd (by decide) c_25
    · have hlt : i < n := by omega
      obtain ⟨c, hc⟩ : ∃ c, n - i = c + 1 := ⟨n - i - 1, by omega⟩
      rw [hc, nI_s1 (by omega)]
      rw [show c + 1 - 1 = c from rfl]
      have hc1 : n - (i + 1) = c := by omega
      have hcl : c < nn (qF q 23) := by omega
      have hcm : c < (mbs (qF q)).length := by rw [mbs_len]; exact hcl
      have zmq := hq.2.2.2.1
      have hstep : dcS p (r.1 1) (nn (r.1 1)) (n - i) q = dcS p (r.1 1) (nn (r.1 1)) c (if spB (qF q) c && clB (qF q) (r.1 1) c then goQ p (nn (r.1 1)) c q else q) := by rw [hc]; rfl
      have z23 : nn (qF q 23) ≤ 20 := (hOq.at 23).2.2
      have hth := ih hlt
      rw [hc1] at hth
      refine r_iload dX8_dropCold_23 rfl ?_
      refine r_if_lt 72 dX8_dropCold_25 (by decide) (fun c_25 => ?_) (fun c_25 => ?_)
      · exact absurd c_25 (nI_pos (by omega))
      · refine r_aload_n dX8_dropCold_28 rfl ?_
        refine r_iload dX8_dropCold_29 rfl ?_
        refine q_callV1 (cv_X3_canSpare ml_X8_314) hW (kd_po p1) (by decide) rfl ⟨rfl, rfl⟩ rfl (Nat.le_of_ble_eq_true rfl) dX8_dropCold_31 (c_X3_canSpare hW (kd_po p1) hq.2.2.1 zmq (hOq.at 0) hcm) (fun v_31 h_31 q_31 => ?_)
        obtain ⟨rfl, z9⟩ := q_31
        replace z9 := z9.symm
        subst z9
        rw [mbs_len, mbs_prt hcl]
        change PW _ _ _ _ _ _ _ _ (.int (bI (spB (qF q) c)) :: _) _ _
        refine r_if_eq 66 dX8_dropCold_34 (by decide) (fun c_34 => ?_) (fun c_34 => ?_)
        · refine r_iinc (-1) (by decide) (ls2 := [_, _, _, some _, _]) dX8_dropCold_66 rfl (by decide) rfl ?_
          refine r_goto 23 dX8_dropCold_69 (by decide) ?_
          rw [pk_dec]
          first
            | (have hnc : (spB (qF q) c && clB (qF q) (r.1 1) c) = false := and_f1 (bI_0.mp c_34)
               rw [if_neg (by rw [hnc]; decide)] at hstep
               exact hth H q hlt hW he h3 hq hOq hX2 (by omega) hWq (by omega) (hstep.symm.trans hd))
            | (have hnc : (spB (qF q) c && clB (qF q) (r.1 1) c) = false := and_f2 (by unfold clB; rw [bI_1.mp c_53]; rfl)
               rw [if_neg (by rw [hnc]; decide)] at hstep
               exact hth H q hlt hW he h3 hq hOq hX2 (by omega) hWq (by omega) (hstep.symm.trans hd))
            | (have hyc : (spB (qF q) c && clB (qF q) (r.1 1) c) = true := and_t (bI_1.mp c_34) (by unfold clB; rw [bI_0.mp c_53]; rfl)
               rw [if_pos hyc] at hstep
               have h9 : nn (qF (goQ p (nn (r.1 1)) c q) 23) = nn (qF q 23) - 1 := goF_23 (x := c) (hOq.at 23).1 z23 (by omega)
               exact hth _ (goQ p (nn (r.1 1)) c q) hlt hW (he.tr e1) (fun k hk => (congrFun e3 k).trans (h3 k hk)) q1 (hOq.go hcl) hX2 (by show qE q + 1 ≤ _; omega) (fun j hj => (evP_o hj).trans (hWq j hj)) (by omega) (hstep.symm.trans hd))
        · refine r_aload_n dX8_dropCold_37 rfl ?_
          refine q_getR fl_X8_119 hW (kd_po p1) rfl (kl_3_1 hW (kd_po p1)) (Nat.succ_ne_zero _) dX8_dropCold_38 ?_
          refine r_iload dX8_dropCold_41 rfl ?_
          refine r_aload_n dX8_dropCold_43 rfl ?_
          refine q_getR fl_X8_37 hW kc_1 rfl (kl_8_6 hW) (by decide) dX8_dropCold_44 ?_
          refine q_getI fl_X8_86 hW kc_7 rfl dX8_dropCold_47 ?_
          rw [show aI H 7 2 = r.1 1 from (h3 2 (by decide)).trans hsR.2.1]
          refine q_callV2 (cv_X1_isReady ml_X8_175) hW (kk_3_1 (kd_po p1)) (by decide) rfl ⟨rfl, rfl⟩ rfl (Nat.le_of_ble_eq_true rfl) dX8_dropCold_50 (c_X1_isReadyL hW (kk_3_1 (kd_po p1)) zmq hcm) (fun v_50 h_50 q_50 => ?_)
          obtain ⟨rfl, z9⟩ := q_50
          replace z9 := z9.symm
          subst z9
          rw [mbs_rdy hcl]
          refine r_if_ne 66 dX8_dropCold_53 (by decide) (fun c_53 => ?_) (fun c_53 => ?_)
          · refine r_iinc (-1) (by decide) (ls2 := [_, _, _, some _, _]) dX8_dropCold_66 rfl (by decide) rfl ?_
            refine r_goto 23 dX8_dropCold_69 (by decide) ?_
            rw [pk_dec]
            first
              | (have hnc : (spB (qF q) c && clB (qF q) (r.1 1) c) = false := and_f1 (bI_0.mp c_34)
                 rw [if_neg (by rw [hnc]; decide)] at hstep
                 exact hth H q hlt hW he h3 hq hOq hX2 (by omega) hWq (by omega) (hstep.symm.trans hd))
              | (have hnc : (spB (qF q) c && clB (qF q) (r.1 1) c) = false := and_f2 (by unfold clB; rw [bI_1.mp c_53]; rfl)
                 rw [if_neg (by rw [hnc]; decide)] at hstep
                 exact hth H q hlt hW he h3 hq hOq hX2 (by omega) hWq (by omega) (hstep.symm.trans hd))
              | (have hyc : (spB (qF q) c && clB (qF q) (r.1 1) c) = true := and_t (bI_1.mp c_34) (by unfold clB; rw [bI_0.mp c_53]; rfl)
                 rw [if_pos hyc] at hstep
                 have h9 : nn (qF (goQ p (nn (r.1 1)) c q) 23) = nn (qF q 23) - 1 := goF_23 (x := c) (hOq.at 23).1 z23 (by omega)
                 exact hth _ (goQ p (nn (r.1 1)) c q) hlt hW (he.tr e1) (fun k hk => (congrFun e3 k).trans (h3 k hk)) q1 (hOq.go hcl) hX2 (by show qE q + 1 ≤ _; omega) (fun j hj => (evP_o hj).trans (hWq j hj)) (by omega) (hstep.symm.trans hd))
          · refine r_aload_n dX8_dropCold_56 rfl ?_
            refine q_getR fl_X8_37 hW kc_1 rfl (kl_8_6 hW) (by decide) dX8_dropCold_57 ?_
            refine r_iload_n dX8_dropCold_60 rfl ?_
            refine r_iload dX8_dropCold_61 rfl ?_
            refine q_callV2 (cv_X6_removeMember ml_X8_320) hW kc_7 (by decide) rfl ⟨rfl, rfl⟩ rfl (Nat.le_of_ble_eq_true rfl) dX8_dropCold_63 (c_X6_removeMember hW kc_7 p1 ((h3 2 (by decide)).trans h2t) hq hOq hcl (by omega)) (fun v_63 h_63 q_63 => ?_)
            obtain ⟨rfl, e1, e3, q1⟩ := q_63
            have hW := e1.W hW
            refine r_iinc (-1) (by decide) (ls2 := [_, _, _, some _, _]) dX8_dropCold_66 rfl (by decide) rfl ?_
            refine r_goto 23 dX8_dropCold_69 (by decide) ?_
            rw [pk_dec]
            first
              | (have hnc : (spB (qF q) c && clB (qF q) (r.1 1) c) = false := and_f1 (bI_0.mp c_34)
                 rw [if_neg (by rw [hnc]; decide)] at hstep
                 exact hth H q hlt hW he h3 hq hOq hX2 (by omega) hWq (by omega) (hstep.symm.trans hd))
              | (have hnc : (spB (qF q) c && clB (qF q) (r.1 1) c) = false := and_f2 (by unfold clB; rw [bI_1.mp c_53]; rfl)
                 rw [if_neg (by rw [hnc]; decide)] at hstep
                 exact hth H q hlt hW he h3 hq hOq hX2 (by omega) hWq (by omega) (hstep.symm.trans hd))
              | (have hyc : (spB (qF q) c && clB (qF q) (r.1 1) c) = true := and_t (bI_1.mp c_34) (by unfold clB; rw [bI_0.mp c_53]; rfl)
                 rw [if_pos hyc] at hstep
                 have h9 : nn (qF (goQ p (nn (r.1 1)) c q) 23) = nn (qF q 23) - 1 := goF_23 (x := c) (hOq.at 23).1 z23 (by omega)
                 exact hth _ (goQ p (nn (r.1 1)) c q) hlt hW (he.tr e1) (fun k hk => (congrFun e3 k).trans (h3 k hk)) q1 (hOq.go hcl) hX2 (by show qE q + 1 ≤ _; omega) (fun j hj => (evP_o hj).trans (hWq j hj)) (by omega) (hstep.symm.trans hd))
  · refine PX.out rfl ⟨Nat.le_of_ble_eq_true rfl, Nat.le_of_ble_eq_true rfl⟩ ?_
    obtain ⟨rfl, kx, rfl⟩ := q_2
    exact ⟨thr_1 kx, rfl⟩
