theorem SQ.mk {h' : AH} {b p c u : Nat} {q' : Q4} {g : Nat → Int64} (h3 : aI h' b 3 = nI (qX q')) (he : EvW h' (b + 2) (qW q') (qE q')) (hp : PoR h' (b + 7 + 12 * p) c u (qF q') g) : SQ h' b p c u q' g := ⟨h3, he, hp⟩
set_option maxRecDepth 100000 in
set_option maxHeartbeats 4000000 in
theorem c_X6_addMember {l9 : Launch} {G : GC} {h : AH} {b : Nat} {p c u t : Nat} {q : Q4} {g : Nat → Int64} {r : Int32} (hW : World h) (hk : kd b 6) (hp4 : p < 4) (h2 : aI h b 2 = nI t) (hq : SQ h b p c u q g) (hO : PoOK (qF q) g c u) (h19 : nn (qF q 23) ≤ 19) (hE : qE q < 2 ^ 31) : PM l9 G mX6_addMember NT NT [.ref b, .int (nI p), .int r] h (fun v h' => v = some (.int (nI (qX q))) ∧ eqx h h' (SS b p) ∧ (∀ k, k ≠ 3 → aI h' b k = aI h b k) ∧ SQ h' b p c u (comQ p t r q) g) noX := by
  refine PM.of (by decide +kernel) rfl rfl (Nat.le_of_ble_eq_true rfl) (fun hst _ => ?_)
  obtain ⟨q1, q2, q3⟩ := hq
  have zm := q3.2.1
  have y23 : nn (qF q 23) ≤ 20 := (hO.at 23).2.2
  refine r_aload_n dX6_addMember_0 rfl ?_
  refine q_getI fl_X6_32 hW hk rfl dX6_addMember_1 ?_
  rw [q1]
  refine r_istore_n (ls2 := [_, _, some _, _]) dX6_addMember_4 (by decide) rfl ?_
  refine r_aload_n dX6_addMember_5 rfl ?_
  refine r_dup dX6_addMember_6 rfl ?_
  refine q_getI fl_X6_32 hW hk rfl dX6_addMember_7 ?_
  refine r_iconst (1) dX6_addMember_10 (by decide) ?_
  refine r_iadd dX6_addMember_11 ?_
  rw [q1, nI_1]
  refine q_putI fl_X6_32 hW hk rfl rfl dX6_addMember_12 ?_
  refine r_aload_n dX6_addMember_15 rfl ?_
  refine q_getR fl_X6_11 hW hk rfl (kl_6_0 hW hk) (Nat.succ_ne_zero _) dX6_addMember_16 ?_
  refine r_iload_n dX6_addMember_19 rfl ?_
  refine q_pald hW (kk_6_0 hk) rfl hp4 dX6_addMember_20 ?_
  refine q_getR fl_X6_49 hW (kk_14 (kk_6_0 hk).1 hp4) rfl (kl_3_1 hW (kk_14 (kk_6_0 hk).1 hp4)) (Nat.succ_ne_zero _) dX6_addMember_21 ?_
  refine r_iload_n dX6_addMember_24 rfl ?_
  refine r_aload_n dX6_addMember_25 rfl ?_
  refine q_getI fl_X6_29 hW hk rfl dX6_addMember_26 ?_
  refine r_iload_n dX6_addMember_29 rfl ?_
  rw [show aI (sI h b 3 (nI (qX q + 1))) b 2 = nI t from (sI_k (by decide)).trans h2]
  have zm2 : MemR (sI h b 3 (nI (qX q + 1))) (b + 7 + 12 * p + 3) (mbs (qF q)) := zm.cg (sI_o (by omega)) (sI_o (by omega)) (sI_o (by omega)) (sI_o (by omega)) (sI_o (by omega))
  refine q_callV3 (cv_X1_add ml_X6_53) hW (kk_3_1 (kk_14 (kk_6_0 hk).1 hp4)) (by decide) rfl ⟨rfl, rfl⟩ rfl (Nat.le_of_ble_eq_true rfl) dX6_addMember_30 (c_X1_add hW (kk_3_1 (kk_14 (kk_6_0 hk).1 hp4)) zm2 (by rw [mbs_len]; omega)) (fun v_30 h_30 q_30 => ?_)
  obtain ⟨rfl, he1, hm1⟩ := q_30
  have hW := he1.W (wsI hW)
  refine r_aload_n dX6_addMember_33 rfl ?_
  refine q_getR fl_X6_20 hW hk rfl (kl_6_4 hW hk) (Nat.succ_ne_zero _) dX6_addMember_34 ?_
  refine r_aload_n dX6_addMember_37 rfl ?_
  refine q_getI fl_X6_29 hW hk rfl dX6_addMember_38 ?_
  refine r_iconst (0) dX6_addMember_41 (by decide) ?_
  refine r_iload_n dX6_addMember_42 rfl ?_
  refine r_iload_n dX6_addMember_43 rfl ?_
  rw [show aI h_30 b 2 = nI t from by rw [he1.I (by unfold btw; omega)]; exact (sI_k (by decide)).trans h2]
  have q22 : EvW h_30 (b + 2) (qW q) (qE q) := (q2.eqx (eqx.rf.sI (S := fun i => i = b) rfl) (fun i h1 h2 q => by omega)).eqx he1 (fun i h1 h2 => by unfold btw; omega)
  refine q_callV4 (cv_X0_add ml_X6_65) hW (kk_6_4 hk) (by decide) rfl ⟨rfl, rfl⟩ rfl (Nat.le_of_ble_eq_true rfl) dX6_addMember_44 (c_X0_add hW (kk_6_4 hk) q22 hE) (fun v_44 h_44 q_44 => ?_)
  obtain ⟨rfl, he2, hm2⟩ := q_44
  refine r_iload_n dX6_addMember_47 rfl ?_
  refine r_iret dX6_addMember_48 rfl ⟨Nat.zero_le _, Nat.zero_le _⟩ ?_
  have e1 : eqx h h_44 (SS b p) := (eqx.sI (eqx.rf (S := SS b p)) (i := b) (Or.inl rfl)).tr ((he1.wk (fun i zi => by unfold SS btw at *; omega)).tr (he2.wk (fun i zi => by unfold SS btw at *; omega)))
  have eb : aI h_44 b = upd (aI h b) 3 (nI (qX q + 1)) := by rw [he2.I (by unfold btw; omega), he1.I (by unfold btw; omega), sI_r]
  refine ⟨rfl, e1, fun k hk9 => by rw [eb]; exact pk_un hk9, SQ.mk (by rw [eb]; exact pk_us) hm2 ?_⟩
  have p1 : PoR (sI h b 3 (nI (qX q + 1))) (b + 7 + 12 * p) c u (qF q) g := q3.cg (fun i h1 h2 => sI_o (by omega)) rfl
  have p2 : PoR h_30 (b + 7 + 12 * p) c u (joF (qF q) (nI (qX q)) (nI t) r) g := po_mem p1 (hO.at 24).2.2 (he1.wk (fun i zi => by unfold btw at *; omega)) (by rw [mbs_joF ⟨(hO.at 23).1, Nat.zero_le _, h19⟩]; exact hm1) (fun k hk9 => joF_o hk9)
  exact p2.eqx he2 (fun i h1 h2 => by unfold btw; omega)

set_option maxRecDepth 100000 in
set_option maxHeartbeats 4000000 in
theorem c_X6_removeMember {l9 : Launch} {G : GC} {h : AH} {b : Nat} {p c u t : Nat} {q : Q4} {g : Nat → Int64} {x : Nat} (hW : World h) (hk : kd b 6) (hp4 : p < 4) (h2 : aI h b 2 = nI t) (hq : SQ h b p c u q g) (hO : PoOK (qF q) g c u) (hx : x < nn (qF q 23)) (hE : qE q < 2 ^ 31) : PM l9 G mX6_removeMember NT NT [.ref b, .int (nI p), .int (nI x)] h (fun v h' => v = none ∧ eqx h h' (SS b p) ∧ aI h' b = aI h b ∧ SQ h' b p c u (goQ p t x q) g) noX := by
  refine PM.of (by decide +kernel) rfl rfl (Nat.le_of_ble_eq_true rfl) (fun hst _ => ?_)
  obtain ⟨q1, q2, q3⟩ := hq
  have zm := q3.2.1
  have y23 : nn (qF q 23) ≤ 20 := (hO.at 23).2.2
  have hx2 : x < (mbs (qF q)).length := by rw [mbs_len]; exact hx
  refine r_aload_n dX6_removeMember_0 rfl ?_
  refine q_getR fl_X6_11 hW hk rfl (kl_6_0 hW hk) (Nat.succ_ne_zero _) dX6_removeMember_1 ?_
  refine r_iload_n dX6_removeMember_4 rfl ?_
  refine q_pald hW (kk_6_0 hk) rfl hp4 dX6_removeMember_5 ?_
  refine q_getR fl_X6_49 hW (kk_14 (kk_6_0 hk).1 hp4) rfl (kl_3_1 hW (kk_14 (kk_6_0 hk).1 hp4)) (Nat.succ_ne_zero _) dX6_removeMember_6 ?_
  refine r_astore_n (ls2 := [_, _, some _, _]) dX6_removeMember_9 (by decide) rfl ?_
  refine r_aload_n dX6_removeMember_10 rfl ?_
  refine r_iload_n dX6_removeMember_11 rfl ?_
  refine q_callV1 (cv_X1_has ml_X6_68) hW (kk_3_1 (kk_14 (kk_6_0 hk).1 hp4)) (by decide) rfl ⟨rfl, rfl⟩ rfl (Nat.le_of_ble_eq_true rfl) dX6_removeMember_12 (c_X1_hasL hW (kk_3_1 (kk_14 (kk_6_0 hk).1 hp4)) zm hx2) (fun v_12 h_12 q_12 => ?_)
  obtain ⟨rfl, z9⟩ := q_12
  replace z9 := z9.symm
  subst z9
  refine r_if_eq 42 dX6_removeMember_15 (by decide) (fun c_15 => ?_) (fun c_15 => ?_)
  · exact absurd c_15 (by decide)
  · refine r_aload_n dX6_removeMember_18 rfl ?_
    refine q_getR fl_X6_20 hW hk rfl (kl_6_4 hW hk) (Nat.succ_ne_zero _) dX6_removeMember_19 ?_
    refine r_aload_n dX6_removeMember_22 rfl ?_
    refine q_getI fl_X6_29 hW hk rfl dX6_removeMember_23 ?_
    refine r_iconst (1) dX6_removeMember_26 (by decide) ?_
    refine r_iload_n dX6_removeMember_27 rfl ?_
    refine r_aload_n dX6_removeMember_28 rfl ?_
    refine q_getR fl_X6_72 hW (kk_3_1 (kk_14 (kk_6_0 hk).1 hp4)) rfl (kl_1_0 hW (kk_3_1 (kk_14 (kk_6_0 hk).1 hp4))) (Nat.succ_ne_zero _) dX6_removeMember_29 ?_
    refine r_iload_n dX6_removeMember_32 rfl ?_
    refine q_iald hW (kk_1_0 (kk_3_1 (kk_14 (kk_6_0 hk).1 hp4))) (k := x) rfl (by omega) (by decide) dX6_removeMember_33 ?_
    rw [h2, show aI h (b + 1 + 6 + 12 * p + 3 + 1) x = qF q (100 + 4 * x) from ((zm.2.2 x hx2).1).trans (mbs_num hx)]
    refine q_callV4 (cv_X0_add ml_X6_65) hW (kk_6_4 hk) (by decide) rfl ⟨rfl, rfl⟩ rfl (Nat.le_of_ble_eq_true rfl) dX6_removeMember_34 (c_X0_add hW (kk_6_4 hk) q2 hE) (fun v_34 h_34 q_34 => ?_)
    obtain ⟨rfl, he1, hm1⟩ := q_34
    have hW := he1.W hW
    have zm2 : MemR h_34 (b + 7 + 12 * p + 3) (mbs (qF q)) := zm.eqx he1 (fun i h1 h2 => by unfold btw; omega)
    refine r_aload_n dX6_removeMember_37 rfl ?_
    refine r_iload_n dX6_removeMember_38 rfl ?_
    refine q_callV1 (cv_X1_removeAt ml_X6_76) hW (kk_3_1 (kk_14 (kk_6_0 hk).1 hp4)) (by decide) rfl ⟨rfl, rfl⟩ rfl (Nat.le_of_ble_eq_true rfl) dX6_removeMember_39 (c_X1_removeAt hW (kk_3_1 (kk_14 (kk_6_0 hk).1 hp4)) zm2 hx2) (fun v_39 h_39 q_39 => ?_)
    obtain ⟨rfl, he2, hm2⟩ := q_39
    refine r_vret dX6_removeMember_42 rfl ⟨Nat.zero_le _, Nat.zero_le _⟩ ?_
    have e1 : eqx h h_39 (SS b p) := (he1.wk (fun i zi => by unfold SS btw at *; omega)).tr (he2.wk (fun i zi => by unfold SS btw at *; omega))
    have eb : aI h_39 b = aI h b := by rw [he2.I (by unfold btw; omega), he1.I (by unfold btw; omega)]
    refine ⟨rfl, e1, eb, SQ.mk (by rw [eb]; exact q1) (hm1.eqx he2 (fun i h1 h2 => by unfold btw; omega)) ?_⟩
    have p1 : PoR h_34 (b + 7 + 12 * p) c u (qF q) g := q3.eqx he1 (fun i h1 h2 => by unfold btw; omega)
    exact po_mem p1 (hO.at 24).2.2 (he2.wk (fun i zi => by unfold btw at *; omega)) (by show MemR _ _ (mbs (goF (qF q) x)); rw [mbs_goF (hO.at 23) hx]; exact hm2) (fun k hk9 => goF_o hk9)

set_option maxRecDepth 100000 in
set_option maxHeartbeats 4000000 in
theorem c_X6_addLacking {l9 : Launch} {G : GC} {h : AH} {b : Nat} {p c u t : Nat} {q : Q4} {g : Nat → Int64} (hW : World h) (hk : kd b 6) (hp4 : p < 4) (h2 : aI h b 2 = nI t) (hq : SQ h b p c u q g) (hO : PoOK (qF q) g c u) (h19 : rg (qF q 19) 0 20) (hgt : nn (qF q 23) ≤ nn (qF q 19)) (hE : qE q < 2 ^ 30) : PM l9 G mX6_addLacking NT NT [.ref b, .int (nI p)] h (fun v h' => v = none ∧ eqx h h' (SS b p) ∧ (∀ k, k ≠ 3 → aI h' b k = aI h b k) ∧ SQ h' b p c u (grS p t (nI t + 1 + qF q 4) (grN (qF q)) q) g) noX := by
  refine PM.of (by decide +kernel) rfl rfl (Nat.le_of_ble_eq_true rfl) (fun hst _ => ?_)
  have qs := hq
  obtain ⟨q1, q2, q3⟩ := hq
  have zm := q3.2.1
  have zs := q3.1
  obtain ⟨z20, z18, z19, z17, z21, z22, z16⟩ := q3.2.2.2.2.2
  have y23 : nn (qF q 23) ≤ 20 := (hO.at 23).2.2
  have yw : nn (qF q 19) ≤ 20 := h19.2.2
  have zl : aI h (b + 7 + 12 * p + 3) 4 = qF q 23 := by rw [zm.1, mbs_len]; exact (hO.at 23).1.symm
  have yn : imn (qF q 10) (qF q 19 - qF q 23) = nI (grN (qF q)) := by
    rw [h19.1, (hO.at 23).1, pk_sub hgt]
    have z := rg_imn (hO.at 10) (rg_I (Nat.le_refl (nn (qF q 19) - nn (qF q 23))) (Nat.le_refl _) (by omega)) (by decide) (by omega)
    rw [nn_I (by omega)] at z
    rw [z]
    rfl
  have yN : grN (qF q) ≤ 5 ∧ nn (qF q 23) + grN (qF q) ≤ 20 := by
    have h10 : nn (qF q 10) ≤ 5 := (hO.at 10).2.2
    unfold grN; omega
  refine r_aload_n dX6_addLacking_0 rfl ?_
  refine q_getR fl_X6_11 hW hk rfl (kl_6_0 hW hk) (Nat.succ_ne_zero _) dX6_addLacking_1 ?_
  refine r_iload_n dX6_addLacking_4 rfl ?_
  refine q_pald hW (kk_6_0 hk) rfl hp4 dX6_addLacking_5 ?_
  refine r_astore_n (ls2 := [_, some _, _, _, _]) dX6_addLacking_6 (by decide) rfl ?_
  refine r_aload_n dX6_addLacking_7 rfl ?_
  refine q_getR fl_X6_101 hW (kk_14 (kk_6_0 hk).1 hp4) rfl (kl_3_0 hW (kk_14 (kk_6_0 hk).1 hp4)) (Nat.succ_ne_zero _) dX6_addLacking_8 ?_
  refine q_getI fl_X6_105 hW (kk_3_0 (kk_14 (kk_6_0 hk).1 hp4)) rfl dX6_addLacking_11 ?_
  refine r_aload_n dX6_addLacking_14 rfl ?_
  refine q_getI fl_X6_110 hW (kk_14 (kk_6_0 hk).1 hp4) rfl dX6_addLacking_15 ?_
  refine r_aload_n dX6_addLacking_18 rfl ?_
  refine q_getR fl_X6_49 hW (kk_14 (kk_6_0 hk).1 hp4) rfl (kl_3_1 hW (kk_14 (kk_6_0 hk).1 hp4)) (Nat.succ_ne_zero _) dX6_addLacking_19 ?_
  refine q_getI fl_X6_58 hW (kk_3_1 (kk_14 (kk_6_0 hk).1 hp4)) rfl dX6_addLacking_22 ?_
  refine r_isub dX6_addLacking_25 ?_
  rw [show aI h (b + 1 + 6 + 12 * p + 1) 10 = qF q 10 from zs.1 10 (by decide), show aI h (b + 1 + 6 + 12 * p) 8 = qF q 19 from z19, show aI h (b + 1 + 6 + 12 * p + 3) 4 = qF q 23 from zl]
  refine q_min mm_X6_113 rfl (Nat.le_of_ble_eq_true rfl) dX6_addLacking_26 ?_
  rw [yn]
  refine r_istore_n (ls2 := [_, _, some _, _, _]) dX6_addLacking_29 (by decide) rfl ?_
  refine r_iconst (0) dX6_addLacking_30 (by decide) ?_
  refine r_istore (ls2 := [_, _, _, some _, _]) dX6_addLacking_31 (by decide) rfl ?_
  refine loopN (P := fun i => ∀ H, i ≤ grN (qF q) → eqx h H (SS b p) → (∀ k, k ≠ 3 → aI H b k = aI h b k) → SQ H b p c u (grS p t (nI t + 1 + qF q 4) i q) g → PW l9 G mX6_addLacking _ _ NT 33 [some (.ref b), some (.int (nI p)), some (.ref (b + 1 + 6 + 12 * p)), some (.int (nI (grN (qF q)))), some (.int (nI i))] [] (0, 0) H) (grN (qF q)) (fun i ih H hi he hb hs => ?_) 0 h (Nat.zero_le _) eqx.rf (fun _ _ => rfl) qs
  have hWH := he.W hW
  refine r_iload dX6_addLacking_33 rfl ?_
  refine r_iload_n dX6_addLacking_35 rfl ?_
  refine r_icmp_ge 65 dX6_addLacking_36 (by decide) (fun c_36 => ?_) (fun c_36 => ?_)
  · have hge : grN (qF q) = i := by have := (nI_leI (by omega) (by omega)).mp c_36; omega
    refine r_vret dX6_addLacking_65 rfl ⟨Nat.zero_le _, Nat.zero_le _⟩ ?_
    rw [hge]; exact ⟨rfl, he, hb, hs⟩
  · have hlt : i < grN (qF q) := (nI_ltI (by omega) (by omega)).mp (i_lt.mp c_36)
    obtain ⟨i1, i2, i3, i4, i5⟩ := zr_ok (p := p) (t := t) (r := nI t + 1 + qF q 4) (n := i) hO (by omega)
    have h2H : aI H b 2 = nI t := (hb 2 (by decide)).trans h2
    have hsH := hs
    obtain ⟨s1, s2, s3⟩ := hs
    have y4 : aI H (b + 1 + 6 + 12 * p + 1) 4 = qF q 4 := (s3.1.1 4 (by decide)).trans (i5 4 (by decide))
    refine r_aload_n dX6_addLacking_39 rfl ?_
    refine r_iload_n dX6_addLacking_40 rfl ?_
    refine r_aload_n dX6_addLacking_41 rfl ?_
    refine q_getI fl_X6_29 hWH hk rfl dX6_addLacking_42 ?_
    refine r_iconst (1) dX6_addLacking_45 (by decide) ?_
    refine r_iadd dX6_addLacking_46 ?_
    refine r_aload_n dX6_addLacking_47 rfl ?_
    refine q_getR fl_X6_101 hWH (kk_14 (kk_6_0 hk).1 hp4) rfl (kl_3_0 hWH (kk_14 (kk_6_0 hk).1 hp4)) (Nat.succ_ne_zero _) dX6_addLacking_48 ?_
    refine q_getI fl_X6_119 hWH (kk_3_0 (kk_14 (kk_6_0 hk).1 hp4)) rfl dX6_addLacking_51 ?_
    refine r_iadd dX6_addLacking_54 ?_
    rw [h2H, y4]
    refine q_callV2 (cv_X6_addMember ml_X6_122) hWH hk (by decide) rfl ⟨rfl, rfl⟩ rfl (Nat.le_of_ble_eq_true rfl) dX6_addLacking_55 (c_X6_addMember hWH hk hp4 h2H hsH i1 (by omega) (by omega)) (fun v_55 h_55 q_55 => ?_)
    obtain ⟨rfl, he1, hb1, hs1⟩ := q_55
    refine r_pop dX6_addLacking_58 rfl ?_
    refine r_iinc (1) (by decide) (ls2 := [_, _, _, some _, _]) dX6_addLacking_59 rfl (by decide) rfl ?_
    refine r_goto 33 dX6_addLacking_62 (by decide) ?_
    rw [nI_1 i]
    exact ih hlt _ hlt (he.tr he1) (fun k hk9 => (hb1 k hk9).trans (hb k hk9)) hs1

set_option maxRecDepth 100000 in
set_option maxHeartbeats 4000000 in
theorem c_X6_removeTooMany {l9 : Launch} {G : GC} {h : AH} {b : Nat} {p c u t : Nat} {q : Q4} {g : Nat → Int64} (hW : World h) (hk : kd b 6) (hp4 : p < 4) (h2 : aI h b 2 = nI t) (hq : SQ h b p c u q g) (hO : PoOK (qF q) g c u) (h19 : rg (qF q 19) 0 20) (hgt : nn (qF q 19) ≤ nn (qF q 23)) (hE : qE q < 2 ^ 30) : PM l9 G mX6_removeTooMany NT NT [.ref b, .int (nI p)] h (fun v h' => v = none ∧ eqx h h' (SS b p) ∧ (∀ k, k ≠ 3 → aI h' b k = aI h b k) ∧ SQ h' b p c u (shS p t (shN (qF q)) q) g) noX := by
  refine PM.of (by decide +kernel) rfl rfl (Nat.le_of_ble_eq_true rfl) (fun hst _ => ?_)
  have qs := hq
  obtain ⟨q1, q2, q3⟩ := hq
  have zm := q3.2.1
  have zs := q3.1
  obtain ⟨z20, z18, z19, z17, z21, z22, z16⟩ := q3.2.2.2.2.2
  have y23 : nn (qF q 23) ≤ 20 := (hO.at 23).2.2
  have yw : nn (qF q 19) ≤ 20 := h19.2.2
  have zl : aI h (b + 7 + 12 * p + 3) 4 = qF q 23 := by rw [zm.1, mbs_len]; exact (hO.at 23).1.symm
  have yn : imn (qF q 11) (qF q 23 - qF q 19) = nI (shN (qF q)) := by
    rw [h19.1, (hO.at 23).1, pk_sub hgt]
    have z := rg_imn (hO.at 11) (rg_I (Nat.le_refl (nn (qF q 23) - nn (qF q 19))) (Nat.le_refl _) (by omega)) (by decide) (by omega)
    rw [nn_I (by omega)] at z
    rw [z]
    rfl
  have yN : shN (qF q) ≤ 5 := by
    have h11 : nn (qF q 11) ≤ 5 := (hO.at 11).2.2
    unfold shN; omega
  refine r_aload_n dX6_removeTooMany_0 rfl ?_
  refine q_getR fl_X6_11 hW hk rfl (kl_6_0 hW hk) (Nat.succ_ne_zero _) dX6_removeTooMany_1 ?_
  refine r_iload_n dX6_removeTooMany_4 rfl ?_
  refine q_pald hW (kk_6_0 hk) rfl hp4 dX6_removeTooMany_5 ?_
  refine r_astore_n (ls2 := [_, some _, _, _, _, _]) dX6_removeTooMany_6 (by decide) rfl ?_
  refine r_aload_n dX6_removeTooMany_7 rfl ?_
  refine q_getR fl_X6_101 hW (kk_14 (kk_6_0 hk).1 hp4) rfl (kl_3_0 hW (kk_14 (kk_6_0 hk).1 hp4)) (Nat.succ_ne_zero _) dX6_removeTooMany_8 ?_
  refine q_getI fl_X6_125 hW (kk_3_0 (kk_14 (kk_6_0 hk).1 hp4)) rfl dX6_removeTooMany_11 ?_
  refine r_aload_n dX6_removeTooMany_14 rfl ?_
  refine q_getR fl_X6_49 hW (kk_14 (kk_6_0 hk).1 hp4) rfl (kl_3_1 hW (kk_14 (kk_6_0 hk).1 hp4)) (Nat.succ_ne_zero _) dX6_removeTooMany_15 ?_
  refine q_getI fl_X6_58 hW (kk_3_1 (kk_14 (kk_6_0 hk).1 hp4)) rfl dX6_removeTooMany_18 ?_
  refine r_aload_n dX6_removeTooMany_21 rfl ?_
  refine q_getI fl_X6_110 hW (kk_14 (kk_6_0 hk).1 hp4) rfl dX6_removeTooMany_22 ?_
  refine r_isub dX6_removeTooMany_25 ?_
  rw [show aI h (b + 1 + 6 + 12 * p + 1) 11 = qF q 11 from zs.1 11 (by decide), show aI h (b + 1 + 6 + 12 * p) 8 = qF q 19 from z19, show aI h (b + 1 + 6 + 12 * p + 3) 4 = qF q 23 from zl]
  refine q_min mm_X6_113 rfl (Nat.le_of_ble_eq_true rfl) dX6_removeTooMany_26 ?_
  rw [yn]
  refine r_istore_n (ls2 := [_, _, some _, _, _, _]) dX6_removeTooMany_29 (by decide) rfl ?_
  refine r_iconst (0) dX6_removeTooMany_30 (by decide) ?_
  refine r_istore (ls2 := [_, _, _, some _, _, _]) dX6_removeTooMany_31 (by decide) rfl ?_
  refine loopN (P := fun i => ∀ (H : AH) (w : Option Value), i ≤ shN (qF q) → eqx h H (SS b p) → (∀ k, k ≠ 3 → aI H b k = aI h b k) → SQ H b p c u (shS p t i q) g → PW l9 G mX6_removeTooMany _ _ NT 33 [some (.ref b), some (.int (nI p)), some (.ref (b + 1 + 6 + 12 * p)), some (.int (nI (shN (qF q)))), some (.int (nI i)), w] [] (0, 0) H) (shN (qF q)) (fun i ih H w hi he hb hs => ?_) 0 h none (Nat.zero_le _) eqx.rf (fun _ _ => rfl) qs
  have hWH := he.W hW
  refine r_iload dX6_removeTooMany_33 rfl ?_
  refine r_iload_n dX6_removeTooMany_35 rfl ?_
  refine r_icmp_ge 74 dX6_removeTooMany_36 (by decide) (fun c_36 => ?_) (fun c_36 => ?_)
  · have hge : shN (qF q) = i := by have := (nI_leI (by omega) (by omega)).mp c_36; omega
    refine r_vret dX6_removeTooMany_74 rfl ⟨Nat.zero_le _, Nat.zero_le _⟩ ?_
    rw [hge]; exact ⟨rfl, he, hb, hs⟩
  · have hlt : i < shN (qF q) := (nI_ltI (by omega) (by omega)).mp (i_lt.mp c_36)
    obtain ⟨i1, i2, i3, i4, i5⟩ := sh_ok (p := p) (t := t) (n := i) hO
    have h2H : aI H b 2 = nI t := (hb 2 (by decide)).trans h2
    have hsH := hs
    obtain ⟨s1, s2, s3⟩ := hs
    have smz := s3.2.1
    have y9 : aI H (b + 1 + 6 + 12 * p + 1) 9 = qF (shS p t i q) 9 := s3.1.1 9 (by decide)
    refine r_aload_n dX6_removeTooMany_39 rfl ?_
    refine q_getR fl_X6_49 hWH (kk_14 (kk_6_0 hk).1 hp4) rfl (kl_3_1 hWH (kk_14 (kk_6_0 hk).1 hp4)) (Nat.succ_ne_zero _) dX6_removeTooMany_40 ?_
    refine r_aload_n dX6_removeTooMany_43 rfl ?_
    refine q_getR fl_X6_101 hWH (kk_14 (kk_6_0 hk).1 hp4) rfl (kl_3_0 hWH (kk_14 (kk_6_0 hk).1 hp4)) (Nat.succ_ne_zero _) dX6_removeTooMany_44 ?_
    refine q_getI fl_X6_128 hWH (kk_3_0 (kk_14 (kk_6_0 hk).1 hp4)) rfl dX6_removeTooMany_47 ?_
    rw [y9]
    refine q_callV1 (cv_X1_nextToGo ml_X6_131) hWH (kk_3_1 (kk_14 (kk_6_0 hk).1 hp4)) (by decide) rfl ⟨rfl, rfl⟩ rfl (Nat.le_of_ble_eq_true rfl) dX6_removeTooMany_50 (c_X1_nextToGo hWH (kk_3_1 (kk_14 (kk_6_0 hk).1 hp4)) smz) (fun v_50 h_50 q_50 => ?_)
    obtain ⟨rfl, z9⟩ := q_50
    replace z9 := z9.symm
    subst z9
    refine r_istore (ls2 := [_, _, _, _, some _, _]) dX6_removeTooMany_53 (by decide) rfl ?_
    refine r_iload dX6_removeTooMany_55 rfl ?_
    refine r_if_ge 61 dX6_removeTooMany_57 (by decide) (fun c_57 => ?_) (fun c_57 => ?_)
    · obtain ⟨k, hk9⟩ : ∃ k, nxQ (shS p t i q) = some k := by
        cases hq9 : nxQ (shS p t i q) with
        | none =>
          have hq8 : ng (mbs (qF (shS p t i q))) (qF (shS p t i q) 9) (mbs (qF (shS p t i q))).length = none := hq9
          rw [hq8] at c_57
          exact absurd c_57 (by decide)
        | some k => exact ⟨k, rfl⟩
      have hk8 : ng (mbs (qF (shS p t i q))) (qF (shS p t i q) 9) (mbs (qF (shS p t i q))).length = some k := hk9
      have hk7 := nxQ_lt hk9
      rw [hk8]
      refine r_aload_n dX6_removeTooMany_61 rfl ?_
      refine r_iload_n dX6_removeTooMany_62 rfl ?_
      refine r_iload dX6_removeTooMany_63 rfl ?_
      refine q_callV2 (cv_X6_removeMember ml_X6_134) hWH hk (by decide) rfl ⟨rfl, rfl⟩ rfl (Nat.le_of_ble_eq_true rfl) dX6_removeTooMany_65 (c_X6_removeMember hWH hk hp4 h2H hsH i1 hk7 (by omega)) (fun v_65 h_65 q_65 => ?_)
      obtain ⟨rfl, he1, hb1, hs1⟩ := q_65
      refine r_iinc (1) (by decide) (ls2 := [_, _, _, some _, _, _]) dX6_removeTooMany_68 rfl (by decide) rfl ?_
      refine r_goto 33 dX6_removeTooMany_71 (by decide) ?_
      rw [nI_1]
      rw [← shS_go hk9] at hs1
      exact ih hlt _ _ hlt (he.tr he1) (fun k hk9 => (congrFun hb1 k).trans (hb k hk9)) hs1
    · have hno : nxQ (shS p t i q) = none := by
        cases hq9 : nxQ (shS p t i q) with
        | none => rfl
        | some k =>
          have := nxQ_lt hq9
          have hq8 : ng (mbs (qF (shS p t i q))) (qF (shS p t i q) 9) (mbs (qF (shS p t i q))).length = some k := hq9
          rw [hq8] at c_57
          exact absurd (nI_pos' (n := k) (by omega)) c_57
      refine r_vret dX6_removeTooMany_60 rfl ⟨Nat.zero_le _, Nat.zero_le _⟩ ?_
      rw [shS_stop hno (shN (qF q)) hi]; exact ⟨rfl, he, hb, hsH⟩

set_option maxRecDepth 100000 in
set_option maxHeartbeats 4000000 in
theorem c_X6_passPhases {l9 : Launch} {G : GC} {h : AH} {b : Nat} {p t : Nat} {q : Q4} {g : Nat → Int64} (hW : World h) (hk : kd b 6) (hp4 : p < 4) (h2 : aI h b 2 = nI t) (hq : SQ h b p t t q g) (hO : PoOK (qF q) g t t) (ht : t + 1 < 2 ^ 30) (hE : qE q < 2 ^ 30) : PM l9 G mX6_passPhases NT NT [.ref b, .int (nI p)] h (fun v h' => v = none ∧ eqx h h' (SS b p) ∧ (∀ k, k ≠ 3 → aI h' b k = aI h b k) ∧ SQ h' b p (t + 1) (t + 1) (pasQ p t q) (pasG (qF q) g t)) noX := by
  refine PM.of (by decide +kernel) rfl rfl (Nat.le_of_ble_eq_true rfl) (fun hst _ => ?_)
  obtain ⟨q1, q2, q3⟩ := hq
  have hO1 := hO.met ht
  have hO2 := hO1.er (u := t) (d := metF (qF q) t (60 + t % 24))
  have hO3 := hO2.loo
  have hO4 := hO3.dec (u := t)
  have hlim := gr_lim hO3 (szF_rg hO2 |> (fun z => by rw [looF_19]; exact z))
  refine r_aload_n dX6_passPhases_0 rfl ?_
  refine q_getR fl_X6_11 hW hk rfl (kl_6_0 hW hk) (Nat.succ_ne_zero _) dX6_passPhases_1 ?_
  refine r_iload_n dX6_passPhases_4 rfl ?_
  refine q_pald hW (kk_6_0 hk) rfl hp4 dX6_passPhases_5 ?_
  refine r_astore_n (ls2 := [_, some _, _]) dX6_passPhases_6 (by decide) rfl ?_
  refine r_aload_n dX6_passPhases_7 rfl ?_
  refine r_aload_n dX6_passPhases_8 rfl ?_
  refine q_getI fl_X6_29 hW hk rfl dX6_passPhases_9 ?_
  rw [h2]
  refine q_callV1 (cv_X3_meetDemand ml_X6_83) hW (kk_14 (kk_6_0 hk).1 hp4) (by decide) rfl ⟨rfl, rfl⟩ rfl (Nat.le_of_ble_eq_true rfl) dX6_passPhases_12 (c_X3_meetDemand hW (kk_14 (kk_6_0 hk).1 hp4) q3 hO) (fun v_12 h_12 q_12 => ?_)
  obtain ⟨rfl, he1, hp1⟩ := q_12
  have hW := he1.W hW
  refine r_aload_n dX6_passPhases_15 rfl ?_
  refine r_aload_n dX6_passPhases_16 rfl ?_
  refine q_getI fl_X6_29 hW hk rfl dX6_passPhases_17 ?_
  rw [show aI h_12 b 2 = nI t from by rw [he1.I (by unfold btw; omega)]; exact h2]
  refine q_callV1 (cv_X3_lookAhead ml_X6_86) hW (kk_14 (kk_6_0 hk).1 hp4) (by decide) rfl ⟨rfl, rfl⟩ rfl (Nat.le_of_ble_eq_true rfl) dX6_passPhases_20 (c_X3_lookAhead hW (kk_14 (kk_6_0 hk).1 hp4) hp1 hO1) (fun v_20 h_20 q_20 => ?_)
  obtain ⟨rfl, he2, hp2⟩ := q_20
  have hW := he2.W hW
  refine r_aload_n dX6_passPhases_23 rfl ?_
  refine r_aload_n dX6_passPhases_24 rfl ?_
  refine q_getI fl_X6_29 hW hk rfl dX6_passPhases_25 ?_
  rw [show aI h_20 b 2 = nI t from by rw [he2.I (by unfold btw; omega), he1.I (by unfold btw; omega)]; exact h2]
  refine q_callV1 (cv_X3_decide ml_X6_89) hW (kk_14 (kk_6_0 hk).1 hp4) (by decide) rfl ⟨rfl, rfl⟩ rfl (Nat.le_of_ble_eq_true rfl) dX6_passPhases_28 (c_X3_decide hW (kk_14 (kk_6_0 hk).1 hp4) hp2 hO3) (fun v_28 h_28 q_28 => ?_)
  obtain ⟨rfl, he3, hp3⟩ := q_28
  have hW := he3.W hW
  have eb : aI h_28 b = aI h b := by rw [he3.I (by unfold btw; omega), he2.I (by unfold btw; omega), he1.I (by unfold btw; omega)]
  have e8 : eqx h h_28 (SS b p) := (he1.wk (fun i zi => by unfold SS btw at *; omega)).tr ((he2.wk (fun i zi => by unfold SS btw at *; omega)).tr (he3.wk (fun i zi => by unfold SS btw at *; omega)))
  have hE8 : EvW h_28 (b + 2) (qW q) (qE q) := ((q2.eqx he1 (fun i h1 h2 => by unfold btw; omega)).eqx he2 (fun i h1 h2 => by unfold btw; omega)).eqx he3 (fun i h1 h2 => by unfold btw; omega)
  obtain ⟨F, eF⟩ : ∃ F, F = pasF (qF q) t := ⟨_, rfl⟩
  obtain ⟨G8, eG⟩ : ∃ G8, G8 = pasG (qF q) g t := ⟨_, rfl⟩
  obtain ⟨q8, e8q⟩ : ∃ z : Q4, z = (decF F t, qW q, qX q, qE q) := ⟨_, rfl⟩
  have f8 : qF q8 = decF F t := by rw [e8q]; rfl
  have x8 : qX q8 = qX q := by rw [e8q]; rfl
  have w8 : qW q8 = qW q := by rw [e8q]; rfl
  have v8 : qE q8 = qE q := by rw [e8q]; rfl
  have hp8 : PoR h_28 (b + 7 + 12 * p) (t + 1) (t + 1) (qF q8) G8 := by rw [f8, eF, eG]; exact hp3
  have hO3' : PoOK F G8 (t + 1) (t + 1) := by rw [eF, eG]; exact hO3
  have hO8 : PoOK (qF q8) G8 (t + 1) (t + 1) := by rw [f8]; exact hO3'.dec
  have l19 : rg (F 19) 0 20 := by rw [eF]; exact pasF_19 hO ht
  have l23 : rg (F 23) 0 20 := hO3'.at 23
  clear hp3 hO4 hO3 hO2 hO1 hlim
  have hq8 : SQ h_28 b p (t + 1) (t + 1) q8 G8 := SQ.mk (by rw [eb, x8]; exact q1) (by rw [w8, v8]; exact hE8) hp8
  have h28 : aI h_28 b 2 = nI t := by rw [eb]; exact h2
  have z17 : aI h_28 (b + 7 + 12 * p) 9 = nI (deF F t) := hp8.2.2.2.2.2.2.2.2.1.trans (by rw [f8]; exact decF_17)
  have y6 := deF_lt F t
  have e0 : nI (deF F t) = 0 ↔ deF F t = 0 := nI_eq (b := 0) (by omega) (by decide)
  have e1 : nI (deF F t) = 1 ↔ deF F t = 1 := nI_eq (b := 1) (by omega) (by decide)
  have d19 : qF q8 19 = F 19 := by rw [f8]; exact decF_o (by omega)
  have d23 : qF q8 23 = F 23 := by rw [f8]; exact decF_o (by omega)
  have d4 : qF q8 4 = F 4 := by rw [f8]; exact decF_o (by omega)
  have d10 : qF q8 10 = F 10 := by rw [f8]; exact decF_o (by omega)
  have d11 : qF q8 11 = F 11 := by rw [f8]; exact decF_o (by omega)
  have h19 : rg (qF q8 19) 0 20 := by rw [d19]; exact l19
  have hE9 : qE q8 < 2 ^ 30 := by rw [v8]; exact hE
  have dg : grN (qF q8) = grN F := by unfold grN; rw [d10, d19, d23]
  have ds : shN (qF q8) = shN F := by unfold shN; rw [d11, d19, d23]
  refine r_aload_n dX6_passPhases_31 rfl ?_
  refine q_getI fl_X6_92 hW (kk_14 (kk_6_0 hk).1 hp4) rfl dX6_passPhases_32 ?_
  rw [show aI h_28 (b + 1 + 6 + 12 * p) 9 = nI (deF F t) from z17]
  refine r_if_ne 46 dX6_passPhases_35 (by decide) (fun c_35 => ?_) (fun c_35 => ?_)
  · refine r_aload_n dX6_passPhases_46 rfl ?_
    refine q_getI fl_X6_92 hW (kk_14 (kk_6_0 hk).1 hp4) rfl dX6_passPhases_47 ?_
    rw [show aI h_28 (b + 1 + 6 + 12 * p) 9 = nI (deF F t) from z17]
    refine r_iconst (1) dX6_passPhases_50 (by decide) ?_
    refine r_icmp_ne 59 dX6_passPhases_51 (by decide) (fun c_51 => ?_) (fun c_51 => ?_)
    · skip
      refine r_vret dX6_passPhases_59 rfl ⟨Nat.zero_le _, Nat.zero_le _⟩ ?_
      unfold pasQ actQ
      rw [← eF, ← e8q, ← eG]
      first
        | (rw [if_pos k0]
           refine ⟨rfl, e8.tr he4, fun k hk9 => (hb4 k hk9).trans (congrFun eb k), ?_⟩
           rw [dg, d4] at hq4
           exact hq4)
        | (rw [if_neg k0, if_pos k1]
           refine ⟨rfl, e8.tr he4, fun k hk9 => (hb4 k hk9).trans (congrFun eb k), ?_⟩
           rw [ds] at hq4
           exact hq4)
        | (rw [if_neg (fun z => c_35 (e0.mpr z)), if_neg (fun z => c_51 (e1.mpr z))]
           exact ⟨rfl, e8, fun k _ => congrFun eb k, hq8⟩)
    · refine r_aload_n dX6_passPhases_54 rfl ?_
      refine r_iload_n dX6_passPhases_55 rfl ?_
      have k1 := e1.mp c_51
      have k0 : ¬ deF F t = 0 := by omega
      have hgt : nn (F 19) ≤ nn (F 23) := by
        unfold deF at k1
        split at k1
        · split at k1
          · cases k1
          · split at k1
            · split at k1 <;> cases k1
            · next z =>
              have z' := Int32.not_lt.mp z
              rw [l19.1, l23.1] at z'
              exact (nI_leI (by have := l19.2.2; omega) (by have := l23.2.2; omega)).mp z'
        · cases k1
      refine q_callV1 (cv_X6_removeTooMany ml_X6_98) hW hk (by decide) rfl ⟨rfl, rfl⟩ rfl (Nat.le_of_ble_eq_true rfl) dX6_passPhases_56 (c_X6_removeTooMany hW hk hp4 h28 hq8 hO8 h19 (by rw [d19, d23]; exact hgt) hE9) (fun v_56 h_56 q_56 => ?_)
      obtain ⟨rfl, he4, hb4, hq4⟩ := q_56
      skip
      refine r_vret dX6_passPhases_59 rfl ⟨Nat.zero_le _, Nat.zero_le _⟩ ?_
      unfold pasQ actQ
      rw [← eF, ← e8q, ← eG]
      first
        | (rw [if_pos k0]
           refine ⟨rfl, e8.tr he4, fun k hk9 => (hb4 k hk9).trans (congrFun eb k), ?_⟩
           rw [dg, d4] at hq4
           exact hq4)
        | (rw [if_neg k0, if_pos k1]
           refine ⟨rfl, e8.tr he4, fun k hk9 => (hb4 k hk9).trans (congrFun eb k), ?_⟩
           rw [ds] at hq4
           exact hq4)
        | (rw [if_neg (fun z => c_35 (e0.mpr z)), if_neg (fun z => c_51 (e1.mpr z))]
           exact ⟨rfl, e8, fun k _ => congrFun eb k, hq8⟩)
  · refine r_aload_n dX6_passPhases_38 rfl ?_
    refine r_iload_n dX6_passPhases_39 rfl ?_
    have k0 := e0.mp c_35
    have hgt : nn (F 23) ≤ nn (F 19) := by
      unfold deF at k0
      split at k0
      · split at k0
        · cases k0
        · split at k0
          · next z =>
            have z' := z
            rw [l19.1, l23.1] at z'
            have := (nI_ltI (by have := l23.2.2; omega) (by have := l19.2.2; omega)).mp z'
            omega
          · split at k0
            · cases k0
            · cases hq9 : ng (mbs F) (F 9) (mbs F).length with
              | none => rw [hq9] at k0; cases k0
              | some k => rw [hq9] at k0; cases k0
      · cases k0
    refine q_callV1 (cv_X6_addLacking ml_X6_95) hW hk (by decide) rfl ⟨rfl, rfl⟩ rfl (Nat.le_of_ble_eq_true rfl) dX6_passPhases_40 (c_X6_addLacking hW hk hp4 h28 hq8 hO8 h19 (by rw [d19, d23]; exact hgt) hE9) (fun v_40 h_40 q_40 => ?_)
    obtain ⟨rfl, he4, hb4, hq4⟩ := q_40
    refine r_goto 59 dX6_passPhases_43 (by decide) ?_
    skip
    refine r_vret dX6_passPhases_59 rfl ⟨Nat.zero_le _, Nat.zero_le _⟩ ?_
    unfold pasQ actQ
    rw [← eF, ← e8q, ← eG]
    first
      | (rw [if_pos k0]
         refine ⟨rfl, e8.tr he4, fun k hk9 => (hb4 k hk9).trans (congrFun eb k), ?_⟩
         rw [dg, d4] at hq4
         exact hq4)
      | (rw [if_neg k0, if_pos k1]
         refine ⟨rfl, e8.tr he4, fun k hk9 => (hb4 k hk9).trans (congrFun eb k), ?_⟩
         rw [ds] at hq4
         exact hq4)
      | (rw [if_neg (fun z => c_35 (e0.mpr z)), if_neg (fun z => c_51 (e1.mpr z))]
         exact ⟨rfl, e8, fun k _ => congrFun eb k, hq8⟩)
