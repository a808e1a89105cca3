-- the class's reader: words, numbers
def RdS (h : AH) (b : Nat → Int32) (n : Nat) (e : ER) : Prop := RdH h b n ∧ RdE h e ∧ erOK n e
theorem RdS.cg {h h' : AH} {b : Nat → Int32} {n : Nat} {e : ER} {S : Nat → Prop} (hr : RdS h b n e) (he : eqx h h' S) (h2 : ¬ S 2) (h3 : ¬ S 3) : RdS h' b n e := by
  obtain ⟨⟨a1, a2, a3, a4⟩, ⟨b1, b2, b3⟩, c⟩ := hr
  have e3 := he.I h3
  exact ⟨⟨by rw [he.R]; exact a1, by rw [he.I h2]; exact a2, by rw [e3]; exact a3, a4⟩, ⟨by rw [e3]; exact b1, by rw [e3]; exact b2, by rw [e3]; exact b3⟩, c⟩
theorem nI_z {a : Nat} (ha : a < 2 ^ 31) : nI a = 0 ↔ a = 0 := nI_eqI ha (by decide)
theorem strLen_lt : ∀ j, j < 18 → strLen.getD j 0 < 10 := by decide +kernel
theorem eqW_t {b : Nat → Int32} {s j : Nat} {k : Nat} (h : eqW b s j k = true) (h2 : b (s + k) = (strByt.getD j []).getD k 0) : eqW b s j (k + 1) = true := by
  show (eqW b s j k && _) = true
  rw [h, decide_eq_true h2]; rfl
set_option maxRecDepth 100000 in
set_option maxHeartbeats 800000 in
theorem c_X5_isWord {l9 : Launch} {G : GC} {h : AH} {b : Nat → Int32} {n : Nat} {p j : Nat} (hW : World h) (hr : RdH h b n) (ht : TkS h b n p) (hp : p ≤ n) (hG : GOK G) (hj : j < 18) : PM l9 G mX5_isWord NT NT [.ref 3, .ref (1000000 + j)] h (fun v h' => v = some (.int (bI (isW b n p j))) ∧ h' = h) noX := by
  refine PM.of (by decide +kernel) rfl rfl (Nat.le_of_ble_eq_true rfl) (fun hst _ => ?_)
  obtain ⟨htx, hb, hn, hn7⟩ := hr
  obtain ⟨t2, t3, t4, t5⟩ := ht
  have hSl := tS_le (b := b) hp
  have hEl := tE_le (b := b) hp
  have hSE := tE_ge (b := b) (n := n) (p := p)
  have hl10 := strLen_lt j hj
  have hc6 := tC_lt (b := b) (n := n) (p := p)
  have hkc : tC b n p = 1 ↔ tK b n p = 1 := tC_k (by decide) (by decide)
  refine r_aload_n dX5_isWord_0 rfl ?_
  refine q_getI fl_X5_42 hW kc_3 rfl dX5_isWord_1 ?_
  rw [t2]
  refine r_iconst (1) dX5_isWord_4 (by decide) ?_
  refine r_icmp_ne 24 dX5_isWord_5 (by decide) (fun c_5 => ?_) (fun c_5 => ?_)
  · refine r_iconst (0) dX5_isWord_24 (by decide) ?_
    refine r_zret dX5_isWord_25 rfl (by decide) ⟨Nat.zero_le _, Nat.zero_le _⟩ ?_
    refine ⟨some_int ?_, rfl⟩
    unfold isW
    first
      | (rw [decide_eq_false (fun q => c_5 (by rw [hkc.mpr q]; rfl)), Bool.false_and]; rfl)
      | (rw [decide_eq_false (p := tE b n p - tS b n p = strLen.getD j 0) (fun q => c_21 (by rw [q])), Bool.false_and, Bool.and_false]; rfl)
  · refine r_aload_n dX5_isWord_8 rfl ?_
    refine q_getI fl_X5_25 hW kc_3 rfl dX5_isWord_9 ?_
    refine r_aload_n dX5_isWord_12 rfl ?_
    refine q_getI fl_X5_56 hW kc_3 rfl dX5_isWord_13 ?_
    rw [t4, t3]
    refine r_isub dX5_isWord_16 ?_
    rw [pk_sub hSE]
    refine r_aload_n dX5_isWord_17 rfl ?_
    refine q_callStr0 (by omega) (cv_J0_length_8abf5 ml_X5_214) rfl ⟨rfl, rfl⟩ rfl (Nat.le_of_ble_eq_true rfl) dX5_isWord_18 (c_J0_length hG (by omega)) (fun v_18 h_18 q_18 => ?_)
    obtain ⟨rfl, z9⟩ := q_18
    replace z9 := z9.symm
    subst z9
    refine r_icmp_eq 26 dX5_isWord_21 (by decide) (fun c_21 => ?_) (fun c_21 => ?_)
    · refine r_iconst (0) dX5_isWord_26 (by decide) ?_
      refine r_istore_n (ls2 := [_, some _, _]) dX5_isWord_27 (by decide) rfl ?_
      have hk1 : tK b n p = 1 := hkc.mp ((nI_eqI (b := 1) (by omega) (by decide)).mp c_5)
      have hle : tE b n p - tS b n p = strLen.getD j 0 := (nI_eqI (by omega) (by omega)).mp c_21
      have hisW : isW b n p j = eqW b (tS b n p) j (strLen.getD j 0) := by unfold isW; rw [decide_eq_true hk1, decide_eq_true hle, Bool.true_and, Bool.true_and]
      refine loopN (P := fun k => k ≤ strLen.getD j 0 → eqW b (tS b n p) j k = true → PW l9 G mX5_isWord _ _ NT 28 [some (.ref 3), some (.ref (1000000 + j)), some (.int (nI k))] [] (0, 0) h) (strLen.getD j 0) (fun k ih hk hf => ?_) 0 (Nat.zero_le _) rfl
      refine r_iload_n dX5_isWord_28 rfl ?_
      refine r_aload_n dX5_isWord_29 rfl ?_
      refine q_callStr0 (by omega) (cv_J0_length_8abf5 ml_X5_214) rfl ⟨rfl, rfl⟩ rfl (Nat.le_of_ble_eq_true rfl) dX5_isWord_30 (c_J0_length hG (by omega)) (fun v_30 h_30 q_30 => ?_)
      obtain ⟨rfl, z9⟩ := q_30
      replace z9 := z9.symm
      subst z9
      refine r_icmp_ge 63 dX5_isWord_33 (by decide) (fun c_33 => ?_) (fun c_33 => ?_)
      · have hge : strLen.getD j 0 = k := by
          have := (nI_leI (by omega) (by omega)).mp c_33
          omega
        refine r_iconst (1) dX5_isWord_63 (by decide) ?_
        refine r_zret dX5_isWord_64 rfl (by decide) ⟨Nat.zero_le _, Nat.zero_le _⟩ ?_
        exact ⟨some_int (by rw [hisW, hge, hf]; rfl), rfl⟩
      · have hlt : k < strLen.getD j 0 := (nI_ltI (by omega) (by omega)).mp (i_lt.mp c_33)
        refine r_aload_n dX5_isWord_36 rfl ?_
        refine q_getR fl_X5_9 hW kc_3 rfl htx (by decide) dX5_isWord_37 ?_
        refine r_aload_n dX5_isWord_40 rfl ?_
        refine q_getI fl_X5_56 hW kc_3 rfl dX5_isWord_41 ?_
        rw [t3]
        refine r_iload_n dX5_isWord_44 rfl ?_
        refine r_iadd dX5_isWord_45 ?_
        refine q_bald hW kc_2 (k := tS b n p + k) (nI_add _ _) (by omega) (by decide) dX5_isWord_46 ?_
        rw [hb]
        refine r_aload_n dX5_isWord_47 rfl ?_
        refine r_iload_n dX5_isWord_48 rfl ?_
        refine q_callStr1 (by omega) (cv_J0_charAt_5068e ml_X5_218) rfl ⟨rfl, rfl⟩ rfl (Nat.le_of_ble_eq_true rfl) dX5_isWord_49 (c_J0_charAt hG hj hlt) (fun v_49 h_49 q_49 => ?_)
        obtain ⟨rfl, z9⟩ := q_49
        replace z9 := z9.symm
        subst z9
        refine r_icmp_eq 57 dX5_isWord_52 (by decide) (fun c_52 => ?_) (fun c_52 => ?_)
        · refine r_iinc (1) (by decide) (ls2 := [_, some _, _]) dX5_isWord_57 rfl (by decide) rfl ?_
          refine r_goto 28 dX5_isWord_60 (by decide) ?_
          rw [nI_1]
          exact ih hlt hlt (eqW_t hf c_52)
        · refine r_iconst (0) dX5_isWord_55 (by decide) ?_
          refine r_zret dX5_isWord_56 rfl (by decide) ⟨Nat.zero_le _, Nat.zero_le _⟩ ?_
          exact ⟨some_int (by rw [hisW, eqW_f c_52 _ hlt]; rfl), rfl⟩
    · refine r_iconst (0) dX5_isWord_24 (by decide) ?_
      refine r_zret dX5_isWord_25 rfl (by decide) ⟨Nat.zero_le _, Nat.zero_le _⟩ ?_
      refine ⟨some_int ?_, rfl⟩
      unfold isW
      first
        | (rw [decide_eq_false (fun q => c_5 (by rw [hkc.mpr q]; rfl)), Bool.false_and]; rfl)
        | (rw [decide_eq_false (p := tE b n p - tS b n p = strLen.getD j 0) (fun q => c_21 (by rw [q])), Bool.false_and, Bool.and_false]; rfl)

set_option maxRecDepth 100000 in
set_option maxHeartbeats 800000 in
theorem c_X5_numberOfToken {l9 : Launch} {G : GC} {h : AH} {b : Nat → Int32} {n : Nat} {p : Nat} {lo hi : Int32} (hW : World h) (hr : RdH h b n) (ht : TkS h b n p) (hp : p ≤ n) (h7 : aI h 3 7 = nI 0) (h8 : aI h 3 8 = -1) : PM l9 G mX5_numberOfToken NT NT [.ref 3, .int lo, .int hi] h (fun v h' => v = some (.int (vlS b n (0, p) lo hi)) ∧ eqx h h' S3 ∧ RdS h' b n (nmS b n (0, p) lo hi) ∧ aI h' 3 6 = aI h 3 6 ∧ aI h' 3 3 = aI h 3 3) noX := by
  refine PM.of (by decide +kernel) rfl rfl (Nat.le_of_ble_eq_true rfl) (fun hst _ => ?_)
  obtain ⟨t2, t3, t4, t5⟩ := ht
  have hc6 := tC_lt (b := b) (n := n) (p := p)
  refine r_aload_n dX5_numberOfToken_0 rfl ?_
  refine q_getI fl_X5_42 hW kc_3 rfl dX5_numberOfToken_1 ?_
  rw [t2]
  refine r_iconst (2) dX5_numberOfToken_4 (by decide) ?_
  refine r_icmp_eq 15 dX5_numberOfToken_5 (by decide) (fun c_5 => ?_) (fun c_5 => ?_)
  · have hc2 : tC b n p = 2 := (nI_eqI (b := 2) (by omega) (by decide)).mp c_5
    replace t5 := t5 hc2
    refine r_aload_n dX5_numberOfToken_15 rfl ?_
    refine q_getI fl_X5_192 hW kc_3 rfl dX5_numberOfToken_16 ?_
    rw [t5]
    refine r_iload_n dX5_numberOfToken_19 rfl ?_
    refine r_icmp_lt 31 dX5_numberOfToken_20 (by decide) (fun c_20 => ?_) (fun c_20 => ?_)
    · refine r_aload_n dX5_numberOfToken_31 rfl ?_
      refine r_iconst (2) dX5_numberOfToken_32 (by decide) ?_
      refine q_callV1 (cv_X5_fail ml_X5_52) hW kc_3 (by decide) rfl ⟨rfl, rfl⟩ rfl (Nat.le_of_ble_eq_true rfl) dX5_numberOfToken_33 (c_X5_fail (c := 2) (e := (0, p)) (s := tS b n p) hW kn_2 (by decide) t3 h7 (Nat.le_of_ble_eq_true rfl)) (fun v_33 h_33 q_33 => ?_)
      obtain ⟨rfl, eF, fF, -, gF⟩ := q_33
      obtain ⟨g7, g8⟩ := gF rfl
      refine r_iload_n dX5_numberOfToken_36 rfl ?_
      refine r_iret dX5_numberOfToken_37 rfl ⟨Nat.zero_le _, Nat.zero_le _⟩ ?_
      have hC : nmC b n p lo hi = 2 := by
        unfold nmC
        rw [if_pos hc2]
        exact if_neg (fun q => by first | exact absurd c_20 (i_le.mpr q.1) | exact c_28 q.2)
      have hN : ¬ nmC b n p lo hi = 0 := by rw [hC]; decide
      exact ⟨some_int (by unfold vlS; rw [if_neg (fun q => hN q.2)]), eF, ⟨hr.cg eF (fF 1 (by decide) (by decide)), ⟨g7.trans (by unfold nmS; rw [if_pos rfl, if_neg hN, hC]), fun q => absurd q (by unfold nmS; rw [if_pos rfl, if_neg hN, hC]; exact (by decide : ¬ (2 : Nat) = 0)), fun _ => g8.trans (by unfold nmS; rw [if_pos rfl, if_neg hN])⟩, nmS_ok ⟨Nat.le_of_ble_eq_true rfl, hp⟩⟩, fF 6 (by decide) (by decide), fF 3 (by decide) (by decide)⟩
    · refine r_aload_n dX5_numberOfToken_23 rfl ?_
      refine q_getI fl_X5_192 hW kc_3 rfl dX5_numberOfToken_24 ?_
      rw [t5]
      refine r_iload_n dX5_numberOfToken_27 rfl ?_
      refine r_icmp_le 38 dX5_numberOfToken_28 (by decide) (fun c_28 => ?_) (fun c_28 => ?_)
      · refine r_aload_n dX5_numberOfToken_38 rfl ?_
        refine q_getI fl_X5_192 hW kc_3 rfl dX5_numberOfToken_39 ?_
        rw [t5]
        refine r_iret dX5_numberOfToken_42 rfl ⟨Nat.zero_le _, Nat.zero_le _⟩ ?_
        have hC : nmC b n p lo hi = 0 := by
          unfold nmC
          rw [if_pos hc2]
          exact if_pos ⟨i_le.mp c_20, c_28⟩
        exact ⟨some_int (by unfold vlS; rw [if_pos ⟨rfl, hC⟩]), eqx.rf, ⟨hr, ⟨h7.trans (by unfold nmS; rw [if_pos rfl, if_pos hC]), fun _ => ⟨t4.trans (by unfold nmS; rw [if_pos rfl, if_pos hC]), h8⟩, fun q => absurd (by unfold nmS; rw [if_pos rfl, if_pos hC]) q⟩, nmS_ok ⟨Nat.le_of_ble_eq_true rfl, hp⟩⟩, rfl, rfl⟩
      · refine r_aload_n dX5_numberOfToken_31 rfl ?_
        refine r_iconst (2) dX5_numberOfToken_32 (by decide) ?_
        refine q_callV1 (cv_X5_fail ml_X5_52) hW kc_3 (by decide) rfl ⟨rfl, rfl⟩ rfl (Nat.le_of_ble_eq_true rfl) dX5_numberOfToken_33 (c_X5_fail (c := 2) (e := (0, p)) (s := tS b n p) hW kn_2 (by decide) t3 h7 (Nat.le_of_ble_eq_true rfl)) (fun v_33 h_33 q_33 => ?_)
        obtain ⟨rfl, eF, fF, -, gF⟩ := q_33
        obtain ⟨g7, g8⟩ := gF rfl
        refine r_iload_n dX5_numberOfToken_36 rfl ?_
        refine r_iret dX5_numberOfToken_37 rfl ⟨Nat.zero_le _, Nat.zero_le _⟩ ?_
        have hC : nmC b n p lo hi = 2 := by
          unfold nmC
          rw [if_pos hc2]
          exact if_neg (fun q => by first | exact absurd c_20 (i_le.mpr q.1) | exact c_28 q.2)
        have hN : ¬ nmC b n p lo hi = 0 := by rw [hC]; decide
        exact ⟨some_int (by unfold vlS; rw [if_neg (fun q => hN q.2)]), eF, ⟨hr.cg eF (fF 1 (by decide) (by decide)), ⟨g7.trans (by unfold nmS; rw [if_pos rfl, if_neg hN, hC]), fun q => absurd q (by unfold nmS; rw [if_pos rfl, if_neg hN, hC]; exact (by decide : ¬ (2 : Nat) = 0)), fun _ => g8.trans (by unfold nmS; rw [if_pos rfl, if_neg hN])⟩, nmS_ok ⟨Nat.le_of_ble_eq_true rfl, hp⟩⟩, fF 6 (by decide) (by decide), fF 3 (by decide) (by decide)⟩
  · refine r_aload_n dX5_numberOfToken_8 rfl ?_
    refine r_iconst (1) dX5_numberOfToken_9 (by decide) ?_
    refine q_callV1 (cv_X5_fail ml_X5_52) hW kc_3 (by decide) rfl ⟨rfl, rfl⟩ rfl (Nat.le_of_ble_eq_true rfl) dX5_numberOfToken_10 (c_X5_fail (c := 1) (e := (0, p)) (s := tS b n p) hW kn_1 (by decide) t3 h7 (Nat.le_of_ble_eq_true rfl)) (fun v_10 h_10 q_10 => ?_)
    obtain ⟨rfl, eF, fF, -, gF⟩ := q_10
    obtain ⟨g7, g8⟩ := gF rfl
    refine r_iload_n dX5_numberOfToken_13 rfl ?_
    refine r_iret dX5_numberOfToken_14 rfl ⟨Nat.zero_le _, Nat.zero_le _⟩ ?_
    have hC : nmC b n p lo hi = 1 := by
      unfold nmC
      exact if_neg (fun q => c_5 (by rw [q]; rfl))
    have hN : ¬ nmC b n p lo hi = 0 := by rw [hC]; decide
    exact ⟨some_int (by unfold vlS; rw [if_neg (fun q => hN q.2)]), eF, ⟨hr.cg eF (fF 1 (by decide) (by decide)), ⟨g7.trans (by unfold nmS; rw [if_pos rfl, if_neg hN, hC]), fun q => absurd q (by unfold nmS; rw [if_pos rfl, if_neg hN, hC]; exact (by decide : ¬ (1 : Nat) = 0)), fun _ => g8.trans (by unfold nmS; rw [if_pos rfl, if_neg hN])⟩, nmS_ok ⟨Nat.le_of_ble_eq_true rfl, hp⟩⟩, fF 6 (by decide) (by decide), fF 3 (by decide) (by decide)⟩

set_option maxRecDepth 100000 in
set_option maxHeartbeats 800000 in
theorem c_X5_readNumber {l9 : Launch} {G : GC} {h : AH} {b : Nat → Int32} {n : Nat} {e : ER} {lo hi : Int32} (hW : World h) (hs : RdS h b n e) : PM l9 G mX5_readNumber NT NT [.ref 3, .int lo, .int hi] h (fun v h' => v = some (.int (vlS b n e lo hi)) ∧ eqx h h' S3 ∧ RdS h' b n (nmS b n e lo hi) ∧ aI h' 3 6 = aI h 3 6 ∧ (e.1 = 0 → aI h' 3 3 = nI (tS b n e.2))) noX := by
  refine PM.of (by decide +kernel) rfl rfl (Nat.le_of_ble_eq_true rfl) (fun hst _ => ?_)
  have hs9 := hs
  obtain ⟨hr, ⟨r7, ra, rb⟩, he1, he2⟩ := hs
  refine r_aload_n dX5_readNumber_0 rfl ?_
  refine q_getI fl_X5_28 hW kc_3 rfl dX5_readNumber_1 ?_
  rw [r7]
  refine r_if_eq 9 dX5_readNumber_4 (by decide) (fun c_4 => ?_) (fun c_4 => ?_)
  · have q0 : e.1 = 0 := (nI_z (by omega)).mp c_4
    obtain ⟨r4, r8⟩ := ra q0
    have ee : e = (0, e.2) := by rw [← q0]
    refine r_aload_n dX5_readNumber_9 rfl ?_
    refine q_callV0 (cv_X5_readToken ml_X5_39) hW kc_3 (by decide) rfl ⟨rfl, rfl⟩ rfl (Nat.le_of_ble_eq_true rfl) dX5_readNumber_10 (c_X5_readToken hW hr r4 he2) (fun v_10 h_10 q_10 => ?_)
    obtain ⟨rfl, eT, ht, fT⟩ := q_10
    have hW := eT.W hW
    have hr2 := hr.cg eT (fT 1 (by decide) (by decide) (by decide) (by decide))
    have h7 : aI h_10 3 7 = nI 0 := (fT 7 (by decide) (by decide) (by decide) (by decide)).trans (r7.trans (by rw [q0]))
    have h8 : aI h_10 3 8 = -1 := (fT 8 (by decide) (by decide) (by decide) (by decide)).trans r8
    refine r_aload_n dX5_readNumber_13 rfl ?_
    refine r_iload_n dX5_readNumber_14 rfl ?_
    refine r_iload_n dX5_readNumber_15 rfl ?_
    refine q_callV2 (cv_X5_numberOfToken ml_X5_174) hW kc_3 (by decide) rfl ⟨rfl, rfl⟩ rfl (Nat.le_of_ble_eq_true rfl) dX5_readNumber_16 (c_X5_numberOfToken hW hr2 ht he2 h7 h8) (fun v_16 h_16 q_16 => ?_)
    obtain ⟨rfl, eN, sN, n6, n3⟩ := q_16
    refine r_iret dX5_readNumber_19 rfl ⟨Nat.zero_le _, Nat.zero_le _⟩ ?_
    rw [ee]
    exact ⟨rfl, eT.tr eN, sN, n6.trans (fT 6 (by decide) (by decide) (by decide) (by decide)), fun _ => n3.trans ht.2.1⟩
  · refine r_iload_n dX5_readNumber_7 rfl ?_
    refine r_iret dX5_readNumber_8 rfl ⟨Nat.zero_le _, Nat.zero_le _⟩ ?_
    have q0 : e.1 ≠ 0 := fun q => c_4 (by rw [q]; rfl)
    exact ⟨some_int (by unfold vlS; rw [if_neg (fun q => q0 q.1)]), eqx.rf, by unfold nmS; rw [if_neg q0]; exact hs9, rfl, fun q => absurd q q0⟩

set_option maxRecDepth 100000 in
set_option maxHeartbeats 800000 in
theorem c_X5_readSemicolon {l9 : Launch} {G : GC} {h : AH} {b : Nat → Int32} {n : Nat} {e : ER} (hW : World h) (hs : RdS h b n e) : PM l9 G mX5_readSemicolon NT NT [.ref 3] h (fun v h' => v = none ∧ eqx h h' S3 ∧ RdS h' b n (smiS b n e) ∧ aI h' 3 6 = aI h 3 6) noX := by
  refine PM.of (by decide +kernel) rfl rfl (Nat.le_of_ble_eq_true rfl) (fun hst _ => ?_)
  have hs9 := hs
  obtain ⟨hr, ⟨r7, ra, rb⟩, he1, he2⟩ := hs
  refine r_aload_n dX5_readSemicolon_0 rfl ?_
  refine q_getI fl_X5_28 hW kc_3 rfl dX5_readSemicolon_1 ?_
  rw [r7]
  refine r_if_eq 8 dX5_readSemicolon_4 (by decide) (fun c_4 => ?_) (fun c_4 => ?_)
  · have q0 : e.1 = 0 := (nI_z (by omega)).mp c_4
    obtain ⟨r4, r8⟩ := ra q0
    have ee : e = (0, e.2) := by rw [← q0]
    have hc6 := tC_lt (b := b) (n := n) (p := e.2)
    refine r_aload_n dX5_readSemicolon_8 rfl ?_
    refine q_callV0 (cv_X5_readToken ml_X5_39) hW kc_3 (by decide) rfl ⟨rfl, rfl⟩ rfl (Nat.le_of_ble_eq_true rfl) dX5_readSemicolon_9 (c_X5_readToken hW hr r4 he2) (fun v_9 h_9 q_9 => ?_)
    obtain ⟨rfl, eT, ht, fT⟩ := q_9
    have hW := eT.W hW
    have hr2 := hr.cg eT (fT 1 (by decide) (by decide) (by decide) (by decide))
    have h7 : aI h_9 3 7 = nI 0 := (fT 7 (by decide) (by decide) (by decide) (by decide)).trans (r7.trans (by rw [q0]))
    have h8 : aI h_9 3 8 = -1 := (fT 8 (by decide) (by decide) (by decide) (by decide)).trans r8
    refine r_aload_n dX5_readSemicolon_12 rfl ?_
    refine q_getI fl_X5_42 hW kc_3 rfl dX5_readSemicolon_13 ?_
    rw [ht.1]
    refine r_iconst (3) dX5_readSemicolon_16 (by decide) ?_
    refine r_icmp_eq 25 dX5_readSemicolon_17 (by decide) (fun c_17 => ?_) (fun c_17 => ?_)
    · refine r_vret dX5_readSemicolon_25 rfl ⟨Nat.zero_le _, Nat.zero_le _⟩ ?_
      first
        | (have hc3 : tC b n e.2 = 3 := (nI_eqI (b := 3) (by omega) (by decide)).mp c_17
           have hS : smiS b n e = (0, tE b n e.2) := by unfold smiS; rw [if_pos q0, if_pos hc3]
           rw [hS]
           exact ⟨rfl, eT, ⟨hr2, ⟨h7, fun _ => ⟨ht.2.2.1, h8⟩, fun q => absurd rfl q⟩, Nat.le_of_ble_eq_true rfl, tE_le he2⟩, fT 6 (by decide) (by decide) (by decide) (by decide)⟩)
        | (have hc3 : ¬ tC b n e.2 = 3 := fun q => c_17 (by rw [q]; rfl)
           have hS : smiS b n e = (1, tS b n e.2) := by unfold smiS; rw [if_pos q0, if_neg hc3]
           rw [hS]
           exact ⟨rfl, eT.tr eF, ⟨hr2.cg eF (fF 1 (by decide) (by decide)), ⟨g7, fun q => absurd q (Nat.succ_ne_zero 0), fun _ => g8⟩, Nat.le_of_ble_eq_true rfl, tS_le he2⟩, (fF 6 (by decide) (by decide)).trans (fT 6 (by decide) (by decide) (by decide) (by decide))⟩)
    · refine r_aload_n dX5_readSemicolon_20 rfl ?_
      refine r_iconst (1) dX5_readSemicolon_21 (by decide) ?_
      refine q_callV1 (cv_X5_fail ml_X5_52) hW kc_3 (by decide) rfl ⟨rfl, rfl⟩ rfl (Nat.le_of_ble_eq_true rfl) dX5_readSemicolon_22 (c_X5_fail (c := 1) (e := (0, e.2)) (s := tS b n e.2) hW kn_1 (by decide) ht.2.1 h7 (Nat.le_of_ble_eq_true rfl)) (fun v_22 h_22 q_22 => ?_)
      obtain ⟨rfl, eF, fF, -, gF⟩ := q_22
      obtain ⟨g7, g8⟩ := gF rfl
      refine r_vret dX5_readSemicolon_25 rfl ⟨Nat.zero_le _, Nat.zero_le _⟩ ?_
      first
        | (have hc3 : tC b n e.2 = 3 := (nI_eqI (b := 3) (by omega) (by decide)).mp c_17
           have hS : smiS b n e = (0, tE b n e.2) := by unfold smiS; rw [if_pos q0, if_pos hc3]
           rw [hS]
           exact ⟨rfl, eT, ⟨hr2, ⟨h7, fun _ => ⟨ht.2.2.1, h8⟩, fun q => absurd rfl q⟩, Nat.le_of_ble_eq_true rfl, tE_le he2⟩, fT 6 (by decide) (by decide) (by decide) (by decide)⟩)
        | (have hc3 : ¬ tC b n e.2 = 3 := fun q => c_17 (by rw [q]; rfl)
           have hS : smiS b n e = (1, tS b n e.2) := by unfold smiS; rw [if_pos q0, if_neg hc3]
           rw [hS]
           exact ⟨rfl, eT.tr eF, ⟨hr2.cg eF (fF 1 (by decide) (by decide)), ⟨g7, fun q => absurd q (Nat.succ_ne_zero 0), fun _ => g8⟩, Nat.le_of_ble_eq_true rfl, tS_le he2⟩, (fF 6 (by decide) (by decide)).trans (fT 6 (by decide) (by decide) (by decide) (by decide))⟩)
  · refine r_vret dX5_readSemicolon_7 rfl ⟨Nat.zero_le _, Nat.zero_le _⟩ ?_
    have q0 : e.1 ≠ 0 := fun q => c_4 (by rw [q]; rfl)
    exact ⟨rfl, eqx.rf, by unfold smiS; rw [if_neg q0]; exact hs9, rfl⟩

/-- the statement whose word the token is: 12 none -/
def stW (b : Nat → Int32) (n p : Nat) : Nat := if isW b n p 0 = true then 0 else if isW b n p 1 = true then 1 else if isW b n p 2 = true then 2 else if isW b n p 3 = true then 3 else if isW b n p 4 = true then 4 else if isW b n p 5 = true then 5 else if isW b n p 6 = true then 6 else if isW b n p 7 = true then 7 else if isW b n p 8 = true then 8 else if isW b n p 9 = true then 9 else if isW b n p 10 = true then 10 else if isW b n p 11 = true then 11 else 12
def stI (k : Nat) : Int32 := if k = 12 then -1 else nI k
theorem stW_lt {b : Nat → Int32} {n p : Nat} : stW b n p < 13 := by
  unfold stW
  repeat (first | decide | split)
set_option maxRecDepth 100000 in
set_option maxHeartbeats 800000 in
theorem c_X5_statementOfWord {l9 : Launch} {G : GC} {h : AH} {b : Nat → Int32} {n : Nat} {p : Nat} (hW : World h) (hr : RdH h b n) (ht : TkS h b n p) (hp : p ≤ n) (hG : GOK G) : PM l9 G mX5_statementOfWord NT NT [.ref 3] h (fun v h' => v = some (.int (stI (stW b n p))) ∧ h' = h) noX := by
  refine PM.of (by decide +kernel) rfl rfl (Nat.le_of_ble_eq_true rfl) (fun hst _ => ?_)
  refine r_aload_n dX5_statementOfWord_0 rfl ?_
  refine r_ldcS sw_X5_195 dX5_statementOfWord_1 ?_
  refine q_callV1 (cv_X5_isWord ml_X5_144) hW kc_3 (by decide) rfl ⟨rfl, rfl⟩ rfl (Nat.le_of_ble_eq_true rfl) dX5_statementOfWord_3 (c_X5_isWord hW hr ht hp hG (by decide)) (fun v_3 h_3 q_3 => ?_)
  obtain ⟨rfl, z9⟩ := q_3
  replace z9 := z9.symm
  subst z9
  refine r_if_eq 11 dX5_statementOfWord_6 (by decide) (fun c_6 => ?_) (fun c_6 => ?_)
  · refine r_aload_n dX5_statementOfWord_11 rfl ?_
    refine r_ldcS sw_X5_197 dX5_statementOfWord_12 ?_
    refine q_callV1 (cv_X5_isWord ml_X5_144) hW kc_3 (by decide) rfl ⟨rfl, rfl⟩ rfl (Nat.le_of_ble_eq_true rfl) dX5_statementOfWord_14 (c_X5_isWord hW hr ht hp hG (by decide)) (fun v_14 h_14 q_14 => ?_)
    obtain ⟨rfl, z9⟩ := q_14
    replace z9 := z9.symm
    subst z9
    refine r_if_eq 22 dX5_statementOfWord_17 (by decide) (fun c_17 => ?_) (fun c_17 => ?_)
    · refine r_aload_n dX5_statementOfWord_22 rfl ?_
      refine r_ldcS sw_X5_199 dX5_statementOfWord_23 ?_
      refine q_callV1 (cv_X5_isWord ml_X5_144) hW kc_3 (by decide) rfl ⟨rfl, rfl⟩ rfl (Nat.le_of_ble_eq_true rfl) dX5_statementOfWord_25 (c_X5_isWord hW hr ht hp hG (by decide)) (fun v_25 h_25 q_25 => ?_)
      obtain ⟨rfl, z9⟩ := q_25
      replace z9 := z9.symm
      subst z9
      refine r_if_eq 33 dX5_statementOfWord_28 (by decide) (fun c_28 => ?_) (fun c_28 => ?_)
      · refine r_aload_n dX5_statementOfWord_33 rfl ?_
        refine r_ldcS sw_X5_201 dX5_statementOfWord_34 ?_
        refine q_callV1 (cv_X5_isWord ml_X5_144) hW kc_3 (by decide) rfl ⟨rfl, rfl⟩ rfl (Nat.le_of_ble_eq_true rfl) dX5_statementOfWord_36 (c_X5_isWord hW hr ht hp hG (by decide)) (fun v_36 h_36 q_36 => ?_)
        obtain ⟨rfl, z9⟩ := q_36
        replace z9 := z9.symm
        subst z9
        refine r_if_eq 44 dX5_statementOfWord_39 (by decide) (fun c_39 => ?_) (fun c_39 => ?_)
        · refine r_aload_n dX5_statementOfWord_44 rfl ?_
          refine r_ldcS sw_X5_202 dX5_statementOfWord_45 ?_
          refine q_callV1 (cv_X5_isWord ml_X5_144) hW kc_3 (by decide) rfl ⟨rfl, rfl⟩ rfl (Nat.le_of_ble_eq_true rfl) dX5_statementOfWord_47 (c_X5_isWord hW hr ht hp hG (by decide)) (fun v_47 h_47 q_47 => ?_)
          obtain ⟨rfl, z9⟩ := q_47
          replace z9 := z9.symm
          subst z9
          refine r_if_eq 55 dX5_statementOfWord_50 (by decide) (fun c_50 => ?_) (fun c_50 => ?_)
          · refine r_aload_n dX5_statementOfWord_55 rfl ?_
            refine r_ldcS sw_X5_203 dX5_statementOfWord_56 ?_
            refine q_callV1 (cv_X5_isWord ml_X5_144) hW kc_3 (by decide) rfl ⟨rfl, rfl⟩ rfl (Nat.le_of_ble_eq_true rfl) dX5_statementOfWord_58 (c_X5_isWord hW hr ht hp hG (by decide)) (fun v_58 h_58 q_58 => ?_)
            obtain ⟨rfl, z9⟩ := q_58
            replace z9 := z9.symm
            subst z9
            refine r_if_eq 66 dX5_statementOfWord_61 (by decide) (fun c_61 => ?_) (fun c_61 => ?_)
            · refine r_aload_n dX5_statementOfWord_66 rfl ?_
              refine r_ldcS sw_X5_204 dX5_statementOfWord_67 ?_
              refine q_callV1 (cv_X5_isWord ml_X5_144) hW kc_3 (by decide) rfl ⟨rfl, rfl⟩ rfl (Nat.le_of_ble_eq_true rfl) dX5_statementOfWord_69 (c_X5_isWord hW hr ht hp hG (by decide)) (fun v_69 h_69 q_69 => ?_)
              obtain ⟨rfl, z9⟩ := q_69
              replace z9 := z9.symm
              subst z9
              refine r_if_eq 78 dX5_statementOfWord_72 (by decide) (fun c_72 => ?_) (fun c_72 => ?_)
              · refine r_aload_n dX5_statementOfWord_78 rfl ?_
                refine r_ldcS sw_X5_205 dX5_statementOfWord_79 ?_
                refine q_callV1 (cv_X5_isWord ml_X5_144) hW kc_3 (by decide) rfl ⟨rfl, rfl⟩ rfl (Nat.le_of_ble_eq_true rfl) dX5_statementOfWord_81 (c_X5_isWord hW hr ht hp hG (by decide)) (fun v_81 h_81 q_81 => ?_)
                obtain ⟨rfl, z9⟩ := q_81
                replace z9 := z9.symm
                subst z9
                refine r_if_eq 90 dX5_statementOfWord_84 (by decide) (fun c_84 => ?_) (fun c_84 => ?_)
                · refine r_aload_n dX5_statementOfWord_90 rfl ?_
                  refine r_ldcS sw_X5_206 dX5_statementOfWord_91 ?_
                  refine q_callV1 (cv_X5_isWord ml_X5_144) hW kc_3 (by decide) rfl ⟨rfl, rfl⟩ rfl (Nat.le_of_ble_eq_true rfl) dX5_statementOfWord_93 (c_X5_isWord hW hr ht hp hG (by decide)) (fun v_93 h_93 q_93 => ?_)
                  obtain ⟨rfl, z9⟩ := q_93
                  replace z9 := z9.symm
                  subst z9
                  refine r_if_eq 102 dX5_statementOfWord_96 (by decide) (fun c_96 => ?_) (fun c_96 => ?_)
                  · refine r_aload_n dX5_statementOfWord_102 rfl ?_
                    refine r_ldcS sw_X5_208 dX5_statementOfWord_103 ?_
                    refine q_callV1 (cv_X5_isWord ml_X5_144) hW kc_3 (by decide) rfl ⟨rfl, rfl⟩ rfl (Nat.le_of_ble_eq_true rfl) dX5_statementOfWord_105 (c_X5_isWord hW hr ht hp hG (by decide)) (fun v_105 h_105 q_105 => ?_)
                    obtain ⟨rfl, z9⟩ := q_105
                    replace z9 := z9.symm
                    subst z9
                    refine r_if_eq 114 dX5_statementOfWord_108 (by decide) (fun c_108 => ?_) (fun c_108 => ?_)
                    · refine r_aload_n dX5_statementOfWord_114 rfl ?_
                      refine r_ldcS sw_X5_210 dX5_statementOfWord_115 ?_
                      refine q_callV1 (cv_X5_isWord ml_X5_144) hW kc_3 (by decide) rfl ⟨rfl, rfl⟩ rfl (Nat.le_of_ble_eq_true rfl) dX5_statementOfWord_117 (c_X5_isWord hW hr ht hp hG (by decide)) (fun v_117 h_117 q_117 => ?_)
                      obtain ⟨rfl, z9⟩ := q_117
                      replace z9 := z9.symm
                      subst z9
                      refine r_if_eq 126 dX5_statementOfWord_120 (by decide) (fun c_120 => ?_) (fun c_120 => ?_)
                      · refine r_aload_n dX5_statementOfWord_126 rfl ?_
                        refine r_ldcS sw_X5_212 dX5_statementOfWord_127 ?_
                        refine q_callV1 (cv_X5_isWord ml_X5_144) hW kc_3 (by decide) rfl ⟨rfl, rfl⟩ rfl (Nat.le_of_ble_eq_true rfl) dX5_statementOfWord_129 (c_X5_isWord hW hr ht hp hG (by decide)) (fun v_129 h_129 q_129 => ?_)
                        obtain ⟨rfl, z9⟩ := q_129
                        replace z9 := z9.symm
                        subst z9
                        refine r_if_eq 138 dX5_statementOfWord_132 (by decide) (fun c_132 => ?_) (fun c_132 => ?_)
                        · refine r_iconst (-1) dX5_statementOfWord_138 (by decide) ?_
                          refine r_iret dX5_statementOfWord_139 rfl ⟨Nat.zero_le _, Nat.zero_le _⟩ ?_
                          refine ⟨some_int ?_, rfl⟩
                          rw [show stW b n p = 12 from by unfold stW; rw [if_neg (by rw [bI_0.mp c_6]; decide), if_neg (by rw [bI_0.mp c_17]; decide), if_neg (by rw [bI_0.mp c_28]; decide), if_neg (by rw [bI_0.mp c_39]; decide), if_neg (by rw [bI_0.mp c_50]; decide), if_neg (by rw [bI_0.mp c_61]; decide), if_neg (by rw [bI_0.mp c_72]; decide), if_neg (by rw [bI_0.mp c_84]; decide), if_neg (by rw [bI_0.mp c_96]; decide), if_neg (by rw [bI_0.mp c_108]; decide), if_neg (by rw [bI_0.mp c_120]; decide), if_neg (by rw [bI_0.mp c_132]; decide)]]
                          rfl
                        · refine r_bipush (11) dX5_statementOfWord_135 (by decide) ?_
                          refine r_iret dX5_statementOfWord_137 rfl ⟨Nat.zero_le _, Nat.zero_le _⟩ ?_
                          refine ⟨some_int ?_, rfl⟩
                          rw [show stW b n p = 11 from by unfold stW; rw [if_neg (by rw [bI_0.mp c_6]; decide), if_neg (by rw [bI_0.mp c_17]; decide), if_neg (by rw [bI_0.mp c_28]; decide), if_neg (by rw [bI_0.mp c_39]; decide), if_neg (by rw [bI_0.mp c_50]; decide), if_neg (by rw [bI_0.mp c_61]; decide), if_neg (by rw [bI_0.mp c_72]; decide), if_neg (by rw [bI_0.mp c_84]; decide), if_neg (by rw [bI_0.mp c_96]; decide), if_neg (by rw [bI_0.mp c_108]; decide), if_neg (by rw [bI_0.mp c_120]; decide), if_pos (bI_1.mp c_132)]]
                          rfl
                      · refine r_bipush (10) dX5_statementOfWord_123 (by decide) ?_
                        refine r_iret dX5_statementOfWord_125 rfl ⟨Nat.zero_le _, Nat.zero_le _⟩ ?_
                        refine ⟨some_int ?_, rfl⟩
                        rw [show stW b n p = 10 from by unfold stW; rw [if_neg (by rw [bI_0.mp c_6]; decide), if_neg (by rw [bI_0.mp c_17]; decide), if_neg (by rw [bI_0.mp c_28]; decide), if_neg (by rw [bI_0.mp c_39]; decide), if_neg (by rw [bI_0.mp c_50]; decide), if_neg (by rw [bI_0.mp c_61]; decide), if_neg (by rw [bI_0.mp c_72]; decide), if_neg (by rw [bI_0.mp c_84]; decide), if_neg (by rw [bI_0.mp c_96]; decide), if_neg (by rw [bI_0.mp c_108]; decide), if_pos (bI_1.mp c_120)]]
                        rfl
                    · refine r_bipush (9) dX5_statementOfWord_111 (by decide) ?_
                      refine r_iret dX5_statementOfWord_113 rfl ⟨Nat.zero_le _, Nat.zero_le _⟩ ?_
                      refine ⟨some_int ?_, rfl⟩
                      rw [show stW b n p = 9 from by unfold stW; rw [if_neg (by rw [bI_0.mp c_6]; decide), if_neg (by rw [bI_0.mp c_17]; decide), if_neg (by rw [bI_0.mp c_28]; decide), if_neg (by rw [bI_0.mp c_39]; decide), if_neg (by rw [bI_0.mp c_50]; decide), if_neg (by rw [bI_0.mp c_61]; decide), if_neg (by rw [bI_0.mp c_72]; decide), if_neg (by rw [bI_0.mp c_84]; decide), if_neg (by rw [bI_0.mp c_96]; decide), if_pos (bI_1.mp c_108)]]
                      rfl
                  · refine r_bipush (8) dX5_statementOfWord_99 (by decide) ?_
                    refine r_iret dX5_statementOfWord_101 rfl ⟨Nat.zero_le _, Nat.zero_le _⟩ ?_
                    refine ⟨some_int ?_, rfl⟩
                    rw [show stW b n p = 8 from by unfold stW; rw [if_neg (by rw [bI_0.mp c_6]; decide), if_neg (by rw [bI_0.mp c_17]; decide), if_neg (by rw [bI_0.mp c_28]; decide), if_neg (by rw [bI_0.mp c_39]; decide), if_neg (by rw [bI_0.mp c_50]; decide), if_neg (by rw [bI_0.mp c_61]; decide), if_neg (by rw [bI_0.mp c_72]; decide), if_neg (by rw [bI_0.mp c_84]; decide), if_pos (bI_1.mp c_96)]]
                    rfl
                · refine r_bipush (7) dX5_statementOfWord_87 (by decide) ?_
                  refine r_iret dX5_statementOfWord_89 rfl ⟨Nat.zero_le _, Nat.zero_le _⟩ ?_
                  refine ⟨some_int ?_, rfl⟩
                  rw [show stW b n p = 7 from by unfold stW; rw [if_neg (by rw [bI_0.mp c_6]; decide), if_neg (by rw [bI_0.mp c_17]; decide), if_neg (by rw [bI_0.mp c_28]; decide), if_neg (by rw [bI_0.mp c_39]; decide), if_neg (by rw [bI_0.mp c_50]; decide), if_neg (by rw [bI_0.mp c_61]; decide), if_neg (by rw [bI_0.mp c_72]; decide), if_pos (bI_1.mp c_84)]]
                  rfl
              · refine r_bipush (6) dX5_statementOfWord_75 (by decide) ?_
                refine r_iret dX5_statementOfWord_77 rfl ⟨Nat.zero_le _, Nat.zero_le _⟩ ?_
                refine ⟨some_int ?_, rfl⟩
                rw [show stW b n p = 6 from by unfold stW; rw [if_neg (by rw [bI_0.mp c_6]; decide), if_neg (by rw [bI_0.mp c_17]; decide), if_neg (by rw [bI_0.mp c_28]; decide), if_neg (by rw [bI_0.mp c_39]; decide), if_neg (by rw [bI_0.mp c_50]; decide), if_neg (by rw [bI_0.mp c_61]; decide), if_pos (bI_1.mp c_72)]]
                rfl
            · refine r_iconst (5) dX5_statementOfWord_64 (by decide) ?_
              refine r_iret dX5_statementOfWord_65 rfl ⟨Nat.zero_le _, Nat.zero_le _⟩ ?_
              refine ⟨some_int ?_, rfl⟩
              rw [show stW b n p = 5 from by unfold stW; rw [if_neg (by rw [bI_0.mp c_6]; decide), if_neg (by rw [bI_0.mp c_17]; decide), if_neg (by rw [bI_0.mp c_28]; decide), if_neg (by rw [bI_0.mp c_39]; decide), if_neg (by rw [bI_0.mp c_50]; decide), if_pos (bI_1.mp c_61)]]
              rfl
          · refine r_iconst (4) dX5_statementOfWord_53 (by decide) ?_
            refine r_iret dX5_statementOfWord_54 rfl ⟨Nat.zero_le _, Nat.zero_le _⟩ ?_
            refine ⟨some_int ?_, rfl⟩
            rw [show stW b n p = 4 from by unfold stW; rw [if_neg (by rw [bI_0.mp c_6]; decide), if_neg (by rw [bI_0.mp c_17]; decide), if_neg (by rw [bI_0.mp c_28]; decide), if_neg (by rw [bI_0.mp c_39]; decide), if_pos (bI_1.mp c_50)]]
            rfl
        · refine r_iconst (3) dX5_statementOfWord_42 (by decide) ?_
          refine r_iret dX5_statementOfWord_43 rfl ⟨Nat.zero_le _, Nat.zero_le _⟩ ?_
          refine ⟨some_int ?_, rfl⟩
          rw [show stW b n p = 3 from by unfold stW; rw [if_neg (by rw [bI_0.mp c_6]; decide), if_neg (by rw [bI_0.mp c_17]; decide), if_neg (by rw [bI_0.mp c_28]; decide), if_pos (bI_1.mp c_39)]]
          rfl
      · refine r_iconst (2) dX5_statementOfWord_31 (by decide) ?_
        refine r_iret dX5_statementOfWord_32 rfl ⟨Nat.zero_le _, Nat.zero_le _⟩ ?_
        refine ⟨some_int ?_, rfl⟩
        rw [show stW b n p = 2 from by unfold stW; rw [if_neg (by rw [bI_0.mp c_6]; decide), if_neg (by rw [bI_0.mp c_17]; decide), if_pos (bI_1.mp c_28)]]
        rfl
    · refine r_iconst (1) dX5_statementOfWord_20 (by decide) ?_
      refine r_iret dX5_statementOfWord_21 rfl ⟨Nat.zero_le _, Nat.zero_le _⟩ ?_
      refine ⟨some_int ?_, rfl⟩
      rw [show stW b n p = 1 from by unfold stW; rw [if_neg (by rw [bI_0.mp c_6]; decide), if_pos (bI_1.mp c_17)]]
      rfl
  · refine r_iconst (0) dX5_statementOfWord_9 (by decide) ?_
    refine r_iret dX5_statementOfWord_10 rfl ⟨Nat.zero_le _, Nat.zero_le _⟩ ?_
    refine ⟨some_int ?_, rfl⟩
    rw [show stW b n p = 0 from by unfold stW; rw [if_pos (bI_1.mp c_6)]]
    rfl
