-- the reference's reader: isWord, takes, sets, startsOnce
theorem tkR_e {k j : Nat} (hk : k < 6) (h4 : k ≠ 4) (hj : j ≤ 3) : nI (tkR k) = nI j ↔ k = j := by
  unfold tkR
  split
  · next q => exact ⟨fun z => absurd ((nI_eqI (a := 4) (b := j) (by decide) (by omega)).mp z) (by omega), fun z => absurd z (by omega)⟩
  · exact nI_eqI (by omega) (by omega)
theorem sb_nI : ∀ j, j < 18 → ∀ k, k < strLen.getD j 0 → (nn ((strByt.getD j []).getD k 0) ≤ 127 ∧ (strByt.getD j []).getD k 0 = nI (nn ((strByt.getD j []).getD k 0))) := by decide +kernel
/-- it reads on from p -/
def RpS (h : AH) (b : Nat → Int32) (n p : Nat) : Prop := InB h b n ∧ LkS h b n p ∧ aI h 723 17 = 0 ∧ aI h 723 18 = -1 ∧ p ≤ n
def FlS (h : AH) (e : ER) : Prop := aI h 723 17 = nI e.1 ∧ aI h 723 18 = nI e.2
/-- what the reading leaves of the object's fields -/
def OthF (h h' : AH) : Prop := ∀ k, k < 17 ∨ 23 < k → aI h' 723 k = aI h 723 k
theorem OthF.rf {h : AH} : OthF h h := fun _ _ => rfl
theorem OthF.tr {h h' h'' : AH} (a : OthF h h') (b : OthF h' h'') : OthF h h'' := fun k hk => (b k hk).trans (a k hk)
theorem OthF.of {h h' : AH} {S : Nat → Prop} (e : eqx h h' S) (hS : ¬ S 723) : OthF h h' := fun k _ => by rw [e.I hS]
def SRp : Nat → Prop := fun i => i = 723 ∨ i = 724 ∨ i = 729 ∨ i = 735
theorem SRp9 {i : Nat} (h : S9 i) : SRp i := Or.inl h
theorem SRpM {i : Nat} (h : SM i) : SRp i := by unfold SM at h; unfold SRp; omega
theorem PV.cgS {h h' : AH} {w : Nat → Int32} {v : Nat → Int64} {p : Nat} {f : Nat → Int32} {g : Nat → Int64} {S : Nat → Prop} (hm : PV h w v p f g) (e : eqx h h' S) (h1 : ¬ S 724) (h2 : ¬ S 729) : PV h' w v p f g := MW.cgH (show MW h _ from hm) e h1 h2
def TbD (m : Int32) (ts : Nat → Bool) : Prop := ∀ j, 1 ≤ j → j ≤ 10 → bg m (j - 1) = ts j
theorem RpS.cg {h h' : AH} {b : Nat → Int32} {n p : Nat} {S : Nat → Prop} (hr : RpS h b n p) (e : eqx h h' S) (h1 : ¬ S 734) (h2 : ∀ k, 17 ≤ k → k < 23 → aI h' 723 k = aI h 723 k) (h3 : aI h' 723 14 = aI h 723 14) : RpS h' b n p := by
  obtain ⟨r1, ⟨l1, l2, l3, l4⟩, r2, r3, r4⟩ := hr
  exact ⟨r1.cg e h1 h3, ⟨(h2 _ (by decide) (by decide)).trans l1, (h2 _ (by decide) (by decide)).trans l2, (h2 _ (by decide) (by decide)).trans l3, fun q => (h2 _ (by decide) (by decide)).trans (l4 q)⟩, (h2 _ (by decide) (by decide)).trans r2, (h2 _ (by decide) (by decide)).trans r3, r4⟩
set_option maxRecDepth 100000 in
set_option maxHeartbeats 1600000 in
theorem c_X9_isWord {l9 : Launch} {G : GC} {h : AH} {b : Nat → Int32} {n : Nat} {p j : Nat} (hW : World h) (hr : RpS h b n p) (hG : GOK G) (hj : j < 18) : PM l9 G mX9_isWord NT NT [.ref 723, .ref (1000000 + j)] h (fun v h' => v = some (.int (bI (isW b n p j))) ∧ h' = h) noX := by
  refine PM.of (by decide +kernel) rfl rfl (Nat.le_of_ble_eq_true rfl) (fun hst _ => ?_)
  obtain ⟨hi, ⟨l20, l22, l19, l21⟩, h17, h18, hp⟩ := hr
  have hn7 := hi.2.1
  have hk6 := tK_lt (b := b) (n := n) (p := p)
  have hk4 := tK_4 (b := b) (n := n) (p := p)
  have hSl := tS_le (b := b) hp
  have hEl := tE_le (b := b) hp
  have hSE := tE_ge (b := b) (n := n) (p := p)
  have hl10 := strLen_lt j hj
  refine r_aload_n dX9_isWord_0 rfl ?_
  refine q_getI fl_X9_182 hW kc_723 rfl dX9_isWord_1 ?_
  rw [l22]
  refine r_iconst (1) dX9_isWord_4 (by decide) ?_
  refine r_icmp_ne 19 dX9_isWord_5 (by decide) (fun c_5 => ?_) (fun c_5 => ?_)
  · refine r_iconst (0) dX9_isWord_19 (by decide) ?_
    refine r_zret dX9_isWord_20 rfl (by decide) ⟨Nat.zero_le _, Nat.zero_le _⟩ ?_
    refine ⟨some_int ?_, rfl⟩
    unfold isW
    first
      | (rw [decide_eq_false (fun q => c_5 ((tkR_e hk6 hk4 (j := 1) (by decide)).mpr q)), Bool.false_and]; rfl)
      | (rw [decide_eq_false (p := tE b n p - tS b n p = strLen.getD j 0) (fun q => c_16 (by rw [q])), Bool.false_and, Bool.and_false]; rfl)
  · refine r_aload_n dX9_isWord_8 rfl ?_
    refine q_callV0 (cv_X9_tokenLength ml_X9_191) hW kc_723 (by decide) rfl ⟨rfl, rfl⟩ rfl (Nat.le_of_ble_eq_true rfl) dX9_isWord_9 (c_X9_tokenLength hW) (fun v_9 h_9 q_9 => ?_)
    obtain ⟨rfl, z9⟩ := q_9
    replace z9 := z9.symm
    subst z9
    rw [l19, l20, pk_sub hSE]
    refine r_aload_n dX9_isWord_12 rfl ?_
    refine q_callStr0 (by omega) (cv_J0_length_8abf5 ml_X9_195) rfl ⟨rfl, rfl⟩ rfl (Nat.le_of_ble_eq_true rfl) dX9_isWord_13 (c_J0_length hG (by omega)) (fun v_13 h_13 q_13 => ?_)
    obtain ⟨rfl, z9⟩ := q_13
    replace z9 := z9.symm
    subst z9
    refine r_icmp_eq 21 dX9_isWord_16 (by decide) (fun c_16 => ?_) (fun c_16 => ?_)
    · refine r_iconst (0) dX9_isWord_21 (by decide) ?_
      refine r_istore_n (ls2 := [_, some _, _]) dX9_isWord_22 (by decide) rfl ?_
      have hk1 : tK b n p = 1 := (tkR_e hk6 hk4 (j := 1) (by decide)).mp c_5
      have hle : tE b n p - tS b n p = strLen.getD j 0 := (nI_eqI (by omega) (by omega)).mp c_16
      have hisW : isW b n p j = eqW b (tS b n p) j (strLen.getD j 0) := by unfold isW; rw [decide_eq_true hk1, decide_eq_true hle, Bool.true_and, Bool.true_and]
      refine loopN (P := fun k => k ≤ strLen.getD j 0 → eqW b (tS b n p) j k = true → PW l9 G mX9_isWord _ _ NT 23 [some (.ref 723), some (.ref (1000000 + j)), some (.int (nI k))] [] (0, 0) h) (strLen.getD j 0) (fun k ih hk hf => ?_) 0 (Nat.zero_le _) rfl
      refine r_iload_n dX9_isWord_23 rfl ?_
      refine r_aload_n dX9_isWord_24 rfl ?_
      refine q_callStr0 (by omega) (cv_J0_length_8abf5 ml_X9_195) rfl ⟨rfl, rfl⟩ rfl (Nat.le_of_ble_eq_true rfl) dX9_isWord_25 (c_J0_length hG (by omega)) (fun v_25 h_25 q_25 => ?_)
      obtain ⟨rfl, z9⟩ := q_25
      replace z9 := z9.symm
      subst z9
      refine r_icmp_ge 58 dX9_isWord_28 (by decide) (fun c_28 => ?_) (fun c_28 => ?_)
      · have hge : strLen.getD j 0 = k := by
          have := (nI_leI (by omega) (by omega)).mp c_28
          omega
        refine r_iconst (1) dX9_isWord_58 (by decide) ?_
        refine r_zret dX9_isWord_59 rfl (by decide) ⟨Nat.zero_le _, Nat.zero_le _⟩ ?_
        exact ⟨some_int (by rw [hisW, hge, hf]; rfl), rfl⟩
      · have hlt : k < strLen.getD j 0 := (nI_ltI (by omega) (by omega)).mp (i_lt.mp c_28)
        obtain ⟨sb1, sb2⟩ := sb_nI j hj k hlt
        have hag := agB.eq (hi.2.2 (tS b n p + k) (by omega)) sb1
        rw [← sb2] at hag
        refine r_aload_n dX9_isWord_31 rfl ?_
        refine q_getR fl_X9_41 hW kc_723 rfl (kl_9_13 hW) (by decide) dX9_isWord_32 ?_
        refine r_aload_n dX9_isWord_35 rfl ?_
        refine q_getI fl_X9_176 hW kc_723 rfl dX9_isWord_36 ?_
        rw [l20]
        refine r_iload_n dX9_isWord_39 rfl ?_
        refine r_iadd dX9_isWord_40 ?_
        refine q_iald hW kc_734 (k := tS b n p + k) (nI_add _ _) (by omega) (by decide) dX9_isWord_41 ?_
        refine r_aload_n dX9_isWord_42 rfl ?_
        refine r_iload_n dX9_isWord_43 rfl ?_
        refine q_callStr1 (by omega) (cv_J0_charAt_5068e ml_X9_200) rfl ⟨rfl, rfl⟩ rfl (Nat.le_of_ble_eq_true rfl) dX9_isWord_44 (c_J0_charAt hG hj hlt) (fun v_44 h_44 q_44 => ?_)
        obtain ⟨rfl, z9⟩ := q_44
        replace z9 := z9.symm
        subst z9
        refine r_icmp_eq 52 dX9_isWord_47 (by decide) (fun c_47 => ?_) (fun c_47 => ?_)
        · refine r_iinc (1) (by decide) (ls2 := [_, some _, _]) dX9_isWord_52 rfl (by decide) rfl ?_
          refine r_goto 23 dX9_isWord_55 (by decide) ?_
          rw [nI_1]
          exact ih hlt hlt (eqW_t hf (hag.mp c_47))
        · refine r_iconst (0) dX9_isWord_50 (by decide) ?_
          refine r_zret dX9_isWord_51 rfl (by decide) ⟨Nat.zero_le _, Nat.zero_le _⟩ ?_
          exact ⟨some_int (by rw [hisW, eqW_f (fun q => c_47 (hag.mpr q)) _ hlt]; rfl), rfl⟩
    · refine r_iconst (0) dX9_isWord_19 (by decide) ?_
      refine r_zret dX9_isWord_20 rfl (by decide) ⟨Nat.zero_le _, Nat.zero_le _⟩ ?_
      refine ⟨some_int ?_, rfl⟩
      unfold isW
      first
        | (rw [decide_eq_false (fun q => c_5 ((tkR_e hk6 hk4 (j := 1) (by decide)).mpr q)), Bool.false_and]; rfl)
        | (rw [decide_eq_false (p := tE b n p - tS b n p = strLen.getD j 0) (fun q => c_16 (by rw [q])), Bool.false_and, Bool.and_false]; rfl)

set_option maxRecDepth 100000 in
set_option maxHeartbeats 1600000 in
theorem c_X9_takes {l9 : Launch} {G : GC} {h : AH} {b : Nat → Int32} {n : Nat} {p a : Nat} {x lo hi9 : Int32} (hW : World h) (hr : RpS h b n p) (hx : x = nI a) (ha : a < 3) : PM l9 G mX9_takes NT NT [.ref 723, .int x, .int lo, .int hi9] h (fun v h' => v = some (.int (bI (decide (nmC b n p lo hi9 = 0)))) ∧ eqx h h' (fun i => i = 723 ∨ i = 735) ∧ OthF h h' ∧ aI h' 723 23 = aI h 723 23 ∧ (nmC b n p lo hi9 = 0 → aI h' 735 = upd (aI h 735) a (tV b n p) ∧ RpS h' b n (tE b n p)) ∧ (nmC b n p lo hi9 ≠ 0 → FlS h' (nmC b n p lo hi9, tS b n p))) noX := by
  refine PM.of (by decide +kernel) rfl rfl (Nat.le_of_ble_eq_true rfl) (fun hst _ => ?_)
  obtain ⟨hi, ⟨l20, l22, l19, l21⟩, h17, h18, hp⟩ := hr
  have hn7 := hi.2.1
  have hk6 := tK_lt (b := b) (n := n) (p := p)
  have hk4 := tK_4 (b := b) (n := n) (p := p)
  have hSl := tS_le (b := b) hp
  have hEl := tE_le (b := b) hp
  have hSE := tE_ge (b := b) (n := n) (p := p)
  refine r_aload_n dX9_takes_0 rfl ?_
  refine q_getI fl_X9_182 hW kc_723 rfl dX9_takes_1 ?_
  rw [l22]
  refine r_iconst (2) dX9_takes_4 (by decide) ?_
  refine r_icmp_ne 16 dX9_takes_5 (by decide) (fun c_5 => ?_) (fun c_5 => ?_)
  · refine r_aload_n dX9_takes_16 rfl ?_
    refine r_iconst (1) dX9_takes_17 (by decide) ?_
    refine q_callV1 (cv_X9_failsAt ml_X9_204) hW kc_723 (by decide) rfl ⟨rfl, rfl⟩ rfl (Nat.le_of_ble_eq_true rfl) dX9_takes_18 (c_X9_failsAt (c := 1) hW kn_1 h17 l20) (fun v_18 h_18 q_18 => ?_)
    obtain ⟨rfl, eF, f17, f18, fF⟩ := q_18
    refine r_zret dX9_takes_21 rfl (by decide) ⟨Nat.zero_le _, Nat.zero_le _⟩ ?_
    have hC : nmC b n p lo hi9 = 1 := by
      unfold nmC
      refine if_neg (fun q => ?_)
      obtain ⟨q1, q2⟩ := tC_2.mp q
      first
        | exact c_5 ((tkR_e hk6 hk4 (j := 2) (by decide)).mpr q1)
        | exact c_13 ((nI_leI (by omega) (by decide)).mpr q2)
    rw [hC]
    exact ⟨rfl, eF.wk (fun i q => Or.inl q), fun k hk => fF k (by omega) (by omega), fF 23 (by decide) (by decide), fun q => absurd q (by decide), fun _ => ⟨f17, f18⟩⟩
  · refine r_aload_n dX9_takes_8 rfl ?_
    refine q_callV0 (cv_X9_tokenLength ml_X9_191) hW kc_723 (by decide) rfl ⟨rfl, rfl⟩ rfl (Nat.le_of_ble_eq_true rfl) dX9_takes_9 (c_X9_tokenLength hW) (fun v_9 h_9 q_9 => ?_)
    obtain ⟨rfl, z9⟩ := q_9
    replace z9 := z9.symm
    subst z9
    rw [l19, l20, pk_sub hSE]
    refine r_iconst (3) dX9_takes_12 (by decide) ?_
    refine r_icmp_le 22 dX9_takes_13 (by decide) (fun c_13 => ?_) (fun c_13 => ?_)
    · have hk2 : tK b n p = 2 := (tkR_e hk6 hk4 (j := 2) (by decide)).mp c_5
      have hl3 : tE b n p - tS b n p ≤ 3 := (nI_leI (by omega) (by decide)).mp c_13
      have hC2 : tC b n p = 2 := tC_2.mpr ⟨hk2, hl3⟩
      refine r_aload_n dX9_takes_22 rfl ?_
      refine q_getI fl_X9_179 hW kc_723 rfl dX9_takes_23 ?_
      rw [l21 hk2]
      refine r_iload_n dX9_takes_26 rfl ?_
      refine r_iload_n dX9_takes_27 rfl ?_
      refine q_callS3 (cs_X9_inRange ml_X9_167) ⟨rfl, rfl⟩ rfl (Nat.le_of_ble_eq_true rfl) dX9_takes_28 c_X9_inRange (fun v_28 h_28 q_28 => ?_)
      obtain ⟨rfl, z9⟩ := q_28
      replace z9 := z9.symm
      subst z9
      refine r_if_ne 40 dX9_takes_31 (by decide) (fun c_31 => ?_) (fun c_31 => ?_)
      · 
        refine r_aload_n dX9_takes_40 rfl ?_
        refine q_getR fl_X9_48 hW kc_723 rfl (kl_9_24 hW) (by decide) dX9_takes_41 ?_
        refine r_iload_n dX9_takes_44 rfl ?_
        refine r_aload_n dX9_takes_45 rfl ?_
        refine q_getI fl_X9_179 hW kc_723 rfl dX9_takes_46 ?_
        rw [l21 hk2]
        refine q_iast hW kc_735 hx (by omega) (by decide) dX9_takes_49 ?_
        have e5 : eqx h (sI h 735 a (tV b n p)) (fun i => i = 723 ∨ i = 735) := eqx.rf.sI (Or.inr rfl)
        have hi5 : InB (sI h 735 a (tV b n p)) b n := hi.cg e5 (by decide) (by rw [sI_o (by decide)])
        refine r_aload_n dX9_takes_50 rfl ?_
        refine q_callV0 (cv_X9_advanceToken ml_X9_208) hW kc_723 (by decide) rfl ⟨rfl, rfl⟩ rfl (Nat.le_of_ble_eq_true rfl) dX9_takes_51 (c_X9_advanceToken (wsI hW) hi5 (by rw [sI_o (by decide)]; exact l19) hEl) (fun v_51 h_51 q_51 => ?_)
        obtain ⟨rfl, eA, lA, fA⟩ := q_51
        refine r_iconst (1) dX9_takes_54 (by decide) ?_
        refine r_zret dX9_takes_55 rfl (by decide) ⟨Nat.zero_le _, Nat.zero_le _⟩ ?_
        have hC : nmC b n p lo hi9 = 0 := by
          unfold nmC
          rw [if_pos hC2]
          exact if_pos (of_decide_eq_true (bI_1.mp c_31))
        rw [hC]
        refine ⟨rfl, e5.tr (eA.wk (fun i q => Or.inl q)), fun k hk => by rw [fA k (by omega) (by omega) (by omega) (by omega), sI_o (by decide)], by rw [fA 23 (by decide) (by decide) (by decide) (by decide), sI_o (by decide)], fun _ => ⟨by rw [eA.I (by decide), sI_r], ⟨hi5.cg eA (by decide) (fA 14 (by decide) (by decide) (by decide) (by decide)), lA, by rw [fA 17 (by decide) (by decide) (by decide) (by decide), sI_o (by decide)]; exact h17, by rw [fA 18 (by decide) (by decide) (by decide) (by decide), sI_o (by decide)]; exact h18, hEl⟩⟩, fun q => absurd rfl q⟩
      · refine r_aload_n dX9_takes_34 rfl ?_
        refine r_iconst (2) dX9_takes_35 (by decide) ?_
        refine q_callV1 (cv_X9_failsAt ml_X9_204) hW kc_723 (by decide) rfl ⟨rfl, rfl⟩ rfl (Nat.le_of_ble_eq_true rfl) dX9_takes_36 (c_X9_failsAt (c := 2) hW kn_2 h17 l20) (fun v_36 h_36 q_36 => ?_)
        obtain ⟨rfl, eF, f17, f18, fF⟩ := q_36
        refine r_zret dX9_takes_39 rfl (by decide) ⟨Nat.zero_le _, Nat.zero_le _⟩ ?_
        have hC : nmC b n p lo hi9 = 2 := by
          unfold nmC
          rw [if_pos hC2]
          exact if_neg (of_decide_eq_false (by
            cases z : decide (lo ≤ tV b n p ∧ tV b n p ≤ hi9) with
            | false => rfl
            | true => rw [z] at c_31; exact absurd c_31 (by decide)))
        rw [hC]
        exact ⟨rfl, eF.wk (fun i q => Or.inl q), fun k hk => fF k (by omega) (by omega), fF 23 (by decide) (by decide), fun q => absurd q (by decide), fun _ => ⟨f17, f18⟩⟩
    · refine r_aload_n dX9_takes_16 rfl ?_
      refine r_iconst (1) dX9_takes_17 (by decide) ?_
      refine q_callV1 (cv_X9_failsAt ml_X9_204) hW kc_723 (by decide) rfl ⟨rfl, rfl⟩ rfl (Nat.le_of_ble_eq_true rfl) dX9_takes_18 (c_X9_failsAt (c := 1) hW kn_1 h17 l20) (fun v_18 h_18 q_18 => ?_)
      obtain ⟨rfl, eF, f17, f18, fF⟩ := q_18
      refine r_zret dX9_takes_21 rfl (by decide) ⟨Nat.zero_le _, Nat.zero_le _⟩ ?_
      have hC : nmC b n p lo hi9 = 1 := by
        unfold nmC
        refine if_neg (fun q => ?_)
        obtain ⟨q1, q2⟩ := tC_2.mp q
        first
          | exact c_5 ((tkR_e hk6 hk4 (j := 2) (by decide)).mpr q1)
          | exact c_13 ((nI_leI (by omega) (by decide)).mpr q2)
      rw [hC]
      exact ⟨rfl, eF.wk (fun i q => Or.inl q), fun k hk => fF k (by omega) (by omega), fF 23 (by decide) (by decide), fun q => absurd q (by decide), fun _ => ⟨f17, f18⟩⟩
