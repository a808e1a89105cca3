-- the reference's reader: advanceToken, isWord, takes
theorem sI_self {h : AH} {i k : Nat} : sI h i k (aI h i k) = h := by
  unfold sI
  rw [upd_eq]
  unfold cI
  refine Prod.ext ?_ rfl
  funext a
  by_cases q : a = i
  · subst q; exact if_pos rfl
  · exact if_neg q
set_option maxRecDepth 100000 in
set_option maxHeartbeats 1600000 in
theorem c_X9_advanceToken {l9 : Launch} {G : GC} {h : AH} {b : Nat → Int32} {n : Nat} {p : Nat} (hW : World h) (hi : InB h b n) (h19 : aI h 723 19 = nI p) (hp : p ≤ n) : PM l9 G mX9_advanceToken NT NT [.ref 723] h (fun v h' => v = none ∧ eqx h h' S9 ∧ LkS h' b n p ∧ ∀ k, k ≠ 19 → k ≠ 20 → k ≠ 21 → k ≠ 22 → aI h' 723 k = aI h 723 k) noX := by
  refine PM.of (by decide +kernel) rfl rfl (Nat.le_of_ble_eq_true rfl) (fun hst _ => ?_)
  have hn7 := hi.2.1
  have hSl := tS_le (b := b) hp
  have loopW : ∀ (c9 : Int32) (j : Nat) (H : AH), World H → eqx h H S9 → aI H 723 19 = nI (tS b n p + j) → (∀ k, k ≠ 19 → k ≠ 20 → k ≠ 21 → k ≠ 22 → aI H 723 k = aI h 723 k) → aI H 723 20 = nI (tS b n p) → aI H 723 22 = nI 1 → tS b n p + j ≤ n → tE b n p = rnB b n 1 (n - j) (tS b n p + j) → tK b n p = 1 → PW l9 G mX9_advanceToken (mO mX9_advanceToken) (fiM G mX9_advanceToken NT (fun v h' => v = none ∧ eqx h h' S9 ∧ LkS h' b n p ∧ ∀ k, k ≠ 19 → k ≠ 20 → k ≠ 21 → k ≠ 22 → aI h' 723 k = aI h 723 k) noX) NT 90 [some (.ref 723), some (.int c9)] [] (0, 0) H := by
    intro c9
    refine loopN (P := fun j => ∀ H : AH, World H → eqx h H S9 → aI H 723 19 = nI (tS b n p + j) → (∀ k, k ≠ 19 → k ≠ 20 → k ≠ 21 → k ≠ 22 → aI H 723 k = aI h 723 k) → aI H 723 20 = nI (tS b n p) → aI H 723 22 = nI 1 → tS b n p + j ≤ n → tE b n p = rnB b n 1 (n - j) (tS b n p + j) → tK b n p = 1 → PW l9 G mX9_advanceToken (mO mX9_advanceToken) (fiM G mX9_advanceToken NT (fun v h' => v = none ∧ eqx h h' S9 ∧ LkS h' b n p ∧ ∀ k, k ≠ 19 → k ≠ 20 → k ≠ 21 → k ≠ 22 → aI h' 723 k = aI h 723 k) noX) NT 90 [some (.ref 723), some (.int c9)] [] (0, 0) H) n (fun j ih H hW he h19 hoth h20 h22 hle hf hk1 => ?_)
    have hiH : InB H b n := hi.cg he (by decide) (hoth 14 (by decide) (by decide) (by decide) (by decide))
    refine r_aload_n dX9_advanceToken_90 rfl ?_
    refine r_aload_n dX9_advanceToken_91 rfl ?_
    refine q_getI fl_X9_170 hW kc_723 rfl dX9_advanceToken_92 ?_
    rw [show aI H 723 19 = nI (tS b n p + j) from h19]
    refine q_callV1 (cv_X9_byteAt ml_X9_173) hW kc_723 (by decide) rfl ⟨rfl, rfl⟩ rfl (Nat.le_of_ble_eq_true rfl) dX9_advanceToken_95 (c_X9_byteAt hW hiH (i := tS b n p + j) rfl (by omega)) (fun v_95 h_95 q_95 => ?_)
    obtain ⟨rfl, z9⟩ := q_95
    replace z9 := z9.symm
    subst z9
    refine r_bipush (97) dX9_advanceToken_98 (by decide) ?_
    refine r_bipush (122) dX9_advanceToken_100 (by decide) ?_
    rw [show byR H n (tS b n p + j) = byR H n (tS b n p + j) from rfl]
    refine q_callS3 (cs_X9_inRange ml_X9_167) ⟨rfl, rfl⟩ rfl (Nat.le_of_ble_eq_true rfl) dX9_advanceToken_102 c_X9_inRange (fun v_102 h_102 q_102 => ?_)
    obtain ⟨rfl, z9⟩ := q_102
    replace z9 := z9.symm
    subst z9
    refine r_if_eq 229 dX9_advanceToken_105 (by decide) (fun c_105 => ?_) (fun c_105 => ?_)
    · refine r_vret dX9_advanceToken_229 rfl ⟨Nat.zero_le _, Nat.zero_le _⟩ ?_
      have hnk : kdB b n (tS b n p + j) ≠ 1 := fun q => absurd ((by_1 hiH).mpr q) (of_decide_eq_false (bI_0.mp c_105))
      have hE : tE b n p = tS b n p + j := hf.trans (rnB_no hnk)
      exact ⟨rfl, he, ⟨h20, by rw [h22, hk1]; rfl, by rw [h19, hE], fun q => absurd (hk1.symm.trans q) (by decide)⟩, hoth⟩
    · refine r_aload_n dX9_advanceToken_108 rfl ?_
      refine r_dup dX9_advanceToken_109 rfl ?_
      refine q_getI fl_X9_170 hW kc_723 rfl dX9_advanceToken_110 ?_
      
      refine r_iconst (1) dX9_advanceToken_113 (by decide) ?_
      refine r_iadd dX9_advanceToken_114 ?_
      rw [show aI H 723 19 + 1 = nI (tS b n p + (j + 1)) from by rw [h19, nI_1, Nat.add_assoc]]
      refine q_putI fl_X9_170 hW kc_723 rfl rfl dX9_advanceToken_115 ?_
      refine r_goto 90 dX9_advanceToken_118 (by decide) ?_
      have hk : kdB b n (tS b n p + j) = 1 := (by_1 hiH).mp (of_decide_eq_true (bI_1.mp c_105))
      have hlt := kdB_in (b := b) (n := n) (i := tS b n p + j) (by rw [hk]; decide)
      have e9 : eqx H (sI H 723 19 (nI (tS b n p + (j + 1)))) S9 := (eqx.rf (S := S9)).sI rfl
      exact ih (by omega) _ (e9.W hW) (he.tr e9) sI_s (fun k k1 k2 k3 k4 => by rw [sI_k k1]; exact hoth k k1 k2 k3 k4) (by rw [sI_k (by decide)]; exact h20) (by rw [sI_k (by decide)]; exact h22) (by omega) (hf.trans (by rw [rnB_go (by decide) hk (by omega)]; rfl)) hk1
  have loopD : ∀ (c9 : Int32) (j : Nat) (H : AH), World H → eqx h H S9 → aI H 723 19 = nI (tS b n p + j) → (∀ k, k ≠ 19 → k ≠ 20 → k ≠ 21 → k ≠ 22 → aI H 723 k = aI h 723 k) → aI H 723 20 = nI (tS b n p) → aI H 723 22 = nI 2 → aI H 723 21 = vlB b (tS b n p) (min 3 j) → tS b n p + j ≤ n → tE b n p = rnB b n 2 (n - j) (tS b n p + j) → tK b n p = 2 → PW l9 G mX9_advanceToken (mO mX9_advanceToken) (fiM G mX9_advanceToken NT (fun v h' => v = none ∧ eqx h h' S9 ∧ LkS h' b n p ∧ ∀ k, k ≠ 19 → k ≠ 20 → k ≠ 21 → k ≠ 22 → aI h' 723 k = aI h 723 k) noX) NT 137 [some (.ref 723), some (.int c9)] [] (0, 0) H := by
    intro c9
    have tail191 : ∀ (H : AH) (j : Nat) (y : Int32), World H → eqx h H S9 → aI H 723 19 = nI (tS b n p + j) → (∀ k, k ≠ 19 → k ≠ 20 → k ≠ 21 → k ≠ 22 → aI H 723 k = aI h 723 k) → aI H 723 20 = nI (tS b n p) → aI H 723 22 = nI 2 → y = vlB b (tS b n p) (min 3 (j + 1)) → tS b n p + j < n → tE b n p = rnB b n 2 (n - j) (tS b n p + j) → kdB b n (tS b n p + j) = 2 → (∀ H : AH, World H → eqx h H S9 → aI H 723 19 = nI (tS b n p + (j + 1)) → (∀ k, k ≠ 19 → k ≠ 20 → k ≠ 21 → k ≠ 22 → aI H 723 k = aI h 723 k) → aI H 723 20 = nI (tS b n p) → aI H 723 22 = nI 2 → aI H 723 21 = vlB b (tS b n p) (min 3 (j + 1)) → tS b n p + (j + 1) ≤ n → tE b n p = rnB b n 2 (n - (j + 1)) (tS b n p + (j + 1)) → PW l9 G mX9_advanceToken (mO mX9_advanceToken) (fiM G mX9_advanceToken NT (fun v h' => v = none ∧ eqx h h' S9 ∧ LkS h' b n p ∧ ∀ k, k ≠ 19 → k ≠ 20 → k ≠ 21 → k ≠ 22 → aI h' 723 k = aI h 723 k) noX) NT 137 [some (.ref 723), some (.int c9)] [] (0, 0) H) → PW l9 G mX9_advanceToken (mO mX9_advanceToken) (fiM G mX9_advanceToken NT (fun v h' => v = none ∧ eqx h h' S9 ∧ LkS h' b n p ∧ ∀ k, k ≠ 19 → k ≠ 20 → k ≠ 21 → k ≠ 22 → aI h' 723 k = aI h 723 k) noX) NT 191 [some (.ref 723), some (.int c9)] [] (0, 0) (sI H 723 21 y) := by
      intro H j y hW he h19 hoth h20 h22 hy hlt hf hk ih
      refine r_aload_n dX9_advanceToken_191 rfl ?_
      refine r_dup dX9_advanceToken_192 rfl ?_
      refine q_getI fl_X9_170 hW kc_723 rfl dX9_advanceToken_193 ?_
      refine r_iconst (1) dX9_advanceToken_196 (by decide) ?_
      refine r_iadd dX9_advanceToken_197 ?_
      rw [show aI (sI H 723 21 y) 723 19 + 1 = nI (tS b n p + (j + 1)) from by rw [sI_k (by decide), h19, nI_1, Nat.add_assoc]]
      refine q_putI fl_X9_170 hW kc_723 rfl rfl dX9_advanceToken_198 ?_
      refine r_goto 137 dX9_advanceToken_201 (by decide) ?_
      have e9 : eqx H (sI (sI H 723 21 y) 723 19 (nI (tS b n p + (j + 1)))) S9 := ((eqx.rf (S := S9)).sI rfl).sI rfl
      exact ih _ (e9.W hW) (he.tr e9) sI_s (fun k k1 k2 k3 k4 => by rw [sI_k k1, sI_k k3]; exact hoth k k1 k2 k3 k4) (by rw [sI_k (by decide), sI_k (by decide)]; exact h20) (by rw [sI_k (by decide), sI_k (by decide)]; exact h22) (by rw [sI_k (by decide), sI_s]; exact hy) (by omega) (hf.trans (by rw [rnB_go (by decide) hk (by omega)]; rfl))
    refine loopN (P := fun j => ∀ H : AH, World H → eqx h H S9 → aI H 723 19 = nI (tS b n p + j) → (∀ k, k ≠ 19 → k ≠ 20 → k ≠ 21 → k ≠ 22 → aI H 723 k = aI h 723 k) → aI H 723 20 = nI (tS b n p) → aI H 723 22 = nI 2 → aI H 723 21 = vlB b (tS b n p) (min 3 j) → tS b n p + j ≤ n → tE b n p = rnB b n 2 (n - j) (tS b n p + j) → tK b n p = 2 → PW l9 G mX9_advanceToken (mO mX9_advanceToken) (fiM G mX9_advanceToken NT (fun v h' => v = none ∧ eqx h h' S9 ∧ LkS h' b n p ∧ ∀ k, k ≠ 19 → k ≠ 20 → k ≠ 21 → k ≠ 22 → aI h' 723 k = aI h 723 k) noX) NT 137 [some (.ref 723), some (.int c9)] [] (0, 0) H) n (fun j ih H hW he h19 hoth h20 h22 h21 hle hf hk2 => ?_)
    have hiH : InB H b n := hi.cg he (by decide) (hoth 14 (by decide) (by decide) (by decide) (by decide))
    refine r_aload_n dX9_advanceToken_137 rfl ?_
    refine r_aload_n dX9_advanceToken_138 rfl ?_
    refine q_getI fl_X9_170 hW kc_723 rfl dX9_advanceToken_139 ?_
    rw [show aI H 723 19 = nI (tS b n p + j) from h19]
    refine q_callV1 (cv_X9_byteAt ml_X9_173) hW kc_723 (by decide) rfl ⟨rfl, rfl⟩ rfl (Nat.le_of_ble_eq_true rfl) dX9_advanceToken_142 (c_X9_byteAt hW hiH (i := tS b n p + j) rfl (by omega)) (fun v_142 h_142 q_142 => ?_)
    obtain ⟨rfl, z9⟩ := q_142
    replace z9 := z9.symm
    subst z9
    refine r_bipush (48) dX9_advanceToken_145 (by decide) ?_
    refine r_bipush (57) dX9_advanceToken_147 (by decide) ?_
    refine q_callS3 (cs_X9_inRange ml_X9_167) ⟨rfl, rfl⟩ rfl (Nat.le_of_ble_eq_true rfl) dX9_advanceToken_149 c_X9_inRange (fun v_149 h_149 q_149 => ?_)
    obtain ⟨rfl, z9⟩ := q_149
    replace z9 := z9.symm
    subst z9
    refine r_if_eq 229 dX9_advanceToken_152 (by decide) (fun c_152 => ?_) (fun c_152 => ?_)
    · refine r_vret dX9_advanceToken_229 rfl ⟨Nat.zero_le _, Nat.zero_le _⟩ ?_
      have hnk : kdB b n (tS b n p + j) ≠ 2 := fun q => absurd ((by_2 hiH).mpr q) (of_decide_eq_false (bI_0.mp c_152))
      have hE : tE b n p = tS b n p + j := hf.trans (rnB_no hnk)
      exact ⟨rfl, he, ⟨h20, by rw [h22, hk2]; rfl, by rw [h19, hE], fun _ => by rw [h21]; unfold tV; rw [hE, show tS b n p + j - tS b n p = j from by omega]⟩, hoth⟩
    · refine r_aload_n dX9_advanceToken_155 rfl ?_
      refine q_getI fl_X9_170 hW kc_723 rfl dX9_advanceToken_156 ?_
      refine r_aload_n dX9_advanceToken_159 rfl ?_
      refine q_getI fl_X9_176 hW kc_723 rfl dX9_advanceToken_160 ?_
      rw [show aI H 723 19 = nI (tS b n p + j) from h19, show aI H 723 20 = nI (tS b n p) from h20]
      refine r_isub dX9_advanceToken_163 ?_
      rw [pk_sub (by omega), show tS b n p + j - tS b n p = j from by omega]
      refine r_iconst (3) dX9_advanceToken_164 (by decide) ?_
      refine r_icmp_ge 191 dX9_advanceToken_165 (by decide) (fun c_165 => ?_) (fun c_165 => ?_)
      · have hk : kdB b n (tS b n p + j) = 2 := (by_2 hiH).mp (of_decide_eq_true (bI_1.mp c_152))
        have hlt := kdB_in (b := b) (n := n) (i := tS b n p + j) (by rw [hk]; decide)
        first
          | (have hj3 : j < 3 := (nI_ltI (a := j) (b := 3) (by omega) (by decide)).mp (i_lt.mp c_165)
             have ev : 10 * vlB b (tS b n p) (min 3 j) + b (tS b n p + j) - 48 = vlB b (tS b n p) (min 3 (j + 1)) := by
               rw [Nat.min_eq_right (by omega), Nat.min_eq_right (by omega)]; rfl
             rw [ev]
             exact tail191 H j _ hW he h19 hoth h20 h22 rfl (by omega) hf hk (fun H q1 q2 q3 q4 q5 q6 q7 q8 q9 => ih (by omega) H q1 q2 q3 q4 q5 q6 q7 q8 q9 hk2))
          | (have hj3 : 3 ≤ j := (nI_leI (a := 3) (b := j) (by decide) (by omega)).mp c_165
             have ev : aI H 723 21 = vlB b (tS b n p) (min 3 (j + 1)) := by rw [h21, Nat.min_eq_left hj3, Nat.min_eq_left (by omega)]
             have eH : H = sI H 723 21 (aI H 723 21) := (sI_self).symm
             rw [eH]
             exact tail191 H j _ hW he h19 hoth h20 h22 ev (by omega) hf hk (fun H q1 q2 q3 q4 q5 q6 q7 q8 q9 => ih (by omega) H q1 q2 q3 q4 q5 q6 q7 q8 q9 hk2))
      · refine r_aload_n dX9_advanceToken_168 rfl ?_
        refine r_bipush (10) dX9_advanceToken_169 (by decide) ?_
        refine r_aload_n dX9_advanceToken_171 rfl ?_
        refine q_getI fl_X9_179 hW kc_723 rfl dX9_advanceToken_172 ?_
        rw [show aI H 723 21 = vlB b (tS b n p) (min 3 j) from h21]
        refine r_imul dX9_advanceToken_175 ?_
        refine r_aload_n dX9_advanceToken_176 rfl ?_
        refine r_aload_n dX9_advanceToken_177 rfl ?_
        refine q_getI fl_X9_170 hW kc_723 rfl dX9_advanceToken_178 ?_
        rw [show aI H 723 19 = nI (tS b n p + j) from h19]
        refine q_callV1 (cv_X9_byteAt ml_X9_173) hW kc_723 (by decide) rfl ⟨rfl, rfl⟩ rfl (Nat.le_of_ble_eq_true rfl) dX9_advanceToken_181 (c_X9_byteAt hW hiH (i := tS b n p + j) rfl (by omega)) (fun v_181 h_181 q_181 => ?_)
        obtain ⟨rfl, z9⟩ := q_181
        replace z9 := z9.symm
        subst z9
        rw [by_d hiH ((by_2 hiH).mp (of_decide_eq_true (bI_1.mp c_152)))]
        refine r_iadd dX9_advanceToken_184 ?_
        refine r_bipush (48) dX9_advanceToken_185 (by decide) ?_
        refine r_isub dX9_advanceToken_187 ?_
        refine q_putI fl_X9_179 hW kc_723 rfl rfl dX9_advanceToken_188 ?_
        have hk : kdB b n (tS b n p + j) = 2 := (by_2 hiH).mp (of_decide_eq_true (bI_1.mp c_152))
        have hlt := kdB_in (b := b) (n := n) (i := tS b n p + j) (by rw [hk]; decide)
        first
          | (have hj3 : j < 3 := (nI_ltI (a := j) (b := 3) (by omega) (by decide)).mp (i_lt.mp c_165)
             have ev : 10 * vlB b (tS b n p) (min 3 j) + b (tS b n p + j) - 48 = vlB b (tS b n p) (min 3 (j + 1)) := by
               rw [Nat.min_eq_right (by omega), Nat.min_eq_right (by omega)]; rfl
             rw [ev]
             exact tail191 H j _ hW he h19 hoth h20 h22 rfl (by omega) hf hk (fun H q1 q2 q3 q4 q5 q6 q7 q8 q9 => ih (by omega) H q1 q2 q3 q4 q5 q6 q7 q8 q9 hk2))
          | (have hj3 : 3 ≤ j := (nI_leI (a := 3) (b := j) (by decide) (by omega)).mp c_165
             have ev : aI H 723 21 = vlB b (tS b n p) (min 3 (j + 1)) := by rw [h21, Nat.min_eq_left hj3, Nat.min_eq_left (by omega)]
             have eH : H = sI H 723 21 (aI H 723 21) := (sI_self).symm
             rw [eH]
             exact tail191 H j _ hW he h19 hoth h20 h22 ev (by omega) hf hk (fun H q1 q2 q3 q4 q5 q6 q7 q8 q9 => ih (by omega) H q1 q2 q3 q4 q5 q6 q7 q8 q9 hk2))
  have tail39 : ∀ H : AH, World H → eqx h H S9 → aI H 723 19 = nI (tS b n p) → (∀ k, k ≠ 19 → aI H 723 k = aI h 723 k) → PW l9 G mX9_advanceToken (mO mX9_advanceToken) (fiM G mX9_advanceToken NT (fun v h' => v = none ∧ eqx h h' S9 ∧ LkS h' b n p ∧ ∀ k, k ≠ 19 → k ≠ 20 → k ≠ 21 → k ≠ 22 → aI h' 723 k = aI h 723 k) noX) NT 39 [some (.ref 723), none] [] (0, 0) H := by
    intro H hW he h19 hoth
    have hW0 := hW
    have hiH : InB H b n := hi.cg he (by decide) (hoth 14 (by decide))
    refine r_aload_n dX9_advanceToken_39 rfl ?_
    refine r_aload_n dX9_advanceToken_40 rfl ?_
    refine q_getI fl_X9_170 hW kc_723 rfl dX9_advanceToken_41 ?_
    rw [show aI H 723 19 = nI (tS b n p) from h19]
    have e1 : eqx H (sI H 723 20 (nI (tS b n p))) S9 := (eqx.rf (S := S9)).sI rfl
    have hW := e1.W hW
    have hi1 : InB (sI H 723 20 (nI (tS b n p))) b n := hiH.cg e1 (by decide) (sI_k (by decide))
    refine q_putI fl_X9_176 hW kc_723 rfl rfl dX9_advanceToken_44 ?_
    refine r_aload_n dX9_advanceToken_47 rfl ?_
    refine r_aload_n dX9_advanceToken_48 rfl ?_
    refine q_getI fl_X9_170 hW kc_723 rfl dX9_advanceToken_49 ?_
    rw [show aI (sI H 723 20 (nI (tS b n p))) 723 19 = nI (tS b n p) from (sI_k (by decide)).trans h19]
    refine q_callV1 (cv_X9_byteAt ml_X9_173) hW kc_723 (by decide) rfl ⟨rfl, rfl⟩ rfl (Nat.le_of_ble_eq_true rfl) dX9_advanceToken_52 (c_X9_byteAt hW hi1 (i := tS b n p) rfl (by omega)) (fun v_52 h_52 q_52 => ?_)
    obtain ⟨rfl, z9⟩ := q_52
    replace z9 := z9.symm
    subst z9
    refine r_istore_n (ls2 := [some _, _]) dX9_advanceToken_55 (by decide) rfl ?_
    refine r_aload_n dX9_advanceToken_56 rfl ?_
    refine r_iconst (0) dX9_advanceToken_57 (by decide) ?_
    refine q_putI fl_X9_179 hW kc_723 rfl rfl dX9_advanceToken_58 ?_
    have e2 : eqx H (sI (sI H 723 20 (nI (tS b n p))) 723 21 0) S9 := ((eqx.rf (S := S9)).sI rfl).sI rfl
    have hW := e2.W hW
    have eby : byR (sI H 723 20 (nI (tS b n p))) n (tS b n p) = byR H n (tS b n p) := byR_cg e1 (by decide)
    rw [eby]
    refine r_iload_n dX9_advanceToken_61 rfl ?_
    refine r_iconst (-1) dX9_advanceToken_62 (by decide) ?_
    refine r_icmp_ne 74 dX9_advanceToken_63 (by decide) (fun c_63 => ?_) (fun c_63 => ?_)
    · 
      refine r_iload_n dX9_advanceToken_74 rfl ?_
      refine r_bipush (97) dX9_advanceToken_75 (by decide) ?_
      refine r_bipush (122) dX9_advanceToken_77 (by decide) ?_
      refine q_callS3 (cs_X9_inRange ml_X9_167) ⟨rfl, rfl⟩ rfl (Nat.le_of_ble_eq_true rfl) dX9_advanceToken_79 c_X9_inRange (fun v_79 h_79 q_79 => ?_)
      obtain ⟨rfl, z9⟩ := q_79
      replace z9 := z9.symm
      subst z9
      refine r_if_eq 121 dX9_advanceToken_82 (by decide) (fun c_82 => ?_) (fun c_82 => ?_)
      · refine r_iload_n dX9_advanceToken_121 rfl ?_
        refine r_bipush (48) dX9_advanceToken_122 (by decide) ?_
        refine r_bipush (57) dX9_advanceToken_124 (by decide) ?_
        refine q_callS3 (cs_X9_inRange ml_X9_167) ⟨rfl, rfl⟩ rfl (Nat.le_of_ble_eq_true rfl) dX9_advanceToken_126 c_X9_inRange (fun v_126 h_126 q_126 => ?_)
        obtain ⟨rfl, z9⟩ := q_126
        replace z9 := z9.symm
        subst z9
        refine r_if_eq 204 dX9_advanceToken_129 (by decide) (fun c_129 => ?_) (fun c_129 => ?_)
        · refine r_aload_n dX9_advanceToken_204 rfl ?_
          refine r_iload_n dX9_advanceToken_205 rfl ?_
          refine r_bipush (59) dX9_advanceToken_206 (by decide) ?_
          refine r_icmp_ne 215 dX9_advanceToken_208 (by decide) (fun c_208 => ?_) (fun c_208 => ?_)
          · refine r_iconst (4) dX9_advanceToken_215 (by decide) ?_
            refine q_putI fl_X9_182 hW kc_723 rfl rfl dX9_advanceToken_216 ?_
            refine r_aload_n dX9_advanceToken_219 rfl ?_
            refine r_dup dX9_advanceToken_220 rfl ?_
            refine q_getI fl_X9_170 hW kc_723 rfl dX9_advanceToken_221 ?_
            refine r_iconst (1) dX9_advanceToken_224 (by decide) ?_
            refine r_iadd dX9_advanceToken_225 ?_
            refine q_putI fl_X9_170 hW kc_723 rfl rfl dX9_advanceToken_226 ?_
            first
              | (have hk0 : tK b n p = 0 := (by_0 hiH).mp c_63
                 have hE : tE b n p = tS b n p := if_pos hk0
                 have e3 : eqx H (sI (sI (sI H 723 20 (nI (tS b n p))) 723 21 0) 723 22 0) S9 := e2.sI rfl
                 refine r_vret dX9_advanceToken_229 rfl ⟨Nat.zero_le _, Nat.zero_le _⟩ ?_
                 exact ⟨rfl, he.tr e3, ⟨by rw [sI_k (by decide), sI_k (by decide), sI_s], by rw [sI_s, hk0]; rfl, by rw [sI_k (by decide), sI_k (by decide), sI_k (by decide), h19, hE], fun q => absurd (hk0.symm.trans q) (by decide)⟩, fun k k1 k2 k3 k4 => by rw [sI_k k4, sI_k k3, sI_k k2]; exact hoth k k1⟩)
              | (have hn0 : tK b n p ≠ 0 := fun q => c_63 ((by_0 hiH).mpr q)
                 have hn1 : tK b n p ≠ 1 := fun q => absurd ((by_1 hiH).mpr q) (of_decide_eq_false (bI_0.mp c_82))
                 have hn2 : tK b n p ≠ 2 := fun q => absurd ((by_2 hiH).mpr q) (of_decide_eq_false (bI_0.mp c_129))
                 have hn4 := tK_4 (b := b) (n := n) (p := p)
                 have hk6 := tK_lt (b := b) (n := n) (p := p)
                 have hE : tE b n p = tS b n p + 1 := by
                   unfold tE
                   rw [if_neg hn0, if_neg (fun q => q.elim hn1 hn2)]
                 refine r_vret dX9_advanceToken_229 rfl ⟨Nat.zero_le _, Nat.zero_le _⟩ ?_
                 refine ⟨rfl, he.tr ((e2.sI rfl).sI rfl), ⟨by rw [sI_k (by decide), sI_k (by decide), sI_k (by decide), sI_s], ?_, by rw [sI_s, sI_k (by decide), sI_k (by decide), sI_k (by decide), h19, nI_1, hE], fun q => absurd q hn2⟩, fun k k1 k2 k3 k4 => by rw [sI_k k1, sI_k k4, sI_k k3, sI_k k2]; exact hoth k k1⟩
                 rw [sI_k (by decide), sI_s]
                 first
                   | (have hk3 : tK b n p = 3 := kdB_3.mpr ((by_e hiH (k := 59) (by decide)).mp c_208)
                      rw [hk3]; rfl)
                   | (have hk3 : tK b n p ≠ 3 := fun q => c_208 ((by_e hiH (k := 59) (by decide)).mpr (kdB_3.mp q))
                      rw [show tK b n p = 5 from by omega]; rfl))
          · refine r_iconst (3) dX9_advanceToken_211 (by decide) ?_
            refine r_goto 216 dX9_advanceToken_212 (by decide) ?_
            refine q_putI fl_X9_182 hW kc_723 rfl rfl dX9_advanceToken_216 ?_
            refine r_aload_n dX9_advanceToken_219 rfl ?_
            refine r_dup dX9_advanceToken_220 rfl ?_
            refine q_getI fl_X9_170 hW kc_723 rfl dX9_advanceToken_221 ?_
            refine r_iconst (1) dX9_advanceToken_224 (by decide) ?_
            refine r_iadd dX9_advanceToken_225 ?_
            refine q_putI fl_X9_170 hW kc_723 rfl rfl dX9_advanceToken_226 ?_
            first
              | (have hk0 : tK b n p = 0 := (by_0 hiH).mp c_63
                 have hE : tE b n p = tS b n p := if_pos hk0
                 have e3 : eqx H (sI (sI (sI H 723 20 (nI (tS b n p))) 723 21 0) 723 22 0) S9 := e2.sI rfl
                 refine r_vret dX9_advanceToken_229 rfl ⟨Nat.zero_le _, Nat.zero_le _⟩ ?_
                 exact ⟨rfl, he.tr e3, ⟨by rw [sI_k (by decide), sI_k (by decide), sI_s], by rw [sI_s, hk0]; rfl, by rw [sI_k (by decide), sI_k (by decide), sI_k (by decide), h19, hE], fun q => absurd (hk0.symm.trans q) (by decide)⟩, fun k k1 k2 k3 k4 => by rw [sI_k k4, sI_k k3, sI_k k2]; exact hoth k k1⟩)
              | (have hn0 : tK b n p ≠ 0 := fun q => c_63 ((by_0 hiH).mpr q)
                 have hn1 : tK b n p ≠ 1 := fun q => absurd ((by_1 hiH).mpr q) (of_decide_eq_false (bI_0.mp c_82))
                 have hn2 : tK b n p ≠ 2 := fun q => absurd ((by_2 hiH).mpr q) (of_decide_eq_false (bI_0.mp c_129))
                 have hn4 := tK_4 (b := b) (n := n) (p := p)
                 have hk6 := tK_lt (b := b) (n := n) (p := p)
                 have hE : tE b n p = tS b n p + 1 := by
                   unfold tE
                   rw [if_neg hn0, if_neg (fun q => q.elim hn1 hn2)]
                 refine r_vret dX9_advanceToken_229 rfl ⟨Nat.zero_le _, Nat.zero_le _⟩ ?_
                 refine ⟨rfl, he.tr ((e2.sI rfl).sI rfl), ⟨by rw [sI_k (by decide), sI_k (by decide), sI_k (by decide), sI_s], ?_, by rw [sI_s, sI_k (by decide), sI_k (by decide), sI_k (by decide), h19, nI_1, hE], fun q => absurd q hn2⟩, fun k k1 k2 k3 k4 => by rw [sI_k k1, sI_k k4, sI_k k3, sI_k k2]; exact hoth k k1⟩
                 rw [sI_k (by decide), sI_s]
                 first
                   | (have hk3 : tK b n p = 3 := kdB_3.mpr ((by_e hiH (k := 59) (by decide)).mp c_208)
                      rw [hk3]; rfl)
                   | (have hk3 : tK b n p ≠ 3 := fun q => c_208 ((by_e hiH (k := 59) (by decide)).mpr (kdB_3.mp q))
                      rw [show tK b n p = 5 from by omega]; rfl))
        · refine r_aload_n dX9_advanceToken_132 rfl ?_
          refine r_iconst (2) dX9_advanceToken_133 (by decide) ?_
          refine q_putI fl_X9_182 hW kc_723 rfl rfl dX9_advanceToken_134 ?_
          have hk2 : tK b n p = 2 := (by_2 hiH).mp (of_decide_eq_true (bI_1.mp c_129))
          have hS := kdB_in (b := b) (n := n) (i := tS b n p) (by show tK b n p ≠ 0; rw [hk2]; decide)
          have hEr : tE b n p = rnB b n 2 n (tS b n p) := by
            unfold tE
            rw [if_neg (by rw [hk2]; decide), if_pos (Or.inr hk2), hk2]
            have z := rnB_go (b := b) (n := n) (k := 2) (by decide) hk2 (f := n) (by omega)
            rw [show rnB b n 2 n (tS b n p) = _ from z]
            have z2 := rnB_fu (b := b) (n := n) (k := 2) (by decide) (n - 1) (tS b n p + 1) (by omega)
            rw [z2, show n - 1 + 1 = n from by omega]
          have e3 : eqx H (sI (sI (sI H 723 20 (nI (tS b n p))) 723 21 0) 723 22 2) S9 := e2.sI rfl
          exact loopD _ 0 _ (e3.W hW0) (he.tr e3) (by rw [sI_k (by decide), sI_k (by decide), sI_k (by decide)]; exact h19) (fun k k1 k2 k3 k4 => by rw [sI_k k4, sI_k k3, sI_k k2]; exact hoth k k1) (by rw [sI_k (by decide), sI_k (by decide), sI_s]) sI_s (by rw [sI_k (by decide), sI_s]; rfl) (by omega) hEr hk2
      · refine r_aload_n dX9_advanceToken_85 rfl ?_
        refine r_iconst (1) dX9_advanceToken_86 (by decide) ?_
        refine q_putI fl_X9_182 hW kc_723 rfl rfl dX9_advanceToken_87 ?_
        have hk1 : tK b n p = 1 := (by_1 hiH).mp (of_decide_eq_true (bI_1.mp c_82))
        have hS := kdB_in (b := b) (n := n) (i := tS b n p) (by show tK b n p ≠ 0; rw [hk1]; decide)
        have hEr : tE b n p = rnB b n 1 n (tS b n p) := by
          unfold tE
          rw [if_neg (by rw [hk1]; decide), if_pos (Or.inl hk1), hk1]
          have z := rnB_go (b := b) (n := n) (k := 1) (by decide) hk1 (f := n) (by omega)
          rw [show rnB b n 1 n (tS b n p) = _ from z]
          have z2 := rnB_fu (b := b) (n := n) (k := 1) (by decide) (n - 1) (tS b n p + 1) (by omega)
          rw [z2, show n - 1 + 1 = n from by omega]
        have e3 : eqx H (sI (sI (sI H 723 20 (nI (tS b n p))) 723 21 0) 723 22 1) S9 := e2.sI rfl
        exact loopW _ 0 _ (e3.W hW0) (he.tr e3) (by rw [sI_k (by decide), sI_k (by decide), sI_k (by decide)]; exact h19) (fun k k1 k2 k3 k4 => by rw [sI_k k4, sI_k k3, sI_k k2]; exact hoth k k1) (by rw [sI_k (by decide), sI_k (by decide), sI_s]) sI_s (by omega) hEr hk1
    · 
      refine r_aload_n dX9_advanceToken_66 rfl ?_
      refine r_iconst (0) dX9_advanceToken_67 (by decide) ?_
      refine q_putI fl_X9_182 hW kc_723 rfl rfl dX9_advanceToken_68 ?_
      refine r_goto 229 dX9_advanceToken_71 (by decide) ?_
      first
        | (have hk0 : tK b n p = 0 := (by_0 hiH).mp c_63
           have hE : tE b n p = tS b n p := if_pos hk0
           have e3 : eqx H (sI (sI (sI H 723 20 (nI (tS b n p))) 723 21 0) 723 22 0) S9 := e2.sI rfl
           refine r_vret dX9_advanceToken_229 rfl ⟨Nat.zero_le _, Nat.zero_le _⟩ ?_
           exact ⟨rfl, he.tr e3, ⟨by rw [sI_k (by decide), sI_k (by decide), sI_s], by rw [sI_s, hk0]; rfl, by rw [sI_k (by decide), sI_k (by decide), sI_k (by decide), h19, hE], fun q => absurd (hk0.symm.trans q) (by decide)⟩, fun k k1 k2 k3 k4 => by rw [sI_k k4, sI_k k3, sI_k k2]; exact hoth k k1⟩)
        | (have hn0 : tK b n p ≠ 0 := fun q => c_63 ((by_0 hiH).mpr q)
           have hn1 : tK b n p ≠ 1 := fun q => absurd ((by_1 hiH).mpr q) (of_decide_eq_false (bI_0.mp c_82))
           have hn2 : tK b n p ≠ 2 := fun q => absurd ((by_2 hiH).mpr q) (of_decide_eq_false (bI_0.mp c_129))
           have hn4 := tK_4 (b := b) (n := n) (p := p)
           have hk6 := tK_lt (b := b) (n := n) (p := p)
           have hE : tE b n p = tS b n p + 1 := by
             unfold tE
             rw [if_neg hn0, if_neg (fun q => q.elim hn1 hn2)]
           refine r_vret dX9_advanceToken_229 rfl ⟨Nat.zero_le _, Nat.zero_le _⟩ ?_
           refine ⟨rfl, he.tr ((e2.sI rfl).sI rfl), ⟨by rw [sI_k (by decide), sI_k (by decide), sI_k (by decide), sI_s], ?_, by rw [sI_s, sI_k (by decide), sI_k (by decide), sI_k (by decide), h19, nI_1, hE], fun q => absurd q hn2⟩, fun k k1 k2 k3 k4 => by rw [sI_k k1, sI_k k4, sI_k k3, sI_k k2]; exact hoth k k1⟩
           rw [sI_k (by decide), sI_s]
           first
             | (have hk3 : tK b n p = 3 := kdB_3.mpr ((by_e hiH (k := 59) (by decide)).mp c_208)
                rw [hk3]; rfl)
             | (have hk3 : tK b n p ≠ 3 := fun q => c_208 ((by_e hiH (k := 59) (by decide)).mpr (kdB_3.mp q))
                rw [show tK b n p = 5 from by omega]; rfl))
  refine loopN (P := fun j => ∀ H : AH, World H → eqx h H S9 → aI H 723 19 = nI (p + j) → (∀ k, k ≠ 19 → aI H 723 k = aI h 723 k) → p + j ≤ n → tS b n p = rnB b n 4 (n - j) (p + j) → PW l9 G mX9_advanceToken (mO mX9_advanceToken) (fiM G mX9_advanceToken NT (fun v h' => v = none ∧ eqx h h' S9 ∧ LkS h' b n p ∧ ∀ k, k ≠ 19 → k ≠ 20 → k ≠ 21 → k ≠ 22 → aI h' 723 k = aI h 723 k) noX) NT 0 [some (.ref 723), none] [] (0, 0) H) n (fun j ih H hW he h19 hoth hle hf => ?_) 0 h hW eqx.rf h19 (fun _ _ => rfl) hp rfl
  have hiH : InB H b n := hi.cg he (by decide) (hoth 14 (by decide))
  refine r_aload_n dX9_advanceToken_0 rfl ?_
  refine r_aload_n dX9_advanceToken_1 rfl ?_
  refine q_getI fl_X9_170 hW kc_723 rfl dX9_advanceToken_2 ?_
  rw [show aI H 723 19 = nI (p + j) from h19]
  refine q_callV1 (cv_X9_byteAt ml_X9_173) hW kc_723 (by decide) rfl ⟨rfl, rfl⟩ rfl (Nat.le_of_ble_eq_true rfl) dX9_advanceToken_5 (c_X9_byteAt hW hiH (i := p + j) rfl (by omega)) (fun v_5 h_5 q_5 => ?_)
  obtain ⟨rfl, z9⟩ := q_5
  replace z9 := z9.symm
  subst z9
  refine r_bipush (32) dX9_advanceToken_8 (by decide) ?_
  refine r_icmp_eq 26 dX9_advanceToken_10 (by decide) (fun c_10 => ?_) (fun c_10 => ?_)
  · refine r_aload_n dX9_advanceToken_26 rfl ?_
    refine r_dup dX9_advanceToken_27 rfl ?_
    refine q_getI fl_X9_170 hW kc_723 rfl dX9_advanceToken_28 ?_
    refine r_iconst (1) dX9_advanceToken_31 (by decide) ?_
    refine r_iadd dX9_advanceToken_32 ?_
    rw [show aI H 723 19 + 1 = nI (p + (j + 1)) from by rw [h19, nI_1, Nat.add_assoc]]
    refine q_putI fl_X9_170 hW kc_723 rfl rfl dX9_advanceToken_33 ?_
    refine r_goto 0 dX9_advanceToken_36 (by decide) ?_
    have hk : kdB b n (p + j) = 4 := by
      refine kdB_4.mpr ?_
      have z : byR H n (p + j) = nI 32 ∨ byR H n (p + j) = nI 10 := by
        first
          | exact Or.inl c_10
          | exact Or.inr c_23
      rcases z with z | z
      · exact ⟨((by_e hiH (by decide)).mp z).1, Or.inl ((by_e hiH (by decide)).mp z).2⟩
      · exact ⟨((by_e hiH (by decide)).mp z).1, Or.inr ((by_e hiH (by decide)).mp z).2⟩
    have hlt := kdB_in (b := b) (n := n) (i := p + j) (by rw [hk]; decide)
    have e9 : eqx H (sI H 723 19 (nI (p + (j + 1)))) S9 := (eqx.rf (S := S9)).sI rfl
    exact ih (by omega) _ (e9.W hW) (he.tr e9) sI_s (fun k k1 => by rw [sI_k k1]; exact hoth k k1) (by omega) (hf.trans (by rw [rnB_go (by decide) hk (by omega)]; rfl))
  · refine r_aload_n dX9_advanceToken_13 rfl ?_
    refine r_aload_n dX9_advanceToken_14 rfl ?_
    refine q_getI fl_X9_170 hW kc_723 rfl dX9_advanceToken_15 ?_
    rw [show aI H 723 19 = nI (p + j) from h19]
    refine q_callV1 (cv_X9_byteAt ml_X9_173) hW kc_723 (by decide) rfl ⟨rfl, rfl⟩ rfl (Nat.le_of_ble_eq_true rfl) dX9_advanceToken_18 (c_X9_byteAt hW hiH (i := p + j) rfl (by omega)) (fun v_18 h_18 q_18 => ?_)
    obtain ⟨rfl, z9⟩ := q_18
    replace z9 := z9.symm
    subst z9
    refine r_bipush (10) dX9_advanceToken_21 (by decide) ?_
    refine r_icmp_ne 39 dX9_advanceToken_23 (by decide) (fun c_23 => ?_) (fun c_23 => ?_)
    · have hnk : kdB b n (p + j) ≠ 4 := fun q => by
        obtain ⟨q1, q2⟩ := kdB_4.mp q
        rcases q2 with q2 | q2
        · exact c_10 ((by_e hiH (k := 32) (by decide)).mpr ⟨q1, q2⟩)
        · exact c_23 ((by_e hiH (k := 10) (by decide)).mpr ⟨q1, q2⟩)
      have hS : tS b n p = p + j := hf.trans (rnB_no hnk)
      exact tail39 H hW he (by rw [hS]; exact h19) hoth
    · refine r_aload_n dX9_advanceToken_26 rfl ?_
      refine r_dup dX9_advanceToken_27 rfl ?_
      refine q_getI fl_X9_170 hW kc_723 rfl dX9_advanceToken_28 ?_
      refine r_iconst (1) dX9_advanceToken_31 (by decide) ?_
      refine r_iadd dX9_advanceToken_32 ?_
      rw [show aI H 723 19 + 1 = nI (p + (j + 1)) from by rw [h19, nI_1, Nat.add_assoc]]
      refine q_putI fl_X9_170 hW kc_723 rfl rfl dX9_advanceToken_33 ?_
      refine r_goto 0 dX9_advanceToken_36 (by decide) ?_
      have hk : kdB b n (p + j) = 4 := by
        refine kdB_4.mpr ?_
        have z : byR H n (p + j) = nI 32 ∨ byR H n (p + j) = nI 10 := by
          first
            | exact Or.inl c_10
            | exact Or.inr c_23
        rcases z with z | z
        · exact ⟨((by_e hiH (by decide)).mp z).1, Or.inl ((by_e hiH (by decide)).mp z).2⟩
        · exact ⟨((by_e hiH (by decide)).mp z).1, Or.inr ((by_e hiH (by decide)).mp z).2⟩
      have hlt := kdB_in (b := b) (n := n) (i := p + j) (by rw [hk]; decide)
      have e9 : eqx H (sI H 723 19 (nI (p + (j + 1)))) S9 := (eqx.rf (S := S9)).sI rfl
      exact ih (by omega) _ (e9.W hW) (he.tr e9) sI_s (fun k k1 => by rw [sI_k k1]; exact hoth k k1) (by omega) (hf.trans (by rw [rnB_go (by decide) hk (by omega)]; rfl))
