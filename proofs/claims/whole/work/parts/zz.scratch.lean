-- the class's reader: a statement, the setup
theorem stI_e {j : Nat} (h : j ≠ 12) : stI j = nI j := if_neg h
theorem stI_0 {j : Nat} (hj : j < 13) : stI j = 0 ↔ j = 0 := by
  unfold stI
  split
  · next q => exact ⟨fun z => absurd z (by decide), fun z => absurd (z.symm.trans q) (by decide)⟩
  · exact nI_eqI (by omega) (by decide)
theorem stI_m {j : Nat} (hj : j < 13) : stI j = -1 ↔ j = 12 := by
  unfold stI
  split
  · next q => exact ⟨fun _ => q, fun _ => rfl⟩
  · next q => exact ⟨fun z => by
      have : (0 : Int32) ≤ nI j := by
        have := nI_pos (n := j) (by omega)
        exact Int32.not_lt.mp this
      rw [z] at this
      exact absurd this (by decide), fun z => absurd z q⟩
theorem TkS.mk6 {h : AH} {b : Nat → Int32} {n p : Nat} {x : Int32} (ht : TkS h b n p) : TkS (sI h 3 6 x) b n p := by
  obtain ⟨t1, t2, t3, t4⟩ := ht
  exact ⟨(sI_k (by decide)).trans t1, (sI_k (by decide)).trans t2, (sI_k (by decide)).trans t3, fun q => (sI_k (by decide)).trans (t4 q)⟩
set_option maxRecDepth 100000 in
set_option maxHeartbeats 1600000 in
theorem c_X5_readStatement {l9 : Launch} {G : GC} {h : AH} {b : Nat → Int32} {n : Nat} {w : Nat → Int32} {ts : Nat → Bool} {p : Nat} (hW : World h) (hr : RdH h b n) (ht : TkS h b n p) (h7 : aI h 3 7 = nI 0) (h8 : aI h 3 8 = -1) (hp : p ≤ n) (hG : GOK G) (hrw : StR h 62 w ZG) (hP : PI w) (hF : RgF h w) (hT : 0 < nn (w 0) → TbR (aI h 3 6) ts) : PM l9 G mX5_readStatement NT NT [.ref 3, .ref 62] h (fun v h' => v = none ∧ eqx h h' (fun i => i = 3 ∨ SB 62 i) ∧ RdS h' b n (stmE b n ts w p) ∧ ((stmE b n ts w p).1 = 0 → StR h' 62 (stmW b n w p) ZG ∧ RgF h' (stmW b n w p) ∧ TbR (aI h' 3 6) (stmT b n ts p))) noX := by
  refine PM.of (by decide +kernel) rfl rfl (Nat.le_of_ble_eq_true rfl) (fun hst _ => ?_)
  have h04 : nn (w 0) ≤ 4 := hP.n4.2.2
  obtain ⟨m, m1, m2, m3⟩ := hP.n4.nat
  have em : nn (w 0) = m := by rw [m3]; exact nn_I (by omega)
  obtain ⟨j, hj⟩ : ∃ j, j = stW b n p := ⟨_, rfl⟩
  have hj13 : j < 13 := by rw [hj]; exact stW_lt
  refine r_aload_n dX5_readStatement_0 rfl ?_
  refine q_callV0 (cv_X5_statementOfWord ml_X5_59) hW kc_3 (by decide) rfl ⟨rfl, rfl⟩ rfl (Nat.le_of_ble_eq_true rfl) dX5_readStatement_1 (c_X5_statementOfWord hW hr ht hp hG) (fun v_1 h_1 q_1 => ?_)
  obtain ⟨rfl, z9⟩ := q_1
  replace z9 := z9.symm
  subst z9
  rw [← hj]
  obtain ⟨x, hx9⟩ : ∃ x, x = stI j := ⟨_, rfl⟩
  rw [← hx9]
  refine r_istore_n (ls2 := [_, some _, _, _]) dX5_readStatement_4 (by decide) rfl ?_
  refine r_iload_n dX5_readStatement_5 rfl ?_
  refine r_if_ne 15 dX5_readStatement_6 (by decide) (fun c_6 => ?_) (fun c_6 => ?_)
  · have hj0 : ¬ j = 0 := fun q => c_6 (by rw [hx9, q]; rfl)
    refine r_iload_n dX5_readStatement_15 rfl ?_
    refine r_iconst (-1) dX5_readStatement_16 (by decide) ?_
    refine r_icmp_eq 27 dX5_readStatement_17 (by decide) (fun c_17 => ?_) (fun c_17 => ?_)
    · refine r_aload_n dX5_readStatement_27 rfl ?_
      refine r_iconst (1) dX5_readStatement_28 (by decide) ?_
      refine q_callV1 (cv_X5_fail ml_X5_52) hW kc_3 (by decide) rfl ⟨rfl, rfl⟩ rfl (Nat.le_of_ble_eq_true rfl) dX5_readStatement_29 (c_X5_fail (c := 1) (e := (0, tE b n p)) (s := tS b n p) hW kn_1 (by decide) ht.2.1 h7 (Nat.le_of_ble_eq_true rfl)) (fun v_29 h_29 q_29 => ?_)
      obtain ⟨rfl, eF, fF, -, gF⟩ := q_29
      obtain ⟨g7, g8⟩ := gF rfl
      refine r_vret dX5_readStatement_32 rfl ⟨Nat.zero_le _, Nat.zero_le _⟩ ?_
      have hE : stmE b n ts w p = (1, tS b n p) := by
        unfold stmE
        rw [← hj]
        rw [if_neg hj0]
        refine if_pos ?_
        first
          | exact Or.inl ((stI_m hj13).mp (by rw [← hx9]; exact c_17))
          | (refine Or.inr ?_
             have z := (nI_leI (a := m) (b := 0) (by omega) (by decide)).mp (Int32.not_lt.mp c_24)
             omega)
      rw [hE]
      exact ⟨rfl, eF.wk (fun i q => Or.inl q), RdS.er hr eF fF g7 g8 (by decide) (Nat.le_of_ble_eq_true rfl) (tS_le hp), fun q => absurd q (by show ¬ (1 : Nat) = 0; decide)⟩
    · refine r_aload_n dX5_readStatement_20 rfl ?_
      refine q_getI fl_X5_49 hW kc_62 rfl dX5_readStatement_21 ?_
      rw [show aI h 62 1 = nI m from hrw.1.trans m3]
      refine r_if_gt 33 dX5_readStatement_24 (by decide) (fun c_24 => ?_) (fun c_24 => ?_)
      · have hj12 : ¬ j = 12 := fun q => c_17 (by rw [hx9]; exact (stI_m hj13).mpr q)
        have hx : x = nI j := by rw [hx9]; exact stI_e hj12
        have hm0 : 0 < m := by
          have := (nI_ltI (a := 0) (b := m) (by omega) (by omega)).mp c_24
          exact this
        refine r_iload_n dX5_readStatement_33 rfl ?_
        refine r_bipush (11) dX5_readStatement_34 (by decide) ?_
        refine r_icmp_eq 56 dX5_readStatement_36 (by decide) (fun c_36 => ?_) (fun c_36 => ?_)
        · 
          refine r_aload_n dX5_readStatement_56 rfl ?_
          refine r_dup dX5_readStatement_57 rfl ?_
          refine q_getI fl_X5_66 hW kc_3 rfl dX5_readStatement_58 ?_
          refine r_iconst (1) dX5_readStatement_61 (by decide) ?_
          refine r_iload_n dX5_readStatement_62 rfl ?_
          refine r_ishl dX5_readStatement_63 ?_
          refine r_ior dX5_readStatement_64 ?_
          refine q_putI fl_X5_66 hW kc_3 rfl rfl dX5_readStatement_65 ?_
          obtain ⟨u, hu9⟩ : ∃ u, m = u + 1 := ⟨m - 1, by omega⟩
          subst hu9
          have hu : u < 4 := by omega
          have hun : u < nn (w 0) := by omega
          have eu : nn (w 0) - 1 = u := by omega
          have hn3 : ¬ (j ≠ 11 ∧ ts j = true) := by
            first
              | exact fun q => q.1 ((nI_eqI (a := j) (b := 11) (by omega) (by decide)).mp (hx.symm.trans c_36))
              | (intro q
                 rw [hx] at c_47
                 have z := (bi_and _ (by omega)).mp c_47
                 rw [hT (by omega) j (by omega)] at z
                 rw [z] at q
                 exact absurd q.2 (by decide))
          have hE : stmE b n ts w p = (bdy b n (tE b n p) j (getP w u)).1 := by
            unfold stmE
            rw [← hj, if_neg hj0, if_neg (fun q => q.elim hj12 (by omega)), if_neg hn3, eu]
          have hWw : stmW b n w p = setP w u (bdy b n (tE b n p) j (getP w u)).2 := by
            unfold stmW
            rw [← hj, if_neg hj0, eu]
          have hTt : stmT b n ts p = fun i => ts i || decide (i = j) := by unfold stmT; rw [← hj, if_neg hj0]
          rw [hE, hWw, hTt]
          have e6 : eqx h (sI h 3 6 (aI h 3 6 ||| (1 <<< (x &&& 31)))) S3 := (eqx.rf (S := S3)).sI rfl
          have hT6 : TbR (aI h 3 6 ||| (1 <<< (x &&& 31))) (fun i => ts i || decide (i = j)) := fun i hi => by
            rw [hx, bi_or _ (by omega), hT (by omega) i hi]
          have hd0 : DrP h u (getP w u) := by rw [← eu]; exact hP.dr hrw hF (by omega)
          have hO := hP.ok hun
          have h23 := hP.2.2.2.1 u hun
          have y24 : nn (getP w u 24) ≤ 24 := (hO.at 24).2.2
          have hB := bd_bdy (b := b) (n := n) (p := tE b n p) (j := j) hO h23
          have yb23 : nn ((bdy b n (tE b n p) j (getP w u)).2 23) ≤ 20 := (hB.1.at 23).2.2
          have yb24 : nn ((bdy b n (tE b n p) j (getP w u)).2 24) ≤ 24 := (hB.1.at 24).2.2
          generalize (aI h 3 6 ||| (1 <<< (x &&& 31))) = T6 at e6 hT6
          have hW := e6.W hW
          have hrw6 := hrw.eqx e6 h04 (fun i i1 i2 q => by have : i = 3 := q; omega)
          have hd6 := hd0.eqx e6 (fun i i1 i2 q => by have : i = 3 := q; omega)
          have hs6 : RdS (sI h 3 6 T6) b n (0, tE b n p) := RdS.tk (hr.s (by decide)) (TkS.mk6 ht) ((sI_k (by decide)).trans h7) ((sI_k (by decide)).trans h8) hp
          have he6 : eqx h (sI h 3 6 T6) (fun i => i = 3 ∨ SB 62 i) := e6.wk (fun i q => Or.inl q)
          refine r_aload_n dX5_readStatement_68 rfl ?_
          refine q_getR fl_X5_69 hW kc_62 rfl (kl_6_0 hW kc_62) (Nat.succ_ne_zero _) dX5_readStatement_69 ?_
          refine r_aload_n dX5_readStatement_72 rfl ?_
          refine q_getI fl_X5_49 hW kc_62 rfl dX5_readStatement_73 ?_
          rw [show aI (sI h 3 6 T6) 62 1 = nI (u + 1) from by rw [sI_o (by decide)]; exact hrw.1.trans m3]
          refine r_iconst (1) dX5_readStatement_76 (by decide) ?_
          refine r_isub dX5_readStatement_77 ?_
          rw [nI_s1 (by omega), Nat.add_sub_cancel]
          refine q_pald hW (kk_6_0 kc_62) rfl hu dX5_readStatement_78 ?_
          refine r_astore_n (ls2 := [_, _, some _, _]) dX5_readStatement_79 (by decide) rfl ?_
          refine r_iload_n dX5_readStatement_80 rfl ?_
          rcases (show j = 1 ∨ j = 2 ∨ j = 3 ∨ j = 4 ∨ j = 5 ∨ j = 6 ∨ j = 7 ∨ j = 8 ∨ j = 9 ∨ j = 10 ∨ j = 11 from by omega) with rfl | rfl | rfl | rfl | rfl | rfl | rfl | rfl | rfl | rfl | rfl
          · rw [hx]
            refine r_tabOut 157 dX5_readStatement_81 (by decide) (by decide) ?_
            refine r_aload_n dX5_readStatement_157 rfl ?_
            refine r_iload_n dX5_readStatement_158 rfl ?_
            refine r_aload_n dX5_readStatement_159 rfl ?_
            refine q_getR fl_X5_73 hW (kk_14 (kk_6_0 kc_62).1 hu) rfl (kl_3_0 hW (kk_14 (kk_6_0 kc_62).1 hu)) (Nat.succ_ne_zero _) dX5_readStatement_160 ?_
            refine q_callV2 (cv_X5_readSettings ml_X5_93) hW kc_3 (by decide) rfl ⟨rfl, rfl⟩ rfl (Nat.le_of_ble_eq_true rfl) dX5_readStatement_163 (c_X5_readSettings hW hs6 hu hd6 y24 rfl (by decide)) (fun v_163 h_163 q_163 => ?_)
            obtain ⟨rfl, e9, s9, d9, t9⟩ := q_163
            have z9 : (∀ i, (fun i => i = 3 ∨ i = 62 + 7 + 12 * u + 1) i → i = 3 ∨ 62 + 7 + 12 * u ≤ i ∧ i ≤ 62 + 7 + 12 * u + 11) := fun i q => by
              have q9 := q
              omega
            have hst9 := st_dr hrw6 hP.2.1 h04 hun e9 z9 d9 yb23 yb24
            have hr9 := d9.2
            have he9 := he6.tr (e9.wk (T := (fun i => i = 3 ∨ SB 62 i)) (fun i q => by
              have q9 := z9 i q
              rcases q9 with q9 | q9
              · exact Or.inl q9
              · exact Or.inr (by unfold SB; omega)))
            refine r_vret dX5_readStatement_166 rfl ⟨Nat.zero_le _, Nat.zero_le _⟩ ?_
            refine ⟨rfl, he9, s9, fun _ => ⟨hst9, fun _ => ?_, ?_⟩⟩
            · rw [setP_lo (by decide), em, Nat.add_sub_cancel]
              exact hr9
            · rw [t9, sI_s]
              exact hT6
          · rw [hx]
            refine r_tabOut 157 dX5_readStatement_81 (by decide) (by decide) ?_
            refine r_aload_n dX5_readStatement_157 rfl ?_
            refine r_iload_n dX5_readStatement_158 rfl ?_
            refine r_aload_n dX5_readStatement_159 rfl ?_
            refine q_getR fl_X5_73 hW (kk_14 (kk_6_0 kc_62).1 hu) rfl (kl_3_0 hW (kk_14 (kk_6_0 kc_62).1 hu)) (Nat.succ_ne_zero _) dX5_readStatement_160 ?_
            refine q_callV2 (cv_X5_readSettings ml_X5_93) hW kc_3 (by decide) rfl ⟨rfl, rfl⟩ rfl (Nat.le_of_ble_eq_true rfl) dX5_readStatement_163 (c_X5_readSettings hW hs6 hu hd6 y24 rfl (by decide)) (fun v_163 h_163 q_163 => ?_)
            obtain ⟨rfl, e9, s9, d9, t9⟩ := q_163
            have z9 : (∀ i, (fun i => i = 3 ∨ i = 62 + 7 + 12 * u + 1) i → i = 3 ∨ 62 + 7 + 12 * u ≤ i ∧ i ≤ 62 + 7 + 12 * u + 11) := fun i q => by
              have q9 := q
              omega
            have hst9 := st_dr hrw6 hP.2.1 h04 hun e9 z9 d9 yb23 yb24
            have hr9 := d9.2
            have he9 := he6.tr (e9.wk (T := (fun i => i = 3 ∨ SB 62 i)) (fun i q => by
              have q9 := z9 i q
              rcases q9 with q9 | q9
              · exact Or.inl q9
              · exact Or.inr (by unfold SB; omega)))
            refine r_vret dX5_readStatement_166 rfl ⟨Nat.zero_le _, Nat.zero_le _⟩ ?_
            refine ⟨rfl, he9, s9, fun _ => ⟨hst9, fun _ => ?_, ?_⟩⟩
            · rw [setP_lo (by decide), em, Nat.add_sub_cancel]
              exact hr9
            · rw [t9, sI_s]
              exact hT6
          · rw [hx]
            refine r_tabOut 157 dX5_readStatement_81 (by decide) (by decide) ?_
            refine r_aload_n dX5_readStatement_157 rfl ?_
            refine r_iload_n dX5_readStatement_158 rfl ?_
            refine r_aload_n dX5_readStatement_159 rfl ?_
            refine q_getR fl_X5_73 hW (kk_14 (kk_6_0 kc_62).1 hu) rfl (kl_3_0 hW (kk_14 (kk_6_0 kc_62).1 hu)) (Nat.succ_ne_zero _) dX5_readStatement_160 ?_
            refine q_callV2 (cv_X5_readSettings ml_X5_93) hW kc_3 (by decide) rfl ⟨rfl, rfl⟩ rfl (Nat.le_of_ble_eq_true rfl) dX5_readStatement_163 (c_X5_readSettings hW hs6 hu hd6 y24 rfl (by decide)) (fun v_163 h_163 q_163 => ?_)
            obtain ⟨rfl, e9, s9, d9, t9⟩ := q_163
            have z9 : (∀ i, (fun i => i = 3 ∨ i = 62 + 7 + 12 * u + 1) i → i = 3 ∨ 62 + 7 + 12 * u ≤ i ∧ i ≤ 62 + 7 + 12 * u + 11) := fun i q => by
              have q9 := q
              omega
            have hst9 := st_dr hrw6 hP.2.1 h04 hun e9 z9 d9 yb23 yb24
            have hr9 := d9.2
            have he9 := he6.tr (e9.wk (T := (fun i => i = 3 ∨ SB 62 i)) (fun i q => by
              have q9 := z9 i q
              rcases q9 with q9 | q9
              · exact Or.inl q9
              · exact Or.inr (by unfold SB; omega)))
            refine r_vret dX5_readStatement_166 rfl ⟨Nat.zero_le _, Nat.zero_le _⟩ ?_
            refine ⟨rfl, he9, s9, fun _ => ⟨hst9, fun _ => ?_, ?_⟩⟩
            · rw [setP_lo (by decide), em, Nat.add_sub_cancel]
              exact hr9
            · rw [t9, sI_s]
              exact hT6
          · rw [hx]
            refine r_tabOut 157 dX5_readStatement_81 (by decide) (by decide) ?_
            refine r_aload_n dX5_readStatement_157 rfl ?_
            refine r_iload_n dX5_readStatement_158 rfl ?_
            refine r_aload_n dX5_readStatement_159 rfl ?_
            refine q_getR fl_X5_73 hW (kk_14 (kk_6_0 kc_62).1 hu) rfl (kl_3_0 hW (kk_14 (kk_6_0 kc_62).1 hu)) (Nat.succ_ne_zero _) dX5_readStatement_160 ?_
            refine q_callV2 (cv_X5_readSettings ml_X5_93) hW kc_3 (by decide) rfl ⟨rfl, rfl⟩ rfl (Nat.le_of_ble_eq_true rfl) dX5_readStatement_163 (c_X5_readSettings hW hs6 hu hd6 y24 rfl (by decide)) (fun v_163 h_163 q_163 => ?_)
            obtain ⟨rfl, e9, s9, d9, t9⟩ := q_163
            have z9 : (∀ i, (fun i => i = 3 ∨ i = 62 + 7 + 12 * u + 1) i → i = 3 ∨ 62 + 7 + 12 * u ≤ i ∧ i ≤ 62 + 7 + 12 * u + 11) := fun i q => by
              have q9 := q
              omega
            have hst9 := st_dr hrw6 hP.2.1 h04 hun e9 z9 d9 yb23 yb24
            have hr9 := d9.2
            have he9 := he6.tr (e9.wk (T := (fun i => i = 3 ∨ SB 62 i)) (fun i q => by
              have q9 := z9 i q
              rcases q9 with q9 | q9
              · exact Or.inl q9
              · exact Or.inr (by unfold SB; omega)))
            refine r_vret dX5_readStatement_166 rfl ⟨Nat.zero_le _, Nat.zero_le _⟩ ?_
            refine ⟨rfl, he9, s9, fun _ => ⟨hst9, fun _ => ?_, ?_⟩⟩
            · rw [setP_lo (by decide), em, Nat.add_sub_cancel]
              exact hr9
            · rw [t9, sI_s]
              exact hT6
          · rw [hx]
            refine r_tabOut 157 dX5_readStatement_81 (by decide) (by decide) ?_
            refine r_aload_n dX5_readStatement_157 rfl ?_
            refine r_iload_n dX5_readStatement_158 rfl ?_
            refine r_aload_n dX5_readStatement_159 rfl ?_
            refine q_getR fl_X5_73 hW (kk_14 (kk_6_0 kc_62).1 hu) rfl (kl_3_0 hW (kk_14 (kk_6_0 kc_62).1 hu)) (Nat.succ_ne_zero _) dX5_readStatement_160 ?_
            refine q_callV2 (cv_X5_readSettings ml_X5_93) hW kc_3 (by decide) rfl ⟨rfl, rfl⟩ rfl (Nat.le_of_ble_eq_true rfl) dX5_readStatement_163 (c_X5_readSettings hW hs6 hu hd6 y24 rfl (by decide)) (fun v_163 h_163 q_163 => ?_)
            obtain ⟨rfl, e9, s9, d9, t9⟩ := q_163
            have z9 : (∀ i, (fun i => i = 3 ∨ i = 62 + 7 + 12 * u + 1) i → i = 3 ∨ 62 + 7 + 12 * u ≤ i ∧ i ≤ 62 + 7 + 12 * u + 11) := fun i q => by
              have q9 := q
              omega
            have hst9 := st_dr hrw6 hP.2.1 h04 hun e9 z9 d9 yb23 yb24
            have hr9 := d9.2
            have he9 := he6.tr (e9.wk (T := (fun i => i = 3 ∨ SB 62 i)) (fun i q => by
              have q9 := z9 i q
              rcases q9 with q9 | q9
              · exact Or.inl q9
              · exact Or.inr (by unfold SB; omega)))
            refine r_vret dX5_readStatement_166 rfl ⟨Nat.zero_le _, Nat.zero_le _⟩ ?_
            refine ⟨rfl, he9, s9, fun _ => ⟨hst9, fun _ => ?_, ?_⟩⟩
            · rw [setP_lo (by decide), em, Nat.add_sub_cancel]
              exact hr9
            · rw [t9, sI_s]
              exact hT6
          · rw [hx]
            refine r_tabOut 157 dX5_readStatement_81 (by decide) (by decide) ?_
            refine r_aload_n dX5_readStatement_157 rfl ?_
            refine r_iload_n dX5_readStatement_158 rfl ?_
            refine r_aload_n dX5_readStatement_159 rfl ?_
            refine q_getR fl_X5_73 hW (kk_14 (kk_6_0 kc_62).1 hu) rfl (kl_3_0 hW (kk_14 (kk_6_0 kc_62).1 hu)) (Nat.succ_ne_zero _) dX5_readStatement_160 ?_
            refine q_callV2 (cv_X5_readSettings ml_X5_93) hW kc_3 (by decide) rfl ⟨rfl, rfl⟩ rfl (Nat.le_of_ble_eq_true rfl) dX5_readStatement_163 (c_X5_readSettings hW hs6 hu hd6 y24 rfl (by decide)) (fun v_163 h_163 q_163 => ?_)
            obtain ⟨rfl, e9, s9, d9, t9⟩ := q_163
            have z9 : (∀ i, (fun i => i = 3 ∨ i = 62 + 7 + 12 * u + 1) i → i = 3 ∨ 62 + 7 + 12 * u ≤ i ∧ i ≤ 62 + 7 + 12 * u + 11) := fun i q => by
              have q9 := q
              omega
            have hst9 := st_dr hrw6 hP.2.1 h04 hun e9 z9 d9 yb23 yb24
            have hr9 := d9.2
            have he9 := he6.tr (e9.wk (T := (fun i => i = 3 ∨ SB 62 i)) (fun i q => by
              have q9 := z9 i q
              rcases q9 with q9 | q9
              · exact Or.inl q9
              · exact Or.inr (by unfold SB; omega)))
            refine r_vret dX5_readStatement_166 rfl ⟨Nat.zero_le _, Nat.zero_le _⟩ ?_
            refine ⟨rfl, he9, s9, fun _ => ⟨hst9, fun _ => ?_, ?_⟩⟩
            · rw [setP_lo (by decide), em, Nat.add_sub_cancel]
              exact hr9
            · rw [t9, sI_s]
              exact hT6
          · rw [hx]
            refine r_tabIn 135 dX5_readStatement_81 (by decide) (by decide) rfl (by decide) ?_
            refine r_aload_n dX5_readStatement_135 rfl ?_
            refine r_aload_n dX5_readStatement_136 rfl ?_
            refine q_getR fl_X5_73 hW (kk_14 (kk_6_0 kc_62).1 hu) rfl (kl_3_0 hW (kk_14 (kk_6_0 kc_62).1 hu)) (Nat.succ_ne_zero _) dX5_readStatement_137 ?_
            refine q_callV1 (cv_X5_readPolicy ml_X5_87) hW kc_3 (by decide) rfl ⟨rfl, rfl⟩ rfl (Nat.le_of_ble_eq_true rfl) dX5_readStatement_140 (c_X5_readPolicy hW hs6 hG hu hd6 y24) (fun v_140 h_140 q_140 => ?_)
            obtain ⟨rfl, e9, s9, d9, t9⟩ := q_140
            have z9 : (∀ i, (fun i => i = 3 ∨ i = 62 + 7 + 12 * u + 1) i → i = 3 ∨ 62 + 7 + 12 * u ≤ i ∧ i ≤ 62 + 7 + 12 * u + 11) := fun i q => by
              have q9 := q
              omega
            have hst9 := st_dr hrw6 hP.2.1 h04 hun e9 z9 d9 yb23 yb24
            have hr9 := d9.2
            have he9 := he6.tr (e9.wk (T := (fun i => i = 3 ∨ SB 62 i)) (fun i q => by
              have q9 := z9 i q
              rcases q9 with q9 | q9
              · exact Or.inl q9
              · exact Or.inr (by unfold SB; omega)))
            refine r_goto 166 dX5_readStatement_143 (by decide) ?_
            refine r_vret dX5_readStatement_166 rfl ⟨Nat.zero_le _, Nat.zero_le _⟩ ?_
            refine ⟨rfl, he9, s9, fun _ => ⟨hst9, fun _ => ?_, ?_⟩⟩
            · rw [setP_lo (by decide), em, Nat.add_sub_cancel]
              exact hr9
            · rw [t9, sI_s]
              exact hT6
          · rw [hx]
            refine r_tabIn 146 dX5_readStatement_81 (by decide) (by decide) rfl (by decide) ?_
            refine r_aload_n dX5_readStatement_146 rfl ?_
            refine r_aload_n dX5_readStatement_147 rfl ?_
            refine q_getR fl_X5_73 hW (kk_14 (kk_6_0 kc_62).1 hu) rfl (kl_3_0 hW (kk_14 (kk_6_0 kc_62).1 hu)) (Nat.succ_ne_zero _) dX5_readStatement_148 ?_
            refine q_callV1 (cv_X5_readRule ml_X5_90) hW kc_3 (by decide) rfl ⟨rfl, rfl⟩ rfl (Nat.le_of_ble_eq_true rfl) dX5_readStatement_151 (c_X5_readRule hW hs6 hG hu hd6 y24) (fun v_151 h_151 q_151 => ?_)
            obtain ⟨rfl, e9, s9, d9, t9⟩ := q_151
            have z9 : (∀ i, (fun i => i = 3 ∨ i = 62 + 7 + 12 * u + 1) i → i = 3 ∨ 62 + 7 + 12 * u ≤ i ∧ i ≤ 62 + 7 + 12 * u + 11) := fun i q => by
              have q9 := q
              omega
            have hst9 := st_dr hrw6 hP.2.1 h04 hun e9 z9 d9 yb23 yb24
            have hr9 := d9.2
            have he9 := he6.tr (e9.wk (T := (fun i => i = 3 ∨ SB 62 i)) (fun i q => by
              have q9 := z9 i q
              rcases q9 with q9 | q9
              · exact Or.inl q9
              · exact Or.inr (by unfold SB; omega)))
            refine r_goto 166 dX5_readStatement_154 (by decide) ?_
            refine r_vret dX5_readStatement_166 rfl ⟨Nat.zero_le _, Nat.zero_le _⟩ ?_
            refine ⟨rfl, he9, s9, fun _ => ⟨hst9, fun _ => ?_, ?_⟩⟩
            · rw [setP_lo (by decide), em, Nat.add_sub_cancel]
              exact hr9
            · rw [t9, sI_s]
              exact hT6
          · rw [hx]
            refine r_tabIn 157 dX5_readStatement_81 (by decide) (by decide) rfl (by decide) ?_
            refine r_aload_n dX5_readStatement_157 rfl ?_
            refine r_iload_n dX5_readStatement_158 rfl ?_
            refine r_aload_n dX5_readStatement_159 rfl ?_
            refine q_getR fl_X5_73 hW (kk_14 (kk_6_0 kc_62).1 hu) rfl (kl_3_0 hW (kk_14 (kk_6_0 kc_62).1 hu)) (Nat.succ_ne_zero _) dX5_readStatement_160 ?_
            refine q_callV2 (cv_X5_readSettings ml_X5_93) hW kc_3 (by decide) rfl ⟨rfl, rfl⟩ rfl (Nat.le_of_ble_eq_true rfl) dX5_readStatement_163 (c_X5_readSettings hW hs6 hu hd6 y24 rfl (by decide)) (fun v_163 h_163 q_163 => ?_)
            obtain ⟨rfl, e9, s9, d9, t9⟩ := q_163
            have z9 : (∀ i, (fun i => i = 3 ∨ i = 62 + 7 + 12 * u + 1) i → i = 3 ∨ 62 + 7 + 12 * u ≤ i ∧ i ≤ 62 + 7 + 12 * u + 11) := fun i q => by
              have q9 := q
              omega
            have hst9 := st_dr hrw6 hP.2.1 h04 hun e9 z9 d9 yb23 yb24
            have hr9 := d9.2
            have he9 := he6.tr (e9.wk (T := (fun i => i = 3 ∨ SB 62 i)) (fun i q => by
              have q9 := z9 i q
              rcases q9 with q9 | q9
              · exact Or.inl q9
              · exact Or.inr (by unfold SB; omega)))
            refine r_vret dX5_readStatement_166 rfl ⟨Nat.zero_le _, Nat.zero_le _⟩ ?_
            refine ⟨rfl, he9, s9, fun _ => ⟨hst9, fun _ => ?_, ?_⟩⟩
            · rw [setP_lo (by decide), em, Nat.add_sub_cancel]
              exact hr9
            · rw [t9, sI_s]
              exact hT6
          · rw [hx]
            refine r_tabIn 116 dX5_readStatement_81 (by decide) (by decide) rfl (by decide) ?_
            refine r_aload_n dX5_readStatement_116 rfl ?_
            refine r_aload_n dX5_readStatement_117 rfl ?_
            refine q_getR fl_X5_73 hW (kk_14 (kk_6_0 kc_62).1 hu) rfl (kl_3_0 hW (kk_14 (kk_6_0 kc_62).1 hu)) (Nat.succ_ne_zero _) dX5_readStatement_118 ?_
            refine q_callV1 (cv_X5_readLoads ml_X5_79) hW kc_3 (by decide) rfl ⟨rfl, rfl⟩ rfl (Nat.le_of_ble_eq_true rfl) dX5_readStatement_121 (c_X5_readLoads hW hs6 hu hd6 y24) (fun v_121 h_121 q_121 => ?_)
            obtain ⟨rfl, e9, s9, d9, t9⟩ := q_121
            have z9 : (∀ i, (fun i => i = 3 ∨ i = 62 + 7 + 12 * u + 1 ∨ i = 62 + 7 + 12 * u + 2) i → i = 3 ∨ 62 + 7 + 12 * u ≤ i ∧ i ≤ 62 + 7 + 12 * u + 11) := fun i q => by
              have q9 := q
              omega
            have hst9 := st_dr hrw6 hP.2.1 h04 hun e9 z9 d9 yb23 yb24
            have hr9 := d9.2
            have he9 := he6.tr (e9.wk (T := (fun i => i = 3 ∨ SB 62 i)) (fun i q => by
              have q9 := z9 i q
              rcases q9 with q9 | q9
              · exact Or.inl q9
              · exact Or.inr (by unfold SB; omega)))
            refine r_goto 166 dX5_readStatement_124 (by decide) ?_
            refine r_vret dX5_readStatement_166 rfl ⟨Nat.zero_le _, Nat.zero_le _⟩ ?_
            refine ⟨rfl, he9, s9, fun _ => ⟨hst9, fun _ => ?_, ?_⟩⟩
            · rw [setP_lo (by decide), em, Nat.add_sub_cancel]
              exact hr9
            · rw [t9, sI_s]
              exact hT6
          · rw [hx]
            refine r_tabIn 127 dX5_readStatement_81 (by decide) (by decide) rfl (by decide) ?_
            refine r_aload_n dX5_readStatement_127 rfl ?_
            refine r_aload_n dX5_readStatement_128 rfl ?_
            refine q_callV1 (cv_X5_readProtect ml_X5_83) hW kc_3 (by decide) rfl ⟨rfl, rfl⟩ rfl (Nat.le_of_ble_eq_true rfl) dX5_readStatement_129 (c_X5_readProtect hW hs6 hu hd6 hO h23) (fun v_129 h_129 q_129 => ?_)
            obtain ⟨rfl, e9, s9, d9, t9⟩ := q_129
            have z9 : (∀ i, (fun i => i = 3 ∨ i = 62 + 7 + 12 * u + 7) i → i = 3 ∨ 62 + 7 + 12 * u ≤ i ∧ i ≤ 62 + 7 + 12 * u + 11) := fun i q => by
              have q9 := q
              omega
            have hst9 := st_dr hrw6 hP.2.1 h04 hun e9 z9 d9 yb23 yb24
            have hr9 := d9.2
            have he9 := he6.tr (e9.wk (T := (fun i => i = 3 ∨ SB 62 i)) (fun i q => by
              have q9 := z9 i q
              rcases q9 with q9 | q9
              · exact Or.inl q9
              · exact Or.inr (by unfold SB; omega)))
            refine r_goto 166 dX5_readStatement_132 (by decide) ?_
            refine r_vret dX5_readStatement_166 rfl ⟨Nat.zero_le _, Nat.zero_le _⟩ ?_
            refine ⟨rfl, he9, s9, fun _ => ⟨hst9, fun _ => ?_, ?_⟩⟩
            · rw [setP_lo (by decide), em, Nat.add_sub_cancel]
              exact hr9
            · rw [t9, sI_s]
              exact hT6
        · refine r_aload_n dX5_readStatement_39 rfl ?_
          refine q_getI fl_X5_66 hW kc_3 rfl dX5_readStatement_40 ?_
          refine r_iconst (1) dX5_readStatement_43 (by decide) ?_
          refine r_iload_n dX5_readStatement_44 rfl ?_
          refine r_ishl dX5_readStatement_45 ?_
          refine r_iand dX5_readStatement_46 ?_
          refine r_if_eq 56 dX5_readStatement_47 (by decide) (fun c_47 => ?_) (fun c_47 => ?_)
          · 
            refine r_aload_n dX5_readStatement_56 rfl ?_
            refine r_dup dX5_readStatement_57 rfl ?_
            refine q_getI fl_X5_66 hW kc_3 rfl dX5_readStatement_58 ?_
            refine r_iconst (1) dX5_readStatement_61 (by decide) ?_
            refine r_iload_n dX5_readStatement_62 rfl ?_
            refine r_ishl dX5_readStatement_63 ?_
            refine r_ior dX5_readStatement_64 ?_
            refine q_putI fl_X5_66 hW kc_3 rfl rfl dX5_readStatement_65 ?_
            obtain ⟨u, hu9⟩ : ∃ u, m = u + 1 := ⟨m - 1, by omega⟩
            subst hu9
            have hu : u < 4 := by omega
            have hun : u < nn (w 0) := by omega
            have eu : nn (w 0) - 1 = u := by omega
            have hn3 : ¬ (j ≠ 11 ∧ ts j = true) := by
              first
                | exact fun q => q.1 ((nI_eqI (a := j) (b := 11) (by omega) (by decide)).mp (hx.symm.trans c_36))
                | (intro q
                   rw [hx] at c_47
                   have z := (bi_and _ (by omega)).mp c_47
                   rw [hT (by omega) j (by omega)] at z
                   rw [z] at q
                   exact absurd q.2 (by decide))
            have hE : stmE b n ts w p = (bdy b n (tE b n p) j (getP w u)).1 := by
              unfold stmE
              rw [← hj, if_neg hj0, if_neg (fun q => q.elim hj12 (by omega)), if_neg hn3, eu]
            have hWw : stmW b n w p = setP w u (bdy b n (tE b n p) j (getP w u)).2 := by
              unfold stmW
              rw [← hj, if_neg hj0, eu]
            have hTt : stmT b n ts p = fun i => ts i || decide (i = j) := by unfold stmT; rw [← hj, if_neg hj0]
            rw [hE, hWw, hTt]
            have e6 : eqx h (sI h 3 6 (aI h 3 6 ||| (1 <<< (x &&& 31)))) S3 := (eqx.rf (S := S3)).sI rfl
            have hT6 : TbR (aI h 3 6 ||| (1 <<< (x &&& 31))) (fun i => ts i || decide (i = j)) := fun i hi => by
              rw [hx, bi_or _ (by omega), hT (by omega) i hi]
            have hd0 : DrP h u (getP w u) := by rw [← eu]; exact hP.dr hrw hF (by omega)
            have hO := hP.ok hun
            have h23 := hP.2.2.2.1 u hun
            have y24 : nn (getP w u 24) ≤ 24 := (hO.at 24).2.2
            have hB := bd_bdy (b := b) (n := n) (p := tE b n p) (j := j) hO h23
            have yb23 : nn ((bdy b n (tE b n p) j (getP w u)).2 23) ≤ 20 := (hB.1.at 23).2.2
            have yb24 : nn ((bdy b n (tE b n p) j (getP w u)).2 24) ≤ 24 := (hB.1.at 24).2.2
            generalize (aI h 3 6 ||| (1 <<< (x &&& 31))) = T6 at e6 hT6
            have hW := e6.W hW
            have hrw6 := hrw.eqx e6 h04 (fun i i1 i2 q => by have : i = 3 := q; omega)
            have hd6 := hd0.eqx e6 (fun i i1 i2 q => by have : i = 3 := q; omega)
            have hs6 : RdS (sI h 3 6 T6) b n (0, tE b n p) := RdS.tk (hr.s (by decide)) (TkS.mk6 ht) ((sI_k (by decide)).trans h7) ((sI_k (by decide)).trans h8) hp
            have he6 : eqx h (sI h 3 6 T6) (fun i => i = 3 ∨ SB 62 i) := e6.wk (fun i q => Or.inl q)
            refine r_aload_n dX5_readStatement_68 rfl ?_
            refine q_getR fl_X5_69 hW kc_62 rfl (kl_6_0 hW kc_62) (Nat.succ_ne_zero _) dX5_readStatement_69 ?_
            refine r_aload_n dX5_readStatement_72 rfl ?_
            refine q_getI fl_X5_49 hW kc_62 rfl dX5_readStatement_73 ?_
            rw [show aI (sI h 3 6 T6) 62 1 = nI (u + 1) from by rw [sI_o (by decide)]; exact hrw.1.trans m3]
            refine r_iconst (1) dX5_readStatement_76 (by decide) ?_
            refine r_isub dX5_readStatement_77 ?_
            rw [nI_s1 (by omega), Nat.add_sub_cancel]
            refine q_pald hW (kk_6_0 kc_62) rfl hu dX5_readStatement_78 ?_
            refine r_astore_n (ls2 := [_, _, some _, _]) dX5_readStatement_79 (by decide) rfl ?_
            refine r_iload_n dX5_readStatement_80 rfl ?_
            rcases (show j = 1 ∨ j = 2 ∨ j = 3 ∨ j = 4 ∨ j = 5 ∨ j = 6 ∨ j = 7 ∨ j = 8 ∨ j = 9 ∨ j = 10 ∨ j = 11 from by omega) with rfl | rfl | rfl | rfl | rfl | rfl | rfl | rfl | rfl | rfl | rfl
            · rw [hx]
              refine r_tabOut 157 dX5_readStatement_81 (by decide) (by decide) ?_
              refine r_aload_n dX5_readStatement_157 rfl ?_
              refine r_iload_n dX5_readStatement_158 rfl ?_
              refine r_aload_n dX5_readStatement_159 rfl ?_
              refine q_getR fl_X5_73 hW (kk_14 (kk_6_0 kc_62).1 hu) rfl (kl_3_0 hW (kk_14 (kk_6_0 kc_62).1 hu)) (Nat.succ_ne_zero _) dX5_readStatement_160 ?_
              refine q_callV2 (cv_X5_readSettings ml_X5_93) hW kc_3 (by decide) rfl ⟨rfl, rfl⟩ rfl (Nat.le_of_ble_eq_true rfl) dX5_readStatement_163 (c_X5_readSettings hW hs6 hu hd6 y24 rfl (by decide)) (fun v_163 h_163 q_163 => ?_)
              obtain ⟨rfl, e9, s9, d9, t9⟩ := q_163
              have z9 : (∀ i, (fun i => i = 3 ∨ i = 62 + 7 + 12 * u + 1) i → i = 3 ∨ 62 + 7 + 12 * u ≤ i ∧ i ≤ 62 + 7 + 12 * u + 11) := fun i q => by
                have q9 := q
                omega
              have hst9 := st_dr hrw6 hP.2.1 h04 hun e9 z9 d9 yb23 yb24
              have hr9 := d9.2
              have he9 := he6.tr (e9.wk (T := (fun i => i = 3 ∨ SB 62 i)) (fun i q => by
                have q9 := z9 i q
                rcases q9 with q9 | q9
                · exact Or.inl q9
                · exact Or.inr (by unfold SB; omega)))
              refine r_vret dX5_readStatement_166 rfl ⟨Nat.zero_le _, Nat.zero_le _⟩ ?_
              refine ⟨rfl, he9, s9, fun _ => ⟨hst9, fun _ => ?_, ?_⟩⟩
              · rw [setP_lo (by decide), em, Nat.add_sub_cancel]
                exact hr9
              · rw [t9, sI_s]
                exact hT6
            · rw [hx]
              refine r_tabOut 157 dX5_readStatement_81 (by decide) (by decide) ?_
              refine r_aload_n dX5_readStatement_157 rfl ?_
              refine r_iload_n dX5_readStatement_158 rfl ?_
              refine r_aload_n dX5_readStatement_159 rfl ?_
              refine q_getR fl_X5_73 hW (kk_14 (kk_6_0 kc_62).1 hu) rfl (kl_3_0 hW (kk_14 (kk_6_0 kc_62).1 hu)) (Nat.succ_ne_zero _) dX5_readStatement_160 ?_
              refine q_callV2 (cv_X5_readSettings ml_X5_93) hW kc_3 (by decide) rfl ⟨rfl, rfl⟩ rfl (Nat.le_of_ble_eq_true rfl) dX5_readStatement_163 (c_X5_readSettings hW hs6 hu hd6 y24 rfl (by decide)) (fun v_163 h_163 q_163 => ?_)
              obtain ⟨rfl, e9, s9, d9, t9⟩ := q_163
              have z9 : (∀ i, (fun i => i = 3 ∨ i = 62 + 7 + 12 * u + 1) i → i = 3 ∨ 62 + 7 + 12 * u ≤ i ∧ i ≤ 62 + 7 + 12 * u + 11) := fun i q => by
                have q9 := q
                omega
              have hst9 := st_dr hrw6 hP.2.1 h04 hun e9 z9 d9 yb23 yb24
              have hr9 := d9.2
              have he9 := he6.tr (e9.wk (T := (fun i => i = 3 ∨ SB 62 i)) (fun i q => by
                have q9 := z9 i q
                rcases q9 with q9 | q9
                · exact Or.inl q9
                · exact Or.inr (by unfold SB; omega)))
              refine r_vret dX5_readStatement_166 rfl ⟨Nat.zero_le _, Nat.zero_le _⟩ ?_
              refine ⟨rfl, he9, s9, fun _ => ⟨hst9, fun _ => ?_, ?_⟩⟩
              · rw [setP_lo (by decide), em, Nat.add_sub_cancel]
                exact hr9
              · rw [t9, sI_s]
                exact hT6
            · rw [hx]
              refine r_tabOut 157 dX5_readStatement_81 (by decide) (by decide) ?_
              refine r_aload_n dX5_readStatement_157 rfl ?_
              refine r_iload_n dX5_readStatement_158 rfl ?_
              refine r_aload_n dX5_readStatement_159 rfl ?_
              refine q_getR fl_X5_73 hW (kk_14 (kk_6_0 kc_62).1 hu) rfl (kl_3_0 hW (kk_14 (kk_6_0 kc_62).1 hu)) (Nat.succ_ne_zero _) dX5_readStatement_160 ?_
              refine q_callV2 (cv_X5_readSettings ml_X5_93) hW kc_3 (by decide) rfl ⟨rfl, rfl⟩ rfl (Nat.le_of_ble_eq_true rfl) dX5_readStatement_163 (c_X5_readSettings hW hs6 hu hd6 y24 rfl (by decide)) (fun v_163 h_163 q_163 => ?_)
              obtain ⟨rfl, e9, s9, d9, t9⟩ := q_163
              have z9 : (∀ i, (fun i => i = 3 ∨ i = 62 + 7 + 12 * u + 1) i → i = 3 ∨ 62 + 7 + 12 * u ≤ i ∧ i ≤ 62 + 7 + 12 * u + 11) := fun i q => by
                have q9 := q
                omega
              have hst9 := st_dr hrw6 hP.2.1 h04 hun e9 z9 d9 yb23 yb24
              have hr9 := d9.2
              have he9 := he6.tr (e9.wk (T := (fun i => i = 3 ∨ SB 62 i)) (fun i q => by
                have q9 := z9 i q
                rcases q9 with q9 | q9
                · exact Or.inl q9
                · exact Or.inr (by unfold SB; omega)))
              refine r_vret dX5_readStatement_166 rfl ⟨Nat.zero_le _, Nat.zero_le _⟩ ?_
              refine ⟨rfl, he9, s9, fun _ => ⟨hst9, fun _ => ?_, ?_⟩⟩
              · rw [setP_lo (by decide), em, Nat.add_sub_cancel]
                exact hr9
              · rw [t9, sI_s]
                exact hT6
            · rw [hx]
              refine r_tabOut 157 dX5_readStatement_81 (by decide) (by decide) ?_
              refine r_aload_n dX5_readStatement_157 rfl ?_
              refine r_iload_n dX5_readStatement_158 rfl ?_
              refine r_aload_n dX5_readStatement_159 rfl ?_
              refine q_getR fl_X5_73 hW (kk_14 (kk_6_0 kc_62).1 hu) rfl (kl_3_0 hW (kk_14 (kk_6_0 kc_62).1 hu)) (Nat.succ_ne_zero _) dX5_readStatement_160 ?_
              refine q_callV2 (cv_X5_readSettings ml_X5_93) hW kc_3 (by decide) rfl ⟨rfl, rfl⟩ rfl (Nat.le_of_ble_eq_true rfl) dX5_readStatement_163 (c_X5_readSettings hW hs6 hu hd6 y24 rfl (by decide)) (fun v_163 h_163 q_163 => ?_)
              obtain ⟨rfl, e9, s9, d9, t9⟩ := q_163
              have z9 : (∀ i, (fun i => i = 3 ∨ i = 62 + 7 + 12 * u + 1) i → i = 3 ∨ 62 + 7 + 12 * u ≤ i ∧ i ≤ 62 + 7 + 12 * u + 11) := fun i q => by
                have q9 := q
                omega
              have hst9 := st_dr hrw6 hP.2.1 h04 hun e9 z9 d9 yb23 yb24
              have hr9 := d9.2
              have he9 := he6.tr (e9.wk (T := (fun i => i = 3 ∨ SB 62 i)) (fun i q => by
                have q9 := z9 i q
                rcases q9 with q9 | q9
                · exact Or.inl q9
                · exact Or.inr (by unfold SB; omega)))
              refine r_vret dX5_readStatement_166 rfl ⟨Nat.zero_le _, Nat.zero_le _⟩ ?_
              refine ⟨rfl, he9, s9, fun _ => ⟨hst9, fun _ => ?_, ?_⟩⟩
              · rw [setP_lo (by decide), em, Nat.add_sub_cancel]
                exact hr9
              · rw [t9, sI_s]
                exact hT6
            · rw [hx]
              refine r_tabOut 157 dX5_readStatement_81 (by decide) (by decide) ?_
              refine r_aload_n dX5_readStatement_157 rfl ?_
              refine r_iload_n dX5_readStatement_158 rfl ?_
              refine r_aload_n dX5_readStatement_159 rfl ?_
              refine q_getR fl_X5_73 hW (kk_14 (kk_6_0 kc_62).1 hu) rfl (kl_3_0 hW (kk_14 (kk_6_0 kc_62).1 hu)) (Nat.succ_ne_zero _) dX5_readStatement_160 ?_
              refine q_callV2 (cv_X5_readSettings ml_X5_93) hW kc_3 (by decide) rfl ⟨rfl, rfl⟩ rfl (Nat.le_of_ble_eq_true rfl) dX5_readStatement_163 (c_X5_readSettings hW hs6 hu hd6 y24 rfl (by decide)) (fun v_163 h_163 q_163 => ?_)
              obtain ⟨rfl, e9, s9, d9, t9⟩ := q_163
              have z9 : (∀ i, (fun i => i = 3 ∨ i = 62 + 7 + 12 * u + 1) i → i = 3 ∨ 62 + 7 + 12 * u ≤ i ∧ i ≤ 62 + 7 + 12 * u + 11) := fun i q => by
                have q9 := q
                omega
              have hst9 := st_dr hrw6 hP.2.1 h04 hun e9 z9 d9 yb23 yb24
              have hr9 := d9.2
              have he9 := he6.tr (e9.wk (T := (fun i => i = 3 ∨ SB 62 i)) (fun i q => by
                have q9 := z9 i q
                rcases q9 with q9 | q9
                · exact Or.inl q9
                · exact Or.inr (by unfold SB; omega)))
              refine r_vret dX5_readStatement_166 rfl ⟨Nat.zero_le _, Nat.zero_le _⟩ ?_
              refine ⟨rfl, he9, s9, fun _ => ⟨hst9, fun _ => ?_, ?_⟩⟩
              · rw [setP_lo (by decide), em, Nat.add_sub_cancel]
                exact hr9
              · rw [t9, sI_s]
                exact hT6
            · rw [hx]
              refine r_tabOut 157 dX5_readStatement_81 (by decide) (by decide) ?_
              refine r_aload_n dX5_readStatement_157 rfl ?_
              refine r_iload_n dX5_readStatement_158 rfl ?_
              refine r_aload_n dX5_readStatement_159 rfl ?_
              refine q_getR fl_X5_73 hW (kk_14 (kk_6_0 kc_62).1 hu) rfl (kl_3_0 hW (kk_14 (kk_6_0 kc_62).1 hu)) (Nat.succ_ne_zero _) dX5_readStatement_160 ?_
              refine q_callV2 (cv_X5_readSettings ml_X5_93) hW kc_3 (by decide) rfl ⟨rfl, rfl⟩ rfl (Nat.le_of_ble_eq_true rfl) dX5_readStatement_163 (c_X5_readSettings hW hs6 hu hd6 y24 rfl (by decide)) (fun v_163 h_163 q_163 => ?_)
              obtain ⟨rfl, e9, s9, d9, t9⟩ := q_163
              have z9 : (∀ i, (fun i => i = 3 ∨ i = 62 + 7 + 12 * u + 1) i → i = 3 ∨ 62 + 7 + 12 * u ≤ i ∧ i ≤ 62 + 7 + 12 * u + 11) := fun i q => by
                have q9 := q
                omega
              have hst9 := st_dr hrw6 hP.2.1 h04 hun e9 z9 d9 yb23 yb24
              have hr9 := d9.2
              have he9 := he6.tr (e9.wk (T := (fun i => i = 3 ∨ SB 62 i)) (fun i q => by
                have q9 := z9 i q
                rcases q9 with q9 | q9
                · exact Or.inl q9
                · exact Or.inr (by unfold SB; omega)))
              refine r_vret dX5_readStatement_166 rfl ⟨Nat.zero_le _, Nat.zero_le _⟩ ?_
              refine ⟨rfl, he9, s9, fun _ => ⟨hst9, fun _ => ?_, ?_⟩⟩
              · rw [setP_lo (by decide), em, Nat.add_sub_cancel]
                exact hr9
              · rw [t9, sI_s]
                exact hT6
            · rw [hx]
              refine r_tabIn 135 dX5_readStatement_81 (by decide) (by decide) rfl (by decide) ?_
              refine r_aload_n dX5_readStatement_135 rfl ?_
              refine r_aload_n dX5_readStatement_136 rfl ?_
              refine q_getR fl_X5_73 hW (kk_14 (kk_6_0 kc_62).1 hu) rfl (kl_3_0 hW (kk_14 (kk_6_0 kc_62).1 hu)) (Nat.succ_ne_zero _) dX5_readStatement_137 ?_
              refine q_callV1 (cv_X5_readPolicy ml_X5_87) hW kc_3 (by decide) rfl ⟨rfl, rfl⟩ rfl (Nat.le_of_ble_eq_true rfl) dX5_readStatement_140 (c_X5_readPolicy hW hs6 hG hu hd6 y24) (fun v_140 h_140 q_140 => ?_)
              obtain ⟨rfl, e9, s9, d9, t9⟩ := q_140
              have z9 : (∀ i, (fun i => i = 3 ∨ i = 62 + 7 + 12 * u + 1) i → i = 3 ∨ 62 + 7 + 12 * u ≤ i ∧ i ≤ 62 + 7 + 12 * u + 11) := fun i q => by
                have q9 := q
                omega
              have hst9 := st_dr hrw6 hP.2.1 h04 hun e9 z9 d9 yb23 yb24
              have hr9 := d9.2
              have he9 := he6.tr (e9.wk (T := (fun i => i = 3 ∨ SB 62 i)) (fun i q => by
                have q9 := z9 i q
                rcases q9 with q9 | q9
                · exact Or.inl q9
                · exact Or.inr (by unfold SB; omega)))
              refine r_goto 166 dX5_readStatement_143 (by decide) ?_
              refine r_vret dX5_readStatement_166 rfl ⟨Nat.zero_le _, Nat.zero_le _⟩ ?_
              refine ⟨rfl, he9, s9, fun _ => ⟨hst9, fun _ => ?_, ?_⟩⟩
              · rw [setP_lo (by decide), em, Nat.add_sub_cancel]
                exact hr9
              · rw [t9, sI_s]
                exact hT6
            · rw [hx]
              refine r_tabIn 146 dX5_readStatement_81 (by decide) (by decide) rfl (by decide) ?_
              refine r_aload_n dX5_readStatement_146 rfl ?_
              refine r_aload_n dX5_readStatement_147 rfl ?_
              refine q_getR fl_X5_73 hW (kk_14 (kk_6_0 kc_62).1 hu) rfl (kl_3_0 hW (kk_14 (kk_6_0 kc_62).1 hu)) (Nat.succ_ne_zero _) dX5_readStatement_148 ?_
              refine q_callV1 (cv_X5_readRule ml_X5_90) hW kc_3 (by decide) rfl ⟨rfl, rfl⟩ rfl (Nat.le_of_ble_eq_true rfl) dX5_readStatement_151 (c_X5_readRule hW hs6 hG hu hd6 y24) (fun v_151 h_151 q_151 => ?_)
              obtain ⟨rfl, e9, s9, d9, t9⟩ := q_151
              have z9 : (∀ i, (fun i => i = 3 ∨ i = 62 + 7 + 12 * u + 1) i → i = 3 ∨ 62 + 7 + 12 * u ≤ i ∧ i ≤ 62 + 7 + 12 * u + 11) := fun i q => by
                have q9 := q
                omega
              have hst9 := st_dr hrw6 hP.2.1 h04 hun e9 z9 d9 yb23 yb24
              have hr9 := d9.2
              have he9 := he6.tr (e9.wk (T := (fun i => i = 3 ∨ SB 62 i)) (fun i q => by
                have q9 := z9 i q
                rcases q9 with q9 | q9
                · exact Or.inl q9
                · exact Or.inr (by unfold SB; omega)))
              refine r_goto 166 dX5_readStatement_154 (by decide) ?_
              refine r_vret dX5_readStatement_166 rfl ⟨Nat.zero_le _, Nat.zero_le _⟩ ?_
              refine ⟨rfl, he9, s9, fun _ => ⟨hst9, fun _ => ?_, ?_⟩⟩
              · rw [setP_lo (by decide), em, Nat.add_sub_cancel]
                exact hr9
              · rw [t9, sI_s]
                exact hT6
            · rw [hx]
              refine r_tabIn 157 dX5_readStatement_81 (by decide) (by decide) rfl (by decide) ?_
              refine r_aload_n dX5_readStatement_157 rfl ?_
              refine r_iload_n dX5_readStatement_158 rfl ?_
              refine r_aload_n dX5_readStatement_159 rfl ?_
              refine q_getR fl_X5_73 hW (kk_14 (kk_6_0 kc_62).1 hu) rfl (kl_3_0 hW (kk_14 (kk_6_0 kc_62).1 hu)) (Nat.succ_ne_zero _) dX5_readStatement_160 ?_
              refine q_callV2 (cv_X5_readSettings ml_X5_93) hW kc_3 (by decide) rfl ⟨rfl, rfl⟩ rfl (Nat.le_of_ble_eq_true rfl) dX5_readStatement_163 (c_X5_readSettings hW hs6 hu hd6 y24 rfl (by decide)) (fun v_163 h_163 q_163 => ?_)
              obtain ⟨rfl, e9, s9, d9, t9⟩ := q_163
              have z9 : (∀ i, (fun i => i = 3 ∨ i = 62 + 7 + 12 * u + 1) i → i = 3 ∨ 62 + 7 + 12 * u ≤ i ∧ i ≤ 62 + 7 + 12 * u + 11) := fun i q => by
                have q9 := q
                omega
              have hst9 := st_dr hrw6 hP.2.1 h04 hun e9 z9 d9 yb23 yb24
              have hr9 := d9.2
              have he9 := he6.tr (e9.wk (T := (fun i => i = 3 ∨ SB 62 i)) (fun i q => by
                have q9 := z9 i q
                rcases q9 with q9 | q9
                · exact Or.inl q9
                · exact Or.inr (by unfold SB; omega)))
              refine r_vret dX5_readStatement_166 rfl ⟨Nat.zero_le _, Nat.zero_le _⟩ ?_
              refine ⟨rfl, he9, s9, fun _ => ⟨hst9, fun _ => ?_, ?_⟩⟩
              · rw [setP_lo (by decide), em, Nat.add_sub_cancel]
                exact hr9
              · rw [t9, sI_s]
                exact hT6
            · rw [hx]
              refine r_tabIn 116 dX5_readStatement_81 (by decide) (by decide) rfl (by decide) ?_
              refine r_aload_n dX5_readStatement_116 rfl ?_
              refine r_aload_n dX5_readStatement_117 rfl ?_
              refine q_getR fl_X5_73 hW (kk_14 (kk_6_0 kc_62).1 hu) rfl (kl_3_0 hW (kk_14 (kk_6_0 kc_62).1 hu)) (Nat.succ_ne_zero _) dX5_readStatement_118 ?_
              refine q_callV1 (cv_X5_readLoads ml_X5_79) hW kc_3 (by decide) rfl ⟨rfl, rfl⟩ rfl (Nat.le_of_ble_eq_true rfl) dX5_readStatement_121 (c_X5_readLoads hW hs6 hu hd6 y24) (fun v_121 h_121 q_121 => ?_)
              obtain ⟨rfl, e9, s9, d9, t9⟩ := q_121
              have z9 : (∀ i, (fun i => i = 3 ∨ i = 62 + 7 + 12 * u + 1 ∨ i = 62 + 7 + 12 * u + 2) i → i = 3 ∨ 62 + 7 + 12 * u ≤ i ∧ i ≤ 62 + 7 + 12 * u + 11) := fun i q => by
                have q9 := q
                omega
              have hst9 := st_dr hrw6 hP.2.1 h04 hun e9 z9 d9 yb23 yb24
              have hr9 := d9.2
              have he9 := he6.tr (e9.wk (T := (fun i => i = 3 ∨ SB 62 i)) (fun i q => by
                have q9 := z9 i q
                rcases q9 with q9 | q9
                · exact Or.inl q9
                · exact Or.inr (by unfold SB; omega)))
              refine r_goto 166 dX5_readStatement_124 (by decide) ?_
              refine r_vret dX5_readStatement_166 rfl ⟨Nat.zero_le _, Nat.zero_le _⟩ ?_
              refine ⟨rfl, he9, s9, fun _ => ⟨hst9, fun _ => ?_, ?_⟩⟩
              · rw [setP_lo (by decide), em, Nat.add_sub_cancel]
                exact hr9
              · rw [t9, sI_s]
                exact hT6
            · rw [hx]
              refine r_tabIn 127 dX5_readStatement_81 (by decide) (by decide) rfl (by decide) ?_
              refine r_aload_n dX5_readStatement_127 rfl ?_
              refine r_aload_n dX5_readStatement_128 rfl ?_
              refine q_callV1 (cv_X5_readProtect ml_X5_83) hW kc_3 (by decide) rfl ⟨rfl, rfl⟩ rfl (Nat.le_of_ble_eq_true rfl) dX5_readStatement_129 (c_X5_readProtect hW hs6 hu hd6 hO h23) (fun v_129 h_129 q_129 => ?_)
              obtain ⟨rfl, e9, s9, d9, t9⟩ := q_129
              have z9 : (∀ i, (fun i => i = 3 ∨ i = 62 + 7 + 12 * u + 7) i → i = 3 ∨ 62 + 7 + 12 * u ≤ i ∧ i ≤ 62 + 7 + 12 * u + 11) := fun i q => by
                have q9 := q
                omega
              have hst9 := st_dr hrw6 hP.2.1 h04 hun e9 z9 d9 yb23 yb24
              have hr9 := d9.2
              have he9 := he6.tr (e9.wk (T := (fun i => i = 3 ∨ SB 62 i)) (fun i q => by
                have q9 := z9 i q
                rcases q9 with q9 | q9
                · exact Or.inl q9
                · exact Or.inr (by unfold SB; omega)))
              refine r_goto 166 dX5_readStatement_132 (by decide) ?_
              refine r_vret dX5_readStatement_166 rfl ⟨Nat.zero_le _, Nat.zero_le _⟩ ?_
              refine ⟨rfl, he9, s9, fun _ => ⟨hst9, fun _ => ?_, ?_⟩⟩
              · rw [setP_lo (by decide), em, Nat.add_sub_cancel]
                exact hr9
              · rw [t9, sI_s]
                exact hT6
          · refine r_aload_n dX5_readStatement_50 rfl ?_
            refine r_iconst (3) dX5_readStatement_51 (by decide) ?_
            refine q_callV1 (cv_X5_fail ml_X5_52) hW kc_3 (by decide) rfl ⟨rfl, rfl⟩ rfl (Nat.le_of_ble_eq_true rfl) dX5_readStatement_52 (c_X5_fail (c := 3) (e := (0, tE b n p)) (s := tS b n p) hW kn_3 (by decide) ht.2.1 h7 (Nat.le_of_ble_eq_true rfl)) (fun v_52 h_52 q_52 => ?_)
            obtain ⟨rfl, eF, fF, -, gF⟩ := q_52
            obtain ⟨g7, g8⟩ := gF rfl
            refine r_vret dX5_readStatement_55 rfl ⟨Nat.zero_le _, Nat.zero_le _⟩ ?_
            have hE : stmE b n ts w p = (3, tS b n p) := by
              unfold stmE
              rw [← hj]
              rw [if_neg hj0, if_neg (fun q => q.elim hj12 (by omega))]
              refine if_pos ⟨fun q => c_36 (by rw [hx, q]; rfl), ?_⟩
              rw [hx] at c_47
              cases z : ts j with
              | true => rfl
              | false => exact absurd ((bi_and _ (by omega)).mpr (by rw [hT (by omega) j (by omega), z])) c_47
            rw [hE]
            exact ⟨rfl, eF.wk (fun i q => Or.inl q), RdS.er hr eF fF g7 g8 (by decide) (Nat.le_of_ble_eq_true rfl) (tS_le hp), fun q => absurd q (by show ¬ (3 : Nat) = 0; decide)⟩
      · refine r_aload_n dX5_readStatement_27 rfl ?_
        refine r_iconst (1) dX5_readStatement_28 (by decide) ?_
        refine q_callV1 (cv_X5_fail ml_X5_52) hW kc_3 (by decide) rfl ⟨rfl, rfl⟩ rfl (Nat.le_of_ble_eq_true rfl) dX5_readStatement_29 (c_X5_fail (c := 1) (e := (0, tE b n p)) (s := tS b n p) hW kn_1 (by decide) ht.2.1 h7 (Nat.le_of_ble_eq_true rfl)) (fun v_29 h_29 q_29 => ?_)
        obtain ⟨rfl, eF, fF, -, gF⟩ := q_29
        obtain ⟨g7, g8⟩ := gF rfl
        refine r_vret dX5_readStatement_32 rfl ⟨Nat.zero_le _, Nat.zero_le _⟩ ?_
        have hE : stmE b n ts w p = (1, tS b n p) := by
          unfold stmE
          rw [← hj]
          rw [if_neg hj0]
          refine if_pos ?_
          first
            | exact Or.inl ((stI_m hj13).mp (by rw [← hx9]; exact c_17))
            | (refine Or.inr ?_
               have z := (nI_leI (a := m) (b := 0) (by omega) (by decide)).mp (Int32.not_lt.mp c_24)
               omega)
        rw [hE]
        exact ⟨rfl, eF.wk (fun i q => Or.inl q), RdS.er hr eF fF g7 g8 (by decide) (Nat.le_of_ble_eq_true rfl) (tS_le hp), fun q => absurd q (by show ¬ (1 : Nat) = 0; decide)⟩
  · have hj0 : j = 0 := (stI_0 hj13).mp (by rw [← hx9]; exact c_6)
    refine r_aload_n dX5_readStatement_9 rfl ?_
    refine r_aload_n dX5_readStatement_10 rfl ?_
    refine q_callV1 (cv_X5_readPool ml_X5_63) hW kc_3 (by decide) rfl ⟨rfl, rfl⟩ rfl (Nat.le_of_ble_eq_true rfl) dX5_readStatement_11 (c_X5_readPool hW (RdS.tk hr ht h7 h8 hp) ht.2.1 (tS_le hp) hrw hP) (fun v_11 h_11 q_11 => ?_)
    obtain ⟨rfl, e9, s9, k9⟩ := q_11
    refine r_vret dX5_readStatement_14 rfl ⟨Nat.zero_le _, Nat.zero_le _⟩ ?_
    have hE : stmE b n ts w p = if nn (w 0) < 4 then pooE b n (tE b n p) else (4, tS b n p) := by
      unfold stmE
      rw [← hj, if_pos hj0]
    have hWw : stmW b n w p = apW w (poA b n (tE b n p)) (poB b n (tE b n p)) (poC b n (tE b n p)) := by
      unfold stmW
      rw [← hj, if_pos hj0]
    have hTt : stmT b n ts p = fun _ => false := by unfold stmT; rw [← hj, if_pos hj0]
    rw [hE, hWw, hTt]
    refine ⟨rfl, e9, s9, fun q => ?_⟩
    by_cases h4 : nn (w 0) < 4
    · rw [if_pos h4] at q
      obtain ⟨k1, k2, k3⟩ := k9 h4 q
      refine ⟨k1, fun _ => ?_, fun i hi => by rw [k3]; exact bg_0⟩
      rw [ap_0, hP.n4.1, nI_1, nn_I (by omega), Nat.add_sub_cancel]
      exact k2
    · rw [if_neg h4] at q
      exact absurd q (by show ¬ (4 : Nat) = 0; decide)
