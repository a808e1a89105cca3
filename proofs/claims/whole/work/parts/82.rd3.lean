-- a new pool has no forecasts at all
set_option maxRecDepth 100000 in
set_option maxHeartbeats 4000000 in
theorem c_X3_beginF {l9 : Launch} {G : GC} {h : AH} {o : Nat} {a b c : Int32} (hW : World h) (hk : kd o 3) : PM l9 G mX3_begin NT NT [.ref o, .int a, .int b, .int c] h (fun v h' => v = none ∧ eqx h h' (btw o (o + 11)) ∧ PoR h' o 0 0 (begF a b c) (fun _ => 0) ∧ ∀ u, u < 8 → aI h' (o + 11) u = -1) noX := by
  refine PM.of (by decide +kernel) rfl rfl (Nat.le_of_ble_eq_true rfl) (fun hst _ => ?_)
  refine r_aload_n dX3_begin_0 rfl ?_
  refine q_getR fl_X3_12 hW hk rfl (kl_3_0 hW hk) (Nat.succ_ne_zero _) dX3_begin_1 ?_
  refine r_iload_n dX3_begin_4 rfl ?_
  refine r_iload_n dX3_begin_5 rfl ?_
  refine r_iload_n dX3_begin_6 rfl ?_
  refine q_callV3 (cv_X4_begin ml_X3_39) hW (kk_3_0 hk) (by decide) rfl ⟨rfl, rfl⟩ rfl (Nat.le_of_ble_eq_true rfl) dX3_begin_7 (c_X4_begin hW (kk_3_0 hk)) (fun v_7 h_7 q_7 => ?_)
  obtain ⟨rfl, he1, hm1⟩ := q_7
  have hW := he1.W hW
  refine r_aload_n dX3_begin_10 rfl ?_
  refine q_getR fl_X3_21 hW hk rfl (kl_3_1 hW hk) (Nat.succ_ne_zero _) dX3_begin_11 ?_
  refine r_iconst (0) dX3_begin_14 (by decide) ?_
  refine q_putI fl_X3_43 hW (kk_3_1 hk) rfl rfl dX3_begin_15 ?_
  refine r_aload_n dX3_begin_18 rfl ?_
  refine q_getR fl_X3_28 hW hk rfl (kl_3_2 hW hk) (Nat.succ_ne_zero _) dX3_begin_19 ?_
  refine q_callV0 (cv_X7_begin ml_X3_47) hW (kk_3_2 hk) (by decide) rfl ⟨rfl, rfl⟩ rfl (Nat.le_of_ble_eq_true rfl) dX3_begin_22 (c_X7_begin hW (kk_3_2 hk)) (fun v_22 h_22 q_22 => ?_)
  obtain ⟨rfl, he2, hm2⟩ := q_22
  have hW := he2.W hW
  refine r_aload_n dX3_begin_25 rfl ?_
  refine r_iconst (0) dX3_begin_26 (by decide) ?_
  refine q_putI fl_X3_49 hW hk rfl rfl dX3_begin_27 ?_
  refine r_aload_n dX3_begin_30 rfl ?_
  refine q_getR fl_X3_36 hW hk rfl (kl_3_5 hW hk) (Nat.succ_ne_zero _) dX3_begin_31 ?_
  refine r_iconst (-1) dX3_begin_34 (by decide) ?_
  refine q_callS2 (cs_J7_fill_53178 ml_X3_52) ⟨rfl, rfl⟩ rfl (Nat.le_of_ble_eq_true rfl) dX3_begin_35 (c_fill hW (kk_3_5 hk) (by decide)) (fun v_35 h_35 q_35 => ?_)
  obtain ⟨rfl, he3, hm3⟩ := q_35
  have hW := he3.W hW
  refine r_aload_n dX3_begin_38 rfl ?_
  refine r_iconst (0) dX3_begin_39 (by decide) ?_
  refine q_putI fl_X3_58 hW hk rfl rfl dX3_begin_40 ?_
  refine r_aload_n dX3_begin_43 rfl ?_
  refine r_iconst (-1) dX3_begin_44 (by decide) ?_
  refine q_putI fl_X3_61 hW hk rfl rfl dX3_begin_45 ?_
  refine r_aload_n dX3_begin_48 rfl ?_
  refine r_iconst (-1) dX3_begin_49 (by decide) ?_
  refine q_putI fl_X3_64 hW hk rfl rfl dX3_begin_50 ?_
  refine r_aload_n dX3_begin_53 rfl ?_
  refine r_iconst (-1) dX3_begin_54 (by decide) ?_
  refine q_putI fl_X3_67 hW hk rfl rfl dX3_begin_55 ?_
  refine r_aload_n dX3_begin_58 rfl ?_
  refine r_sipush (-1000) dX3_begin_59 (by decide) ?_
  refine q_putI fl_X3_70 hW hk rfl rfl dX3_begin_62 ?_
  refine r_aload_n dX3_begin_65 rfl ?_
  refine r_sipush (-1000) dX3_begin_66 (by decide) ?_
  refine q_putI fl_X3_73 hW hk rfl rfl dX3_begin_69 ?_
  refine r_aload_n dX3_begin_72 rfl ?_
  refine r_iconst (0) dX3_begin_73 (by decide) ?_
  refine q_putZ fl_X3_76 hW hk rfl (by decide) rfl dX3_begin_74 ?_
  refine r_vret dX3_begin_77 rfl ⟨Nat.zero_le _, Nat.zero_le _⟩ ?_
  have e3 : ∀ i, i ≠ o → i ≠ o + 11 → aI h_35 i = aI h_22 i := fun i h1 h2 => by rw [he3.I (by unfold btw; omega), sI_o h1]
  have e2 : ∀ i, i < o + 8 ∨ o + 9 < i → i ≠ o + 3 → aI h_22 i = aI h_7 i := fun i h1 h2 => by rw [he2.I (by unfold btw; omega), sI_o h2]
  have e1 : aI h_22 (o + 3) 4 = 0 := by rw [he2.I (by unfold btw; omega), sI_s]
  have e4 : aI h_35 o = upd (aI h_22 o) 4 0 := by rw [he3.I (by unfold btw; omega), sI_r]
  refine ⟨rfl, ?_, ?_, fun u hu => ?_⟩
  · repeat (refine eqx.sI ?_ (by unfold btw; omega))
    refine eqx.tr ?_ (he3.wk (fun i zi => by unfold btw at *; omega))
    refine eqx.sI ?_ (by unfold btw; omega)
    refine eqx.tr ?_ (he2.wk (fun i zi => by unfold btw at *; omega))
    refine eqx.sI ?_ (by unfold btw; omega)
    exact he1.wk (fun i zi => by unfold btw at *; omega)
  · refine ⟨(hm1.sub (fun k hk => (if_pos hk).symm) lds_begF.symm).cg ?_ ?_, ⟨?_, by rw [mbs_begF]; exact Nat.zero_le _, fun k hk => absurd hk (Nat.not_lt_zero _)⟩, hm2.sub ?_ ?_ ?_ (fun k hk => ?_) (fun k h1 h2 => ?_) (fun k hk => ?_), ⟨fun j h1 h2 => absurd h2 (Nat.not_lt_zero _), ?_⟩, fun u h1 h2 => ?_, ?_, ?_, ?_, ?_, ?_, ?_, ?_⟩
    · repeat rw [sI_o (by omega)]
      rw [e3 _ (by omega) (by omega), e2 _ (by omega) (by omega)]
    · repeat rw [sI_o (by omega)]
      rw [e3 _ (by omega) (by omega), e2 _ (by omega) (by omega)]
    · repeat rw [sI_o (by omega)]
      rw [e3 _ (by omega) (by omega), e1]; rfl
    · repeat rw [sI_o (by omega)]
      rw [e3 _ (by omega) (by omega)]
    · exact he3.J (by unfold btw; omega)
    · repeat rw [sI_o (by omega)]
      rw [e3 _ (by omega) (by omega)]
    · obtain rfl | rfl | rfl | rfl | rfl : k = 0 ∨ k = 1 ∨ k = 2 ∨ k = 3 ∨ k = 4 := by omega
      all_goals rfl
    · obtain rfl | rfl | rfl | rfl : k = 5 ∨ k = 6 ∨ k = 7 ∨ k = 8 := by omega
      all_goals rfl
    · obtain rfl | rfl | rfl | rfl | rfl | rfl : k = 0 ∨ k = 1 ∨ k = 2 ∨ k = 3 ∨ k = 4 ∨ k = 5 := by omega
      all_goals rfl
    · repeat rw [sI_k (by decide)]
      rw [e4, pk_us]; rfl
    · have e6 : nn (begF a b c 6) = 2 := rfl
      rw [e6] at h2 ⊢
      repeat rw [sI_o (by omega)]
      rw [hm3, if_pos (Nat.mod_lt _ (by decide)), if_pos (by omega)]
    all_goals
      repeat (first | rw [sI_s] | rw [sI_k (by decide)])
      first
        | rfl
        | (rw [e4, pk_us]; rfl)
  · repeat rw [sI_o (by omega)]
    rw [hm3, if_pos hu]

set_option maxRecDepth 100000 in
set_option maxHeartbeats 4000000 in
theorem c_X6_addPoolF {l9 : Launch} {G : GC} {h : AH} {b : Nat} {w : Nat → Int32} {v9 : Nat → Int64} {x y z : Int32} (hW : World h) (hk : kd b 6) (hs : StR h b w v9) (hw0 : rg (w 0) 0 3) (hw1 : w 1 = 0) (hw2 : rg (w 2) 0 100) (hz : getG v9 (nn (w 0)) = fun _ => 0) (ha : rg x 0 20) (hb : rg y 1 20) (hc : rg z 1 100) (hab : nn x ≤ nn y) : PM l9 G mX6_addPool NT NT [.ref b, .int x, .int y, .int z] h (fun v h' => v = none ∧ eqx h h' (SB b) ∧ StR h' b (apW w x y z) v9 ∧ ∀ u, u < 8 → aI h' (b + 7 + 12 * nn (w 0) + 11) u = -1) noX := by
  refine PM.of (by decide +kernel) rfl rfl (Nat.le_of_ble_eq_true rfl) (fun hst _ => ?_)
  obtain ⟨n, n1, n2, n3⟩ := hw0.nat
  obtain ⟨a, a1, a2, a3⟩ := ha.nat
  obtain ⟨m, m1, m2, m3⟩ := hw2.nat
  have en : nn (w 0) = n := by rw [n3]; exact nn_I (by omega)
  have ea : nn x = a := by rw [a3]; exact nn_I (by omega)
  have em : nn (w 2) = m := by rw [m3]; exact nn_I (by omega)
  have hn4 : n < 4 := by omega
  refine r_aload_n dX6_addPool_0 rfl ?_
  refine q_getI fl_X6_25 hW hk rfl dX6_addPool_1 ?_
  rw [hs.1, n3]
  refine r_iconst (4) dX6_addPool_4 (by decide) ?_
  refine r_icmp_lt 9 dX6_addPool_5 (by decide) (fun c_5 => ?_) (fun c_5 => ?_)
  · refine r_aload_n dX6_addPool_9 rfl ?_
    refine q_getR fl_X6_11 hW hk rfl (kl_6_0 hW hk) (Nat.succ_ne_zero _) dX6_addPool_10 ?_
    refine r_aload_n dX6_addPool_13 rfl ?_
    refine q_getI fl_X6_25 hW hk rfl dX6_addPool_14 ?_
    rw [hs.1, n3]
    refine q_pald hW (kk_6_0 hk) rfl hn4 dX6_addPool_17 ?_
    refine r_astore (ls2 := [_, _, _, some _, _, _]) dX6_addPool_18 (by decide) rfl ?_
    refine r_aload_n dX6_addPool_20 rfl ?_
    refine r_dup dX6_addPool_21 rfl ?_
    refine q_getI fl_X6_25 hW hk rfl dX6_addPool_22 ?_
    rw [hs.1, n3]
    refine r_iconst (1) dX6_addPool_25 (by decide) ?_
    refine r_iadd dX6_addPool_26 ?_
    rw [nI_1]
    refine q_putI fl_X6_25 hW hk rfl rfl dX6_addPool_27 ?_
    refine r_aload dX6_addPool_30 rfl ?_
    refine r_iload_n dX6_addPool_32 rfl ?_
    refine r_iload_n dX6_addPool_33 rfl ?_
    refine r_iload_n dX6_addPool_34 rfl ?_
    refine q_callV3 (cv_X3_begin ml_X6_45) hW (kk_14 (kk_6_0 hk).1 hn4) (by decide) rfl ⟨rfl, rfl⟩ rfl (Nat.le_of_ble_eq_true rfl) dX6_addPool_35 (c_X3_beginF hW (kk_14 (kk_6_0 hk).1 hn4)) (fun v_35 h_35 q_35 => ?_)
    obtain ⟨rfl, e1, p1, f1⟩ := q_35
    have hW := e1.W hW
    refine r_iconst (0) dX6_addPool_38 (by decide) ?_
    refine r_istore (ls2 := [_, _, _, _, some _, _]) dX6_addPool_39 (by decide) rfl ?_
    have e0 : eqx h (sI h b 1 (nI (n + 1))) (SB b) := eqx.rf.sI (by unfold SB; omega)
    have e35 : eqx h h_35 (SB b) := e0.tr (e1.wk (fun i zi => by unfold btw SB at *; omega))
    have hbO := begF_ok ha hb hc hab
    refine loopN (P := fun i => ∀ H : AH, i ≤ a → World H → eqx h H (SB b) → aI H b = upd (upd (aI h b) 1 (nI (n + 1))) 3 (nI (m + i)) → (∀ j, j < b + 7 + 12 * n ∨ b + 7 + 12 * n + 11 < j → j ≠ b → aI H j = aI h j ∧ aJ H j = aJ h j) → PoR H (b + 7 + 12 * n) 0 0 (jnF i (begF x y z) m) (fun _ => 0) → (∀ u, u < 8 → aI H (b + 7 + 12 * n + 11) u = -1) → PW l9 G mX6_addPool _ _ NT 41 [some (.ref b), some (.int x), some (.int y), some (.int z), some (.ref (b + 1 + 6 + 12 * n)), some (.int (nI i))] [] (0, 0) H) a (fun i ih H hi hW he hb9 ho hp hF => ?_) 0 h_35 (Nat.zero_le _) hW e35 ?_ (fun j j1 j2 => ⟨by rw [e1.I (by unfold btw; omega), sI_o j2], by rw [e1.J (by unfold btw; omega)]; rfl⟩) p1 f1
    rotate_left
    · rw [e1.I (by unfold btw; omega), sI_r]
      funext k
      by_cases e : k = 3
      · rw [e, pk_us, pk_un (by decide), hs.2.2.1, m3]; rfl
      · rw [pk_un e]
    obtain ⟨i1, i2, i3⟩ := jnF_ok (x := m) hbO rfl i (by omega)
    have zm := hp.2.1
    have el : (mbs (jnF i (begF x y z) m)).length = i := by rw [mbs_len, i2]; exact nn_I (by omega)
    refine r_iload dX6_addPool_41 rfl ?_
    refine r_iload_n dX6_addPool_43 rfl ?_
    refine r_icmp_ge 77 dX6_addPool_44 (by decide) (fun c_44 => ?_) (fun c_44 => ?_)
    · have hge : a = i := by
        have c9 := c_44
        rw [a3] at c9
        have := (nI_leI (by omega) (by omega)).mp c9
        omega
      subst hge
      refine r_vret dX6_addPool_77 rfl ⟨Nat.zero_le _, Nat.zero_le _⟩ ?_
      have hO9 : PoOK (jnF a (begF x y z) m) (fun _ => 0) 0 0 := i1
      have q0 : nn (apW w x y z 0) = n + 1 := by
        unfold apW
        rw [setP_lo (by decide), pk_un (by decide), pk_us, n3, nI_1]
        exact nn_I (by omega)
      have q1 : apW w x y z 1 = 0 := by
        unfold apW
        rw [setP_lo (by decide), pk_un (by decide), pk_un (by decide)]; exact hw1
      have q3 : apW w x y z 3 = w 3 := by
        unfold apW
        rw [setP_lo (by decide), pk_un (by decide), pk_un (by decide)]
      refine ⟨rfl, he, ⟨?_, ?_, ?_, ?_, fun p hp9 => ?_⟩, by first | (rw [en]; exact hF) | (rw [nn_I (by omega)]; exact hF)⟩
      · rw [hb9, pk_un (by decide), pk_us]
        unfold apW
        rw [setP_lo (by decide), pk_un (by decide), pk_us, n3, nI_1]
      · rw [hb9, pk_un (by decide), pk_un (by decide), q1, hs.2.1]; exact hw1
      · rw [hb9, pk_us]
        unfold apW
        rw [setP_lo (by decide), pk_us, em, ea]
      · rw [q3]
        have hev := hs.2.2.2.1
        unfold EvW at hev ⊢
        rw [(ho (b + 2) (by omega) (by omega)).1, (ho (b + 2 + 1) (by omega) (by omega)).1, (ho (b + 2 + 2) (by omega) (by omega)).1, (ho (b + 2 + 3) (by omega) (by omega)).1, (ho (b + 2 + 4) (by omega) (by omega)).1]
        refine ⟨hev.1, fun j j1 j2 => ?_⟩
        have e9 : ∀ k, 4 ≤ k → k < 244 → apW w x y z k = w k := fun k k1 k2 => by
          unfold apW
          rw [setP_lo k2, pk_un (by omega), pk_un (by omega)]
        rw [e9 _ (by omega) (by omega), e9 _ (by omega) (by omega), e9 _ (by omega) (by omega), e9 _ (by omega) (by omega)]
        exact hev.2 j j1 j2
      · rw [q1]
        rw [q0] at hp9
        by_cases e : p = n
        · subst e
          have e1' : getP (apW w x y z) p = trP (jnF a (begF x y z) m) := by
            unfold apW
            rw [en, ea, em, getP_set]
          rw [e1', ← en, hz]
          rw [en]
          exact hp.cgF (hO9.at 23).2.2 (hO9.at 24).2.2 (fun k hk9 => trP_k hk9) (fun k hk9 => rfl)
        · have e1' : getP (apW w x y z) p = getP w p := by
            unfold apW
            rw [en, getP_ne e]
            exact getP_cg (fun k hk9 => by rw [pk_un (by omega), pk_un (by omega)])
          rw [e1']
          have h5 := hs.2.2.2.2 p (by omega)
          rw [hw1] at h5
          exact h5.cg (fun j j1 j2 => (ho j (by omega) (by omega)).1) (ho _ (by omega) (by omega)).2
    · have hlt : i < a := by
        have c9 := c_44
        rw [a3] at c9
        exact (nI_ltI (by omega) (by omega)).mp (i_lt.mp c9)
      refine r_aload dX6_addPool_47 rfl ?_
      refine q_getR fl_X6_49 hW (kk_14 (kk_6_0 hk).1 hn4) rfl (kl_3_1 hW (kk_14 (kk_6_0 hk).1 hn4)) (Nat.succ_ne_zero _) dX6_addPool_49 ?_
      refine r_aload_n dX6_addPool_52 rfl ?_
      refine q_getI fl_X6_32 hW hk rfl dX6_addPool_53 ?_
      rw [show aI H b 3 = nI (m + i) from by rw [hb9, pk_us]]
      refine r_iconst (0) dX6_addPool_56 (by decide) ?_
      refine r_iconst (0) dX6_addPool_57 (by decide) ?_
      refine q_callV3 (cv_X1_add ml_X6_53) hW (kk_3_1 (kk_14 (kk_6_0 hk).1 hn4)) (by decide) rfl ⟨rfl, rfl⟩ rfl (Nat.le_of_ble_eq_true rfl) dX6_addPool_58 (c_X1_add hW (kk_3_1 (kk_14 (kk_6_0 hk).1 hn4)) zm (by omega)) (fun v_58 h_58 q_58 => ?_)
      obtain ⟨rfl, e58, p58⟩ := q_58
      have hW := e58.W hW
      refine r_aload_n dX6_addPool_61 rfl ?_
      refine r_dup dX6_addPool_62 rfl ?_
      refine q_getI fl_X6_32 hW hk rfl dX6_addPool_63 ?_
      rw [show aI h_58 b 3 = nI (m + i) from by rw [e58.I (by unfold btw; omega), hb9, pk_us]]
      refine r_iconst (1) dX6_addPool_66 (by decide) ?_
      refine r_iadd dX6_addPool_67 ?_
      rw [nI_1]
      refine q_putI fl_X6_32 hW hk rfl rfl dX6_addPool_68 ?_
      refine r_iinc (1) (by decide) (ls2 := [_, _, _, _, some _, _]) dX6_addPool_71 rfl (by decide) rfl ?_
      refine r_goto 41 dX6_addPool_74 (by decide) ?_
      rw [nI_1]
      have es : eqx h_58 (sI h_58 b 3 (nI (m + i + 1))) (fun j => j = b) := eqx.rf.sI rfl
      have p2 : PoR h_58 (b + 7 + 12 * n) 0 0 (joF (jnF i (begF x y z) m) (nI (m + i)) 0 0) (fun _ => 0) := po_mem hp (i1.at 24).2.2 (e58.wk (fun j zj => by unfold btw at *; omega)) (by rw [mbs_joF ⟨(i1.at 23).1, Nat.zero_le _, by rw [i2, nn_I (by omega)]; omega⟩]; exact p58) (fun k hk9 => joF_o hk9)
      refine ih hlt _ hlt (es.W hW) ((he.tr (e58.wk (fun j zj => by unfold btw SB at *; omega))).tr (es.wk (fun j zj => by unfold SB; omega))) ?_ (fun j j1 j2 => ⟨by rw [sI_o j2, e58.I (by unfold btw; omega)]; exact (ho j j1 j2).1, by rw [sIJ, e58.J (by unfold btw; omega)]; exact (ho j j1 j2).2⟩) (p2.eqx es (fun j j1 j2 => by omega)) (fun u hu => by rw [sI_o (by omega), e58.I (by unfold btw; omega)]; exact hF u hu)
      rw [sI_r, e58.I (by unfold btw; omega), hb9]
      funext k
      by_cases e : k = 3
      · rw [e, pk_us, pk_us]; rfl
      · rw [pk_un e, pk_un e, pk_un e]
  · exact absurd ((nI_ltI (b := 4) (by omega) (by omega)).mpr hn4) c_5
