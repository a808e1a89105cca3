-- the reference's reader: load, a new pool, clear
theorem ldU_u {g : Nat → Int32} {i : Nat} {x y : Int32} : ldU (upd g 24 y) i x = ldU g i x := by
  funext k
  unfold ldU
  by_cases h : k = 24
  · rw [h, pk_us, pk_us]
  · rw [pk_un h, pk_un h]
    by_cases h2 : k = 36 + i
    · rw [h2, pk_us, pk_us]
    · rw [pk_un h2, pk_un h2, pk_un h]
theorem lo_exit {b : Nat → Int32} {n k i q : Nat} {F : Nat → Int32} (h : tK b n q ≠ 2 ∨ k = 0) : smiS b n (0, q) = (ldR b n k i (0, q) F).1 ∧ ((ldR b n k i (0, q) F).1.1 = 0 → (ldR b n k i (0, q) F).2 = F) := by
  by_cases h3 : tC b n q = 3
  · rw [ldR_3 (e := (0, q)) rfl h3]
    exact ⟨by unfold smiS; rw [if_pos rfl, if_pos h3], fun _ => rfl⟩
  · have hs : smiS b n (0, q) = (1, tS b n q) := by unfold smiS; rw [if_pos rfl, if_neg h3]
    cases k with
    | zero => rw [ldR_f (e := (0, q)) rfl h3]; exact ⟨hs, fun _ => rfl⟩
    | succ k =>
      have h2 : tK b n q ≠ 2 := by
        rcases h with z | z
        · exact z
        · omega
      have hC : nmC b n q 0 999 = 1 := by
        unfold nmC
        exact if_neg (fun z => h2 (tC_2.mp z).1)
      rw [ldR_st (e := (0, q)) rfl h3, nm_1 (by rw [hC]; decide), hC, ldR_er (by show ¬ (1 : Nat) = 0; decide)]
      exact ⟨hs, fun z => absurd z (by show ¬ (1 : Nat) = 0; decide)⟩
set_option maxRecDepth 100000 in
set_option maxHeartbeats 1600000 in
theorem c_X9_readLoad {l9 : Launch} {G : GC} {h : AH} {b : Nat → Int32} {n : Nat} {w : Nat → Int32} {u : Nat} {f : Nat → Int32} {p m : Nat} {ts : Nat → Bool} (hW : World h) (hr : RpS h b n p) (hm : PV h w ZG u f (getG ZG u)) (hu : u < 4) (h0 : w 0 = nI m) (hm4 : m ≤ 4) (hT : 0 < m → TbD (aI h 723 23) ts) (hmu : 0 < m → m = u + 1) : PM l9 G mX9_readLoad NT NT [.ref 723] h (fun v h' => ∃ E f', Rsl h h' v b n w u E f' (fun i => ts i || decide (i = 10)) ∧ smiS b n E = stE2 b n m ts 10 p (loE b n (0, tE b n p) f).1 ∧ ((stE2 b n m ts 10 p (loE b n (0, tE b n p) f).1).1 = 0 → f' = (loE b n (0, tE b n p) f).2)) noX := by
  refine PM.of (by decide +kernel) rfl rfl (Nat.le_of_ble_eq_true rfl) (fun hst _ => ?_)
  refine r_aload_n dX9_readLoad_0 rfl ?_
  refine r_sipush (512) dX9_readLoad_1 (by decide) ?_
  refine q_callV1 (cv_X9_startsOnce ml_X9_217) hW kc_723 (by decide) rfl ⟨rfl, rfl⟩ rfl (Nat.le_of_ble_eq_true rfl) dX9_readLoad_4 (c_X9_startsOnce (j := 10) hW hr hm hu h0 hm4 hT ⟨by decide, by decide⟩ (by decide)) (fun v_4 h_4 q_4 => ?_)
  obtain ⟨rfl, eS, oS, gS, bS⟩ := q_4
  have hW := eS.W hW
  refine r_if_ne 12 dX9_readLoad_7 (by decide) (fun c_7 => ?_) (fun c_7 => ?_)
  · have hC0 : stC m ts 10 = 0 := of_decide_eq_true (bI_1.mp c_7)
    obtain ⟨hr1, hT1⟩ := gS hC0
    have hm := hm.cgS eS (by decide) (by decide)
    have hm0 : 0 < m := by
      have : m ≠ 0 := fun q => absurd hC0 (by unfold stC; rw [if_pos q]; decide)
      omega
    refine r_iconst (0) dX9_readLoad_12 (by decide) ?_
    refine r_istore_n (ls2 := [some _, _]) dX9_readLoad_13 (by decide) rfl ?_
    refine loopN (P := fun i => ∀ (H : AH) (g : Nat → Int32) (q : Nat), i < 24 → World H → RpS H b n q → PV H w ZG u g (getG ZG u) → eqx h H SRp → OthF h H → TbD (aI H 723 23) (fun i => ts i || decide (i = 10)) → loE b n (0, tE b n p) f = ldR b n (23 - i) (i + 1) (nmS b n (0, q) 0 999) (ldU (upd g 24 (nI i)) i (vlS b n (0, q) 0 999)) → PW l9 G mX9_readLoad _ _ NT 14 [some (.ref 723), some (.int (nI i))] [] (0, 0) H) 24 (fun i ih H g q hi hW hr hm he ho hT1 hZ => ?_) 0 _ f (tE b n p) (by decide) hW hr1 hm (eS.wk (fun i q => SRp9 q)) oS hT1 (by rw [ldU_u]; rfl)
    refine r_aload_n dX9_readLoad_14 rfl ?_
    refine r_iconst (0) dX9_readLoad_15 (by decide) ?_
    refine r_iconst (0) dX9_readLoad_16 (by decide) ?_
    refine r_sipush (999) dX9_readLoad_17 (by decide) ?_
    refine q_callV3 (cv_X9_takes ml_X9_211) hW kc_723 (by decide) rfl ⟨rfl, rfl⟩ rfl (Nat.le_of_ble_eq_true rfl) dX9_readLoad_20 (c_X9_takes hW hr kn_0 (by decide)) (fun v_20 h_20 q_20 => ?_)
    obtain ⟨rfl, eK, oK, t9K, gK, bK⟩ := q_20
    have hW := eK.W hW
    refine r_if_ne 28 dX9_readLoad_23 (by decide) (fun c_23 => ?_) (fun c_23 => ?_)
    · have hN : nmC b n q 0 999 = 0 := of_decide_eq_true (bI_1.mp c_23)
      obtain ⟨g5, hr2⟩ := gK hN
      have hm := hm.cgS eK (by decide) (by decide)
      rw [(nm_0 hN).1, (nm_0 hN).2, ldU_u] at hZ
      refine r_aload_n dX9_readLoad_28 rfl ?_
      refine r_bipush (36) dX9_readLoad_29 (by decide) ?_
      refine r_iload_n dX9_readLoad_31 rfl ?_
      refine r_iadd dX9_readLoad_32 ?_
      refine r_aload_n dX9_readLoad_33 rfl ?_
      refine q_getR fl_X9_48 hW kc_723 rfl (kl_9_24 hW) (by decide) dX9_readLoad_34 ?_
      refine r_iconst (0) dX9_readLoad_37 (by decide) ?_
      refine q_iald hW kc_735 kn_0 (by decide) (by decide) dX9_readLoad_38 ?_
      rw [show aI h_20 735 0 = tV b n q from by rw [g5, pk_us]]
      refine q_callV2 (cv_X9_sets ml_X9_220) hW kc_723 (by decide) rfl ⟨rfl, rfl⟩ rfl (Nat.le_of_ble_eq_true rfl) dX9_readLoad_39 (c_X9_sets hW hm hu (by rw [h0, hmu hm0]) (nadd kn_36 rfl) (by omega)) (fun v_39 h_39 q_39 => ?_)
      obtain ⟨rfl, eP, hm⟩ := q_39
      have hW := eP.W hW
      refine r_iinc (1) (by decide) (ls2 := [some _, _]) dX9_readLoad_42 rfl (by decide) rfl ?_
      rw [nI_1]
      have hr3 : RpS h_39 b n (tE b n q) := hr2.cg eP (by unfold SM; omega) (fun k _ _ => by rw [eP.I (by unfold SM; omega)]) (by rw [eP.I (by unfold SM; omega)])
      have he3 := (he.tr (eK.wk (T := SRp) (fun i q => by unfold SRp; omega))).tr (eP.wk (T := SRp) (fun i q => SRpM q))
      have ho3 := (ho.tr oK).tr (OthF.of eP (by unfold SM; omega))
      have hT3 : TbD (aI h_39 723 23) (fun i => ts i || decide (i = 10)) := by rw [eP.I (by unfold SM; omega), t9K]; exact hT1
      have hk6 := tK_lt (b := b) (n := n) (p := tE b n q)
      have hk4 := tK_4 (b := b) (n := n) (p := tE b n q)
      refine r_aload_n dX9_readLoad_45 rfl ?_
      refine q_getI fl_X9_182 hW kc_723 rfl dX9_readLoad_46 ?_
      rw [hr3.2.1.2.1]
      refine r_iconst (2) dX9_readLoad_49 (by decide) ?_
      refine r_icmp_ne 59 dX9_readLoad_50 (by decide) (fun c_50 => ?_) (fun c_50 => ?_)
      · refine r_aload_n dX9_readLoad_59 rfl ?_
        refine r_bipush (24) dX9_readLoad_60 (by decide) ?_
        refine r_iload_n dX9_readLoad_62 rfl ?_
        refine q_callV2 (cv_X9_sets ml_X9_220) hW kc_723 (by decide) rfl ⟨rfl, rfl⟩ rfl (Nat.le_of_ble_eq_true rfl) dX9_readLoad_63 (c_X9_sets hW hm hu (by rw [h0, hmu hm0]) kn_24 (by decide)) (fun v_63 h_63 q_63 => ?_)
        obtain ⟨rfl, eQ, hm⟩ := q_63
        refine r_iconst (1) dX9_readLoad_66 (by decide) ?_
        refine r_zret dX9_readLoad_67 rfl (by decide) ⟨Nat.zero_le _, Nat.zero_le _⟩ ?_
        have hx2 : tK b n (tE b n q) ≠ 2 ∨ 23 - i = 0 := by
          first
            | exact Or.inl (fun z => c_50 ((tkR_e hk6 hk4 (j := 2) (by decide)).mpr z))
            | (refine Or.inr ?_
               have : ¬ i + 1 < 24 := fun z => absurd ((nI_ltI (a := i + 1) (b := 24) (by omega) (by decide)).mpr z) (by first | exact c_56 | exact Int32.not_lt.mpr (Int32.not_lt.mp c_56))
               omega)
        obtain ⟨x1, x2⟩ := lo_exit (i := i + 1) (F := ldU g i (tV b n q)) hx2
        refine ⟨(0, tE b n q), upd (upd g (36 + i) (tV b n q)) 24 (nI (i + 1)), Rsl.good (he3.tr (eQ.wk (fun i q => SRpM q))) (ho3.tr (OthF.of eQ (by unfold SM; omega))) (hr3.cg eQ (by unfold SM; omega) (fun k _ _ => by rw [eQ.I (by unfold SM; omega)]) (by rw [eQ.I (by unfold SM; omega)])) hm (by rw [eQ.I (by unfold SM; omega)]; exact hT3), ?_, fun z => ?_⟩
        · unfold stE2
          rw [if_pos hC0, hZ]
          exact x1
        · unfold stE2 at z
          rw [if_pos hC0, hZ] at z
          rw [hZ]
          exact (x2 z).symm
      · refine r_iload_n dX9_readLoad_53 rfl ?_
        refine r_bipush (24) dX9_readLoad_54 (by decide) ?_
        refine r_icmp_lt 14 dX9_readLoad_56 (by decide) (fun c_56 => ?_) (fun c_56 => ?_)
        · have hk2 : tK b n (tE b n q) = 2 := (tkR_e hk6 hk4 (j := 2) (by decide)).mp c_50
          have hi1 : i + 1 < 24 := (nI_ltI (a := i + 1) (b := 24) (by omega) (by decide)).mp c_56
          have hC3 : ¬ tC b n (tE b n q) = 3 := fun z => absurd (hk2.symm.trans ((tC_k (by decide) (by decide)).mp z)) (by decide)
          refine ih (by omega) _ _ (tE b n q) hi1 hW hr3 hm he3 ho3 hT3 ?_
          rw [hZ, show 23 - i = (23 - (i + 1)) + 1 from by omega]
          exact ldR_st rfl hC3
        · refine r_aload_n dX9_readLoad_59 rfl ?_
          refine r_bipush (24) dX9_readLoad_60 (by decide) ?_
          refine r_iload_n dX9_readLoad_62 rfl ?_
          refine q_callV2 (cv_X9_sets ml_X9_220) hW kc_723 (by decide) rfl ⟨rfl, rfl⟩ rfl (Nat.le_of_ble_eq_true rfl) dX9_readLoad_63 (c_X9_sets hW hm hu (by rw [h0, hmu hm0]) kn_24 (by decide)) (fun v_63 h_63 q_63 => ?_)
          obtain ⟨rfl, eQ, hm⟩ := q_63
          refine r_iconst (1) dX9_readLoad_66 (by decide) ?_
          refine r_zret dX9_readLoad_67 rfl (by decide) ⟨Nat.zero_le _, Nat.zero_le _⟩ ?_
          have hx2 : tK b n (tE b n q) ≠ 2 ∨ 23 - i = 0 := by
            first
              | exact Or.inl (fun z => c_50 ((tkR_e hk6 hk4 (j := 2) (by decide)).mpr z))
              | (refine Or.inr ?_
                 have : ¬ i + 1 < 24 := fun z => absurd ((nI_ltI (a := i + 1) (b := 24) (by omega) (by decide)).mpr z) (by first | exact c_56 | exact Int32.not_lt.mpr (Int32.not_lt.mp c_56))
                 omega)
          obtain ⟨x1, x2⟩ := lo_exit (i := i + 1) (F := ldU g i (tV b n q)) hx2
          refine ⟨(0, tE b n q), upd (upd g (36 + i) (tV b n q)) 24 (nI (i + 1)), Rsl.good (he3.tr (eQ.wk (fun i q => SRpM q))) (ho3.tr (OthF.of eQ (by unfold SM; omega))) (hr3.cg eQ (by unfold SM; omega) (fun k _ _ => by rw [eQ.I (by unfold SM; omega)]) (by rw [eQ.I (by unfold SM; omega)])) hm (by rw [eQ.I (by unfold SM; omega)]; exact hT3), ?_, fun z => ?_⟩
          · unfold stE2
            rw [if_pos hC0, hZ]
            exact x1
          · unfold stE2 at z
            rw [if_pos hC0, hZ] at z
            rw [hZ]
            exact (x2 z).symm
    · refine r_iconst (0) dX9_readLoad_26 (by decide) ?_
      refine r_zret dX9_readLoad_27 rfl (by decide) ⟨Nat.zero_le _, Nat.zero_le _⟩ ?_
      have hN : nmC b n q 0 999 ≠ 0 := of_decide_eq_false (bI_0.mp c_23)
      have hL : loE b n (0, tE b n p) f = ((nmC b n q 0 999, tS b n q), ldU (upd g 24 (nI i)) i (vlS b n (0, q) 0 999)) := by rw [hZ, nm_1 hN, ldR_er hN]
      refine ⟨(nmC b n q 0 999, tS b n q), f, Rsl.bad (he.tr (eK.wk (fun i q => by unfold SRp; omega))) (ho.tr oK) hN (bK hN), ?_, fun z => ?_⟩
      · unfold stE2
        rw [if_pos hC0, hL]
        exact if_neg hN
      · unfold stE2 at z
        rw [if_pos hC0, hL] at z
        exact absurd z hN
  · refine r_iconst (0) dX9_readLoad_10 (by decide) ?_
    refine r_zret dX9_readLoad_11 rfl (by decide) ⟨Nat.zero_le _, Nat.zero_le _⟩ ?_
    have hC : stC m ts 10 ≠ 0 := of_decide_eq_false (bI_0.mp c_7)
    have hE : ∀ e, stE2 b n m ts 10 p e = (stC m ts 10, tS b n p) := fun e => by unfold stE2; rw [if_neg hC]
    refine ⟨(stC m ts 10, tS b n p), f, Rsl.bad (eS.wk (fun i q => SRp9 q)) oS hC (bS hC), ?_, fun z => ?_⟩
    · rw [hE]; exact if_neg hC
    · rw [hE] at z; exact absurd z hC

set_option maxRecDepth 100000 in
set_option maxHeartbeats 1600000 in
theorem c_X9_clear {l9 : Launch} {G : GC} {h : AH} (hW : World h) : PM l9 G mX9_clear NT NT [.ref 723] h (fun v h' => v = none ∧ eqx h h' SM ∧ MW h' (noW, ZG)) noX := by
  refine PM.of (by decide +kernel) rfl rfl (Nat.le_of_ble_eq_true rfl) (fun hst _ => ?_)
  refine r_iconst (0) dX9_clear_0 (by decide) ?_
  refine r_istore_n (ls2 := [some _, _]) dX9_clear_1 (by decide) rfl ?_
  refine loopN (P := fun i => ∀ H : AH, i ≤ 964 → World H → eqx h H SM → (∀ k, k < i → aI H 724 k = 0) → PW l9 G mX9_clear _ _ NT 2 [some (.ref 723), some (.int (nI i))] [] (0, 0) H) 964 (fun i ih H hi hW he hz => ?_) 0 h (Nat.zero_le _) hW eqx.rf (fun k hk => absurd hk (Nat.not_lt_zero _))
  refine r_iload_n dX9_clear_2 rfl ?_
  refine r_sipush (964) dX9_clear_3 (by decide) ?_
  refine r_icmp_ge 22 dX9_clear_6 (by decide) (fun c_6 => ?_) (fun c_6 => ?_)
  · refine r_iconst (0) dX9_clear_22 (by decide) ?_
    refine r_istore_n (ls2 := [some _, _]) dX9_clear_23 (by decide) rfl ?_
    have hge : i = 964 := by
      have := (nI_leI (a := 964) (by decide) (by omega)).mp c_6
      omega
    subst hge
    refine loopN (P := fun i => ∀ H : AH, i ≤ 24 → World H → eqx h H SM → (∀ k, k < 964 → aI H 724 k = 0) → (∀ k, k < i → aJ H 729 k = 0) → PW l9 G mX9_clear _ _ NT 24 [some (.ref 723), some (.int (nI i))] [] (0, 0) H) 24 (fun i ih2 H hi hW he hz hz2 => ?_) 0 H (Nat.zero_le _) hW he hz (fun k hk => absurd hk (Nat.not_lt_zero _))
    refine r_iload_n dX9_clear_24 rfl ?_
    refine r_bipush (24) dX9_clear_25 (by decide) ?_
    refine r_icmp_ge 43 dX9_clear_27 (by decide) (fun c_27 => ?_) (fun c_27 => ?_)
    · refine r_vret dX9_clear_43 rfl ⟨Nat.zero_le _, Nat.zero_le _⟩ ?_
      have hge : i = 24 := by
        have := (nI_leI (a := 24) (by decide) (by omega)).mp c_27
        omega
      subst hge
      exact ⟨rfl, he, fun k hk => hz k hk, fun k hk => hz2 k hk⟩
    · have hlt : i < 24 := (nI_ltI (b := 24) (by omega) (by decide)).mp (i_lt.mp c_27)
      refine r_aload_n dX9_clear_30 rfl ?_
      refine q_getR fl_X9_25 hW kc_723 rfl (kl_9_5 hW) (by decide) dX9_clear_31 ?_
      refine r_iload_n dX9_clear_34 rfl ?_
      refine r_lconst (0) dX9_clear_35 (by decide) ?_
      refine q_last hW kc_729 rfl (by omega) (by decide) dX9_clear_36 ?_
      refine r_iinc (1) (by decide) (ls2 := [some _, _]) dX9_clear_37 rfl (by decide) rfl ?_
      refine r_goto 24 dX9_clear_40 (by decide) ?_
      rw [nI_1]
      have e9 : eqx H (sJ H 729 i 0) SM := (eqx.rf (S := SM)).sJ (Or.inr rfl)
      refine ih2 hlt _ hlt (e9.W hW) (he.tr e9) (fun k hk => by rw [sJI]; exact hz k hk) (fun k hk => ?_)
      by_cases q : k = i
      · rw [q, sJ_s]
      · rw [sJ_k q]; exact hz2 k (by omega)
  · have hlt : i < 964 := (nI_ltI (b := 964) (by omega) (by decide)).mp (i_lt.mp c_6)
    refine r_aload_n dX9_clear_9 rfl ?_
    refine q_getR fl_X9_7 hW kc_723 rfl (kl_9_0 hW) (by decide) dX9_clear_10 ?_
    refine r_iload_n dX9_clear_13 rfl ?_
    refine r_iconst (0) dX9_clear_14 (by decide) ?_
    refine q_iast hW kc_724 rfl (by omega) (by decide) dX9_clear_15 ?_
    refine r_iinc (1) (by decide) (ls2 := [some _, _]) dX9_clear_16 rfl (by decide) rfl ?_
    refine r_goto 2 dX9_clear_19 (by decide) ?_
    rw [nI_1]
    have e9 : eqx H (sI H 724 i 0) SM := (eqx.rf (S := SM)).sI (Or.inl rfl)
    refine ih hlt _ hlt (e9.W hW) (he.tr e9) (fun k hk => ?_)
    by_cases q : k = i
    · rw [q, sI_s]
    · rw [sI_k q]; exact hz k (by omega)
