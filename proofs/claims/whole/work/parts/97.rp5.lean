-- the reference's reader: policy, drop
set_option maxRecDepth 100000 in
set_option maxHeartbeats 1600000 in
theorem c_X9_readPolicy {l9 : Launch} {G : GC} {h : AH} {b : Nat → Int32} {n : Nat} {w : Nat → Int32} {u : Nat} {f : Nat → Int32} {p m : Nat} {ts : Nat → Bool} (hW : World h) (hr : RpS h b n p) (hm : PV h w ZG u f (getG ZG u)) (hu : u < 4) (h0 : w 0 = nI m) (hm4 : m ≤ 4) (hT : 0 < m → TbD (aI h 723 23) ts) (hmu : 0 < m → m = u + 1) (hG : GOK G) : PM l9 G mX9_readPolicy NT NT [.ref 723] h (fun v h' => Rsl h h' v b n w u (stE2 b n m ts 7 p (plE b n (tE b n p))) (plF b n (tE b n p) f) (fun i => ts i || decide (i = 7))) noX := by
  refine PM.of (by decide +kernel) rfl rfl (Nat.le_of_ble_eq_true rfl) (fun hst _ => ?_)
  refine r_aload_n dX9_readPolicy_0 rfl ?_
  refine r_bipush (64) dX9_readPolicy_1 (by decide) ?_
  refine q_callV1 (cv_X9_startsOnce ml_X9_217) hW kc_723 (by decide) rfl ⟨rfl, rfl⟩ rfl (Nat.le_of_ble_eq_true rfl) dX9_readPolicy_3 (c_X9_startsOnce (j := 7) hW hr hm hu h0 hm4 hT ⟨by decide, by decide⟩ (by decide)) (fun v_3 h_3 q_3 => ?_)
  obtain ⟨rfl, eS, oS, gS, bS⟩ := q_3
  have hW := eS.W hW
  refine r_if_ne 11 dX9_readPolicy_6 (by decide) (fun c_6 => ?_) (fun c_6 => ?_)
  · have hC0 : stC m ts 7 = 0 := of_decide_eq_true (bI_1.mp c_6)
    obtain ⟨hr1, hT1⟩ := gS hC0
    have hm := hm.cgS eS (by decide) (by decide)
    have hm0 : 0 < m := by
      have : m ≠ 0 := fun q => absurd hC0 (by unfold stC; rw [if_pos q]; decide)
      omega
    refine r_aload_n dX9_readPolicy_11 rfl ?_
    refine r_ldcS sw_X9_223 dX9_readPolicy_12 ?_
    refine q_callV1 (cv_X9_isWord ml_X9_225) hW kc_723 (by decide) rfl ⟨rfl, rfl⟩ rfl (Nat.le_of_ble_eq_true rfl) dX9_readPolicy_14 (c_X9_isWord hW hr1 hG (by decide)) (fun v_14 h_14 q_14 => ?_)
    obtain ⟨rfl, z9⟩ := q_14
    replace z9 := z9.symm
    subst z9
    refine r_if_eq 24 dX9_readPolicy_17 (by decide) (fun c_17 => ?_) (fun c_17 => ?_)
    · refine r_aload_n dX9_readPolicy_24 rfl ?_
      refine r_ldcS sw_X9_229 dX9_readPolicy_25 ?_
      refine q_callV1 (cv_X9_isWord ml_X9_225) hW kc_723 (by decide) rfl ⟨rfl, rfl⟩ rfl (Nat.le_of_ble_eq_true rfl) dX9_readPolicy_27 (c_X9_isWord hW hr1 hG (by decide)) (fun v_27 h_27 q_27 => ?_)
      obtain ⟨rfl, z9⟩ := q_27
      replace z9 := z9.symm
      subst z9
      refine r_if_eq 37 dX9_readPolicy_30 (by decide) (fun c_30 => ?_) (fun c_30 => ?_)
      · refine r_aload_n dX9_readPolicy_37 rfl ?_
        refine r_ldcS sw_X9_231 dX9_readPolicy_38 ?_
        refine q_callV1 (cv_X9_isWord ml_X9_225) hW kc_723 (by decide) rfl ⟨rfl, rfl⟩ rfl (Nat.le_of_ble_eq_true rfl) dX9_readPolicy_40 (c_X9_isWord hW hr1 hG (by decide)) (fun v_40 h_40 q_40 => ?_)
        obtain ⟨rfl, z9⟩ := q_40
        replace z9 := z9.symm
        subst z9
        refine r_if_eq 50 dX9_readPolicy_43 (by decide) (fun c_43 => ?_) (fun c_43 => ?_)
        · refine r_iconst (-1) dX9_readPolicy_50 (by decide) ?_
          refine r_istore_n (ls2 := [some _, _]) dX9_readPolicy_51 (by decide) rfl ?_
          refine r_iload_n dX9_readPolicy_52 rfl ?_
          refine r_iconst (-1) dX9_readPolicy_53 (by decide) ?_
          refine r_icmp_ne 63 dX9_readPolicy_54 (by decide) (fun c_54 => ?_) (fun c_54 => ?_)
          · refine r_aload_n dX9_readPolicy_63 rfl ?_
            refine r_bipush (7) dX9_readPolicy_64 (by decide) ?_
            refine r_iload_n dX9_readPolicy_66 rfl ?_
            refine q_callV2 (cv_X9_sets ml_X9_220) hW kc_723 (by decide) rfl ⟨rfl, rfl⟩ rfl (Nat.le_of_ble_eq_true rfl) dX9_readPolicy_67 (c_X9_sets hW hm hu (by rw [h0, hmu hm0]) kn_7 (by decide)) (fun v_67 h_67 q_67 => ?_)
            obtain ⟨rfl, eP, hm⟩ := q_67
            have hW := eP.W hW
            have hr1p : RpS h_67 b n (tE b n p) := hr1.cg eP (by unfold SM; omega) (fun k _ _ => by rw [eP.I (by unfold SM; omega)]) (by rw [eP.I (by unfold SM; omega)])
            have t23p : aI h_67 723 23 = aI h_3 723 23 := by rw [eP.I (by unfold SM; omega)]
            refine r_aload_n dX9_readPolicy_70 rfl ?_
            refine q_callV0 (cv_X9_advanceToken ml_X9_208) hW kc_723 (by decide) rfl ⟨rfl, rfl⟩ rfl (Nat.le_of_ble_eq_true rfl) dX9_readPolicy_71 (c_X9_advanceToken hW hr1p.1 hr1p.2.1.2.2.1 (tE_le hr1.2.2.2.2)) (fun v_71 h_71 q_71 => ?_)
            obtain ⟨rfl, eA, lA, fA⟩ := q_71
            have hW := eA.W hW
            have hr2 : RpS h_71 b n (tE b n (tE b n p)) := ⟨hr1p.1.cg eA (by decide) (fA 14 (by decide) (by decide) (by decide) (by decide)), lA, (fA 17 (by decide) (by decide) (by decide) (by decide)).trans hr1p.2.2.1, (fA 18 (by decide) (by decide) (by decide) (by decide)).trans hr1p.2.2.2.1, tE_le hr1.2.2.2.2⟩
            have oA : OthF h_67 h_71 := fun k hk => fA k (by omega) (by omega) (by omega) (by omega)
            have hm := hm.cgS eA (by decide) (by decide)
            have t23 := fA 23 (by decide) (by decide) (by decide) (by decide)
            refine r_iload_n dX9_readPolicy_74 rfl ?_
            refine r_iconst (2) dX9_readPolicy_75 (by decide) ?_
            refine r_icmp_eq 81 dX9_readPolicy_76 (by decide) (fun c_76 => ?_) (fun c_76 => ?_)
            · refine r_aload_n dX9_readPolicy_81 rfl ?_
              refine r_iconst (0) dX9_readPolicy_82 (by decide) ?_
              refine r_iconst (2) dX9_readPolicy_83 (by decide) ?_
              refine r_bipush (24) dX9_readPolicy_84 (by decide) ?_
              refine q_callV3 (cv_X9_takes ml_X9_211) hW kc_723 (by decide) rfl ⟨rfl, rfl⟩ rfl (Nat.le_of_ble_eq_true rfl) dX9_readPolicy_86 (c_X9_takes hW hr2 kn_0 (by decide)) (fun v_86 h_86 q_86 => ?_)
              obtain ⟨rfl, eK, oK, tK, gK, bK⟩ := q_86
              have hW := eK.W hW
              refine r_if_ne 94 dX9_readPolicy_89 (by decide) (fun c_89 => ?_) (fun c_89 => ?_)
              · have hN : nmC b n (tE b n (tE b n p)) 2 24 = 0 := of_decide_eq_true (bI_1.mp c_89)
                obtain ⟨g5, hr3⟩ := gK hN
                have hm := hm.cgS eK (by decide) (by decide)
                refine r_aload_n dX9_readPolicy_94 rfl ?_
                refine r_bipush (8) dX9_readPolicy_95 (by decide) ?_
                refine r_aload_n dX9_readPolicy_97 rfl ?_
                refine q_getR fl_X9_48 hW kc_723 rfl (kl_9_24 hW) (by decide) dX9_readPolicy_98 ?_
                refine r_iconst (0) dX9_readPolicy_101 (by decide) ?_
                refine q_iald hW kc_735 kn_0 (by decide) (by decide) dX9_readPolicy_102 ?_
                rw [show aI h_86 735 0 = tV b n (tE b n (tE b n p)) from by rw [g5, pk_us]]
                refine q_callV2 (cv_X9_sets ml_X9_220) hW kc_723 (by decide) rfl ⟨rfl, rfl⟩ rfl (Nat.le_of_ble_eq_true rfl) dX9_readPolicy_103 (c_X9_sets hW hm hu (by rw [h0, hmu hm0]) kn_8 (by decide)) (fun v_103 h_103 q_103 => ?_)
                obtain ⟨rfl, eQ, hm⟩ := q_103
                refine r_iconst (1) dX9_readPolicy_106 (by decide) ?_
                refine r_zret dX9_readPolicy_107 rfl (by decide) ⟨Nat.zero_le _, Nat.zero_le _⟩ ?_
                first
                  | exact absurd rfl c_54
                  | exact absurd c_76 (by decide)
                  | (have hE : stE2 b n m ts 7 p (plE b n (tE b n p)) = (0, tE b n (tE b n (tE b n p))) := by unfold stE2; rw [if_pos hC0, show plE b n (tE b n p) = nmS b n (0, tE b n (tE b n p)) 2 24 from by unfold plE; rw [if_neg (by rw [bI_0.mp c_17]; decide), if_neg (by rw [bI_0.mp c_30]; decide), if_pos (bI_1.mp c_43)], (nm_0 hN).1]
                     have hFf : plF b n (tE b n p) f = upd (upd f 7 2) 8 (tV b n (tE b n (tE b n p))) := by
                       rw [← (nm_0 hN).2]
                       unfold plF; rw [if_neg (by rw [bI_0.mp c_17]; decide), if_neg (by rw [bI_0.mp c_30]; decide), if_pos (bI_1.mp c_43)]
                     rw [hE, hFf]
                     refine Rsl.good (((((eS.wk (fun i q => SRp9 q)).tr (eP.wk (fun i q => SRpM q))).tr (eA.wk (fun i q => SRp9 q))).tr (eK.wk (fun i q => by unfold SRp; omega))).tr (eQ.wk (fun i q => SRpM q))) ((((oS.tr (OthF.of eP (by unfold SM; omega))).tr oA).tr oK).tr (OthF.of eQ (by unfold SM; omega))) (hr3.cg eQ (by unfold SM; omega) (fun k _ _ => by rw [eQ.I (by unfold SM; omega)]) (by rw [eQ.I (by unfold SM; omega)])) hm ?_
                     rw [eQ.I (by unfold SM; omega), tK, show aI h_71 723 23 = aI h_3 723 23 from by rw [t23, t23p]]
                     exact hT1)
              · refine r_iconst (0) dX9_readPolicy_92 (by decide) ?_
                refine r_zret dX9_readPolicy_93 rfl (by decide) ⟨Nat.zero_le _, Nat.zero_le _⟩ ?_
                first
                  | exact absurd rfl c_54
                  | exact absurd c_76 (by decide)
                  | (have hN : nmC b n (tE b n (tE b n p)) 2 24 ≠ 0 := of_decide_eq_false (bI_0.mp c_89)
                     have hE : stE2 b n m ts 7 p (plE b n (tE b n p)) = (nmC b n (tE b n (tE b n p)) 2 24, tS b n (tE b n (tE b n p))) := by unfold stE2; rw [if_pos hC0, show plE b n (tE b n p) = nmS b n (0, tE b n (tE b n p)) 2 24 from by unfold plE; rw [if_neg (by rw [bI_0.mp c_17]; decide), if_neg (by rw [bI_0.mp c_30]; decide), if_pos (bI_1.mp c_43)], nm_1 hN]
                     rw [hE]
                     exact Rsl.bad ((((eS.wk (fun i q => SRp9 q)).tr (eP.wk (fun i q => SRpM q))).tr (eA.wk (fun i q => SRp9 q))).tr (eK.wk (fun i q => by unfold SRp; omega))) (((oS.tr (OthF.of eP (by unfold SM; omega))).tr oA).tr oK) hN (bK hN))
            · refine r_iconst (1) dX9_readPolicy_79 (by decide) ?_
              refine r_zret dX9_readPolicy_80 rfl (by decide) ⟨Nat.zero_le _, Nat.zero_le _⟩ ?_
              first
                | exact absurd rfl c_54
                | (have hE : stE2 b n m ts 7 p (plE b n (tE b n p)) = (0, tE b n (tE b n p)) := by unfold stE2; rw [if_pos hC0]; unfold plE; rw [if_pos (bI_1.mp c_17)]
                   have hFf : plF b n (tE b n p) f = upd f 7 0 := by unfold plF; rw [if_pos (bI_1.mp c_17)]
                   rw [hE, hFf]
                   refine Rsl.good (((eS.wk (fun i q => SRp9 q)).tr (eP.wk (fun i q => SRpM q))).tr (eA.wk (fun i q => SRp9 q))) ((oS.tr (OthF.of eP (by unfold SM; omega))).tr oA) hr2 hm ?_
                   rw [show aI h_71 723 23 = aI h_3 723 23 from by rw [t23, t23p]]
                   exact hT1)
                | (have hE : stE2 b n m ts 7 p (plE b n (tE b n p)) = (0, tE b n (tE b n p)) := by unfold stE2; rw [if_pos hC0]; unfold plE; rw [if_neg (by rw [bI_0.mp c_17]; decide), if_pos (bI_1.mp c_30)]
                   have hFf : plF b n (tE b n p) f = upd f 7 1 := by unfold plF; rw [if_neg (by rw [bI_0.mp c_17]; decide), if_pos (bI_1.mp c_30)]
                   rw [hE, hFf]
                   refine Rsl.good (((eS.wk (fun i q => SRp9 q)).tr (eP.wk (fun i q => SRpM q))).tr (eA.wk (fun i q => SRp9 q))) ((oS.tr (OthF.of eP (by unfold SM; omega))).tr oA) hr2 hm ?_
                   rw [show aI h_71 723 23 = aI h_3 723 23 from by rw [t23, t23p]]
                   exact hT1)
                | exact absurd rfl c_76
          · refine r_aload_n dX9_readPolicy_57 rfl ?_
            refine r_iconst (1) dX9_readPolicy_58 (by decide) ?_
            refine q_callV1 (cv_X9_failsAt ml_X9_204) hW kc_723 (by decide) rfl ⟨rfl, rfl⟩ rfl (Nat.le_of_ble_eq_true rfl) dX9_readPolicy_59 (c_X9_failsAt (c := 1) hW kn_1 hr1.2.2.1 hr1.2.1.1) (fun v_59 h_59 q_59 => ?_)
            obtain ⟨rfl, eF, f17, f18, fF⟩ := q_59
            refine r_zret dX9_readPolicy_62 rfl (by decide) ⟨Nat.zero_le _, Nat.zero_le _⟩ ?_
            first
              | exact absurd c_54 (by decide)
              | (have hE : stE2 b n m ts 7 p (plE b n (tE b n p)) = (1, tS b n (tE b n p)) := by unfold stE2; rw [if_pos hC0]; unfold plE; rw [if_neg (by rw [bI_0.mp c_17]; decide), if_neg (by rw [bI_0.mp c_30]; decide), if_neg (by rw [bI_0.mp c_43]; decide)]
                 rw [hE]
                 exact Rsl.bad ((eS.wk (fun i q => SRp9 q)).tr (eF.wk (fun i q => SRp9 q))) (oS.tr (fun k hk => fF k (by omega) (by omega))) (by show ¬ (1 : Nat) = 0; decide) ⟨f17, f18⟩)
        · refine r_iconst (2) dX9_readPolicy_46 (by decide) ?_
          refine r_goto 51 dX9_readPolicy_47 (by decide) ?_
          refine r_istore_n (ls2 := [some _, _]) dX9_readPolicy_51 (by decide) rfl ?_
          refine r_iload_n dX9_readPolicy_52 rfl ?_
          refine r_iconst (-1) dX9_readPolicy_53 (by decide) ?_
          refine r_icmp_ne 63 dX9_readPolicy_54 (by decide) (fun c_54 => ?_) (fun c_54 => ?_)
          · refine r_aload_n dX9_readPolicy_63 rfl ?_
            refine r_bipush (7) dX9_readPolicy_64 (by decide) ?_
            refine r_iload_n dX9_readPolicy_66 rfl ?_
            refine q_callV2 (cv_X9_sets ml_X9_220) hW kc_723 (by decide) rfl ⟨rfl, rfl⟩ rfl (Nat.le_of_ble_eq_true rfl) dX9_readPolicy_67 (c_X9_sets hW hm hu (by rw [h0, hmu hm0]) kn_7 (by decide)) (fun v_67 h_67 q_67 => ?_)
            obtain ⟨rfl, eP, hm⟩ := q_67
            have hW := eP.W hW
            have hr1p : RpS h_67 b n (tE b n p) := hr1.cg eP (by unfold SM; omega) (fun k _ _ => by rw [eP.I (by unfold SM; omega)]) (by rw [eP.I (by unfold SM; omega)])
            have t23p : aI h_67 723 23 = aI h_3 723 23 := by rw [eP.I (by unfold SM; omega)]
            refine r_aload_n dX9_readPolicy_70 rfl ?_
            refine q_callV0 (cv_X9_advanceToken ml_X9_208) hW kc_723 (by decide) rfl ⟨rfl, rfl⟩ rfl (Nat.le_of_ble_eq_true rfl) dX9_readPolicy_71 (c_X9_advanceToken hW hr1p.1 hr1p.2.1.2.2.1 (tE_le hr1.2.2.2.2)) (fun v_71 h_71 q_71 => ?_)
            obtain ⟨rfl, eA, lA, fA⟩ := q_71
            have hW := eA.W hW
            have hr2 : RpS h_71 b n (tE b n (tE b n p)) := ⟨hr1p.1.cg eA (by decide) (fA 14 (by decide) (by decide) (by decide) (by decide)), lA, (fA 17 (by decide) (by decide) (by decide) (by decide)).trans hr1p.2.2.1, (fA 18 (by decide) (by decide) (by decide) (by decide)).trans hr1p.2.2.2.1, tE_le hr1.2.2.2.2⟩
            have oA : OthF h_67 h_71 := fun k hk => fA k (by omega) (by omega) (by omega) (by omega)
            have hm := hm.cgS eA (by decide) (by decide)
            have t23 := fA 23 (by decide) (by decide) (by decide) (by decide)
            refine r_iload_n dX9_readPolicy_74 rfl ?_
            refine r_iconst (2) dX9_readPolicy_75 (by decide) ?_
            refine r_icmp_eq 81 dX9_readPolicy_76 (by decide) (fun c_76 => ?_) (fun c_76 => ?_)
            · refine r_aload_n dX9_readPolicy_81 rfl ?_
              refine r_iconst (0) dX9_readPolicy_82 (by decide) ?_
              refine r_iconst (2) dX9_readPolicy_83 (by decide) ?_
              refine r_bipush (24) dX9_readPolicy_84 (by decide) ?_
              refine q_callV3 (cv_X9_takes ml_X9_211) hW kc_723 (by decide) rfl ⟨rfl, rfl⟩ rfl (Nat.le_of_ble_eq_true rfl) dX9_readPolicy_86 (c_X9_takes hW hr2 kn_0 (by decide)) (fun v_86 h_86 q_86 => ?_)
              obtain ⟨rfl, eK, oK, tK, gK, bK⟩ := q_86
              have hW := eK.W hW
              refine r_if_ne 94 dX9_readPolicy_89 (by decide) (fun c_89 => ?_) (fun c_89 => ?_)
              · have hN : nmC b n (tE b n (tE b n p)) 2 24 = 0 := of_decide_eq_true (bI_1.mp c_89)
                obtain ⟨g5, hr3⟩ := gK hN
                have hm := hm.cgS eK (by decide) (by decide)
                refine r_aload_n dX9_readPolicy_94 rfl ?_
                refine r_bipush (8) dX9_readPolicy_95 (by decide) ?_
                refine r_aload_n dX9_readPolicy_97 rfl ?_
                refine q_getR fl_X9_48 hW kc_723 rfl (kl_9_24 hW) (by decide) dX9_readPolicy_98 ?_
                refine r_iconst (0) dX9_readPolicy_101 (by decide) ?_
                refine q_iald hW kc_735 kn_0 (by decide) (by decide) dX9_readPolicy_102 ?_
                rw [show aI h_86 735 0 = tV b n (tE b n (tE b n p)) from by rw [g5, pk_us]]
                refine q_callV2 (cv_X9_sets ml_X9_220) hW kc_723 (by decide) rfl ⟨rfl, rfl⟩ rfl (Nat.le_of_ble_eq_true rfl) dX9_readPolicy_103 (c_X9_sets hW hm hu (by rw [h0, hmu hm0]) kn_8 (by decide)) (fun v_103 h_103 q_103 => ?_)
                obtain ⟨rfl, eQ, hm⟩ := q_103
                refine r_iconst (1) dX9_readPolicy_106 (by decide) ?_
                refine r_zret dX9_readPolicy_107 rfl (by decide) ⟨Nat.zero_le _, Nat.zero_le _⟩ ?_
                first
                  | exact absurd rfl c_54
                  | exact absurd c_76 (by decide)
                  | (have hE : stE2 b n m ts 7 p (plE b n (tE b n p)) = (0, tE b n (tE b n (tE b n p))) := by unfold stE2; rw [if_pos hC0, show plE b n (tE b n p) = nmS b n (0, tE b n (tE b n p)) 2 24 from by unfold plE; rw [if_neg (by rw [bI_0.mp c_17]; decide), if_neg (by rw [bI_0.mp c_30]; decide), if_pos (bI_1.mp c_43)], (nm_0 hN).1]
                     have hFf : plF b n (tE b n p) f = upd (upd f 7 2) 8 (tV b n (tE b n (tE b n p))) := by
                       rw [← (nm_0 hN).2]
                       unfold plF; rw [if_neg (by rw [bI_0.mp c_17]; decide), if_neg (by rw [bI_0.mp c_30]; decide), if_pos (bI_1.mp c_43)]
                     rw [hE, hFf]
                     refine Rsl.good (((((eS.wk (fun i q => SRp9 q)).tr (eP.wk (fun i q => SRpM q))).tr (eA.wk (fun i q => SRp9 q))).tr (eK.wk (fun i q => by unfold SRp; omega))).tr (eQ.wk (fun i q => SRpM q))) ((((oS.tr (OthF.of eP (by unfold SM; omega))).tr oA).tr oK).tr (OthF.of eQ (by unfold SM; omega))) (hr3.cg eQ (by unfold SM; omega) (fun k _ _ => by rw [eQ.I (by unfold SM; omega)]) (by rw [eQ.I (by unfold SM; omega)])) hm ?_
                     rw [eQ.I (by unfold SM; omega), tK, show aI h_71 723 23 = aI h_3 723 23 from by rw [t23, t23p]]
                     exact hT1)
              · refine r_iconst (0) dX9_readPolicy_92 (by decide) ?_
                refine r_zret dX9_readPolicy_93 rfl (by decide) ⟨Nat.zero_le _, Nat.zero_le _⟩ ?_
                first
                  | exact absurd rfl c_54
                  | exact absurd c_76 (by decide)
                  | (have hN : nmC b n (tE b n (tE b n p)) 2 24 ≠ 0 := of_decide_eq_false (bI_0.mp c_89)
                     have hE : stE2 b n m ts 7 p (plE b n (tE b n p)) = (nmC b n (tE b n (tE b n p)) 2 24, tS b n (tE b n (tE b n p))) := by unfold stE2; rw [if_pos hC0, show plE b n (tE b n p) = nmS b n (0, tE b n (tE b n p)) 2 24 from by unfold plE; rw [if_neg (by rw [bI_0.mp c_17]; decide), if_neg (by rw [bI_0.mp c_30]; decide), if_pos (bI_1.mp c_43)], nm_1 hN]
                     rw [hE]
                     exact Rsl.bad ((((eS.wk (fun i q => SRp9 q)).tr (eP.wk (fun i q => SRpM q))).tr (eA.wk (fun i q => SRp9 q))).tr (eK.wk (fun i q => by unfold SRp; omega))) (((oS.tr (OthF.of eP (by unfold SM; omega))).tr oA).tr oK) hN (bK hN))
            · refine r_iconst (1) dX9_readPolicy_79 (by decide) ?_
              refine r_zret dX9_readPolicy_80 rfl (by decide) ⟨Nat.zero_le _, Nat.zero_le _⟩ ?_
              first
                | exact absurd rfl c_54
                | (have hE : stE2 b n m ts 7 p (plE b n (tE b n p)) = (0, tE b n (tE b n p)) := by unfold stE2; rw [if_pos hC0]; unfold plE; rw [if_pos (bI_1.mp c_17)]
                   have hFf : plF b n (tE b n p) f = upd f 7 0 := by unfold plF; rw [if_pos (bI_1.mp c_17)]
                   rw [hE, hFf]
                   refine Rsl.good (((eS.wk (fun i q => SRp9 q)).tr (eP.wk (fun i q => SRpM q))).tr (eA.wk (fun i q => SRp9 q))) ((oS.tr (OthF.of eP (by unfold SM; omega))).tr oA) hr2 hm ?_
                   rw [show aI h_71 723 23 = aI h_3 723 23 from by rw [t23, t23p]]
                   exact hT1)
                | (have hE : stE2 b n m ts 7 p (plE b n (tE b n p)) = (0, tE b n (tE b n p)) := by unfold stE2; rw [if_pos hC0]; unfold plE; rw [if_neg (by rw [bI_0.mp c_17]; decide), if_pos (bI_1.mp c_30)]
                   have hFf : plF b n (tE b n p) f = upd f 7 1 := by unfold plF; rw [if_neg (by rw [bI_0.mp c_17]; decide), if_pos (bI_1.mp c_30)]
                   rw [hE, hFf]
                   refine Rsl.good (((eS.wk (fun i q => SRp9 q)).tr (eP.wk (fun i q => SRpM q))).tr (eA.wk (fun i q => SRp9 q))) ((oS.tr (OthF.of eP (by unfold SM; omega))).tr oA) hr2 hm ?_
                   rw [show aI h_71 723 23 = aI h_3 723 23 from by rw [t23, t23p]]
                   exact hT1)
                | exact absurd rfl c_76
          · refine r_aload_n dX9_readPolicy_57 rfl ?_
            refine r_iconst (1) dX9_readPolicy_58 (by decide) ?_
            refine q_callV1 (cv_X9_failsAt ml_X9_204) hW kc_723 (by decide) rfl ⟨rfl, rfl⟩ rfl (Nat.le_of_ble_eq_true rfl) dX9_readPolicy_59 (c_X9_failsAt (c := 1) hW kn_1 hr1.2.2.1 hr1.2.1.1) (fun v_59 h_59 q_59 => ?_)
            obtain ⟨rfl, eF, f17, f18, fF⟩ := q_59
            refine r_zret dX9_readPolicy_62 rfl (by decide) ⟨Nat.zero_le _, Nat.zero_le _⟩ ?_
            first
              | exact absurd c_54 (by decide)
              | (have hE : stE2 b n m ts 7 p (plE b n (tE b n p)) = (1, tS b n (tE b n p)) := by unfold stE2; rw [if_pos hC0]; unfold plE; rw [if_neg (by rw [bI_0.mp c_17]; decide), if_neg (by rw [bI_0.mp c_30]; decide), if_neg (by rw [bI_0.mp c_43]; decide)]
                 rw [hE]
                 exact Rsl.bad ((eS.wk (fun i q => SRp9 q)).tr (eF.wk (fun i q => SRp9 q))) (oS.tr (fun k hk => fF k (by omega) (by omega))) (by show ¬ (1 : Nat) = 0; decide) ⟨f17, f18⟩)
      · refine r_iconst (1) dX9_readPolicy_33 (by decide) ?_
        refine r_goto 51 dX9_readPolicy_34 (by decide) ?_
        refine r_istore_n (ls2 := [some _, _]) dX9_readPolicy_51 (by decide) rfl ?_
        refine r_iload_n dX9_readPolicy_52 rfl ?_
        refine r_iconst (-1) dX9_readPolicy_53 (by decide) ?_
        refine r_icmp_ne 63 dX9_readPolicy_54 (by decide) (fun c_54 => ?_) (fun c_54 => ?_)
        · refine r_aload_n dX9_readPolicy_63 rfl ?_
          refine r_bipush (7) dX9_readPolicy_64 (by decide) ?_
          refine r_iload_n dX9_readPolicy_66 rfl ?_
          refine q_callV2 (cv_X9_sets ml_X9_220) hW kc_723 (by decide) rfl ⟨rfl, rfl⟩ rfl (Nat.le_of_ble_eq_true rfl) dX9_readPolicy_67 (c_X9_sets hW hm hu (by rw [h0, hmu hm0]) kn_7 (by decide)) (fun v_67 h_67 q_67 => ?_)
          obtain ⟨rfl, eP, hm⟩ := q_67
          have hW := eP.W hW
          have hr1p : RpS h_67 b n (tE b n p) := hr1.cg eP (by unfold SM; omega) (fun k _ _ => by rw [eP.I (by unfold SM; omega)]) (by rw [eP.I (by unfold SM; omega)])
          have t23p : aI h_67 723 23 = aI h_3 723 23 := by rw [eP.I (by unfold SM; omega)]
          refine r_aload_n dX9_readPolicy_70 rfl ?_
          refine q_callV0 (cv_X9_advanceToken ml_X9_208) hW kc_723 (by decide) rfl ⟨rfl, rfl⟩ rfl (Nat.le_of_ble_eq_true rfl) dX9_readPolicy_71 (c_X9_advanceToken hW hr1p.1 hr1p.2.1.2.2.1 (tE_le hr1.2.2.2.2)) (fun v_71 h_71 q_71 => ?_)
          obtain ⟨rfl, eA, lA, fA⟩ := q_71
          have hW := eA.W hW
          have hr2 : RpS h_71 b n (tE b n (tE b n p)) := ⟨hr1p.1.cg eA (by decide) (fA 14 (by decide) (by decide) (by decide) (by decide)), lA, (fA 17 (by decide) (by decide) (by decide) (by decide)).trans hr1p.2.2.1, (fA 18 (by decide) (by decide) (by decide) (by decide)).trans hr1p.2.2.2.1, tE_le hr1.2.2.2.2⟩
          have oA : OthF h_67 h_71 := fun k hk => fA k (by omega) (by omega) (by omega) (by omega)
          have hm := hm.cgS eA (by decide) (by decide)
          have t23 := fA 23 (by decide) (by decide) (by decide) (by decide)
          refine r_iload_n dX9_readPolicy_74 rfl ?_
          refine r_iconst (2) dX9_readPolicy_75 (by decide) ?_
          refine r_icmp_eq 81 dX9_readPolicy_76 (by decide) (fun c_76 => ?_) (fun c_76 => ?_)
          · refine r_aload_n dX9_readPolicy_81 rfl ?_
            refine r_iconst (0) dX9_readPolicy_82 (by decide) ?_
            refine r_iconst (2) dX9_readPolicy_83 (by decide) ?_
            refine r_bipush (24) dX9_readPolicy_84 (by decide) ?_
            refine q_callV3 (cv_X9_takes ml_X9_211) hW kc_723 (by decide) rfl ⟨rfl, rfl⟩ rfl (Nat.le_of_ble_eq_true rfl) dX9_readPolicy_86 (c_X9_takes hW hr2 kn_0 (by decide)) (fun v_86 h_86 q_86 => ?_)
            obtain ⟨rfl, eK, oK, tK, gK, bK⟩ := q_86
            have hW := eK.W hW
            refine r_if_ne 94 dX9_readPolicy_89 (by decide) (fun c_89 => ?_) (fun c_89 => ?_)
            · have hN : nmC b n (tE b n (tE b n p)) 2 24 = 0 := of_decide_eq_true (bI_1.mp c_89)
              obtain ⟨g5, hr3⟩ := gK hN
              have hm := hm.cgS eK (by decide) (by decide)
              refine r_aload_n dX9_readPolicy_94 rfl ?_
              refine r_bipush (8) dX9_readPolicy_95 (by decide) ?_
              refine r_aload_n dX9_readPolicy_97 rfl ?_
              refine q_getR fl_X9_48 hW kc_723 rfl (kl_9_24 hW) (by decide) dX9_readPolicy_98 ?_
              refine r_iconst (0) dX9_readPolicy_101 (by decide) ?_
              refine q_iald hW kc_735 kn_0 (by decide) (by decide) dX9_readPolicy_102 ?_
              rw [show aI h_86 735 0 = tV b n (tE b n (tE b n p)) from by rw [g5, pk_us]]
              refine q_callV2 (cv_X9_sets ml_X9_220) hW kc_723 (by decide) rfl ⟨rfl, rfl⟩ rfl (Nat.le_of_ble_eq_true rfl) dX9_readPolicy_103 (c_X9_sets hW hm hu (by rw [h0, hmu hm0]) kn_8 (by decide)) (fun v_103 h_103 q_103 => ?_)
              obtain ⟨rfl, eQ, hm⟩ := q_103
              refine r_iconst (1) dX9_readPolicy_106 (by decide) ?_
              refine r_zret dX9_readPolicy_107 rfl (by decide) ⟨Nat.zero_le _, Nat.zero_le _⟩ ?_
              first
                | exact absurd rfl c_54
                | exact absurd c_76 (by decide)
                | (have hE : stE2 b n m ts 7 p (plE b n (tE b n p)) = (0, tE b n (tE b n (tE b n p))) := by unfold stE2; rw [if_pos hC0, show plE b n (tE b n p) = nmS b n (0, tE b n (tE b n p)) 2 24 from by unfold plE; rw [if_neg (by rw [bI_0.mp c_17]; decide), if_neg (by rw [bI_0.mp c_30]; decide), if_pos (bI_1.mp c_43)], (nm_0 hN).1]
                   have hFf : plF b n (tE b n p) f = upd (upd f 7 2) 8 (tV b n (tE b n (tE b n p))) := by
                     rw [← (nm_0 hN).2]
                     unfold plF; rw [if_neg (by rw [bI_0.mp c_17]; decide), if_neg (by rw [bI_0.mp c_30]; decide), if_pos (bI_1.mp c_43)]
                   rw [hE, hFf]
                   refine Rsl.good (((((eS.wk (fun i q => SRp9 q)).tr (eP.wk (fun i q => SRpM q))).tr (eA.wk (fun i q => SRp9 q))).tr (eK.wk (fun i q => by unfold SRp; omega))).tr (eQ.wk (fun i q => SRpM q))) ((((oS.tr (OthF.of eP (by unfold SM; omega))).tr oA).tr oK).tr (OthF.of eQ (by unfold SM; omega))) (hr3.cg eQ (by unfold SM; omega) (fun k _ _ => by rw [eQ.I (by unfold SM; omega)]) (by rw [eQ.I (by unfold SM; omega)])) hm ?_
                   rw [eQ.I (by unfold SM; omega), tK, show aI h_71 723 23 = aI h_3 723 23 from by rw [t23, t23p]]
                   exact hT1)
            · refine r_iconst (0) dX9_readPolicy_92 (by decide) ?_
              refine r_zret dX9_readPolicy_93 rfl (by decide) ⟨Nat.zero_le _, Nat.zero_le _⟩ ?_
              first
                | exact absurd rfl c_54
                | exact absurd c_76 (by decide)
                | (have hN : nmC b n (tE b n (tE b n p)) 2 24 ≠ 0 := of_decide_eq_false (bI_0.mp c_89)
                   have hE : stE2 b n m ts 7 p (plE b n (tE b n p)) = (nmC b n (tE b n (tE b n p)) 2 24, tS b n (tE b n (tE b n p))) := by unfold stE2; rw [if_pos hC0, show plE b n (tE b n p) = nmS b n (0, tE b n (tE b n p)) 2 24 from by unfold plE; rw [if_neg (by rw [bI_0.mp c_17]; decide), if_neg (by rw [bI_0.mp c_30]; decide), if_pos (bI_1.mp c_43)], nm_1 hN]
                   rw [hE]
                   exact Rsl.bad ((((eS.wk (fun i q => SRp9 q)).tr (eP.wk (fun i q => SRpM q))).tr (eA.wk (fun i q => SRp9 q))).tr (eK.wk (fun i q => by unfold SRp; omega))) (((oS.tr (OthF.of eP (by unfold SM; omega))).tr oA).tr oK) hN (bK hN))
          · refine r_iconst (1) dX9_readPolicy_79 (by decide) ?_
            refine r_zret dX9_readPolicy_80 rfl (by decide) ⟨Nat.zero_le _, Nat.zero_le _⟩ ?_
            first
              | exact absurd rfl c_54
              | (have hE : stE2 b n m ts 7 p (plE b n (tE b n p)) = (0, tE b n (tE b n p)) := by unfold stE2; rw [if_pos hC0]; unfold plE; rw [if_pos (bI_1.mp c_17)]
                 have hFf : plF b n (tE b n p) f = upd f 7 0 := by unfold plF; rw [if_pos (bI_1.mp c_17)]
                 rw [hE, hFf]
                 refine Rsl.good (((eS.wk (fun i q => SRp9 q)).tr (eP.wk (fun i q => SRpM q))).tr (eA.wk (fun i q => SRp9 q))) ((oS.tr (OthF.of eP (by unfold SM; omega))).tr oA) hr2 hm ?_
                 rw [show aI h_71 723 23 = aI h_3 723 23 from by rw [t23, t23p]]
                 exact hT1)
              | (have hE : stE2 b n m ts 7 p (plE b n (tE b n p)) = (0, tE b n (tE b n p)) := by unfold stE2; rw [if_pos hC0]; unfold plE; rw [if_neg (by rw [bI_0.mp c_17]; decide), if_pos (bI_1.mp c_30)]
                 have hFf : plF b n (tE b n p) f = upd f 7 1 := by unfold plF; rw [if_neg (by rw [bI_0.mp c_17]; decide), if_pos (bI_1.mp c_30)]
                 rw [hE, hFf]
                 refine Rsl.good (((eS.wk (fun i q => SRp9 q)).tr (eP.wk (fun i q => SRpM q))).tr (eA.wk (fun i q => SRp9 q))) ((oS.tr (OthF.of eP (by unfold SM; omega))).tr oA) hr2 hm ?_
                 rw [show aI h_71 723 23 = aI h_3 723 23 from by rw [t23, t23p]]
                 exact hT1)
              | exact absurd rfl c_76
        · refine r_aload_n dX9_readPolicy_57 rfl ?_
          refine r_iconst (1) dX9_readPolicy_58 (by decide) ?_
          refine q_callV1 (cv_X9_failsAt ml_X9_204) hW kc_723 (by decide) rfl ⟨rfl, rfl⟩ rfl (Nat.le_of_ble_eq_true rfl) dX9_readPolicy_59 (c_X9_failsAt (c := 1) hW kn_1 hr1.2.2.1 hr1.2.1.1) (fun v_59 h_59 q_59 => ?_)
          obtain ⟨rfl, eF, f17, f18, fF⟩ := q_59
          refine r_zret dX9_readPolicy_62 rfl (by decide) ⟨Nat.zero_le _, Nat.zero_le _⟩ ?_
          first
            | exact absurd c_54 (by decide)
            | (have hE : stE2 b n m ts 7 p (plE b n (tE b n p)) = (1, tS b n (tE b n p)) := by unfold stE2; rw [if_pos hC0]; unfold plE; rw [if_neg (by rw [bI_0.mp c_17]; decide), if_neg (by rw [bI_0.mp c_30]; decide), if_neg (by rw [bI_0.mp c_43]; decide)]
               rw [hE]
               exact Rsl.bad ((eS.wk (fun i q => SRp9 q)).tr (eF.wk (fun i q => SRp9 q))) (oS.tr (fun k hk => fF k (by omega) (by omega))) (by show ¬ (1 : Nat) = 0; decide) ⟨f17, f18⟩)
    · refine r_iconst (0) dX9_readPolicy_20 (by decide) ?_
      refine r_goto 51 dX9_readPolicy_21 (by decide) ?_
      refine r_istore_n (ls2 := [some _, _]) dX9_readPolicy_51 (by decide) rfl ?_
      refine r_iload_n dX9_readPolicy_52 rfl ?_
      refine r_iconst (-1) dX9_readPolicy_53 (by decide) ?_
      refine r_icmp_ne 63 dX9_readPolicy_54 (by decide) (fun c_54 => ?_) (fun c_54 => ?_)
      · refine r_aload_n dX9_readPolicy_63 rfl ?_
        refine r_bipush (7) dX9_readPolicy_64 (by decide) ?_
        refine r_iload_n dX9_readPolicy_66 rfl ?_
        refine q_callV2 (cv_X9_sets ml_X9_220) hW kc_723 (by decide) rfl ⟨rfl, rfl⟩ rfl (Nat.le_of_ble_eq_true rfl) dX9_readPolicy_67 (c_X9_sets hW hm hu (by rw [h0, hmu hm0]) kn_7 (by decide)) (fun v_67 h_67 q_67 => ?_)
        obtain ⟨rfl, eP, hm⟩ := q_67
        have hW := eP.W hW
        have hr1p : RpS h_67 b n (tE b n p) := hr1.cg eP (by unfold SM; omega) (fun k _ _ => by rw [eP.I (by unfold SM; omega)]) (by rw [eP.I (by unfold SM; omega)])
        have t23p : aI h_67 723 23 = aI h_3 723 23 := by rw [eP.I (by unfold SM; omega)]
        refine r_aload_n dX9_readPolicy_70 rfl ?_
        refine q_callV0 (cv_X9_advanceToken ml_X9_208) hW kc_723 (by decide) rfl ⟨rfl, rfl⟩ rfl (Nat.le_of_ble_eq_true rfl) dX9_readPolicy_71 (c_X9_advanceToken hW hr1p.1 hr1p.2.1.2.2.1 (tE_le hr1.2.2.2.2)) (fun v_71 h_71 q_71 => ?_)
        obtain ⟨rfl, eA, lA, fA⟩ := q_71
        have hW := eA.W hW
        have hr2 : RpS h_71 b n (tE b n (tE b n p)) := ⟨hr1p.1.cg eA (by decide) (fA 14 (by decide) (by decide) (by decide) (by decide)), lA, (fA 17 (by decide) (by decide) (by decide) (by decide)).trans hr1p.2.2.1, (fA 18 (by decide) (by decide) (by decide) (by decide)).trans hr1p.2.2.2.1, tE_le hr1.2.2.2.2⟩
        have oA : OthF h_67 h_71 := fun k hk => fA k (by omega) (by omega) (by omega) (by omega)
        have hm := hm.cgS eA (by decide) (by decide)
        have t23 := fA 23 (by decide) (by decide) (by decide) (by decide)
        refine r_iload_n dX9_readPolicy_74 rfl ?_
        refine r_iconst (2) dX9_readPolicy_75 (by decide) ?_
        refine r_icmp_eq 81 dX9_readPolicy_76 (by decide) (fun c_76 => ?_) (fun c_76 => ?_)
        · refine r_aload_n dX9_readPolicy_81 rfl ?_
          refine r_iconst (0) dX9_readPolicy_82 (by decide) ?_
          refine r_iconst (2) dX9_readPolicy_83 (by decide) ?_
          refine r_bipush (24) dX9_readPolicy_84 (by decide) ?_
          refine q_callV3 (cv_X9_takes ml_X9_211) hW kc_723 (by decide) rfl ⟨rfl, rfl⟩ rfl (Nat.le_of_ble_eq_true rfl) dX9_readPolicy_86 (c_X9_takes hW hr2 kn_0 (by decide)) (fun v_86 h_86 q_86 => ?_)
          obtain ⟨rfl, eK, oK, tK, gK, bK⟩ := q_86
          have hW := eK.W hW
          refine r_if_ne 94 dX9_readPolicy_89 (by decide) (fun c_89 => ?_) (fun c_89 => ?_)
          · have hN : nmC b n (tE b n (tE b n p)) 2 24 = 0 := of_decide_eq_true (bI_1.mp c_89)
            obtain ⟨g5, hr3⟩ := gK hN
            have hm := hm.cgS eK (by decide) (by decide)
            refine r_aload_n dX9_readPolicy_94 rfl ?_
            refine r_bipush (8) dX9_readPolicy_95 (by decide) ?_
            refine r_aload_n dX9_readPolicy_97 rfl ?_
            refine q_getR fl_X9_48 hW kc_723 rfl (kl_9_24 hW) (by decide) dX9_readPolicy_98 ?_
            refine r_iconst (0) dX9_readPolicy_101 (by decide) ?_
            refine q_iald hW kc_735 kn_0 (by decide) (by decide) dX9_readPolicy_102 ?_
            rw [show aI h_86 735 0 = tV b n (tE b n (tE b n p)) from by rw [g5, pk_us]]
            refine q_callV2 (cv_X9_sets ml_X9_220) hW kc_723 (by decide) rfl ⟨rfl, rfl⟩ rfl (Nat.le_of_ble_eq_true rfl) dX9_readPolicy_103 (c_X9_sets hW hm hu (by rw [h0, hmu hm0]) kn_8 (by decide)) (fun v_103 h_103 q_103 => ?_)
            obtain ⟨rfl, eQ, hm⟩ := q_103
            refine r_iconst (1) dX9_readPolicy_106 (by decide) ?_
            refine r_zret dX9_readPolicy_107 rfl (by decide) ⟨Nat.zero_le _, Nat.zero_le _⟩ ?_
            first
              | exact absurd rfl c_54
              | exact absurd c_76 (by decide)
              | (have hE : stE2 b n m ts 7 p (plE b n (tE b n p)) = (0, tE b n (tE b n (tE b n p))) := by unfold stE2; rw [if_pos hC0, show plE b n (tE b n p) = nmS b n (0, tE b n (tE b n p)) 2 24 from by unfold plE; rw [if_neg (by rw [bI_0.mp c_17]; decide), if_neg (by rw [bI_0.mp c_30]; decide), if_pos (bI_1.mp c_43)], (nm_0 hN).1]
                 have hFf : plF b n (tE b n p) f = upd (upd f 7 2) 8 (tV b n (tE b n (tE b n p))) := by
                   rw [← (nm_0 hN).2]
                   unfold plF; rw [if_neg (by rw [bI_0.mp c_17]; decide), if_neg (by rw [bI_0.mp c_30]; decide), if_pos (bI_1.mp c_43)]
                 rw [hE, hFf]
                 refine Rsl.good (((((eS.wk (fun i q => SRp9 q)).tr (eP.wk (fun i q => SRpM q))).tr (eA.wk (fun i q => SRp9 q))).tr (eK.wk (fun i q => by unfold SRp; omega))).tr (eQ.wk (fun i q => SRpM q))) ((((oS.tr (OthF.of eP (by unfold SM; omega))).tr oA).tr oK).tr (OthF.of eQ (by unfold SM; omega))) (hr3.cg eQ (by unfold SM; omega) (fun k _ _ => by rw [eQ.I (by unfold SM; omega)]) (by rw [eQ.I (by unfold SM; omega)])) hm ?_
                 rw [eQ.I (by unfold SM; omega), tK, show aI h_71 723 23 = aI h_3 723 23 from by rw [t23, t23p]]
                 exact hT1)
          · refine r_iconst (0) dX9_readPolicy_92 (by decide) ?_
            refine r_zret dX9_readPolicy_93 rfl (by decide) ⟨Nat.zero_le _, Nat.zero_le _⟩ ?_
            first
              | exact absurd rfl c_54
              | exact absurd c_76 (by decide)
              | (have hN : nmC b n (tE b n (tE b n p)) 2 24 ≠ 0 := of_decide_eq_false (bI_0.mp c_89)
                 have hE : stE2 b n m ts 7 p (plE b n (tE b n p)) = (nmC b n (tE b n (tE b n p)) 2 24, tS b n (tE b n (tE b n p))) := by unfold stE2; rw [if_pos hC0, show plE b n (tE b n p) = nmS b n (0, tE b n (tE b n p)) 2 24 from by unfold plE; rw [if_neg (by rw [bI_0.mp c_17]; decide), if_neg (by rw [bI_0.mp c_30]; decide), if_pos (bI_1.mp c_43)], nm_1 hN]
                 rw [hE]
                 exact Rsl.bad ((((eS.wk (fun i q => SRp9 q)).tr (eP.wk (fun i q => SRpM q))).tr (eA.wk (fun i q => SRp9 q))).tr (eK.wk (fun i q => by unfold SRp; omega))) (((oS.tr (OthF.of eP (by unfold SM; omega))).tr oA).tr oK) hN (bK hN))
        · refine r_iconst (1) dX9_readPolicy_79 (by decide) ?_
          refine r_zret dX9_readPolicy_80 rfl (by decide) ⟨Nat.zero_le _, Nat.zero_le _⟩ ?_
          first
            | exact absurd rfl c_54
            | (have hE : stE2 b n m ts 7 p (plE b n (tE b n p)) = (0, tE b n (tE b n p)) := by unfold stE2; rw [if_pos hC0]; unfold plE; rw [if_pos (bI_1.mp c_17)]
               have hFf : plF b n (tE b n p) f = upd f 7 0 := by unfold plF; rw [if_pos (bI_1.mp c_17)]
               rw [hE, hFf]
               refine Rsl.good (((eS.wk (fun i q => SRp9 q)).tr (eP.wk (fun i q => SRpM q))).tr (eA.wk (fun i q => SRp9 q))) ((oS.tr (OthF.of eP (by unfold SM; omega))).tr oA) hr2 hm ?_
               rw [show aI h_71 723 23 = aI h_3 723 23 from by rw [t23, t23p]]
               exact hT1)
            | (have hE : stE2 b n m ts 7 p (plE b n (tE b n p)) = (0, tE b n (tE b n p)) := by unfold stE2; rw [if_pos hC0]; unfold plE; rw [if_neg (by rw [bI_0.mp c_17]; decide), if_pos (bI_1.mp c_30)]
               have hFf : plF b n (tE b n p) f = upd f 7 1 := by unfold plF; rw [if_neg (by rw [bI_0.mp c_17]; decide), if_pos (bI_1.mp c_30)]
               rw [hE, hFf]
               refine Rsl.good (((eS.wk (fun i q => SRp9 q)).tr (eP.wk (fun i q => SRpM q))).tr (eA.wk (fun i q => SRp9 q))) ((oS.tr (OthF.of eP (by unfold SM; omega))).tr oA) hr2 hm ?_
               rw [show aI h_71 723 23 = aI h_3 723 23 from by rw [t23, t23p]]
               exact hT1)
            | exact absurd rfl c_76
      · refine r_aload_n dX9_readPolicy_57 rfl ?_
        refine r_iconst (1) dX9_readPolicy_58 (by decide) ?_
        refine q_callV1 (cv_X9_failsAt ml_X9_204) hW kc_723 (by decide) rfl ⟨rfl, rfl⟩ rfl (Nat.le_of_ble_eq_true rfl) dX9_readPolicy_59 (c_X9_failsAt (c := 1) hW kn_1 hr1.2.2.1 hr1.2.1.1) (fun v_59 h_59 q_59 => ?_)
        obtain ⟨rfl, eF, f17, f18, fF⟩ := q_59
        refine r_zret dX9_readPolicy_62 rfl (by decide) ⟨Nat.zero_le _, Nat.zero_le _⟩ ?_
        first
          | exact absurd c_54 (by decide)
          | (have hE : stE2 b n m ts 7 p (plE b n (tE b n p)) = (1, tS b n (tE b n p)) := by unfold stE2; rw [if_pos hC0]; unfold plE; rw [if_neg (by rw [bI_0.mp c_17]; decide), if_neg (by rw [bI_0.mp c_30]; decide), if_neg (by rw [bI_0.mp c_43]; decide)]
             rw [hE]
             exact Rsl.bad ((eS.wk (fun i q => SRp9 q)).tr (eF.wk (fun i q => SRp9 q))) (oS.tr (fun k hk => fF k (by omega) (by omega))) (by show ¬ (1 : Nat) = 0; decide) ⟨f17, f18⟩)
  · refine r_iconst (0) dX9_readPolicy_9 (by decide) ?_
    refine r_zret dX9_readPolicy_10 rfl (by decide) ⟨Nat.zero_le _, Nat.zero_le _⟩ ?_
    first
      | (have hC : stC m ts 7 ≠ 0 := of_decide_eq_false (bI_0.mp c_6)
         have hE : stE2 b n m ts 7 p (plE b n (tE b n p)) = (stC m ts 7, tS b n p) := by unfold stE2; rw [if_neg hC]
         rw [hE]
         exact Rsl.bad (eS.wk (fun i q => SRp9 q)) oS hC (bS hC))

set_option maxRecDepth 100000 in
set_option maxHeartbeats 1600000 in
theorem c_X9_readRule {l9 : Launch} {G : GC} {h : AH} {b : Nat → Int32} {n : Nat} {w : Nat → Int32} {u : Nat} {f : Nat → Int32} {p m : Nat} {ts : Nat → Bool} (hW : World h) (hr : RpS h b n p) (hm : PV h w ZG u f (getG ZG u)) (hu : u < 4) (h0 : w 0 = nI m) (hm4 : m ≤ 4) (hT : 0 < m → TbD (aI h 723 23) ts) (hmu : 0 < m → m = u + 1) (hG : GOK G) : PM l9 G mX9_readRule NT NT [.ref 723] h (fun v h' => Rsl h h' v b n w u (stE2 b n m ts 8 p (ruE b n (tE b n p))) (ruF b n (tE b n p) f) (fun i => ts i || decide (i = 8))) noX := by
  refine PM.of (by decide +kernel) rfl rfl (Nat.le_of_ble_eq_true rfl) (fun hst _ => ?_)
  refine r_aload_n dX9_readRule_0 rfl ?_
  refine r_sipush (128) dX9_readRule_1 (by decide) ?_
  refine q_callV1 (cv_X9_startsOnce ml_X9_217) hW kc_723 (by decide) rfl ⟨rfl, rfl⟩ rfl (Nat.le_of_ble_eq_true rfl) dX9_readRule_4 (c_X9_startsOnce (j := 8) hW hr hm hu h0 hm4 hT ⟨by decide, by decide⟩ (by decide)) (fun v_4 h_4 q_4 => ?_)
  obtain ⟨rfl, eS, oS, gS, bS⟩ := q_4
  have hW := eS.W hW
  refine r_if_ne 12 dX9_readRule_7 (by decide) (fun c_7 => ?_) (fun c_7 => ?_)
  · have hC0 : stC m ts 8 = 0 := of_decide_eq_true (bI_1.mp c_7)
    obtain ⟨hr1, hT1⟩ := gS hC0
    have hm := hm.cgS eS (by decide) (by decide)
    have hm0 : 0 < m := by
      have : m ≠ 0 := fun q => absurd hC0 (by unfold stC; rw [if_pos q]; decide)
      omega
    refine r_aload_n dX9_readRule_12 rfl ?_
    refine r_ldcS sw_X9_233 dX9_readRule_13 ?_
    refine q_callV1 (cv_X9_isWord ml_X9_225) hW kc_723 (by decide) rfl ⟨rfl, rfl⟩ rfl (Nat.le_of_ble_eq_true rfl) dX9_readRule_15 (c_X9_isWord hW hr1 hG (by decide)) (fun v_15 h_15 q_15 => ?_)
    obtain ⟨rfl, z9⟩ := q_15
    replace z9 := z9.symm
    subst z9
    refine r_if_eq 25 dX9_readRule_18 (by decide) (fun c_18 => ?_) (fun c_18 => ?_)
    · refine r_aload_n dX9_readRule_25 rfl ?_
      refine r_ldcS sw_X9_235 dX9_readRule_26 ?_
      refine q_callV1 (cv_X9_isWord ml_X9_225) hW kc_723 (by decide) rfl ⟨rfl, rfl⟩ rfl (Nat.le_of_ble_eq_true rfl) dX9_readRule_28 (c_X9_isWord hW hr1 hG (by decide)) (fun v_28 h_28 q_28 => ?_)
      obtain ⟨rfl, z9⟩ := q_28
      replace z9 := z9.symm
      subst z9
      refine r_if_eq 38 dX9_readRule_31 (by decide) (fun c_31 => ?_) (fun c_31 => ?_)
      · refine r_aload_n dX9_readRule_38 rfl ?_
        refine r_ldcS sw_X9_237 dX9_readRule_39 ?_
        refine q_callV1 (cv_X9_isWord ml_X9_225) hW kc_723 (by decide) rfl ⟨rfl, rfl⟩ rfl (Nat.le_of_ble_eq_true rfl) dX9_readRule_41 (c_X9_isWord hW hr1 hG (by decide)) (fun v_41 h_41 q_41 => ?_)
        obtain ⟨rfl, z9⟩ := q_41
        replace z9 := z9.symm
        subst z9
        refine r_if_eq 51 dX9_readRule_44 (by decide) (fun c_44 => ?_) (fun c_44 => ?_)
        · refine r_iconst (-1) dX9_readRule_51 (by decide) ?_
          refine r_istore_n (ls2 := [some _, _]) dX9_readRule_52 (by decide) rfl ?_
          refine r_iload_n dX9_readRule_53 rfl ?_
          refine r_iconst (-1) dX9_readRule_54 (by decide) ?_
          refine r_icmp_ne 64 dX9_readRule_55 (by decide) (fun c_55 => ?_) (fun c_55 => ?_)
          · refine r_aload_n dX9_readRule_64 rfl ?_
            refine r_bipush (9) dX9_readRule_65 (by decide) ?_
            refine r_iload_n dX9_readRule_67 rfl ?_
            refine q_callV2 (cv_X9_sets ml_X9_220) hW kc_723 (by decide) rfl ⟨rfl, rfl⟩ rfl (Nat.le_of_ble_eq_true rfl) dX9_readRule_68 (c_X9_sets hW hm hu (by rw [h0, hmu hm0]) kn_9 (by decide)) (fun v_68 h_68 q_68 => ?_)
            obtain ⟨rfl, eP, hm⟩ := q_68
            have hW := eP.W hW
            have hr1p : RpS h_68 b n (tE b n p) := hr1.cg eP (by unfold SM; omega) (fun k _ _ => by rw [eP.I (by unfold SM; omega)]) (by rw [eP.I (by unfold SM; omega)])
            have t23p : aI h_68 723 23 = aI h_4 723 23 := by rw [eP.I (by unfold SM; omega)]
            refine r_aload_n dX9_readRule_71 rfl ?_
            refine q_callV0 (cv_X9_advanceToken ml_X9_208) hW kc_723 (by decide) rfl ⟨rfl, rfl⟩ rfl (Nat.le_of_ble_eq_true rfl) dX9_readRule_72 (c_X9_advanceToken hW hr1p.1 hr1p.2.1.2.2.1 (tE_le hr1.2.2.2.2)) (fun v_72 h_72 q_72 => ?_)
            obtain ⟨rfl, eA, lA, fA⟩ := q_72
            have hW := eA.W hW
            have hr2 : RpS h_72 b n (tE b n (tE b n p)) := ⟨hr1p.1.cg eA (by decide) (fA 14 (by decide) (by decide) (by decide) (by decide)), lA, (fA 17 (by decide) (by decide) (by decide) (by decide)).trans hr1p.2.2.1, (fA 18 (by decide) (by decide) (by decide) (by decide)).trans hr1p.2.2.2.1, tE_le hr1.2.2.2.2⟩
            have oA : OthF h_68 h_72 := fun k hk => fA k (by omega) (by omega) (by omega) (by omega)
            have hm := hm.cgS eA (by decide) (by decide)
            have t23 := fA 23 (by decide) (by decide) (by decide) (by decide)
            refine r_iconst (1) dX9_readRule_75 (by decide) ?_
            refine r_zret dX9_readRule_76 rfl (by decide) ⟨Nat.zero_le _, Nat.zero_le _⟩ ?_
            first
              | exact absurd rfl c_55
              | (have hE : stE2 b n m ts 8 p (ruE b n (tE b n p)) = (0, tE b n (tE b n p)) := by unfold stE2; rw [if_pos hC0]; unfold ruE; rw [if_pos (bI_1.mp c_18)]
                 have hFf : ruF b n (tE b n p) f = upd f 9 0 := by unfold ruF; rw [if_pos (bI_1.mp c_18)]
                 rw [hE, hFf]
                 refine Rsl.good (((eS.wk (fun i q => SRp9 q)).tr (eP.wk (fun i q => SRpM q))).tr (eA.wk (fun i q => SRp9 q))) ((oS.tr (OthF.of eP (by unfold SM; omega))).tr oA) hr2 hm ?_
                 rw [show aI h_72 723 23 = aI h_4 723 23 from by rw [t23, t23p]]
                 exact hT1)
              | (have hE : stE2 b n m ts 8 p (ruE b n (tE b n p)) = (0, tE b n (tE b n p)) := by unfold stE2; rw [if_pos hC0]; unfold ruE; rw [if_neg (by rw [bI_0.mp c_18]; decide), if_pos (bI_1.mp c_31)]
                 have hFf : ruF b n (tE b n p) f = upd f 9 1 := by unfold ruF; rw [if_neg (by rw [bI_0.mp c_18]; decide), if_pos (bI_1.mp c_31)]
                 rw [hE, hFf]
                 refine Rsl.good (((eS.wk (fun i q => SRp9 q)).tr (eP.wk (fun i q => SRpM q))).tr (eA.wk (fun i q => SRp9 q))) ((oS.tr (OthF.of eP (by unfold SM; omega))).tr oA) hr2 hm ?_
                 rw [show aI h_72 723 23 = aI h_4 723 23 from by rw [t23, t23p]]
                 exact hT1)
              | (have hE : stE2 b n m ts 8 p (ruE b n (tE b n p)) = (0, tE b n (tE b n p)) := by unfold stE2; rw [if_pos hC0]; unfold ruE; rw [if_neg (by rw [bI_0.mp c_18]; decide), if_neg (by rw [bI_0.mp c_31]; decide), if_pos (bI_1.mp c_44)]
                 have hFf : ruF b n (tE b n p) f = upd f 9 2 := by unfold ruF; rw [if_neg (by rw [bI_0.mp c_18]; decide), if_neg (by rw [bI_0.mp c_31]; decide), if_pos (bI_1.mp c_44)]
                 rw [hE, hFf]
                 refine Rsl.good (((eS.wk (fun i q => SRp9 q)).tr (eP.wk (fun i q => SRpM q))).tr (eA.wk (fun i q => SRp9 q))) ((oS.tr (OthF.of eP (by unfold SM; omega))).tr oA) hr2 hm ?_
                 rw [show aI h_72 723 23 = aI h_4 723 23 from by rw [t23, t23p]]
                 exact hT1)
          · refine r_aload_n dX9_readRule_58 rfl ?_
            refine r_iconst (1) dX9_readRule_59 (by decide) ?_
            refine q_callV1 (cv_X9_failsAt ml_X9_204) hW kc_723 (by decide) rfl ⟨rfl, rfl⟩ rfl (Nat.le_of_ble_eq_true rfl) dX9_readRule_60 (c_X9_failsAt (c := 1) hW kn_1 hr1.2.2.1 hr1.2.1.1) (fun v_60 h_60 q_60 => ?_)
            obtain ⟨rfl, eF, f17, f18, fF⟩ := q_60
            refine r_zret dX9_readRule_63 rfl (by decide) ⟨Nat.zero_le _, Nat.zero_le _⟩ ?_
            first
              | exact absurd c_55 (by decide)
              | (have hE : stE2 b n m ts 8 p (ruE b n (tE b n p)) = (1, tS b n (tE b n p)) := by unfold stE2; rw [if_pos hC0]; unfold ruE; rw [if_neg (by rw [bI_0.mp c_18]; decide), if_neg (by rw [bI_0.mp c_31]; decide), if_neg (by rw [bI_0.mp c_44]; decide)]
                 rw [hE]
                 exact Rsl.bad ((eS.wk (fun i q => SRp9 q)).tr (eF.wk (fun i q => SRp9 q))) (oS.tr (fun k hk => fF k (by omega) (by omega))) (by show ¬ (1 : Nat) = 0; decide) ⟨f17, f18⟩)
        · refine r_iconst (2) dX9_readRule_47 (by decide) ?_
          refine r_goto 52 dX9_readRule_48 (by decide) ?_
          refine r_istore_n (ls2 := [some _, _]) dX9_readRule_52 (by decide) rfl ?_
          refine r_iload_n dX9_readRule_53 rfl ?_
          refine r_iconst (-1) dX9_readRule_54 (by decide) ?_
          refine r_icmp_ne 64 dX9_readRule_55 (by decide) (fun c_55 => ?_) (fun c_55 => ?_)
          · refine r_aload_n dX9_readRule_64 rfl ?_
            refine r_bipush (9) dX9_readRule_65 (by decide) ?_
            refine r_iload_n dX9_readRule_67 rfl ?_
            refine q_callV2 (cv_X9_sets ml_X9_220) hW kc_723 (by decide) rfl ⟨rfl, rfl⟩ rfl (Nat.le_of_ble_eq_true rfl) dX9_readRule_68 (c_X9_sets hW hm hu (by rw [h0, hmu hm0]) kn_9 (by decide)) (fun v_68 h_68 q_68 => ?_)
            obtain ⟨rfl, eP, hm⟩ := q_68
            have hW := eP.W hW
            have hr1p : RpS h_68 b n (tE b n p) := hr1.cg eP (by unfold SM; omega) (fun k _ _ => by rw [eP.I (by unfold SM; omega)]) (by rw [eP.I (by unfold SM; omega)])
            have t23p : aI h_68 723 23 = aI h_4 723 23 := by rw [eP.I (by unfold SM; omega)]
            refine r_aload_n dX9_readRule_71 rfl ?_
            refine q_callV0 (cv_X9_advanceToken ml_X9_208) hW kc_723 (by decide) rfl ⟨rfl, rfl⟩ rfl (Nat.le_of_ble_eq_true rfl) dX9_readRule_72 (c_X9_advanceToken hW hr1p.1 hr1p.2.1.2.2.1 (tE_le hr1.2.2.2.2)) (fun v_72 h_72 q_72 => ?_)
            obtain ⟨rfl, eA, lA, fA⟩ := q_72
            have hW := eA.W hW
            have hr2 : RpS h_72 b n (tE b n (tE b n p)) := ⟨hr1p.1.cg eA (by decide) (fA 14 (by decide) (by decide) (by decide) (by decide)), lA, (fA 17 (by decide) (by decide) (by decide) (by decide)).trans hr1p.2.2.1, (fA 18 (by decide) (by decide) (by decide) (by decide)).trans hr1p.2.2.2.1, tE_le hr1.2.2.2.2⟩
            have oA : OthF h_68 h_72 := fun k hk => fA k (by omega) (by omega) (by omega) (by omega)
            have hm := hm.cgS eA (by decide) (by decide)
            have t23 := fA 23 (by decide) (by decide) (by decide) (by decide)
            refine r_iconst (1) dX9_readRule_75 (by decide) ?_
            refine r_zret dX9_readRule_76 rfl (by decide) ⟨Nat.zero_le _, Nat.zero_le _⟩ ?_
            first
              | exact absurd rfl c_55
              | (have hE : stE2 b n m ts 8 p (ruE b n (tE b n p)) = (0, tE b n (tE b n p)) := by unfold stE2; rw [if_pos hC0]; unfold ruE; rw [if_pos (bI_1.mp c_18)]
                 have hFf : ruF b n (tE b n p) f = upd f 9 0 := by unfold ruF; rw [if_pos (bI_1.mp c_18)]
                 rw [hE, hFf]
                 refine Rsl.good (((eS.wk (fun i q => SRp9 q)).tr (eP.wk (fun i q => SRpM q))).tr (eA.wk (fun i q => SRp9 q))) ((oS.tr (OthF.of eP (by unfold SM; omega))).tr oA) hr2 hm ?_
                 rw [show aI h_72 723 23 = aI h_4 723 23 from by rw [t23, t23p]]
                 exact hT1)
              | (have hE : stE2 b n m ts 8 p (ruE b n (tE b n p)) = (0, tE b n (tE b n p)) := by unfold stE2; rw [if_pos hC0]; unfold ruE; rw [if_neg (by rw [bI_0.mp c_18]; decide), if_pos (bI_1.mp c_31)]
                 have hFf : ruF b n (tE b n p) f = upd f 9 1 := by unfold ruF; rw [if_neg (by rw [bI_0.mp c_18]; decide), if_pos (bI_1.mp c_31)]
                 rw [hE, hFf]
                 refine Rsl.good (((eS.wk (fun i q => SRp9 q)).tr (eP.wk (fun i q => SRpM q))).tr (eA.wk (fun i q => SRp9 q))) ((oS.tr (OthF.of eP (by unfold SM; omega))).tr oA) hr2 hm ?_
                 rw [show aI h_72 723 23 = aI h_4 723 23 from by rw [t23, t23p]]
                 exact hT1)
              | (have hE : stE2 b n m ts 8 p (ruE b n (tE b n p)) = (0, tE b n (tE b n p)) := by unfold stE2; rw [if_pos hC0]; unfold ruE; rw [if_neg (by rw [bI_0.mp c_18]; decide), if_neg (by rw [bI_0.mp c_31]; decide), if_pos (bI_1.mp c_44)]
                 have hFf : ruF b n (tE b n p) f = upd f 9 2 := by unfold ruF; rw [if_neg (by rw [bI_0.mp c_18]; decide), if_neg (by rw [bI_0.mp c_31]; decide), if_pos (bI_1.mp c_44)]
                 rw [hE, hFf]
                 refine Rsl.good (((eS.wk (fun i q => SRp9 q)).tr (eP.wk (fun i q => SRpM q))).tr (eA.wk (fun i q => SRp9 q))) ((oS.tr (OthF.of eP (by unfold SM; omega))).tr oA) hr2 hm ?_
                 rw [show aI h_72 723 23 = aI h_4 723 23 from by rw [t23, t23p]]
                 exact hT1)
          · refine r_aload_n dX9_readRule_58 rfl ?_
            refine r_iconst (1) dX9_readRule_59 (by decide) ?_
            refine q_callV1 (cv_X9_failsAt ml_X9_204) hW kc_723 (by decide) rfl ⟨rfl, rfl⟩ rfl (Nat.le_of_ble_eq_true rfl) dX9_readRule_60 (c_X9_failsAt (c := 1) hW kn_1 hr1.2.2.1 hr1.2.1.1) (fun v_60 h_60 q_60 => ?_)
            obtain ⟨rfl, eF, f17, f18, fF⟩ := q_60
            refine r_zret dX9_readRule_63 rfl (by decide) ⟨Nat.zero_le _, Nat.zero_le _⟩ ?_
            first
              | exact absurd c_55 (by decide)
              | (have hE : stE2 b n m ts 8 p (ruE b n (tE b n p)) = (1, tS b n (tE b n p)) := by unfold stE2; rw [if_pos hC0]; unfold ruE; rw [if_neg (by rw [bI_0.mp c_18]; decide), if_neg (by rw [bI_0.mp c_31]; decide), if_neg (by rw [bI_0.mp c_44]; decide)]
                 rw [hE]
                 exact Rsl.bad ((eS.wk (fun i q => SRp9 q)).tr (eF.wk (fun i q => SRp9 q))) (oS.tr (fun k hk => fF k (by omega) (by omega))) (by show ¬ (1 : Nat) = 0; decide) ⟨f17, f18⟩)
      · refine r_iconst (1) dX9_readRule_34 (by decide) ?_
        refine r_goto 52 dX9_readRule_35 (by decide) ?_
        refine r_istore_n (ls2 := [some _, _]) dX9_readRule_52 (by decide) rfl ?_
        refine r_iload_n dX9_readRule_53 rfl ?_
        refine r_iconst (-1) dX9_readRule_54 (by decide) ?_
        refine r_icmp_ne 64 dX9_readRule_55 (by decide) (fun c_55 => ?_) (fun c_55 => ?_)
        · refine r_aload_n dX9_readRule_64 rfl ?_
          refine r_bipush (9) dX9_readRule_65 (by decide) ?_
          refine r_iload_n dX9_readRule_67 rfl ?_
          refine q_callV2 (cv_X9_sets ml_X9_220) hW kc_723 (by decide) rfl ⟨rfl, rfl⟩ rfl (Nat.le_of_ble_eq_true rfl) dX9_readRule_68 (c_X9_sets hW hm hu (by rw [h0, hmu hm0]) kn_9 (by decide)) (fun v_68 h_68 q_68 => ?_)
          obtain ⟨rfl, eP, hm⟩ := q_68
          have hW := eP.W hW
          have hr1p : RpS h_68 b n (tE b n p) := hr1.cg eP (by unfold SM; omega) (fun k _ _ => by rw [eP.I (by unfold SM; omega)]) (by rw [eP.I (by unfold SM; omega)])
          have t23p : aI h_68 723 23 = aI h_4 723 23 := by rw [eP.I (by unfold SM; omega)]
          refine r_aload_n dX9_readRule_71 rfl ?_
          refine q_callV0 (cv_X9_advanceToken ml_X9_208) hW kc_723 (by decide) rfl ⟨rfl, rfl⟩ rfl (Nat.le_of_ble_eq_true rfl) dX9_readRule_72 (c_X9_advanceToken hW hr1p.1 hr1p.2.1.2.2.1 (tE_le hr1.2.2.2.2)) (fun v_72 h_72 q_72 => ?_)
          obtain ⟨rfl, eA, lA, fA⟩ := q_72
          have hW := eA.W hW
          have hr2 : RpS h_72 b n (tE b n (tE b n p)) := ⟨hr1p.1.cg eA (by decide) (fA 14 (by decide) (by decide) (by decide) (by decide)), lA, (fA 17 (by decide) (by decide) (by decide) (by decide)).trans hr1p.2.2.1, (fA 18 (by decide) (by decide) (by decide) (by decide)).trans hr1p.2.2.2.1, tE_le hr1.2.2.2.2⟩
          have oA : OthF h_68 h_72 := fun k hk => fA k (by omega) (by omega) (by omega) (by omega)
          have hm := hm.cgS eA (by decide) (by decide)
          have t23 := fA 23 (by decide) (by decide) (by decide) (by decide)
          refine r_iconst (1) dX9_readRule_75 (by decide) ?_
          refine r_zret dX9_readRule_76 rfl (by decide) ⟨Nat.zero_le _, Nat.zero_le _⟩ ?_
          first
            | exact absurd rfl c_55
            | (have hE : stE2 b n m ts 8 p (ruE b n (tE b n p)) = (0, tE b n (tE b n p)) := by unfold stE2; rw [if_pos hC0]; unfold ruE; rw [if_pos (bI_1.mp c_18)]
               have hFf : ruF b n (tE b n p) f = upd f 9 0 := by unfold ruF; rw [if_pos (bI_1.mp c_18)]
               rw [hE, hFf]
               refine Rsl.good (((eS.wk (fun i q => SRp9 q)).tr (eP.wk (fun i q => SRpM q))).tr (eA.wk (fun i q => SRp9 q))) ((oS.tr (OthF.of eP (by unfold SM; omega))).tr oA) hr2 hm ?_
               rw [show aI h_72 723 23 = aI h_4 723 23 from by rw [t23, t23p]]
               exact hT1)
            | (have hE : stE2 b n m ts 8 p (ruE b n (tE b n p)) = (0, tE b n (tE b n p)) := by unfold stE2; rw [if_pos hC0]; unfold ruE; rw [if_neg (by rw [bI_0.mp c_18]; decide), if_pos (bI_1.mp c_31)]
               have hFf : ruF b n (tE b n p) f = upd f 9 1 := by unfold ruF; rw [if_neg (by rw [bI_0.mp c_18]; decide), if_pos (bI_1.mp c_31)]
               rw [hE, hFf]
               refine Rsl.good (((eS.wk (fun i q => SRp9 q)).tr (eP.wk (fun i q => SRpM q))).tr (eA.wk (fun i q => SRp9 q))) ((oS.tr (OthF.of eP (by unfold SM; omega))).tr oA) hr2 hm ?_
               rw [show aI h_72 723 23 = aI h_4 723 23 from by rw [t23, t23p]]
               exact hT1)
            | (have hE : stE2 b n m ts 8 p (ruE b n (tE b n p)) = (0, tE b n (tE b n p)) := by unfold stE2; rw [if_pos hC0]; unfold ruE; rw [if_neg (by rw [bI_0.mp c_18]; decide), if_neg (by rw [bI_0.mp c_31]; decide), if_pos (bI_1.mp c_44)]
               have hFf : ruF b n (tE b n p) f = upd f 9 2 := by unfold ruF; rw [if_neg (by rw [bI_0.mp c_18]; decide), if_neg (by rw [bI_0.mp c_31]; decide), if_pos (bI_1.mp c_44)]
               rw [hE, hFf]
               refine Rsl.good (((eS.wk (fun i q => SRp9 q)).tr (eP.wk (fun i q => SRpM q))).tr (eA.wk (fun i q => SRp9 q))) ((oS.tr (OthF.of eP (by unfold SM; omega))).tr oA) hr2 hm ?_
               rw [show aI h_72 723 23 = aI h_4 723 23 from by rw [t23, t23p]]
               exact hT1)
        · refine r_aload_n dX9_readRule_58 rfl ?_
          refine r_iconst (1) dX9_readRule_59 (by decide) ?_
          refine q_callV1 (cv_X9_failsAt ml_X9_204) hW kc_723 (by decide) rfl ⟨rfl, rfl⟩ rfl (Nat.le_of_ble_eq_true rfl) dX9_readRule_60 (c_X9_failsAt (c := 1) hW kn_1 hr1.2.2.1 hr1.2.1.1) (fun v_60 h_60 q_60 => ?_)
          obtain ⟨rfl, eF, f17, f18, fF⟩ := q_60
          refine r_zret dX9_readRule_63 rfl (by decide) ⟨Nat.zero_le _, Nat.zero_le _⟩ ?_
          first
            | exact absurd c_55 (by decide)
            | (have hE : stE2 b n m ts 8 p (ruE b n (tE b n p)) = (1, tS b n (tE b n p)) := by unfold stE2; rw [if_pos hC0]; unfold ruE; rw [if_neg (by rw [bI_0.mp c_18]; decide), if_neg (by rw [bI_0.mp c_31]; decide), if_neg (by rw [bI_0.mp c_44]; decide)]
               rw [hE]
               exact Rsl.bad ((eS.wk (fun i q => SRp9 q)).tr (eF.wk (fun i q => SRp9 q))) (oS.tr (fun k hk => fF k (by omega) (by omega))) (by show ¬ (1 : Nat) = 0; decide) ⟨f17, f18⟩)
    · refine r_iconst (0) dX9_readRule_21 (by decide) ?_
      refine r_goto 52 dX9_readRule_22 (by decide) ?_
      refine r_istore_n (ls2 := [some _, _]) dX9_readRule_52 (by decide) rfl ?_
      refine r_iload_n dX9_readRule_53 rfl ?_
      refine r_iconst (-1) dX9_readRule_54 (by decide) ?_
      refine r_icmp_ne 64 dX9_readRule_55 (by decide) (fun c_55 => ?_) (fun c_55 => ?_)
      · refine r_aload_n dX9_readRule_64 rfl ?_
        refine r_bipush (9) dX9_readRule_65 (by decide) ?_
        refine r_iload_n dX9_readRule_67 rfl ?_
        refine q_callV2 (cv_X9_sets ml_X9_220) hW kc_723 (by decide) rfl ⟨rfl, rfl⟩ rfl (Nat.le_of_ble_eq_true rfl) dX9_readRule_68 (c_X9_sets hW hm hu (by rw [h0, hmu hm0]) kn_9 (by decide)) (fun v_68 h_68 q_68 => ?_)
        obtain ⟨rfl, eP, hm⟩ := q_68
        have hW := eP.W hW
        have hr1p : RpS h_68 b n (tE b n p) := hr1.cg eP (by unfold SM; omega) (fun k _ _ => by rw [eP.I (by unfold SM; omega)]) (by rw [eP.I (by unfold SM; omega)])
        have t23p : aI h_68 723 23 = aI h_4 723 23 := by rw [eP.I (by unfold SM; omega)]
        refine r_aload_n dX9_readRule_71 rfl ?_
        refine q_callV0 (cv_X9_advanceToken ml_X9_208) hW kc_723 (by decide) rfl ⟨rfl, rfl⟩ rfl (Nat.le_of_ble_eq_true rfl) dX9_readRule_72 (c_X9_advanceToken hW hr1p.1 hr1p.2.1.2.2.1 (tE_le hr1.2.2.2.2)) (fun v_72 h_72 q_72 => ?_)
        obtain ⟨rfl, eA, lA, fA⟩ := q_72
        have hW := eA.W hW
        have hr2 : RpS h_72 b n (tE b n (tE b n p)) := ⟨hr1p.1.cg eA (by decide) (fA 14 (by decide) (by decide) (by decide) (by decide)), lA, (fA 17 (by decide) (by decide) (by decide) (by decide)).trans hr1p.2.2.1, (fA 18 (by decide) (by decide) (by decide) (by decide)).trans hr1p.2.2.2.1, tE_le hr1.2.2.2.2⟩
        have oA : OthF h_68 h_72 := fun k hk => fA k (by omega) (by omega) (by omega) (by omega)
        have hm := hm.cgS eA (by decide) (by decide)
        have t23 := fA 23 (by decide) (by decide) (by decide) (by decide)
        refine r_iconst (1) dX9_readRule_75 (by decide) ?_
        refine r_zret dX9_readRule_76 rfl (by decide) ⟨Nat.zero_le _, Nat.zero_le _⟩ ?_
        first
          | exact absurd rfl c_55
          | (have hE : stE2 b n m ts 8 p (ruE b n (tE b n p)) = (0, tE b n (tE b n p)) := by unfold stE2; rw [if_pos hC0]; unfold ruE; rw [if_pos (bI_1.mp c_18)]
             have hFf : ruF b n (tE b n p) f = upd f 9 0 := by unfold ruF; rw [if_pos (bI_1.mp c_18)]
             rw [hE, hFf]
             refine Rsl.good (((eS.wk (fun i q => SRp9 q)).tr (eP.wk (fun i q => SRpM q))).tr (eA.wk (fun i q => SRp9 q))) ((oS.tr (OthF.of eP (by unfold SM; omega))).tr oA) hr2 hm ?_
             rw [show aI h_72 723 23 = aI h_4 723 23 from by rw [t23, t23p]]
             exact hT1)
          | (have hE : stE2 b n m ts 8 p (ruE b n (tE b n p)) = (0, tE b n (tE b n p)) := by unfold stE2; rw [if_pos hC0]; unfold ruE; rw [if_neg (by rw [bI_0.mp c_18]; decide), if_pos (bI_1.mp c_31)]
             have hFf : ruF b n (tE b n p) f = upd f 9 1 := by unfold ruF; rw [if_neg (by rw [bI_0.mp c_18]; decide), if_pos (bI_1.mp c_31)]
             rw [hE, hFf]
             refine Rsl.good (((eS.wk (fun i q => SRp9 q)).tr (eP.wk (fun i q => SRpM q))).tr (eA.wk (fun i q => SRp9 q))) ((oS.tr (OthF.of eP (by unfold SM; omega))).tr oA) hr2 hm ?_
             rw [show aI h_72 723 23 = aI h_4 723 23 from by rw [t23, t23p]]
             exact hT1)
          | (have hE : stE2 b n m ts 8 p (ruE b n (tE b n p)) = (0, tE b n (tE b n p)) := by unfold stE2; rw [if_pos hC0]; unfold ruE; rw [if_neg (by rw [bI_0.mp c_18]; decide), if_neg (by rw [bI_0.mp c_31]; decide), if_pos (bI_1.mp c_44)]
             have hFf : ruF b n (tE b n p) f = upd f 9 2 := by unfold ruF; rw [if_neg (by rw [bI_0.mp c_18]; decide), if_neg (by rw [bI_0.mp c_31]; decide), if_pos (bI_1.mp c_44)]
             rw [hE, hFf]
             refine Rsl.good (((eS.wk (fun i q => SRp9 q)).tr (eP.wk (fun i q => SRpM q))).tr (eA.wk (fun i q => SRp9 q))) ((oS.tr (OthF.of eP (by unfold SM; omega))).tr oA) hr2 hm ?_
             rw [show aI h_72 723 23 = aI h_4 723 23 from by rw [t23, t23p]]
             exact hT1)
      · refine r_aload_n dX9_readRule_58 rfl ?_
        refine r_iconst (1) dX9_readRule_59 (by decide) ?_
        refine q_callV1 (cv_X9_failsAt ml_X9_204) hW kc_723 (by decide) rfl ⟨rfl, rfl⟩ rfl (Nat.le_of_ble_eq_true rfl) dX9_readRule_60 (c_X9_failsAt (c := 1) hW kn_1 hr1.2.2.1 hr1.2.1.1) (fun v_60 h_60 q_60 => ?_)
        obtain ⟨rfl, eF, f17, f18, fF⟩ := q_60
        refine r_zret dX9_readRule_63 rfl (by decide) ⟨Nat.zero_le _, Nat.zero_le _⟩ ?_
        first
          | exact absurd c_55 (by decide)
          | (have hE : stE2 b n m ts 8 p (ruE b n (tE b n p)) = (1, tS b n (tE b n p)) := by unfold stE2; rw [if_pos hC0]; unfold ruE; rw [if_neg (by rw [bI_0.mp c_18]; decide), if_neg (by rw [bI_0.mp c_31]; decide), if_neg (by rw [bI_0.mp c_44]; decide)]
             rw [hE]
             exact Rsl.bad ((eS.wk (fun i q => SRp9 q)).tr (eF.wk (fun i q => SRp9 q))) (oS.tr (fun k hk => fF k (by omega) (by omega))) (by show ¬ (1 : Nat) = 0; decide) ⟨f17, f18⟩)
  · refine r_iconst (0) dX9_readRule_10 (by decide) ?_
    refine r_zret dX9_readRule_11 rfl (by decide) ⟨Nat.zero_le _, Nat.zero_le _⟩ ?_
    first
      | (have hC : stC m ts 8 ≠ 0 := of_decide_eq_false (bI_0.mp c_7)
         have hE : stE2 b n m ts 8 p (ruE b n (tE b n p)) = (stC m ts 8, tS b n p) := by unfold stE2; rw [if_neg hC]
         rw [hE]
         exact Rsl.bad (eS.wk (fun i q => SRp9 q)) oS hC (bS hC))
