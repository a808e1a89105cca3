-- the reference's reader: protect, load
theorem rnB_in {b : Nat → Int32} {n k : Nat} : ∀ f i j, i ≤ j → j < rnB b n k f i → kdB b n j = k
  | 0, i, j, h1, h2 => absurd (show j < i from h2) (by omega)
  | f + 1, i, j, h1, h2 => by
    by_cases q : kdB b n i = k
    · have e : rnB b n k (f + 1) i = rnB b n k f (i + 1) := if_pos q
      rw [e] at h2
      by_cases z : j = i
      · rw [z]; exact q
      · exact rnB_in f (i + 1) j (by omega) h2
    · have e : rnB b n k (f + 1) i = i := if_neg q
      rw [e] at h2; omega
theorem vl_nat {b : Nat → Int32} {n s : Nat} : ∀ j, j ≤ 3 → (∀ i, i < j → kdB b n (s + i) = 2) → ∃ t, t < 10 ^ j ∧ vlB b s j = nI t
  | 0, _, _ => ⟨0, by decide, rfl⟩
  | j + 1, h3, hd => by
    obtain ⟨t, t1, t2⟩ := vl_nat j (by omega) (fun i hi => hd i (by omega))
    obtain ⟨q, q2, q3⟩ := kdB_2.mp (hd j (by omega))
    obtain ⟨d, d1, d2, d3⟩ := rgB_t (x := b (s + j)) (a := 48) (b := 57) (decide_eq_true ⟨q2, q3⟩) (by decide) (by decide)
    have p3 : 10 ^ j ≤ 100 := by
      have : j = 0 ∨ j = 1 ∨ j = 2 := by omega
      rcases this with rfl | rfl | rfl <;> decide
    refine ⟨10 * t + (d - 48), ?_, ?_⟩
    · rw [Nat.pow_succ]; omega
    · show 10 * vlB b s j + b (s + j) - 48 = _
      rw [t2, d3, show (10 : Int32) = nI 10 from rfl, pk_mul, nI_add, show (48 : Int32) = nI 48 from rfl, pk_sub (by omega)]
      congr 1
      omega
theorem tV_nat {b : Nat → Int32} {n p : Nat} (h2 : tK b n p = 2) : ∃ t, t < 1000 ∧ tV b n p = nI t := by
  have hd : ∀ i, i < min 3 (tE b n p - tS b n p) → kdB b n (tS b n p + i) = 2 := fun i hi => by
    by_cases q : i = 0
    · subst q; exact h2
    · have hE : tE b n p = rnB b n 2 n (tS b n p + 1) := by unfold tE; rw [if_neg (by rw [h2]; decide), if_pos (Or.inr h2), h2]
      have hm : i < tE b n p - tS b n p := Nat.lt_of_lt_of_le hi (Nat.min_le_right _ _)
      rw [hE] at hm
      exact rnB_in n (tS b n p + 1) _ (by omega) (by omega)
  obtain ⟨t, t1, t2⟩ := vl_nat (min 3 (tE b n p - tS b n p)) (Nat.min_le_left _ _) hd
  refine ⟨t, Nat.lt_of_lt_of_le t1 ?_, t2⟩
  have : min 3 (tE b n p - tS b n p) ≤ 3 := Nat.min_le_left _ _
  have h9 : min 3 (tE b n p - tS b n p) = 0 ∨ min 3 (tE b n p - tS b n p) = 1 ∨ min 3 (tE b n p - tS b n p) = 2 ∨ min 3 (tE b n p - tS b n p) = 3 := by omega
  rcases h9 with e | e | e | e <;> rw [e] <;> decide
theorem nmC_pr {b : Nat → Int32} {n q a t : Nat} {x : Int32} (hx : x = nI a) (ha : a ≤ 20) (h2 : tC b n q = 2) (ht : tV b n q = nI t) (t9 : t < 1000) : nmC b n q 0 (x - 1) = 0 ↔ t < a := by
  unfold nmC
  rw [if_pos h2, ht, hx]
  cases a with
  | zero =>
    rw [if_neg (fun z => absurd (Int32.le_trans z.1 z.2) (by decide))]
    exact ⟨fun z => absurd z (by decide), fun z => absurd z (Nat.not_lt_zero _)⟩
  | succ a =>
    rw [nI_s1 (by omega), Nat.add_sub_cancel]
    by_cases z : t ≤ a
    · rw [if_pos ⟨(nI_leI (a := 0) (by decide) (by omega)).mpr (Nat.zero_le _), (nI_leI (by omega) (by omega)).mpr z⟩]
      exact ⟨fun _ => by omega, fun _ => rfl⟩
    · rw [if_neg (fun q => z ((nI_leI (by omega) (by omega)).mp q.2))]
      exact ⟨fun q => absurd q (by decide), fun q => absurd q (by omega)⟩
def gdE (b : Nat → Int32) (n m p : Nat) (f : Nat → Int32) : ER := if m = 0 then (1, tS b n p) else prE b n (tE b n p) f
set_option maxRecDepth 100000 in
set_option maxHeartbeats 1600000 in
theorem c_X9_readGuard {l9 : Launch} {G : GC} {h : AH} {b : Nat → Int32} {n : Nat} {w : Nat → Int32} {u : Nat} {f : Nat → Int32} {p m : Nat} {ts : Nat → Bool} (hW : World h) (hr : RpS h b n p) (hm : PV h w ZG u f (getG ZG u)) (hu : u < 4) (h0 : w 0 = nI m) (hm4 : m ≤ 4) (hT : 0 < m → TbD (aI h 723 23) ts) (hmu : 0 < m → m = u + 1) (hT2 : 0 < m → TbD (aI h 723 23) ts) (hO : 0 < m → PoOK f (fun _ => 0) 0 0) : PM l9 G mX9_readGuard NT NT [.ref 723] h (fun v h' => Rsl h h' v b n w u (gdE b n m p f) (prU b n (tE b n p) f) ts) noX := by
  refine PM.of (by decide +kernel) rfl rfl (Nat.le_of_ble_eq_true rfl) (fun hst _ => ?_)
  refine r_aload_n dX9_readGuard_0 rfl ?_
  refine q_getR fl_X9_7 hW kc_723 rfl (kl_9_0 hW) (by decide) dX9_readGuard_1 ?_
  refine r_iconst (0) dX9_readGuard_4 (by decide) ?_
  refine q_wldPV hW hm kn_0 (by omega) dX9_readGuard_5 ?_
  rw [h0]
  refine r_if_ne 15 dX9_readGuard_6 (by decide) (fun c_6 => ?_) (fun c_6 => ?_)
  · have hm0 : 0 < m := by
      have : m ≠ 0 := fun q => c_6 (by rw [q]; rfl)
      omega
    obtain ⟨a, a1, a2, a3⟩ := ((hO hm0).at 0).nat
    have a2' : a ≤ 20 := a2
    have hT1 := hT hm0
    have h01 : w 0 - 1 = nI u := by rw [h0, hmu hm0, nI_s1 (by omega), Nat.add_sub_cancel]
    refine r_aload_n dX9_readGuard_15 rfl ?_
    refine q_callV0 (cv_X9_advanceToken ml_X9_208) hW kc_723 (by decide) rfl ⟨rfl, rfl⟩ rfl (Nat.le_of_ble_eq_true rfl) dX9_readGuard_16 (c_X9_advanceToken hW hr.1 hr.2.1.2.2.1 (tE_le hr.2.2.2.2)) (fun v_16 h_16 q_16 => ?_)
    obtain ⟨rfl, eA, lA, fA⟩ := q_16
    have hW := eA.W hW
    have hr1 : RpS h_16 b n (tE b n p) := ⟨hr.1.cg eA (by decide) (fA 14 (by decide) (by decide) (by decide) (by decide)), lA, (fA 17 (by decide) (by decide) (by decide) (by decide)).trans hr.2.2.1, (fA 18 (by decide) (by decide) (by decide) (by decide)).trans hr.2.2.2.1, tE_le hr.2.2.2.2⟩
    have oA : OthF h h_16 := fun k hk => fA k (by omega) (by omega) (by omega) (by omega)
    have hm := hm.cgS eA (by decide) (by decide)
    have t23 := fA 23 (by decide) (by decide) (by decide) (by decide)
    obtain ⟨-, ⟨l20, l22, l19, l21⟩, -, -, -⟩ := id hr1
    have hk6 := tK_lt (b := b) (n := n) (p := tE b n p)
    have hk4 := tK_4 (b := b) (n := n) (p := tE b n p)
    have hEn := tE_le (b := b) (n := n) hr1.2.2.2.2
    have hn7 := hr.1.2.1
    have hSE := tE_ge (b := b) (n := n) (p := tE b n p)
    refine r_aload_n dX9_readGuard_19 rfl ?_
    refine q_getR fl_X9_7 hW kc_723 rfl (kl_9_0 hW) (by decide) dX9_readGuard_20 ?_
    refine r_iconst (0) dX9_readGuard_23 (by decide) ?_
    refine q_wldPV hW hm kn_0 (by omega) dX9_readGuard_24 ?_
    refine r_iconst (1) dX9_readGuard_25 (by decide) ?_
    refine r_isub dX9_readGuard_26 ?_
    refine r_istore_n (ls2 := [some _, _]) dX9_readGuard_27 (by decide) rfl ?_
    refine r_aload_n dX9_readGuard_28 rfl ?_
    refine q_getI fl_X9_182 hW kc_723 rfl dX9_readGuard_29 ?_
    rw [l22]
    refine r_iconst (2) dX9_readGuard_32 (by decide) ?_
    refine r_icmp_ne 75 dX9_readGuard_33 (by decide) (fun c_33 => ?_) (fun c_33 => ?_)
    · first
        | skip
      have hne : gdE b n m p f = nmS b n (0, tE b n p) 0 (f 0 - 1) := by
        unfold gdE prE
        rw [if_neg (by omega)]
        refine if_neg (fun z => ?_)
        obtain ⟨z1, z2⟩ := z
        have hC2 : tC b n (tE b n p) = 2 := by
          unfold nmC at z1
          split at z1
          · next y => exact y
          · exact absurd z1 (by decide)
        obtain ⟨hk2, hl3⟩ := tC_2.mp hC2
        obtain ⟨t', t9', ht'⟩ := tV_nat hk2
        have hta' : t' < a := (nmC_pr a3 a2' hC2 ht' t9').mp z1
        first
          | exact c_33 ((tkR_e hk6 hk4 (j := 2) (by decide)).mpr hk2)
          | (have := (nI_leI (a := 4) (by decide) (by omega)).mp c_41
             omega)
          | (rw [a3, ht'] at c_54
             have := (nI_leI (by omega) (by omega)).mp c_54
             omega)
          | (have y := of_decide_eq_false (bI_0.mp c_66)
             exact y (by rw [← ent]; exact z2))
      refine r_aload_n dX9_readGuard_75 rfl ?_
      refine r_iconst (0) dX9_readGuard_76 (by decide) ?_
      refine r_iconst (0) dX9_readGuard_77 (by decide) ?_
      refine r_aload_n dX9_readGuard_78 rfl ?_
      refine r_iload_n dX9_readGuard_79 rfl ?_
      refine r_iconst (0) dX9_readGuard_80 (by decide) ?_
      refine q_callV2 (cv_X9_of ml_X9_81) hW kc_723 (by decide) rfl ⟨rfl, rfl⟩ rfl (Nat.le_of_ble_eq_true rfl) dX9_readGuard_81 (c_X9_of hW hm hu h01 kn_0 (by decide)) (fun v_81 h_81 q_81 => ?_)
      obtain ⟨rfl, z9⟩ := q_81
      replace z9 := z9.symm
      subst z9
      refine r_iconst (1) dX9_readGuard_84 (by decide) ?_
      refine r_isub dX9_readGuard_85 ?_
      refine q_callV3 (cv_X9_takes ml_X9_211) hW kc_723 (by decide) rfl ⟨rfl, rfl⟩ rfl (Nat.le_of_ble_eq_true rfl) dX9_readGuard_86 (c_X9_takes hW hr1 kn_0 (by decide)) (fun v_86 h_86 q_86 => ?_)
      obtain ⟨rfl, eK, oK, tK, gK, bK⟩ := q_86
      have hW := eK.W hW
      refine r_if_ne 94 dX9_readGuard_89 (by decide) (fun c_89 => ?_) (fun c_89 => ?_)
      · have hN : nmC b n (tE b n p) 0 (f 0 - 1) = 0 := of_decide_eq_true (bI_1.mp c_89)
        obtain ⟨g5, hr2⟩ := gK hN
        have hm := hm.cgS eK (by decide) (by decide)
        have hC2 : tC b n (tE b n p) = 2 := by
          have z1 := hN
          unfold nmC at z1
          split at z1
          · next y => exact y
          · exact absurd z1 (by decide)
        obtain ⟨t, t9, ht⟩ := tV_nat (tC_2.mp hC2).1
        have hta : t < a := (nmC_pr a3 a2' hC2 ht t9).mp hN
        have ent : nn (tV b n (tE b n p)) = t := by rw [ht]; exact nn_I (by omega)
        refine r_aload_n dX9_readGuard_94 rfl ?_
        refine r_bipush (100) dX9_readGuard_95 (by decide) ?_
        refine r_iconst (4) dX9_readGuard_97 (by decide) ?_
        refine r_aload_n dX9_readGuard_98 rfl ?_
        refine q_getR fl_X9_48 hW kc_723 rfl (kl_9_24 hW) (by decide) dX9_readGuard_99 ?_
        refine r_iconst (0) dX9_readGuard_102 (by decide) ?_
        refine q_iald hW kc_735 kn_0 (by decide) (by decide) dX9_readGuard_103 ?_
        rw [show aI h_86 735 0 = tV b n (tE b n p) from by rw [g5, pk_us]]
        refine r_imul dX9_readGuard_104 ?_
        refine r_iadd dX9_readGuard_105 ?_
        refine r_iconst (3) dX9_readGuard_106 (by decide) ?_
        refine r_iadd dX9_readGuard_107 ?_
        refine r_iconst (1) dX9_readGuard_108 (by decide) ?_
        refine q_callV2 (cv_X9_sets ml_X9_220) hW kc_723 (by decide) rfl ⟨rfl, rfl⟩ rfl (Nat.le_of_ble_eq_true rfl) dX9_readGuard_109 (c_X9_sets hW hm hu (by rw [h0, hmu hm0]) (k := 103 + 4 * t) (by rw [ht, show (4 : Int32) = nI 4 from rfl, pk_mul, show (100 : Int32) = nI 100 from rfl, nI_add, show (3 : Int32) = nI 3 from rfl, nI_add]; exact congrArg nI (by omega)) (by omega)) (fun v_109 h_109 q_109 => ?_)
        obtain ⟨rfl, eP, hm⟩ := q_109
        refine r_iconst (1) dX9_readGuard_112 (by decide) ?_
        refine r_zret dX9_readGuard_113 rfl (by decide) ⟨Nat.zero_le _, Nat.zero_le _⟩ ?_
        have hU : prU b n (tE b n p) f = upd f (103 + 4 * t) 1 := by unfold prU prF; rw [if_pos hN, ent]
        rw [hne, (nm_0 hN).1, hU]
        refine Rsl.good (((eA.wk (fun i q => SRp9 q)).tr (eK.wk (fun i q => by unfold SRp; omega))).tr (eP.wk (fun i q => SRpM q))) ((oA.tr oK).tr (OthF.of eP (by unfold SM; omega))) (hr2.cg eP (by unfold SM; omega) (fun k _ _ => by rw [eP.I (by unfold SM; omega)]) (by rw [eP.I (by unfold SM; omega)])) hm ?_
        rw [eP.I (by unfold SM; omega), tK, t23]
        exact hT1
      · refine r_iconst (0) dX9_readGuard_92 (by decide) ?_
        refine r_zret dX9_readGuard_93 rfl (by decide) ⟨Nat.zero_le _, Nat.zero_le _⟩ ?_
        have hN : nmC b n (tE b n p) 0 (f 0 - 1) ≠ 0 := of_decide_eq_false (bI_0.mp c_89)
        rw [hne, nm_1 hN]
        exact Rsl.bad ((eA.wk (fun i q => SRp9 q)).tr (eK.wk (fun i q => by unfold SRp; omega))) (oA.tr oK) hN (bK hN)
    · refine r_aload_n dX9_readGuard_36 rfl ?_
      refine q_callV0 (cv_X9_tokenLength ml_X9_191) hW kc_723 (by decide) rfl ⟨rfl, rfl⟩ rfl (Nat.le_of_ble_eq_true rfl) dX9_readGuard_37 (c_X9_tokenLength hW) (fun v_37 h_37 q_37 => ?_)
      obtain ⟨rfl, z9⟩ := q_37
      replace z9 := z9.symm
      subst z9
      rw [l19, l20, pk_sub hSE]
      refine r_iconst (4) dX9_readGuard_40 (by decide) ?_
      refine r_icmp_ge 75 dX9_readGuard_41 (by decide) (fun c_41 => ?_) (fun c_41 => ?_)
      · first
          | skip
        have hne : gdE b n m p f = nmS b n (0, tE b n p) 0 (f 0 - 1) := by
          unfold gdE prE
          rw [if_neg (by omega)]
          refine if_neg (fun z => ?_)
          obtain ⟨z1, z2⟩ := z
          have hC2 : tC b n (tE b n p) = 2 := by
            unfold nmC at z1
            split at z1
            · next y => exact y
            · exact absurd z1 (by decide)
          obtain ⟨hk2, hl3⟩ := tC_2.mp hC2
          obtain ⟨t', t9', ht'⟩ := tV_nat hk2
          have hta' : t' < a := (nmC_pr a3 a2' hC2 ht' t9').mp z1
          first
            | exact c_33 ((tkR_e hk6 hk4 (j := 2) (by decide)).mpr hk2)
            | (have := (nI_leI (a := 4) (by decide) (by omega)).mp c_41
               omega)
            | (rw [a3, ht'] at c_54
               have := (nI_leI (by omega) (by omega)).mp c_54
               omega)
            | (have y := of_decide_eq_false (bI_0.mp c_66)
               exact y (by rw [← ent]; exact z2))
        refine r_aload_n dX9_readGuard_75 rfl ?_
        refine r_iconst (0) dX9_readGuard_76 (by decide) ?_
        refine r_iconst (0) dX9_readGuard_77 (by decide) ?_
        refine r_aload_n dX9_readGuard_78 rfl ?_
        refine r_iload_n dX9_readGuard_79 rfl ?_
        refine r_iconst (0) dX9_readGuard_80 (by decide) ?_
        refine q_callV2 (cv_X9_of ml_X9_81) hW kc_723 (by decide) rfl ⟨rfl, rfl⟩ rfl (Nat.le_of_ble_eq_true rfl) dX9_readGuard_81 (c_X9_of hW hm hu h01 kn_0 (by decide)) (fun v_81 h_81 q_81 => ?_)
        obtain ⟨rfl, z9⟩ := q_81
        replace z9 := z9.symm
        subst z9
        refine r_iconst (1) dX9_readGuard_84 (by decide) ?_
        refine r_isub dX9_readGuard_85 ?_
        refine q_callV3 (cv_X9_takes ml_X9_211) hW kc_723 (by decide) rfl ⟨rfl, rfl⟩ rfl (Nat.le_of_ble_eq_true rfl) dX9_readGuard_86 (c_X9_takes hW hr1 kn_0 (by decide)) (fun v_86 h_86 q_86 => ?_)
        obtain ⟨rfl, eK, oK, tK, gK, bK⟩ := q_86
        have hW := eK.W hW
        refine r_if_ne 94 dX9_readGuard_89 (by decide) (fun c_89 => ?_) (fun c_89 => ?_)
        · have hN : nmC b n (tE b n p) 0 (f 0 - 1) = 0 := of_decide_eq_true (bI_1.mp c_89)
          obtain ⟨g5, hr2⟩ := gK hN
          have hm := hm.cgS eK (by decide) (by decide)
          have hC2 : tC b n (tE b n p) = 2 := by
            have z1 := hN
            unfold nmC at z1
            split at z1
            · next y => exact y
            · exact absurd z1 (by decide)
          obtain ⟨t, t9, ht⟩ := tV_nat (tC_2.mp hC2).1
          have hta : t < a := (nmC_pr a3 a2' hC2 ht t9).mp hN
          have ent : nn (tV b n (tE b n p)) = t := by rw [ht]; exact nn_I (by omega)
          refine r_aload_n dX9_readGuard_94 rfl ?_
          refine r_bipush (100) dX9_readGuard_95 (by decide) ?_
          refine r_iconst (4) dX9_readGuard_97 (by decide) ?_
          refine r_aload_n dX9_readGuard_98 rfl ?_
          refine q_getR fl_X9_48 hW kc_723 rfl (kl_9_24 hW) (by decide) dX9_readGuard_99 ?_
          refine r_iconst (0) dX9_readGuard_102 (by decide) ?_
          refine q_iald hW kc_735 kn_0 (by decide) (by decide) dX9_readGuard_103 ?_
          rw [show aI h_86 735 0 = tV b n (tE b n p) from by rw [g5, pk_us]]
          refine r_imul dX9_readGuard_104 ?_
          refine r_iadd dX9_readGuard_105 ?_
          refine r_iconst (3) dX9_readGuard_106 (by decide) ?_
          refine r_iadd dX9_readGuard_107 ?_
          refine r_iconst (1) dX9_readGuard_108 (by decide) ?_
          refine q_callV2 (cv_X9_sets ml_X9_220) hW kc_723 (by decide) rfl ⟨rfl, rfl⟩ rfl (Nat.le_of_ble_eq_true rfl) dX9_readGuard_109 (c_X9_sets hW hm hu (by rw [h0, hmu hm0]) (k := 103 + 4 * t) (by rw [ht, show (4 : Int32) = nI 4 from rfl, pk_mul, show (100 : Int32) = nI 100 from rfl, nI_add, show (3 : Int32) = nI 3 from rfl, nI_add]; exact congrArg nI (by omega)) (by omega)) (fun v_109 h_109 q_109 => ?_)
          obtain ⟨rfl, eP, hm⟩ := q_109
          refine r_iconst (1) dX9_readGuard_112 (by decide) ?_
          refine r_zret dX9_readGuard_113 rfl (by decide) ⟨Nat.zero_le _, Nat.zero_le _⟩ ?_
          have hU : prU b n (tE b n p) f = upd f (103 + 4 * t) 1 := by unfold prU prF; rw [if_pos hN, ent]
          rw [hne, (nm_0 hN).1, hU]
          refine Rsl.good (((eA.wk (fun i q => SRp9 q)).tr (eK.wk (fun i q => by unfold SRp; omega))).tr (eP.wk (fun i q => SRpM q))) ((oA.tr oK).tr (OthF.of eP (by unfold SM; omega))) (hr2.cg eP (by unfold SM; omega) (fun k _ _ => by rw [eP.I (by unfold SM; omega)]) (by rw [eP.I (by unfold SM; omega)])) hm ?_
          rw [eP.I (by unfold SM; omega), tK, t23]
          exact hT1
        · refine r_iconst (0) dX9_readGuard_92 (by decide) ?_
          refine r_zret dX9_readGuard_93 rfl (by decide) ⟨Nat.zero_le _, Nat.zero_le _⟩ ?_
          have hN : nmC b n (tE b n p) 0 (f 0 - 1) ≠ 0 := of_decide_eq_false (bI_0.mp c_89)
          rw [hne, nm_1 hN]
          exact Rsl.bad ((eA.wk (fun i q => SRp9 q)).tr (eK.wk (fun i q => by unfold SRp; omega))) (oA.tr oK) hN (bK hN)
      · refine r_aload_n dX9_readGuard_44 rfl ?_
        refine q_getI fl_X9_179 hW kc_723 rfl dX9_readGuard_45 ?_
        rw [l21 ((tkR_e hk6 hk4 (j := 2) (by decide)).mp c_33)]
        refine r_aload_n dX9_readGuard_48 rfl ?_
        refine r_iload_n dX9_readGuard_49 rfl ?_
        refine r_iconst (0) dX9_readGuard_50 (by decide) ?_
        refine q_callV2 (cv_X9_of ml_X9_81) hW kc_723 (by decide) rfl ⟨rfl, rfl⟩ rfl (Nat.le_of_ble_eq_true rfl) dX9_readGuard_51 (c_X9_of hW hm hu h01 kn_0 (by decide)) (fun v_51 h_51 q_51 => ?_)
        obtain ⟨rfl, z9⟩ := q_51
        replace z9 := z9.symm
        subst z9
        refine r_icmp_ge 75 dX9_readGuard_54 (by decide) (fun c_54 => ?_) (fun c_54 => ?_)
        · first
            | skip
          have hne : gdE b n m p f = nmS b n (0, tE b n p) 0 (f 0 - 1) := by
            unfold gdE prE
            rw [if_neg (by omega)]
            refine if_neg (fun z => ?_)
            obtain ⟨z1, z2⟩ := z
            have hC2 : tC b n (tE b n p) = 2 := by
              unfold nmC at z1
              split at z1
              · next y => exact y
              · exact absurd z1 (by decide)
            obtain ⟨hk2, hl3⟩ := tC_2.mp hC2
            obtain ⟨t', t9', ht'⟩ := tV_nat hk2
            have hta' : t' < a := (nmC_pr a3 a2' hC2 ht' t9').mp z1
            first
              | exact c_33 ((tkR_e hk6 hk4 (j := 2) (by decide)).mpr hk2)
              | (have := (nI_leI (a := 4) (by decide) (by omega)).mp c_41
                 omega)
              | (rw [a3, ht'] at c_54
                 have := (nI_leI (by omega) (by omega)).mp c_54
                 omega)
              | (have y := of_decide_eq_false (bI_0.mp c_66)
                 exact y (by rw [← ent]; exact z2))
          refine r_aload_n dX9_readGuard_75 rfl ?_
          refine r_iconst (0) dX9_readGuard_76 (by decide) ?_
          refine r_iconst (0) dX9_readGuard_77 (by decide) ?_
          refine r_aload_n dX9_readGuard_78 rfl ?_
          refine r_iload_n dX9_readGuard_79 rfl ?_
          refine r_iconst (0) dX9_readGuard_80 (by decide) ?_
          refine q_callV2 (cv_X9_of ml_X9_81) hW kc_723 (by decide) rfl ⟨rfl, rfl⟩ rfl (Nat.le_of_ble_eq_true rfl) dX9_readGuard_81 (c_X9_of hW hm hu h01 kn_0 (by decide)) (fun v_81 h_81 q_81 => ?_)
          obtain ⟨rfl, z9⟩ := q_81
          replace z9 := z9.symm
          subst z9
          refine r_iconst (1) dX9_readGuard_84 (by decide) ?_
          refine r_isub dX9_readGuard_85 ?_
          refine q_callV3 (cv_X9_takes ml_X9_211) hW kc_723 (by decide) rfl ⟨rfl, rfl⟩ rfl (Nat.le_of_ble_eq_true rfl) dX9_readGuard_86 (c_X9_takes hW hr1 kn_0 (by decide)) (fun v_86 h_86 q_86 => ?_)
          obtain ⟨rfl, eK, oK, tK, gK, bK⟩ := q_86
          have hW := eK.W hW
          refine r_if_ne 94 dX9_readGuard_89 (by decide) (fun c_89 => ?_) (fun c_89 => ?_)
          · have hN : nmC b n (tE b n p) 0 (f 0 - 1) = 0 := of_decide_eq_true (bI_1.mp c_89)
            obtain ⟨g5, hr2⟩ := gK hN
            have hm := hm.cgS eK (by decide) (by decide)
            have hC2 : tC b n (tE b n p) = 2 := by
              have z1 := hN
              unfold nmC at z1
              split at z1
              · next y => exact y
              · exact absurd z1 (by decide)
            obtain ⟨t, t9, ht⟩ := tV_nat (tC_2.mp hC2).1
            have hta : t < a := (nmC_pr a3 a2' hC2 ht t9).mp hN
            have ent : nn (tV b n (tE b n p)) = t := by rw [ht]; exact nn_I (by omega)
            refine r_aload_n dX9_readGuard_94 rfl ?_
            refine r_bipush (100) dX9_readGuard_95 (by decide) ?_
            refine r_iconst (4) dX9_readGuard_97 (by decide) ?_
            refine r_aload_n dX9_readGuard_98 rfl ?_
            refine q_getR fl_X9_48 hW kc_723 rfl (kl_9_24 hW) (by decide) dX9_readGuard_99 ?_
            refine r_iconst (0) dX9_readGuard_102 (by decide) ?_
            refine q_iald hW kc_735 kn_0 (by decide) (by decide) dX9_readGuard_103 ?_
            rw [show aI h_86 735 0 = tV b n (tE b n p) from by rw [g5, pk_us]]
            refine r_imul dX9_readGuard_104 ?_
            refine r_iadd dX9_readGuard_105 ?_
            refine r_iconst (3) dX9_readGuard_106 (by decide) ?_
            refine r_iadd dX9_readGuard_107 ?_
            refine r_iconst (1) dX9_readGuard_108 (by decide) ?_
            refine q_callV2 (cv_X9_sets ml_X9_220) hW kc_723 (by decide) rfl ⟨rfl, rfl⟩ rfl (Nat.le_of_ble_eq_true rfl) dX9_readGuard_109 (c_X9_sets hW hm hu (by rw [h0, hmu hm0]) (k := 103 + 4 * t) (by rw [ht, show (4 : Int32) = nI 4 from rfl, pk_mul, show (100 : Int32) = nI 100 from rfl, nI_add, show (3 : Int32) = nI 3 from rfl, nI_add]; exact congrArg nI (by omega)) (by omega)) (fun v_109 h_109 q_109 => ?_)
            obtain ⟨rfl, eP, hm⟩ := q_109
            refine r_iconst (1) dX9_readGuard_112 (by decide) ?_
            refine r_zret dX9_readGuard_113 rfl (by decide) ⟨Nat.zero_le _, Nat.zero_le _⟩ ?_
            have hU : prU b n (tE b n p) f = upd f (103 + 4 * t) 1 := by unfold prU prF; rw [if_pos hN, ent]
            rw [hne, (nm_0 hN).1, hU]
            refine Rsl.good (((eA.wk (fun i q => SRp9 q)).tr (eK.wk (fun i q => by unfold SRp; omega))).tr (eP.wk (fun i q => SRpM q))) ((oA.tr oK).tr (OthF.of eP (by unfold SM; omega))) (hr2.cg eP (by unfold SM; omega) (fun k _ _ => by rw [eP.I (by unfold SM; omega)]) (by rw [eP.I (by unfold SM; omega)])) hm ?_
            rw [eP.I (by unfold SM; omega), tK, t23]
            exact hT1
          · refine r_iconst (0) dX9_readGuard_92 (by decide) ?_
            refine r_zret dX9_readGuard_93 rfl (by decide) ⟨Nat.zero_le _, Nat.zero_le _⟩ ?_
            have hN : nmC b n (tE b n p) 0 (f 0 - 1) ≠ 0 := of_decide_eq_false (bI_0.mp c_89)
            rw [hne, nm_1 hN]
            exact Rsl.bad ((eA.wk (fun i q => SRp9 q)).tr (eK.wk (fun i q => by unfold SRp; omega))) (oA.tr oK) hN (bK hN)
        · have hk2 : tK b n (tE b n p) = 2 := (tkR_e hk6 hk4 (j := 2) (by decide)).mp c_33
          obtain ⟨t, t9, ht⟩ := tV_nat hk2
          have ent : nn (tV b n (tE b n p)) = t := by rw [ht]; exact nn_I (by omega)
          have hta : t < a := by
            rw [a3, ht] at c_54
            exact (nI_ltI (by omega) (by omega)).mp (i_lt.mp c_54)
          refine r_aload_n dX9_readGuard_57 rfl ?_
          refine r_iload_n dX9_readGuard_58 rfl ?_
          refine r_aload_n dX9_readGuard_59 rfl ?_
          refine q_getI fl_X9_179 hW kc_723 rfl dX9_readGuard_60 ?_
          rw [l21 hk2]
          refine q_callV2 (cv_X9_isGuarded ml_X9_95) hW kc_723 (by decide) rfl ⟨rfl, rfl⟩ rfl (Nat.le_of_ble_eq_true rfl) dX9_readGuard_63 (c_X9_isGuarded hW hm hu h01 ht (by omega)) (fun v_63 h_63 q_63 => ?_)
          obtain ⟨rfl, z9⟩ := q_63
          replace z9 := z9.symm
          subst z9
          refine r_if_eq 75 dX9_readGuard_66 (by decide) (fun c_66 => ?_) (fun c_66 => ?_)
          · first
              | skip
            have hne : gdE b n m p f = nmS b n (0, tE b n p) 0 (f 0 - 1) := by
              unfold gdE prE
              rw [if_neg (by omega)]
              refine if_neg (fun z => ?_)
              obtain ⟨z1, z2⟩ := z
              have hC2 : tC b n (tE b n p) = 2 := by
                unfold nmC at z1
                split at z1
                · next y => exact y
                · exact absurd z1 (by decide)
              obtain ⟨hk2, hl3⟩ := tC_2.mp hC2
              obtain ⟨t', t9', ht'⟩ := tV_nat hk2
              have hta' : t' < a := (nmC_pr a3 a2' hC2 ht' t9').mp z1
              first
                | exact c_33 ((tkR_e hk6 hk4 (j := 2) (by decide)).mpr hk2)
                | (have := (nI_leI (a := 4) (by decide) (by omega)).mp c_41
                   omega)
                | (rw [a3, ht'] at c_54
                   have := (nI_leI (by omega) (by omega)).mp c_54
                   omega)
                | (have y := of_decide_eq_false (bI_0.mp c_66)
                   exact y (by rw [← ent]; exact z2))
            refine r_aload_n dX9_readGuard_75 rfl ?_
            refine r_iconst (0) dX9_readGuard_76 (by decide) ?_
            refine r_iconst (0) dX9_readGuard_77 (by decide) ?_
            refine r_aload_n dX9_readGuard_78 rfl ?_
            refine r_iload_n dX9_readGuard_79 rfl ?_
            refine r_iconst (0) dX9_readGuard_80 (by decide) ?_
            refine q_callV2 (cv_X9_of ml_X9_81) hW kc_723 (by decide) rfl ⟨rfl, rfl⟩ rfl (Nat.le_of_ble_eq_true rfl) dX9_readGuard_81 (c_X9_of hW hm hu h01 kn_0 (by decide)) (fun v_81 h_81 q_81 => ?_)
            obtain ⟨rfl, z9⟩ := q_81
            replace z9 := z9.symm
            subst z9
            refine r_iconst (1) dX9_readGuard_84 (by decide) ?_
            refine r_isub dX9_readGuard_85 ?_
            refine q_callV3 (cv_X9_takes ml_X9_211) hW kc_723 (by decide) rfl ⟨rfl, rfl⟩ rfl (Nat.le_of_ble_eq_true rfl) dX9_readGuard_86 (c_X9_takes hW hr1 kn_0 (by decide)) (fun v_86 h_86 q_86 => ?_)
            obtain ⟨rfl, eK, oK, tK, gK, bK⟩ := q_86
            have hW := eK.W hW
            refine r_if_ne 94 dX9_readGuard_89 (by decide) (fun c_89 => ?_) (fun c_89 => ?_)
            · have hN : nmC b n (tE b n p) 0 (f 0 - 1) = 0 := of_decide_eq_true (bI_1.mp c_89)
              obtain ⟨g5, hr2⟩ := gK hN
              have hm := hm.cgS eK (by decide) (by decide)
              have hC2 : tC b n (tE b n p) = 2 := by
                have z1 := hN
                unfold nmC at z1
                split at z1
                · next y => exact y
                · exact absurd z1 (by decide)
              obtain ⟨t, t9, ht⟩ := tV_nat (tC_2.mp hC2).1
              have hta : t < a := (nmC_pr a3 a2' hC2 ht t9).mp hN
              have ent : nn (tV b n (tE b n p)) = t := by rw [ht]; exact nn_I (by omega)
              refine r_aload_n dX9_readGuard_94 rfl ?_
              refine r_bipush (100) dX9_readGuard_95 (by decide) ?_
              refine r_iconst (4) dX9_readGuard_97 (by decide) ?_
              refine r_aload_n dX9_readGuard_98 rfl ?_
              refine q_getR fl_X9_48 hW kc_723 rfl (kl_9_24 hW) (by decide) dX9_readGuard_99 ?_
              refine r_iconst (0) dX9_readGuard_102 (by decide) ?_
              refine q_iald hW kc_735 kn_0 (by decide) (by decide) dX9_readGuard_103 ?_
              rw [show aI h_86 735 0 = tV b n (tE b n p) from by rw [g5, pk_us]]
              refine r_imul dX9_readGuard_104 ?_
              refine r_iadd dX9_readGuard_105 ?_
              refine r_iconst (3) dX9_readGuard_106 (by decide) ?_
              refine r_iadd dX9_readGuard_107 ?_
              refine r_iconst (1) dX9_readGuard_108 (by decide) ?_
              refine q_callV2 (cv_X9_sets ml_X9_220) hW kc_723 (by decide) rfl ⟨rfl, rfl⟩ rfl (Nat.le_of_ble_eq_true rfl) dX9_readGuard_109 (c_X9_sets hW hm hu (by rw [h0, hmu hm0]) (k := 103 + 4 * t) (by rw [ht, show (4 : Int32) = nI 4 from rfl, pk_mul, show (100 : Int32) = nI 100 from rfl, nI_add, show (3 : Int32) = nI 3 from rfl, nI_add]; exact congrArg nI (by omega)) (by omega)) (fun v_109 h_109 q_109 => ?_)
              obtain ⟨rfl, eP, hm⟩ := q_109
              refine r_iconst (1) dX9_readGuard_112 (by decide) ?_
              refine r_zret dX9_readGuard_113 rfl (by decide) ⟨Nat.zero_le _, Nat.zero_le _⟩ ?_
              have hU : prU b n (tE b n p) f = upd f (103 + 4 * t) 1 := by unfold prU prF; rw [if_pos hN, ent]
              rw [hne, (nm_0 hN).1, hU]
              refine Rsl.good (((eA.wk (fun i q => SRp9 q)).tr (eK.wk (fun i q => by unfold SRp; omega))).tr (eP.wk (fun i q => SRpM q))) ((oA.tr oK).tr (OthF.of eP (by unfold SM; omega))) (hr2.cg eP (by unfold SM; omega) (fun k _ _ => by rw [eP.I (by unfold SM; omega)]) (by rw [eP.I (by unfold SM; omega)])) hm ?_
              rw [eP.I (by unfold SM; omega), tK, t23]
              exact hT1
            · refine r_iconst (0) dX9_readGuard_92 (by decide) ?_
              refine r_zret dX9_readGuard_93 rfl (by decide) ⟨Nat.zero_le _, Nat.zero_le _⟩ ?_
              have hN : nmC b n (tE b n p) 0 (f 0 - 1) ≠ 0 := of_decide_eq_false (bI_0.mp c_89)
              rw [hne, nm_1 hN]
              exact Rsl.bad ((eA.wk (fun i q => SRp9 q)).tr (eK.wk (fun i q => by unfold SRp; omega))) (oA.tr oK) hN (bK hN)
          · refine r_aload_n dX9_readGuard_69 rfl ?_
            refine r_iconst (3) dX9_readGuard_70 (by decide) ?_
            refine q_callV1 (cv_X9_failsAt ml_X9_204) hW kc_723 (by decide) rfl ⟨rfl, rfl⟩ rfl (Nat.le_of_ble_eq_true rfl) dX9_readGuard_71 (c_X9_failsAt (c := 3) hW kn_3 hr1.2.2.1 hr1.2.1.1) (fun v_71 h_71 q_71 => ?_)
            obtain ⟨rfl, eF, f17, f18, fF⟩ := q_71
            refine r_zret dX9_readGuard_74 rfl (by decide) ⟨Nat.zero_le _, Nat.zero_le _⟩ ?_
            have hl3 : tE b n (tE b n p) - tS b n (tE b n p) < 4 := (nI_ltI (by omega) (by decide)).mp (i_lt.mp c_41)
            have hC2 : tC b n (tE b n p) = 2 := tC_2.mpr ⟨hk2, by omega⟩
            have hE : gdE b n m p f = (3, tS b n (tE b n p)) := by
              unfold gdE prE
              rw [if_neg (by omega)]
              exact if_pos ⟨(nmC_pr a3 a2' hC2 ht t9).mpr hta, by rw [ent]; exact of_decide_eq_true (bI_1.mp c_66)⟩
            rw [hE]
            exact Rsl.bad ((eA.wk (fun i q => SRp9 q)).tr (eF.wk (fun i q => SRp9 q))) (oA.tr (fun k hk => fF k (by omega) (by omega))) (by show ¬ (3 : Nat) = 0; decide) ⟨f17, f18⟩
  · refine r_aload_n dX9_readGuard_9 rfl ?_
    refine r_iconst (1) dX9_readGuard_10 (by decide) ?_
    refine q_callV1 (cv_X9_failsAt ml_X9_204) hW kc_723 (by decide) rfl ⟨rfl, rfl⟩ rfl (Nat.le_of_ble_eq_true rfl) dX9_readGuard_11 (c_X9_failsAt (c := 1) hW kn_1 hr.2.2.1 hr.2.1.1) (fun v_11 h_11 q_11 => ?_)
    obtain ⟨rfl, eF, f17, f18, fF⟩ := q_11
    refine r_zret dX9_readGuard_14 rfl (by decide) ⟨Nat.zero_le _, Nat.zero_le _⟩ ?_
    have hE : gdE b n m p f = (1, tS b n p) := if_pos ((nI_eqI (a := m) (b := 0) (by omega) (by decide)).mp c_6)
    rw [hE]
    exact Rsl.bad (eF.wk (fun i q => SRp9 q)) (fun k hk => fF k (by omega) (by omega)) (by show ¬ (1 : Nat) = 0; decide) ⟨f17, f18⟩
