-- the class: the setup read, loadPools
theorem aR_sR {h : AH} {x i : Nat} (hi : i ≠ 3) : aR (sR h 3 0 x) i = aR h i := if_neg hi
theorem World.sR3 {h : AH} {x : Nat} (hW : World h) : World (sR h 3 0 x) := by
  have n3 : ∀ i c, kd i c → c ≠ 5 → i ≠ 3 := fun i c hk hc e => by
    subst e
    exact hc (hk.1.symm.trans (show wK 3 = 5 from rfl))
  obtain ⟨w1, w2, z0, z1, z2, z3, z4, z5, z6, z7, z8, z9⟩ := hW
  have e : ∀ i, i ≠ 3 → (sR h 3 0 x).2.2.2.1 i = h.2.2.2.1 i := fun i hi => aR_sR hi
  refine ⟨w1, w2, fun i hi => ?_, fun i hi => ?_, fun i hi => ?_, fun i hi => ?_, fun i hi => ?_, fun i hi => ?_, fun i hi => ?_, ?_, ?_, ?_⟩
  · rw [e i (n3 i _ hi (by decide))]; exact z0 i hi
  · rw [e i (n3 i _ hi (by decide))]; exact z1 i hi
  · rw [e i (n3 i _ hi (by decide))]; exact z2 i hi
  · rw [e i (n3 i _ hi (by decide))]; exact z3 i hi
  · rw [e i (n3 i _ hi (by decide))]; exact z4 i hi
  · rw [e i (n3 i _ hi (by decide))]; exact z5 i hi
  · rw [e i (n3 i _ hi (by decide))]; exact z6 i hi
  · rw [e 1 (by decide)]; exact z7
  · rw [e 5 (by decide)]; exact z8
  · rw [e 723 (by decide)]; exact z9
section PX3
variable {l : Launch} {G : GC} {M : MD} {R : Room} {Fi : CX → State → Prop} {pc : Nat} {ls : List (Option Value)} {st : List Value} {cs : Nat × Nat} {h : AH} {K : Option Value → AH → Prop} {X : String → AH → Prop}
theorem q_putX {ix x : Nat} (hf : FL (mY M).cls ix 5 0) (hW : World h) (h0 : x ≠ 0) (hd : decode (mC M) pc = .ok (.putfield ix, 3)) (kk : PW l G M R Fi NT (pc + 3) ls st cs (sR h 3 0 x)) : PW l G M R Fi NT pc ls (.ref x :: .ref 3 :: st) cs h := r_putR hf (hW.isK kc_3) rfl h0 rfl hd kk
theorem q_alenb {i n : Nat} (hW : World h) (ha : ka i 10 n) (hd : decode (mC M) pc = .ok (.arraylength, 1)) (kk : PW l G M R Fi NT (pc + 1) ls (.int (nI n) :: st) cs h) : PW l G M R Fi NT pc ls (.ref i :: st) cs h :=
  r_alen (c := 10) (t0 := 0) (cA := gY G 10) (x := (aL h i, .inl (aI h i))) (hW.isA ha) (by decide) rfl (hW.isA ha).2 rfl hd kk
end PX3
set_option maxRecDepth 100000 in
set_option maxHeartbeats 1600000 in
theorem c_X5_readSetup {l9 : Launch} {G : GC} {h : AH} {b : Nat → Int32} {n : Nat} (hW : World h) (hb : aI h 2 = b) (hn7 : n ≤ 700) (hG : GOK G) : PM l9 G mX5_readSetup NT NT [.ref 3, .ref 2, .int (nI n), .ref 62] h (fun v h' => v = none ∧ eqx (sR h 3 0 2) h' (fun i => i = 3 ∨ SB 62 i) ∧ RdS h' b n (rdS b n).1 ∧ ((rdS b n).1.1 = 0 → StR h' 62 (rdS b n).2 ZG ∧ PI (rdS b n).2 ∧ 0 < nn ((rdS b n).2 0))) noX := by
  refine PM.of (by decide +kernel) rfl rfl (Nat.le_of_ble_eq_true rfl) (fun hst _ => ?_)
  refine r_aload_n dX5_readSetup_0 rfl ?_
  refine r_aload_n dX5_readSetup_1 rfl ?_
  refine q_putX fl_X5_9 hW (by decide) dX5_readSetup_2 ?_
  have hW : World (sR h 3 0 2) := hW.sR3
  refine r_aload_n dX5_readSetup_5 rfl ?_
  refine r_iload_n dX5_readSetup_6 rfl ?_
  refine r_aload_n dX5_readSetup_7 rfl ?_
  refine q_alenb hW kc_2 dX5_readSetup_8 ?_
  refine q_min mm_X5_15 rfl (Nat.le_of_ble_eq_true rfl) dX5_readSetup_9 ?_
  rw [show imn (nI n) (nI 700) = nI n from by rw [imn_I (by omega) (by decide), Nat.min_eq_left hn7]]
  refine q_putI fl_X5_21 hW kc_3 rfl rfl dX5_readSetup_12 ?_
  refine r_aload_n dX5_readSetup_15 rfl ?_
  refine r_iconst (0) dX5_readSetup_16 (by decide) ?_
  refine q_putI fl_X5_25 hW kc_3 rfl rfl dX5_readSetup_17 ?_
  refine r_aload_n dX5_readSetup_20 rfl ?_
  refine r_iconst (0) dX5_readSetup_21 (by decide) ?_
  refine q_putI fl_X5_28 hW kc_3 rfl rfl dX5_readSetup_22 ?_
  refine r_aload_n dX5_readSetup_25 rfl ?_
  refine r_iconst (-1) dX5_readSetup_26 (by decide) ?_
  refine q_putI fl_X5_31 hW kc_3 rfl rfl dX5_readSetup_27 ?_
  have hr0 : RdH (sI (sI (sI (sI (sR h 3 0 2) 3 1 (nI n)) 3 4 0) 3 7 0) 3 8 (-1)) b n := ⟨by show va_up (aR h 3) 0 2 0 = 2; exact va_up_self _ _ _, hb, rfl, hn7⟩
  have hW : World (sI (sI (sI (sI (sR h 3 0 2) 3 1 (nI n)) 3 4 0) 3 7 0) 3 8 (-1)) := wsI (wsI (wsI (wsI hW)))
  have e0 : eqx (sR h 3 0 2) (sI (sI (sI (sI (sR h 3 0 2) 3 1 (nI n)) 3 4 0) 3 7 0) 3 8 (-1)) S3 := ((((eqx.rf (S := S3)).sI rfl).sI rfl).sI rfl).sI rfl
  have hs0 : RdS (sI (sI (sI (sI (sR h 3 0 2) 3 1 (nI n)) 3 4 0) 3 7 0) 3 8 (-1)) b n (0, 0) := ⟨hr0, ⟨rfl, fun _ => ⟨rfl, rfl⟩, fun q => absurd rfl q⟩, Nat.le_of_ble_eq_true rfl, Nat.zero_le _⟩
  refine r_aload_n dX5_readSetup_30 rfl ?_
  refine q_callV0 (cv_X6_clear ml_X5_34) hW kc_62 (by decide) rfl ⟨rfl, rfl⟩ rfl (Nat.le_of_ble_eq_true rfl) dX5_readSetup_31 (c_X6_clear hW kc_62) (fun v_31 h_31 q_31 => ?_)
  obtain ⟨rfl, eC, hrw⟩ := q_31
  have hW := eC.W hW
  have hs := hs0.cg eC (by unfold SB; omega) (by unfold SB; omega)
  have he := (e0.wk (T := (fun i => i = 3 ∨ SB 62 i)) (fun i q => Or.inl q)).tr (eC.wk (fun i q => Or.inr q))
  refine r_iconst (0) dX5_readSetup_34 (by decide) ?_
  refine r_istore (ls2 := [_, _, _, some _, _]) dX5_readSetup_35 (by decide) rfl ?_
  refine loopN (P := fun i => ∀ (H : AH) (ts : Nat → Bool) (w : Nat → Int32) (p : Nat), i ≤ p → p ≤ n → rdS b n = rdA b n (n + 1 - i) ts w p → World H → eqx (sR h 3 0 2) H (fun i => i = 3 ∨ SB 62 i) → RdS H b n (0, p) → StR H 62 w ZG → PI w → TI ts w → RgF H w → (0 < nn (w 0) → TbR (aI H 3 6) ts) → PW l9 G mX5_readSetup _ _ NT 37 [some (.ref 3), some (.ref 2), some (.int (nI n)), some (.ref 62), some (.int (nI i))] [] (0, 0) H) (n + 1) (fun i ih H ts w p hip hp hL hW he hs hrw hP hTI hF hTb => ?_) 0 _ noT noW 0 (Nat.le_refl _) (Nat.zero_le _) rfl hW he hs hrw pi_0 (fun q => absurd q (by show ¬ 0 < 0; decide)) (fun q => absurd q (by show ¬ 0 < 0; decide)) (fun q => absurd q (by show ¬ 0 < 0; decide))
  refine r_iload dX5_readSetup_37 rfl ?_
  refine r_aload_n dX5_readSetup_39 rfl ?_
  skip
  refine q_getI fl_X5_21 hW kc_3 rfl dX5_readSetup_40 ?_
  rw [hs.1.2.2.1]
  refine r_icmp_gt 79 dX5_readSetup_43 (by decide) (fun c_43 => ?_) (fun c_43 => ?_)
  · exact absurd ((nI_ltI (by have := hs.1.2.2.2; omega) (by have := hs.1.2.2.2; omega)).mp c_43) (by omega)
  · have hn7 := hs.1.2.2.2
    have hk6 := tK_lt (b := b) (n := n) (p := p)
    have hc6 := tC_lt (b := b) (n := n) (p := p)
    have hf1 : n + 1 - i = (n - i) + 1 := by omega
    rw [hf1] at hL
    refine r_aload_n dX5_readSetup_46 rfl ?_
    refine q_callV0 (cv_X5_readToken ml_X5_39) hW kc_3 (by decide) rfl ⟨rfl, rfl⟩ rfl (Nat.le_of_ble_eq_true rfl) dX5_readSetup_47 (c_X5_readToken hW hs.1 (hs.2.1.2.1 rfl).1 hp) (fun v_47 h_47 q_47 => ?_)
    obtain ⟨rfl, eT, ht, fT⟩ := q_47
    have hW := eT.W hW
    have hr := hs.1.cg eT (fT 1 (by decide) (by decide) (by decide) (by decide))
    have h7 : aI h_47 3 7 = nI 0 := (fT 7 (by decide) (by decide) (by decide) (by decide)).trans hs.2.1.1
    have h8 : aI h_47 3 8 = -1 := (fT 8 (by decide) (by decide) (by decide) (by decide)).trans (hs.2.1.2.1 rfl).2
    have hrw := hrw.eqx eT hP.n4.2.2 (fun i i1 i2 q => by have : i = 3 := q; omega)
    have he := he.tr (eT.wk (T := (fun i => i = 3 ∨ SB 62 i)) (fun i q => Or.inl q))
    have hF : RgF h_47 w := fun q u hu => by rw [eT.I (by show ¬ _ = 3; omega)]; exact hF q u hu
    have hTb : 0 < nn (w 0) → TbR (aI h_47 3 6) ts := fun q => by rw [fT 6 (by decide) (by decide) (by decide) (by decide)]; exact hTb q
    refine r_aload_n dX5_readSetup_50 rfl ?_
    refine q_getI fl_X5_42 hW kc_3 rfl dX5_readSetup_51 ?_
    rw [ht.1]
    refine r_if_ne 60 dX5_readSetup_54 (by decide) (fun c_54 => ?_) (fun c_54 => ?_)
    · have hk0 : ¬ tK b n p = 0 := fun q => c_54 (by rw [(tC_k (by decide) (by decide)).mpr q]; rfl)
      have hL2 : rdS b n = if (stmE b n ts w p).1 = 0 then rdA b n (n - i) (stmT b n ts p) (stmW b n w p) (stmE b n ts w p).2 else (stmE b n ts w p, w) := hL.trans (if_neg hk0)
      refine r_aload_n dX5_readSetup_60 rfl ?_
      refine r_aload_n dX5_readSetup_61 rfl ?_
      refine q_callV1 (cv_X5_readStatement ml_X5_45) hW kc_3 (by decide) rfl ⟨rfl, rfl⟩ rfl (Nat.le_of_ble_eq_true rfl) dX5_readSetup_62 (c_X5_readStatement hW hr ht h7 h8 hp hG hrw hP hF hTb) (fun v_62 h_62 q_62 => ?_)
      obtain ⟨rfl, eS, sS, kS⟩ := q_62
      have hW := eS.W hW
      have he := he.tr eS
      refine r_aload_n dX5_readSetup_65 rfl ?_
      refine q_getI fl_X5_28 hW kc_3 rfl dX5_readSetup_66 ?_
      rw [sS.2.1.1]
      have he10 : (stmE b n ts w p).1 < 10 := sS.2.2.1
      refine r_if_eq 73 dX5_readSetup_69 (by decide) (fun c_69 => ?_) (fun c_69 => ?_)
      · refine r_iinc (1) (by decide) (ls2 := [_, _, _, some _, _]) dX5_readSetup_73 rfl (by decide) rfl ?_
        refine r_goto 37 dX5_readSetup_76 (by decide) ?_
        have q0 : (stmE b n ts w p).1 = 0 := (nI_z (by omega)).mp c_69
        rw [if_pos q0] at hL2
        obtain ⟨k1, k2, k3⟩ := kS q0
        obtain ⟨k4, k5, k6⟩ := stm_pi hP hTI q0
        have hgo := stmE_go hk0 q0
        have hple : (stmE b n ts w p).2 ≤ n := sS.2.2.2
        rw [nI_1]
        refine ih (by omega) _ _ _ _ (by omega) hple (by rw [show n + 1 - (i + 1) = n - i from by omega]; exact hL2) hW he ?_ k1 k4 k5 k2 (fun _ => k3)
        rw [show ((0, (stmE b n ts w p).2) : ER) = stmE b n ts w p from by rw [← q0]]
        exact sS
      · refine r_vret dX5_readSetup_72 rfl ⟨Nat.zero_le _, Nat.zero_le _⟩ ?_
        have q0 : ¬ (stmE b n ts w p).1 = 0 := fun q => c_69 (by rw [q]; rfl)
        rw [if_neg q0] at hL2
        rw [hL2]
        exact ⟨rfl, he, sS, fun q => absurd q q0⟩
    · refine r_goto 79 dX5_readSetup_57 (by decide) ?_
      refine r_aload_n dX5_readSetup_79 rfl ?_
      refine q_getI fl_X5_49 hW kc_62 rfl dX5_readSetup_80 ?_
      rw [show aI h_47 62 1 = w 0 from hrw.1]
      refine r_if_ne 91 dX5_readSetup_83 (by decide) (fun c_83 => ?_) (fun c_83 => ?_)
      · refine r_vret dX5_readSetup_91 rfl ⟨Nat.zero_le _, Nat.zero_le _⟩ ?_
        have hk0 : tK b n p = 0 := (tC_k (by decide) (by decide)).mp ((nI_z (by omega)).mp c_54)
        have hL2 : rdS b n = ((if nn (w 0) = 0 then (5, tS b n p) else (0, tE b n p)), w) := hL.trans (if_pos hk0)
        have hw0 := hP.n4
        first
          | (have q0 : ¬ nn (w 0) = 0 := fun q => c_83 (by rw [hw0.1, q]; rfl)
             rw [if_neg q0] at hL2
             rw [hL2]
             exact ⟨rfl, he, RdS.tk hr ht h7 h8 hp, fun _ => ⟨hrw, hP, by show 0 < nn (w 0); omega⟩⟩)
          | (have q0 : nn (w 0) = 0 := by rw [c_83]; rfl
             rw [if_pos q0] at hL2
             rw [hL2]
             exact ⟨rfl, he.tr (eF.wk (fun i q => Or.inl q)), RdS.er hr eF fF g7 g8 (by decide) (Nat.le_of_ble_eq_true rfl) (tS_le hp), fun q => absurd q (by show ¬ (5 : Nat) = 0; decide)⟩)
      · refine r_aload_n dX5_readSetup_86 rfl ?_
        refine r_iconst (5) dX5_readSetup_87 (by decide) ?_
        refine q_callV1 (cv_X5_fail ml_X5_52) hW kc_3 (by decide) rfl ⟨rfl, rfl⟩ rfl (Nat.le_of_ble_eq_true rfl) dX5_readSetup_88 (c_X5_fail (c := 5) (e := (0, p)) (s := tS b n p) hW kn_5 (by decide) ht.2.1 h7 (Nat.le_of_ble_eq_true rfl)) (fun v_88 h_88 q_88 => ?_)
        obtain ⟨rfl, eF, fF, -, gF⟩ := q_88
        obtain ⟨g7, g8⟩ := gF rfl
        refine r_vret dX5_readSetup_91 rfl ⟨Nat.zero_le _, Nat.zero_le _⟩ ?_
        have hk0 : tK b n p = 0 := (tC_k (by decide) (by decide)).mp ((nI_z (by omega)).mp c_54)
        have hL2 : rdS b n = ((if nn (w 0) = 0 then (5, tS b n p) else (0, tE b n p)), w) := hL.trans (if_pos hk0)
        have hw0 := hP.n4
        first
          | (have q0 : ¬ nn (w 0) = 0 := fun q => c_83 (by rw [hw0.1, q]; rfl)
             rw [if_neg q0] at hL2
             rw [hL2]
             exact ⟨rfl, he, RdS.tk hr ht h7 h8 hp, fun _ => ⟨hrw, hP, by show 0 < nn (w 0); omega⟩⟩)
          | (have q0 : nn (w 0) = 0 := by rw [c_83]; rfl
             rw [if_pos q0] at hL2
             rw [hL2]
             exact ⟨rfl, he.tr (eF.wk (fun i q => Or.inl q)), RdS.er hr eF fF g7 g8 (by decide) (Nat.le_of_ble_eq_true rfl) (tS_le hp), fun q => absurd q (by show ¬ (5 : Nat) = 0; decide)⟩)

set_option maxRecDepth 100000 in
set_option maxHeartbeats 1600000 in
theorem c_X8_loadPools {l9 : Launch} {G : GC} {h : AH} {b : Nat → Int32} {n : Nat} (hW : World h) (hb : aI h 2 = b) (hn : aI h 1 1 = nI n) (hn7 : n ≤ 700) (hG : GOK G) : PM l9 G mX8_loadPools NT NT [.ref 1] h (fun v h' => World h' ∧ aD h' = aD h ∧ (∀ i, i ≠ 3 → aR h' i = aR h i) ∧ (∀ i, i ≠ 1 → i ≠ 3 → ¬ SB 7 i → ¬ SB 62 i → aI h' i = aI h i ∧ aJ h' i = aJ h i) ∧ (∀ k, k ≠ 1 → k ≠ 2 → k ≠ 3 → k ≠ 9 → k ≠ 11 → aI h' 1 k = aI h 1 k) ∧ aI h' 1 1 = 0 ∧ aI h' 1 2 = nI (rdS b n).1.1 ∧ aI h' 1 3 = (if (rdS b n).1.1 = 0 then -1 else nI (rdS b n).1.2) ∧ ((rdS b n).1.1 ≠ 0 → v = some (.int (-1)) ∧ aI h' 1 9 = aI h 1 9 ∧ aI h' 1 11 = aI h 1 11 ∧ ∀ i, SB 7 i → aI h' i = aI h i ∧ aJ h' i = aJ h i) ∧ ((rdS b n).1.1 = 0 → v = some (.int ((rdS b n).2 0)) ∧ StR h' 7 (rdS b n).2 ZG ∧ aI h' 1 9 = 0 ∧ aI h' 1 11 = 0 ∧ PI (rdS b n).2 ∧ 0 < nn ((rdS b n).2 0))) noX := by
  refine PM.of (by decide +kernel) rfl rfl (Nat.le_of_ble_eq_true rfl) (fun hst _ => ?_)
  refine r_aload_n dX8_loadPools_0 rfl ?_
  refine q_getR fl_X8_23 hW kc_1 rfl (kl_8_4 hW) (by decide) dX8_loadPools_1 ?_
  refine r_aload_n dX8_loadPools_4 rfl ?_
  refine q_getR fl_X8_9 hW kc_1 rfl (kl_8_0 hW) (by decide) dX8_loadPools_5 ?_
  refine r_aload_n dX8_loadPools_8 rfl ?_
  refine q_getI fl_X8_55 hW kc_1 rfl dX8_loadPools_9 ?_
  rw [hn]
  refine r_aload_n dX8_loadPools_12 rfl ?_
  refine q_getR fl_X8_41 hW kc_1 rfl (kl_8_7 hW) (by decide) dX8_loadPools_13 ?_
  refine q_callV3 (cv_X5_readSetup ml_X8_62) hW kc_3 (by decide) rfl ⟨rfl, rfl⟩ rfl (Nat.le_of_ble_eq_true rfl) dX8_loadPools_16 (c_X5_readSetup hW hb hn7 hG) (fun v_16 h_16 q_16 => ?_)
  obtain ⟨rfl, eS, hs, kS⟩ := q_16
  have hW := eS.W hW.sR3
  have hc10 : (rdS b n).1.1 < 10 := hs.2.2.1
  have h38 : aI h_16 3 8 = (if (rdS b n).1.1 = 0 then -1 else nI (rdS b n).1.2) := by
    split
    · next q => exact (hs.2.1.2.1 q).2
    · next q => exact hs.2.1.2.2 q
  have f1 : ∀ i, i ≠ 3 → ¬ SB 62 i → aI h_16 i = aI h i ∧ aJ h_16 i = aJ h i := fun i i1 i2 => eS.2.2 i (fun q => q.elim i1 i2)
  have fR : ∀ i, i ≠ 3 → aR h_16 i = aR h i := fun i i1 => by rw [eS.R]; exact aR_sR i1
  have fD : aD h_16 = aD h := eS.2.1
  refine r_aload_n dX8_loadPools_19 rfl ?_
  refine r_iconst (0) dX8_loadPools_20 (by decide) ?_
  refine q_putI fl_X8_55 hW kc_1 rfl rfl dX8_loadPools_21 ?_
  refine r_aload_n dX8_loadPools_24 rfl ?_
  refine r_aload_n dX8_loadPools_25 rfl ?_
  refine q_getR fl_X8_23 hW kc_1 rfl (kl_8_4 hW) (by decide) dX8_loadPools_26 ?_
  refine q_getI fl_X8_66 hW kc_3 rfl dX8_loadPools_29 ?_
  rw [show aI (sI h_16 1 1 0) 3 7 = nI (rdS b n).1.1 from by rw [sI_o (by decide)]; exact hs.2.1.1]
  refine q_putI fl_X8_13 hW kc_1 rfl rfl dX8_loadPools_32 ?_
  refine r_aload_n dX8_loadPools_35 rfl ?_
  refine r_aload_n dX8_loadPools_36 rfl ?_
  refine q_getR fl_X8_23 hW kc_1 rfl (kl_8_4 hW) (by decide) dX8_loadPools_37 ?_
  refine q_getI fl_X8_69 hW kc_3 rfl dX8_loadPools_40 ?_
  rw [show aI (sI (sI h_16 1 1 0) 1 2 (nI (rdS b n).1.1)) 3 8 = (if (rdS b n).1.1 = 0 then -1 else nI (rdS b n).1.2) from by rw [sI_o (by decide), sI_o (by decide), h38]]
  refine q_putI fl_X8_17 hW kc_1 rfl rfl dX8_loadPools_43 ?_
  refine r_aload_n dX8_loadPools_46 rfl ?_
  refine q_getI fl_X8_13 hW kc_1 rfl dX8_loadPools_47 ?_
  rw [show aI (sI (sI (sI h_16 1 1 0) 1 2 (nI (rdS b n).1.1)) 1 3 (if (rdS b n).1.1 = 0 then -1 else nI (rdS b n).1.2)) 1 2 = nI (rdS b n).1.1 from by rw [sI_k (by decide), sI_s]]
  refine r_if_eq 55 dX8_loadPools_50 (by decide) (fun c_50 => ?_) (fun c_50 => ?_)
  · have q0 : (rdS b n).1.1 = 0 := (nI_z (by omega)).mp c_50
    obtain ⟨k1, k2, k3⟩ := kS q0
    have hWA : World (sI (sI (sI h_16 1 1 0) 1 2 (nI (rdS b n).1.1)) 1 3 (if (rdS b n).1.1 = 0 then -1 else nI (rdS b n).1.2)) := wsI (wsI (wsI hW))
    have eA : eqx h_16 (sI (sI (sI h_16 1 1 0) 1 2 (nI (rdS b n).1.1)) 1 3 (if (rdS b n).1.1 = 0 then -1 else nI (rdS b n).1.2)) (fun i => i = 1) := (((eqx.rf (S := fun i => i = 1)).sI rfl).sI rfl).sI rfl
    have hrA := k1.eqx eA k2.n4.2.2 (fun i i1 i2 q => by have : i = 1 := q; omega)
    refine r_aload_n dX8_loadPools_55 rfl ?_
    refine q_getR fl_X8_37 hW kc_1 rfl (kl_8_6 hW) (by decide) dX8_loadPools_56 ?_
    refine r_aload_n dX8_loadPools_59 rfl ?_
    refine q_getR fl_X8_41 hW kc_1 rfl (kl_8_7 hW) (by decide) dX8_loadPools_60 ?_
    refine q_callV1 (cv_X6_copyFrom ml_X8_72) hW kc_7 (by decide) rfl ⟨rfl, rfl⟩ rfl (Nat.le_of_ble_eq_true rfl) dX8_loadPools_63 (c_X6_copyFrom hWA kc_7 kc_62 (by decide) hrA k2.n4 k2.1.1.f16) (fun v_63 h_63 q_63 => ?_)
    obtain ⟨rfl, e7, s7⟩ := q_63
    have hW := e7.W hWA
    refine r_aload_n dX8_loadPools_66 rfl ?_
    refine r_iconst (0) dX8_loadPools_67 (by decide) ?_
    refine q_putI fl_X8_76 hW kc_1 rfl rfl dX8_loadPools_68 ?_
    refine r_aload_n dX8_loadPools_71 rfl ?_
    refine r_iconst (0) dX8_loadPools_72 (by decide) ?_
    refine q_putZ fl_X8_79 hW kc_1 rfl (by decide) rfl dX8_loadPools_73 ?_
    refine r_aload_n dX8_loadPools_76 rfl ?_
    refine q_getR fl_X8_37 hW kc_1 rfl (kl_8_6 hW) (by decide) dX8_loadPools_77 ?_
    refine q_getI fl_X8_83 hW kc_7 rfl dX8_loadPools_80 ?_
    rw [show aI (sI (sI h_63 1 11 0) 1 9 0) 7 1 = (rdS b n).2 0 from by rw [sI_o (by decide), sI_o (by decide)]; exact s7.1]
    refine r_iret dX8_loadPools_83 rfl ⟨Nat.zero_le _, Nat.zero_le _⟩ ?_
    have nb : ¬ SB 62 1 := by unfold SB; omega
    have nb7 : ¬ SB 7 1 := by unfold SB; omega
    have eB : eqx h_63 (sI (sI h_63 1 11 0) 1 9 0) (fun i => i = 1) := ((eqx.rf (S := fun i => i = 1)).sI rfl).sI rfl
    have g1 : ∀ k, k ≠ 1 → k ≠ 2 → k ≠ 3 → aI h_63 1 k = aI h 1 k := fun k k1 k2 k3 => by
      rw [e7.I nb7, sI_k k3, sI_k k2, sI_k k1, (f1 1 (by decide) nb).1]
    refine ⟨eB.W hW, eB.2.1.trans (e7.2.1.trans (eA.2.1.trans fD)), fun i i3 => by rw [eB.R, e7.R, eA.R]; exact fR i i3, fun i i1 i3 i7 i62 => ?_, fun k k1 k2 k3 k9 k11 => ?_, ?_, ?_, ?_, fun q => absurd q0 q, fun _ => ⟨rfl, s7.eqx eB k2.n4.2.2 (fun i i1 i2 q => by have : i = 1 := q; omega), sI_s, ?_, k2, k3⟩⟩
    · exact ⟨(eB.I i1).trans ((e7.I i7).trans ((eA.I i1).trans (f1 i i3 i62).1)), (eB.J i1).trans ((e7.J i7).trans ((eA.J i1).trans (f1 i i3 i62).2))⟩
    · rw [sI_k k9, sI_k k11]; exact g1 k k1 k2 k3
    · rw [sI_k (by decide), sI_k (by decide), e7.I nb7, sI_k (by decide), sI_k (by decide), sI_s]
    · rw [sI_k (by decide), sI_k (by decide), e7.I nb7, sI_k (by decide), sI_s]
    · rw [sI_k (by decide), sI_k (by decide), e7.I nb7, sI_s]
    · rw [sI_k (by decide), sI_s]
  · refine r_iconst (-1) dX8_loadPools_53 (by decide) ?_
    refine r_iret dX8_loadPools_54 rfl ⟨Nat.zero_le _, Nat.zero_le _⟩ ?_
    have q0 : (rdS b n).1.1 ≠ 0 := fun q => c_50 (by rw [q]; rfl)
    have hWA : World (sI (sI (sI h_16 1 1 0) 1 2 (nI (rdS b n).1.1)) 1 3 (if (rdS b n).1.1 = 0 then -1 else nI (rdS b n).1.2)) := wsI (wsI (wsI hW))
    have eA : eqx h_16 (sI (sI (sI h_16 1 1 0) 1 2 (nI (rdS b n).1.1)) 1 3 (if (rdS b n).1.1 = 0 then -1 else nI (rdS b n).1.2)) (fun i => i = 1) := (((eqx.rf (S := fun i => i = 1)).sI rfl).sI rfl).sI rfl
    have nb : ¬ SB 62 1 := by unfold SB; omega
    refine ⟨hWA, eA.2.1.trans fD, fun i i3 => by rw [eA.R]; exact fR i i3, fun i i1 i3 i7 i62 => ?_, fun k k1 k2 k3 _ _ => ?_, ?_, ?_, sI_s, fun _ => ⟨rfl, ?_, ?_, fun i i7 => ?_⟩, fun q => absurd q q0⟩
    · exact ⟨(eA.I i1).trans (f1 i i3 i62).1, (eA.J i1).trans (f1 i i3 i62).2⟩
    · rw [sI_k k3, sI_k k2, sI_k k1, (f1 1 (by decide) nb).1]
    · rw [sI_k (by decide), sI_k (by decide), sI_s]
    · rw [sI_k (by decide), sI_s]
    · rw [sI_k (by decide), sI_k (by decide), sI_k (by decide), (f1 1 (by decide) nb).1]
    · rw [sI_k (by decide), sI_k (by decide), sI_k (by decide), (f1 1 (by decide) nb).1]
    · have i62 : ¬ SB 62 i := by unfold SB at *; omega
      have i1 : i ≠ 1 := by unfold SB at i7; omega
      have i3 : i ≠ 3 := by unfold SB at i7; omega
      exact ⟨(eA.I i1).trans (f1 i i3 i62).1, (eA.J i1).trans (f1 i i3 i62).2⟩
