-- bits of a row of flags
theorem bi_sh : ∀ l, l < 32 → ((1 : Int32) <<< (nI l &&& 31)).toBitVec = BitVec.twoPow 32 l := by decide +kernel
def bg (m : Int32) (j : Nat) : Bool := m.toBitVec.getLsbD j
theorem bi_and (m : Int32) {l : Nat} (hl : l < 32) : (m &&& ((1 : Int32) <<< (nI l &&& 31))) = 0 ↔ bg m l = false := by
  rw [← Int32.toBitVec_inj, Int32.toBitVec_and, bi_sh l hl, BitVec.and_twoPow]
  unfold bg
  cases h : m.toBitVec.getLsbD l with
  | true =>
    rw [if_pos rfl]
    refine ⟨fun q => ?_, fun q => absurd q (by decide)⟩
    have z := congrArg (fun y : BitVec 32 => y.getLsbD l) q
    simp [BitVec.getLsbD_twoPow, hl] at z
  | false => exact ⟨fun _ => rfl, fun _ => rfl⟩
theorem bi_or (m : Int32) {l j : Nat} (hl : l < 32) : bg (m ||| ((1 : Int32) <<< (nI l &&& 31))) j = (bg m j || decide (j = l)) := by
  unfold bg
  rw [Int32.toBitVec_or, bi_sh l hl, BitVec.getLsbD_or, BitVec.getLsbD_twoPow]
  congr 1
  by_cases e : j = l
  · subst e; simp [hl]
  · simp [e]; exact fun _ q => e q.symm
theorem bg_0 {j : Nat} : bg 0 j = false := by
  unfold bg
  simp
-- the class's reader: loads, protect, pool
theorem ldR_er {b : Nat → Int32} {n i : Nat} {e : ER} {f : Nat → Int32} (h : e.1 ≠ 0) : ∀ k, ldR b n k i e f = (e, f) := by
  have hs : smiS b n e = e := by unfold smiS; exact if_neg h
  intro k
  cases k with
  | zero => show (smiS b n e, f) = _; rw [hs]
  | succ k => show (if _ then _ else (smiS b n e, f)) = _; rw [if_neg (fun q => h q.1), hs]
theorem ldR_st {b : Nat → Int32} {n k i : Nat} {e : ER} {f : Nat → Int32} (h : e.1 = 0) (h2 : ¬ tC b n e.2 = 3) : ldR b n (k + 1) i e f = ldR b n k (i + 1) (nmS b n e 0 999) (ldU f i (vlS b n e 0 999)) := if_pos ⟨h, h2⟩
theorem ldR_3 {b : Nat → Int32} {n i : Nat} {e : ER} {f : Nat → Int32} (h : e.1 = 0) (h2 : tC b n e.2 = 3) : ∀ k, ldR b n k i e f = ((0, tE b n e.2), f) := by
  have hs : smiS b n e = (0, tE b n e.2) := by unfold smiS; rw [if_pos h, if_pos h2]
  intro k
  cases k with
  | zero => show (smiS b n e, f) = _; rw [hs]
  | succ k => show (if _ then _ else (smiS b n e, f)) = _; rw [if_neg (fun q => q.2 h2), hs]
theorem ldR_f {b : Nat → Int32} {n i : Nat} {e : ER} {f : Nat → Int32} (h : e.1 = 0) (h2 : ¬ tC b n e.2 = 3) : ldR b n 0 i e f = ((1, tS b n e.2), f) := by
  show (smiS b n e, f) = _
  unfold smiS
  rw [if_pos h, if_neg h2]
theorem ldU_24 {f : Nat → Int32} {i : Nat} {x : Int32} (hi : i < 24) : nn (ldU f i x 24) = i + 1 := by unfold ldU; rw [pk_us]; exact nn_I (by omega)
def ldI (b : Nat → Int32) (n i : Nat) (e : ER) (f : Nat → Int32) : ER × (Nat → Int32) := if e.1 = 0 then ldR b n (24 - i) i e f else (e, f)
set_option maxRecDepth 100000 in
set_option maxHeartbeats 800000 in
theorem c_X5_readLoads {l9 : Launch} {G : GC} {h : AH} {b : Nat → Int32} {n : Nat} {u : Nat} {f : Nat → Int32} {e : ER} (hW : World h) (hs : RdS h b n e) (hu : u < 4) (hd : DrP h u f) (y24 : nn (f 24) ≤ 24) : PM l9 G mX5_readLoads NT NT [.ref 3, .ref (62 + 1 + 6 + 12 * u + 1)] h (fun v h' => v = none ∧ eqx h h' (fun i => i = 3 ∨ i = 62 + 7 + 12 * u + 1 ∨ i = 62 + 7 + 12 * u + 2) ∧ RdS h' b n (loE b n e f).1 ∧ DrP h' u (loE b n e f).2 ∧ aI h' 3 6 = aI h 3 6) noX := by
  refine PM.of (by decide +kernel) rfl rfl (Nat.le_of_ble_eq_true rfl) (fun hst _ => ?_)
  have he : eqx h h (fun i => i = 3 ∨ i = 62 + 7 + 12 * u + 1 ∨ i = 62 + 7 + 12 * u + 2) := eqx.rf
  have h6 : aI h 3 6 = aI h 3 6 := rfl
  refine r_aload_n dX5_readLoads_0 rfl ?_
  refine q_getR fl_X5_167 hW (kk_3_0 (kd_dr hu)) rfl (kl_4_16 hW (kk_3_0 (kd_dr hu))) (Nat.succ_ne_zero _) dX5_readLoads_1 ?_
  refine r_iconst (0) dX5_readLoads_4 (by decide) ?_
  refine r_aload_n dX5_readLoads_5 rfl ?_
  refine r_iconst (0) dX5_readLoads_6 (by decide) ?_
  refine r_sipush (999) dX5_readLoads_7 (by decide) ?_
  refine q_callV2 (cv_X5_readNumber ml_X5_97) hW kc_3 (by decide) rfl ⟨rfl, rfl⟩ rfl (Nat.le_of_ble_eq_true rfl) dX5_readLoads_10 (c_X5_readNumber hW hs) (fun v_10 h_10 q_10 => ?_)
  obtain ⟨rfl, eN, hs, t6, n3⟩ := q_10
  have hW := eN.W hW
  replace hd := hd.eqx eN (fun i i1 i2 q => by have : i = 3 := q; omega)
  replace he := he.tr (eN.wk (T := (fun i => i = 3 ∨ i = 62 + 7 + 12 * u + 1 ∨ i = 62 + 7 + 12 * u + 2)) (fun i q => Or.inl q))
  replace h6 := t6.trans h6
  refine q_iast hW (kk_4_16 (kk_3_0 (kd_dr hu))) kn_0 (by decide) (by decide) dX5_readLoads_13 ?_
  refine r_aload_n dX5_readLoads_14 rfl ?_
  refine r_iconst (1) dX5_readLoads_15 (by decide) ?_
  refine q_putI fl_X5_171 hW (kk_3_0 (kd_dr hu)) rfl rfl dX5_readLoads_16 ?_
  have e9 : eqx h_10 (sI (sI h_10 (62 + 1 + 6 + 12 * u + 2) (0) (vlS b n e 0 999)) (62 + 1 + 6 + 12 * u + 1) 17 (1)) (fun i => i = 62 + 7 + 12 * u + 1 ∨ i = 62 + 7 + 12 * u + 2) := (eqx.rf.sI (Or.inr rfl)).sI (Or.inl rfl)
  have hs : RdS (sI (sI h_10 (62 + 1 + 6 + 12 * u + 2) (0) (vlS b n e 0 999)) (62 + 1 + 6 + 12 * u + 1) 17 (1)) b n _ := hs.cg e9 (by omega) (by omega)
  have he : eqx h (sI (sI h_10 (62 + 1 + 6 + 12 * u + 2) (0) (vlS b n e 0 999)) (62 + 1 + 6 + 12 * u + 1) 17 (1)) (fun i => i = 3 ∨ i = 62 + 7 + 12 * u + 1 ∨ i = 62 + 7 + 12 * u + 2) := he.tr (e9.wk (fun i q => Or.inr q))
  have h6 : aI (sI (sI h_10 (62 + 1 + 6 + 12 * u + 2) (0) (vlS b n e 0 999)) (62 + 1 + 6 + 12 * u + 1) 17 (1)) 3 6 = aI h 3 6 := by rw [sI_o (by omega), sI_o (by omega)]; exact h6
  have hW : World (sI (sI h_10 (62 + 1 + 6 + 12 * u + 2) (0) (vlS b n e 0 999)) (62 + 1 + 6 + 12 * u + 1) 17 (1)) := wsI (wsI hW)
  have hd : DrP (sI (sI h_10 (62 + 1 + 6 + 12 * u + 2) 0 (vlS b n e 0 999)) (62 + 1 + 6 + 12 * u + 1) 17 1) u (ldU f 0 (vlS b n e 0 999)) := hd.ldn (i := 0) (Nat.zero_le _) (by decide)
  refine r_iconst (1) dX5_readLoads_19 (by decide) ?_
  refine r_istore_n (ls2 := [_, some _, _]) dX5_readLoads_20 (by decide) rfl ?_
  refine loopN (P := fun i => ∀ (H : AH) (e1 : ER) (f1 : Nat → Int32), 1 ≤ i → i ≤ 25 → (i = 25 → e1.1 ≠ 0) → World H → eqx h H (fun i => i = 3 ∨ i = 62 + 7 + 12 * u + 1 ∨ i = 62 + 7 + 12 * u + 2) → RdS H b n e1 → DrP H u f1 → aI H 3 6 = aI h 3 6 → nn (f1 24) ≤ 24 → (e1.1 = 0 → nn (f1 24) = i) → loE b n e f = ldI b n i e1 f1 → PW l9 G mX5_readLoads _ _ NT 21 [some (.ref 3), some (.ref (62 + 1 + 6 + 12 * u + 1)), some (.int (nI i))] [] (0, 0) H) 25 (fun i ih H e1 f1 i1 i25 h25 hW he hs hd h6 hf24 hfi hL => ?_) 1 _ _ _ (Nat.le_refl _) (by decide) (fun q => absurd q (by decide)) hW he hs hd h6 (by rw [ldU_24 (by decide)]; decide) (fun _ => ldU_24 (by decide)) ?_
  rotate_left
  · unfold loE ldI
    split
    · rfl
    · next q => exact ldR_er q _
  refine r_iload_n dX5_readLoads_21 rfl ?_
  refine r_bipush (24) dX5_readLoads_22 (by decide) ?_
  refine r_icmp_gt 88 dX5_readLoads_24 (by decide) (fun c_24 => ?_) (fun c_24 => ?_)
  · refine r_vret dX5_readLoads_88 rfl ⟨Nat.zero_le _, Nat.zero_le _⟩ ?_
    have hne : e1.1 ≠ 0 := by
      first
        | exact fun q => c_31 (by rw [q]; rfl)
        | exact h25 (by
            have := (nI_ltI (a := 24) (b := i) (by omega) (by omega)).mp c_24
            omega)
    rw [hL]
    unfold ldI
    rw [if_neg hne]
    exact ⟨rfl, he, hs, hd, h6⟩
  · refine r_aload_n dX5_readLoads_27 rfl ?_
    refine q_getI fl_X5_28 hW kc_3 rfl dX5_readLoads_28 ?_
    rw [hs.2.1.1]
    refine r_if_ne 88 dX5_readLoads_31 (by decide) (fun c_31 => ?_) (fun c_31 => ?_)
    · refine r_vret dX5_readLoads_88 rfl ⟨Nat.zero_le _, Nat.zero_le _⟩ ?_
      have hne : e1.1 ≠ 0 := by
        first
          | exact fun q => c_31 (by rw [q]; rfl)
          | exact h25 (by
              have := (nI_ltI (a := 24) (b := i) (by omega) (by omega)).mp c_24
              omega)
      rw [hL]
      unfold ldI
      rw [if_neg hne]
      exact ⟨rfl, he, hs, hd, h6⟩
    · have q0 : e1.1 = 0 := (nI_z (by have := hs.2.2.1; omega)).mp c_31
      have hi24 : i ≤ 24 := by
        have := (nI_leI (a := i) (b := 24) (by omega) (by omega)).mp (i_le.mp c_24)
        exact this
      refine r_aload_n dX5_readLoads_34 rfl ?_
      refine q_callV0 (cv_X5_readToken ml_X5_39) hW kc_3 (by decide) rfl ⟨rfl, rfl⟩ rfl (Nat.le_of_ble_eq_true rfl) dX5_readLoads_35 (c_X5_readToken hW hs.1 (hs.2.1.2.1 q0).1 hs.2.2.2) (fun v_35 h_35 q_35 => ?_)
      obtain ⟨rfl, eT, ht, fT⟩ := q_35
      have hW := eT.W hW
      have hr := hs.1.cg eT (fT 1 (by decide) (by decide) (by decide) (by decide))
      have h7 : aI h_35 3 7 = nI 0 := (fT 7 (by decide) (by decide) (by decide) (by decide)).trans (hs.2.1.1.trans (by rw [q0]))
      have h8 : aI h_35 3 8 = -1 := (fT 8 (by decide) (by decide) (by decide) (by decide)).trans (hs.2.1.2.1 q0).2
      have hp := hs.2.2.2
      have hd := hd.eqx eT (fun i i1 i2 q => by have : i = 3 := q; omega)
      have he := he.tr (eT.wk (T := (fun i => i = 3 ∨ i = 62 + 7 + 12 * u + 1 ∨ i = 62 + 7 + 12 * u + 2)) (fun i q => Or.inl q))
      have h6 := (fT 6 (by decide) (by decide) (by decide) (by decide)).trans h6
      have hc6 := tC_lt (b := b) (n := n) (p := e1.2)
      have ee : e1 = (0, e1.2) := by rw [← q0]
      refine r_aload_n dX5_readLoads_38 rfl ?_
      refine q_getI fl_X5_42 hW kc_3 rfl dX5_readLoads_39 ?_
      rw [ht.1]
      refine r_iconst (3) dX5_readLoads_42 (by decide) ?_
      refine r_icmp_ne 47 dX5_readLoads_43 (by decide) (fun c_43 => ?_) (fun c_43 => ?_)
      · have hn3 : ¬ tC b n e1.2 = 3 := fun q => c_43 (by rw [q]; rfl)
        refine r_iload_n dX5_readLoads_47 rfl ?_
        refine r_bipush (24) dX5_readLoads_48 (by decide) ?_
        refine r_icmp_ne 61 dX5_readLoads_50 (by decide) (fun c_50 => ?_) (fun c_50 => ?_)
        · have hi23 : i < 24 := by
            have : i ≠ 24 := fun q => c_50 (by rw [q]; rfl)
            omega
          refine r_aload_n dX5_readLoads_61 rfl ?_
          refine q_getR fl_X5_167 hW (kk_3_0 (kd_dr hu)) rfl (kl_4_16 hW (kk_3_0 (kd_dr hu))) (Nat.succ_ne_zero _) dX5_readLoads_62 ?_
          refine r_iload_n dX5_readLoads_65 rfl ?_
          refine r_aload_n dX5_readLoads_66 rfl ?_
          refine r_iconst (0) dX5_readLoads_67 (by decide) ?_
          refine r_sipush (999) dX5_readLoads_68 (by decide) ?_
          refine q_callV2 (cv_X5_numberOfToken ml_X5_174) hW kc_3 (by decide) rfl ⟨rfl, rfl⟩ rfl (Nat.le_of_ble_eq_true rfl) dX5_readLoads_71 (c_X5_numberOfToken hW hr ht hp h7 h8) (fun v_71 h_71 q_71 => ?_)
          obtain ⟨rfl, eN, hs, t6, -⟩ := q_71
          rw [← ee] at hs
          rw [← ee]
          have hW := eN.W hW
          have hd := hd.eqx eN (fun i i1 i2 q => by have : i = 3 := q; omega)
          have he := he.tr (eN.wk (T := (fun i => i = 3 ∨ i = 62 + 7 + 12 * u + 1 ∨ i = 62 + 7 + 12 * u + 2)) (fun i q => Or.inl q))
          have h6 := t6.trans h6
          refine q_iast hW (kk_4_16 (kk_3_0 (kd_dr hu))) rfl (by omega) (by decide) dX5_readLoads_74 ?_
          refine r_aload_n dX5_readLoads_75 rfl ?_
          refine r_iload_n dX5_readLoads_76 rfl ?_
          refine r_iconst (1) dX5_readLoads_77 (by decide) ?_
          refine r_iadd dX5_readLoads_78 ?_
          refine q_putI fl_X5_171 hW (kk_3_0 (kd_dr hu)) rfl rfl dX5_readLoads_79 ?_
          
          refine r_iinc (1) (by decide) (ls2 := [_, some _, _]) dX5_readLoads_82 rfl (by decide) rfl ?_
          refine r_goto 21 dX5_readLoads_85 (by decide) ?_
          first
            | (have e24 : i = 24 := (nI_eqI (b := 24) (by omega) (by omega)).mp c_50
               subst e24
               refine ih (by decide) _ _ _ (by decide) (by decide) (fun _ => Nat.succ_ne_zero 0) hW he hs2 hd h6 hf24 (fun q => absurd q (Nat.succ_ne_zero 0)) ?_
               rw [hL]
               unfold ldI
               rw [if_pos q0, if_neg (Nat.succ_ne_zero 0)]
               exact ldR_f q0 hn3)
            | (
               have e9 : eqx h_71 (sI (sI h_71 (62 + 1 + 6 + 12 * u + 2) (i) (vlS b n e1 0 999)) (62 + 1 + 6 + 12 * u + 1) 17 (nI i + 1)) (fun i => i = 62 + 7 + 12 * u + 1 ∨ i = 62 + 7 + 12 * u + 2) := (eqx.rf.sI (Or.inr rfl)).sI (Or.inl rfl)
               have hs : RdS (sI (sI h_71 (62 + 1 + 6 + 12 * u + 2) (i) (vlS b n e1 0 999)) (62 + 1 + 6 + 12 * u + 1) 17 (nI i + 1)) b n _ := hs.cg e9 (by omega) (by omega)
               have he : eqx h (sI (sI h_71 (62 + 1 + 6 + 12 * u + 2) (i) (vlS b n e1 0 999)) (62 + 1 + 6 + 12 * u + 1) 17 (nI i + 1)) (fun i => i = 3 ∨ i = 62 + 7 + 12 * u + 1 ∨ i = 62 + 7 + 12 * u + 2) := he.tr (e9.wk (fun i q => Or.inr q))
               have h6 : aI (sI (sI h_71 (62 + 1 + 6 + 12 * u + 2) (i) (vlS b n e1 0 999)) (62 + 1 + 6 + 12 * u + 1) 17 (nI i + 1)) 3 6 = aI h 3 6 := by rw [sI_o (by omega), sI_o (by omega)]; exact h6
               have hW : World (sI (sI h_71 (62 + 1 + 6 + 12 * u + 2) (i) (vlS b n e1 0 999)) (62 + 1 + 6 + 12 * u + 1) 17 (nI i + 1)) := wsI (wsI hW)
               rw [nI_1]
               rw [nI_1] at hs he h6 hW
               have hd : DrP (sI (sI h_71 (62 + 1 + 6 + 12 * u + 2) i (vlS b n e1 0 999)) (62 + 1 + 6 + 12 * u + 1) 17 (nI (i + 1))) u (ldU f1 i (vlS b n e1 0 999)) := hd.ldn (by rw [hfi q0]; exact Nat.le_refl _) hi23
               refine ih (by omega) _ _ _ (by omega) (by omega) (fun q => by omega) hW he hs hd h6 (by rw [ldU_24 hi23]; omega) (fun _ => ldU_24 hi23) ?_
               rw [hL]
               have e5 : 24 - i = (24 - (i + 1)) + 1 := by omega
               show ldI b n i e1 f1 = ldI b n (i + 1) (nmS b n e1 0 999) (ldU f1 i (vlS b n e1 0 999))
               have z1 : ldI b n i e1 f1 = ldR b n (24 - (i + 1)) (i + 1) (nmS b n e1 0 999) (ldU f1 i (vlS b n e1 0 999)) := by
                 unfold ldI
                 rw [if_pos q0, e5]
                 exact ldR_st q0 hn3
               rw [z1]
               unfold ldI
               split
               · rfl
               · next q => exact ldR_er q _)
        · refine r_aload_n dX5_readLoads_53 rfl ?_
          refine r_iconst (1) dX5_readLoads_54 (by decide) ?_
          refine q_callV1 (cv_X5_fail ml_X5_52) hW kc_3 (by decide) rfl ⟨rfl, rfl⟩ rfl (Nat.le_of_ble_eq_true rfl) dX5_readLoads_55 (c_X5_fail (c := 1) (e := (0, e1.2)) (s := tS b n e1.2) hW kn_1 (by decide) ht.2.1 h7 (Nat.le_of_ble_eq_true rfl)) (fun v_55 h_55 q_55 => ?_)
          obtain ⟨rfl, eF, fF, -, gF⟩ := q_55
          obtain ⟨g7, g8⟩ := gF rfl
          have hW := eF.W hW
          have hs2 := RdS.er hr eF fF g7 g8 (by decide) (Nat.le_of_ble_eq_true rfl) (tS_le hp)
          have hd := hd.eqx eF (fun i i1 i2 q => by have : i = 3 := q; omega)
          have he := he.tr (eF.wk (T := (fun i => i = 3 ∨ i = 62 + 7 + 12 * u + 1 ∨ i = 62 + 7 + 12 * u + 2)) (fun i q => Or.inl q))
          have h6 := (fF 6 (by decide) (by decide)).trans h6
          refine r_goto 82 dX5_readLoads_58 (by decide) ?_
          
          refine r_iinc (1) (by decide) (ls2 := [_, some _, _]) dX5_readLoads_82 rfl (by decide) rfl ?_
          refine r_goto 21 dX5_readLoads_85 (by decide) ?_
          first
            | (have e24 : i = 24 := (nI_eqI (b := 24) (by omega) (by omega)).mp c_50
               subst e24
               refine ih (by decide) _ _ _ (by decide) (by decide) (fun _ => Nat.succ_ne_zero 0) hW he hs2 hd h6 hf24 (fun q => absurd q (Nat.succ_ne_zero 0)) ?_
               rw [hL]
               unfold ldI
               rw [if_pos q0, if_neg (Nat.succ_ne_zero 0)]
               exact ldR_f q0 hn3)
            | (
               have e9 : eqx h_71 (sI (sI h_71 (62 + 1 + 6 + 12 * u + 2) (i) (vlS b n e1 0 999)) (62 + 1 + 6 + 12 * u + 1) 17 (nI i + 1)) (fun i => i = 62 + 7 + 12 * u + 1 ∨ i = 62 + 7 + 12 * u + 2) := (eqx.rf.sI (Or.inr rfl)).sI (Or.inl rfl)
               have hs : RdS (sI (sI h_71 (62 + 1 + 6 + 12 * u + 2) (i) (vlS b n e1 0 999)) (62 + 1 + 6 + 12 * u + 1) 17 (nI i + 1)) b n _ := hs.cg e9 (by omega) (by omega)
               have he : eqx h (sI (sI h_71 (62 + 1 + 6 + 12 * u + 2) (i) (vlS b n e1 0 999)) (62 + 1 + 6 + 12 * u + 1) 17 (nI i + 1)) (fun i => i = 3 ∨ i = 62 + 7 + 12 * u + 1 ∨ i = 62 + 7 + 12 * u + 2) := he.tr (e9.wk (fun i q => Or.inr q))
               have h6 : aI (sI (sI h_71 (62 + 1 + 6 + 12 * u + 2) (i) (vlS b n e1 0 999)) (62 + 1 + 6 + 12 * u + 1) 17 (nI i + 1)) 3 6 = aI h 3 6 := by rw [sI_o (by omega), sI_o (by omega)]; exact h6
               have hW : World (sI (sI h_71 (62 + 1 + 6 + 12 * u + 2) (i) (vlS b n e1 0 999)) (62 + 1 + 6 + 12 * u + 1) 17 (nI i + 1)) := wsI (wsI hW)
               rw [nI_1]
               rw [nI_1] at hs he h6 hW
               have hd : DrP (sI (sI h_71 (62 + 1 + 6 + 12 * u + 2) i (vlS b n e1 0 999)) (62 + 1 + 6 + 12 * u + 1) 17 (nI (i + 1))) u (ldU f1 i (vlS b n e1 0 999)) := hd.ldn (by rw [hfi q0]; exact Nat.le_refl _) hi23
               refine ih (by omega) _ _ _ (by omega) (by omega) (fun q => by omega) hW he hs hd h6 (by rw [ldU_24 hi23]; omega) (fun _ => ldU_24 hi23) ?_
               rw [hL]
               have e5 : 24 - i = (24 - (i + 1)) + 1 := by omega
               show ldI b n i e1 f1 = ldI b n (i + 1) (nmS b n e1 0 999) (ldU f1 i (vlS b n e1 0 999))
               have z1 : ldI b n i e1 f1 = ldR b n (24 - (i + 1)) (i + 1) (nmS b n e1 0 999) (ldU f1 i (vlS b n e1 0 999)) := by
                 unfold ldI
                 rw [if_pos q0, e5]
                 exact ldR_st q0 hn3
               rw [z1]
               unfold ldI
               split
               · rfl
               · next q => exact ldR_er q _)
      · refine r_vret dX5_readLoads_46 rfl ⟨Nat.zero_le _, Nat.zero_le _⟩ ?_
        have hc3 : tC b n e1.2 = 3 := (nI_eqI (b := 3) (by omega) (by decide)).mp c_43
        have z : loE b n e f = ((0, tE b n e1.2), f1) := by rw [hL]; unfold ldI; rw [if_pos q0]; exact ldR_3 q0 hc3 _
        have hs := RdS.tk hr ht h7 h8 hp
        rw [z]
        exact ⟨rfl, he, hs, hd, h6⟩

set_option maxRecDepth 100000 in
set_option maxHeartbeats 800000 in
theorem c_X5_readProtect {l9 : Launch} {G : GC} {h : AH} {b : Nat → Int32} {n : Nat} {u : Nat} {f : Nat → Int32} {p : Nat} (hW : World h) (hs : RdS h b n (0, p)) (hu : u < 4) (hd : DrP h u f) (hO : PoOK f (fun _ => 0) 0 0) (h23 : f 23 = f 0) : PM l9 G mX5_readProtect NT NT [.ref 3, .ref (62 + 1 + 6 + 12 * u)] h (fun v h' => v = none ∧ eqx h h' (fun i => i = 3 ∨ i = 62 + 7 + 12 * u + 7) ∧ RdS h' b n (smiS b n (prE b n p f)) ∧ DrP h' u (prU b n p f) ∧ aI h' 3 6 = aI h 3 6) noX := by
  refine PM.of (by decide +kernel) rfl rfl (Nat.le_of_ble_eq_true rfl) (fun hst _ => ?_)
  have hs0 := hs
  have he : eqx h h (fun i => i = 3 ∨ i = 62 + 7 + 12 * u + 7) := eqx.rf
  have h6 : aI h 3 6 = aI h 3 6 := rfl
  have y24 : nn (f 24) ≤ 24 := (hO.at 24).2.2
  refine r_aload_n dX5_readProtect_0 rfl ?_
  refine r_iconst (0) dX5_readProtect_1 (by decide) ?_
  refine r_aload_n dX5_readProtect_2 rfl ?_
  refine q_getR fl_X5_73 hW (kd_dr hu) rfl (kl_3_0 hW (kd_dr hu)) (Nat.succ_ne_zero _) dX5_readProtect_3 ?_
  refine q_getI fl_X5_177 hW (kk_3_0 (kd_dr hu)) rfl dX5_readProtect_6 ?_
  have zs0 : aI h (62 + 1 + 6 + 12 * u + 1) 0 = f 0 := hd.1.1.1 0 (by decide)
  rw [zs0]
  refine r_iconst (1) dX5_readProtect_9 (by decide) ?_
  refine r_isub dX5_readProtect_10 ?_
  refine q_callV2 (cv_X5_readNumber ml_X5_97) hW kc_3 (by decide) rfl ⟨rfl, rfl⟩ rfl (Nat.le_of_ble_eq_true rfl) dX5_readProtect_11 (c_X5_readNumber hW hs) (fun v_11 h_11 q_11 => ?_)
  obtain ⟨rfl, eN, hs, t6, n3⟩ := q_11
  have hW := eN.W hW
  replace hd := hd.eqx eN (fun i i1 i2 q => by have : i = 3 := q; omega)
  replace he := he.tr (eN.wk (T := (fun i => i = 3 ∨ i = 62 + 7 + 12 * u + 7)) (fun i q => Or.inl q))
  replace h6 := t6.trans h6
  refine r_istore_n (ls2 := [_, some _, _]) dX5_readProtect_14 (by decide) rfl ?_
  refine r_aload_n dX5_readProtect_15 rfl ?_
  refine q_getI fl_X5_28 hW kc_3 rfl dX5_readProtect_16 ?_
  rw [hs.2.1.1]
  refine r_if_ne 60 dX5_readProtect_19 (by decide) (fun c_19 => ?_) (fun c_19 => ?_)
  · first
      | (have hne : ¬ nmC b n p 0 (f 0 - 1) = 0 := fun q => c_19 (by unfold nmS; rw [if_pos rfl, if_pos q]; rfl)
         have hE : prE b n p f = nmS b n (0, p) 0 (f 0 - 1) := by unfold prE; rw [if_neg (fun q => hne q.1)]
         have hU : prU b n p f = f := by unfold prU; rw [if_neg hne]
         rw [hE, hU]
         refine r_aload_n dX5_readProtect_60 rfl ?_
         refine q_callV0 (cv_X5_readSemicolon ml_X5_103) hW kc_3 (by decide) rfl ⟨rfl, rfl⟩ rfl (Nat.le_of_ble_eq_true rfl) dX5_readProtect_61 (c_X5_readSemicolon hW hs) (fun v_61 h_61 q_61 => ?_)
         obtain ⟨rfl, eN, hs, t6⟩ := q_61
         have hd := hd.eqx eN (fun i i1 i2 q => by have : i = 3 := q; omega)
         have he := he.tr (eN.wk (T := (fun i => i = 3 ∨ i = 62 + 7 + 12 * u + 7)) (fun i q => Or.inl q))
         have h6 := t6.trans h6
         refine r_vret dX5_readProtect_64 rfl ⟨Nat.zero_le _, Nat.zero_le _⟩ ?_
         exact ⟨rfl, he, hs, hd, h6⟩)
      | (have hnp := of_decide_eq_false (bI_0.mp c_42)
         have hE : prE b n p f = (0, tE b n p) := by unfold prE; rw [ek, if_neg (fun q => hnp q.2), hS1]
         have hU : prU b n p f = prF f k 1 := by unfold prU; rw [if_pos hC, ek]
         rw [hE, hU]
         have e9 : eqx h_11 (sI h_11 (62 + 1 + 6 + 12 * u + 7) k (vp_nar .boolean 1)) (fun i => i = 62 + 7 + 12 * u + 7) := eqx.rf.sI rfl
         have hs : RdS (sI h_11 (62 + 1 + 6 + 12 * u + 7) k (vp_nar .boolean 1)) b n _ := hs.cg e9 (by omega) (by omega)
         have hd : DrP (sI h_11 (62 + 1 + 6 + 12 * u + 7) k (vp_nar .boolean 1)) u (prF f k 1) := hd.prt hk23 y23 y24
         have he : eqx h (sI h_11 (62 + 1 + 6 + 12 * u + 7) k (vp_nar .boolean 1)) (fun i => i = 3 ∨ i = 62 + 7 + 12 * u + 7) := he.tr (e9.wk (fun i q => Or.inr q))
         have h6 : aI (sI h_11 (62 + 1 + 6 + 12 * u + 7) k (vp_nar .boolean 1)) 3 6 = aI h 3 6 := by rw [sI_o (by omega)]; exact h6
         have hW : World (sI h_11 (62 + 1 + 6 + 12 * u + 7) k (vp_nar .boolean 1)) := wsI hW
         refine r_aload_n dX5_readProtect_60 rfl ?_
         refine q_callV0 (cv_X5_readSemicolon ml_X5_103) hW kc_3 (by decide) rfl ⟨rfl, rfl⟩ rfl (Nat.le_of_ble_eq_true rfl) dX5_readProtect_61 (c_X5_readSemicolon hW hs) (fun v_61 h_61 q_61 => ?_)
         obtain ⟨rfl, eN, hs, t6⟩ := q_61
         have hd := hd.eqx eN (fun i i1 i2 q => by have : i = 3 := q; omega)
         have he := he.tr (eN.wk (T := (fun i => i = 3 ∨ i = 62 + 7 + 12 * u + 7)) (fun i q => Or.inl q))
         have h6 := t6.trans h6
         refine r_vret dX5_readProtect_64 rfl ⟨Nat.zero_le _, Nat.zero_le _⟩ ?_
         exact ⟨rfl, he, hs, hd, h6⟩)
      | (have hpp := of_decide_eq_true (bI_1.mp c_42)
         have hE : prE b n p f = (3, tS b n p) := by unfold prE; rw [ek, if_pos ⟨hC, hpp⟩]
         have hU : prU b n p f = prF f k 1 := by unfold prU; rw [if_pos hC, ek]
         rw [hE, hU]
         have e9 : eqx h_47 (sI h_47 (62 + 1 + 6 + 12 * u + 7) k (vp_nar .boolean 1)) (fun i => i = 62 + 7 + 12 * u + 7) := eqx.rf.sI rfl
         have hs : RdS (sI h_47 (62 + 1 + 6 + 12 * u + 7) k (vp_nar .boolean 1)) b n _ := hs.cg e9 (by omega) (by omega)
         have hd : DrP (sI h_47 (62 + 1 + 6 + 12 * u + 7) k (vp_nar .boolean 1)) u (prF f k 1) := hd.prt hk23 y23 y24
         have he : eqx h (sI h_47 (62 + 1 + 6 + 12 * u + 7) k (vp_nar .boolean 1)) (fun i => i = 3 ∨ i = 62 + 7 + 12 * u + 7) := he.tr (e9.wk (fun i q => Or.inr q))
         have h6 : aI (sI h_47 (62 + 1 + 6 + 12 * u + 7) k (vp_nar .boolean 1)) 3 6 = aI h 3 6 := by rw [sI_o (by omega)]; exact h6
         have hW : World (sI h_47 (62 + 1 + 6 + 12 * u + 7) k (vp_nar .boolean 1)) := wsI hW
         refine r_aload_n dX5_readProtect_60 rfl ?_
         refine q_callV0 (cv_X5_readSemicolon ml_X5_103) hW kc_3 (by decide) rfl ⟨rfl, rfl⟩ rfl (Nat.le_of_ble_eq_true rfl) dX5_readProtect_61 (c_X5_readSemicolon hW hs) (fun v_61 h_61 q_61 => ?_)
         obtain ⟨rfl, eN, hs, t6⟩ := q_61
         have hd := hd.eqx eN (fun i i1 i2 q => by have : i = 3 := q; omega)
         have he := he.tr (eN.wk (T := (fun i => i = 3 ∨ i = 62 + 7 + 12 * u + 7)) (fun i q => Or.inl q))
         have h6 := t6.trans h6
         refine r_vret dX5_readProtect_64 rfl ⟨Nat.zero_le _, Nat.zero_le _⟩ ?_
         exact ⟨rfl, he, hs, hd, h6⟩)
  · obtain ⟨a, a1, a2, a3⟩ := (hO.at 0).nat
    have a2' : a ≤ 20 := a2
    have hs71 := hs.2.2.1
    have hC : nmC b n p 0 (f 0 - 1) = 0 := by
      have z : (nmS b n (0, p) 0 (f 0 - 1)).1 = 0 := (nI_z (by omega)).mp c_19
      unfold nmS at z
      rw [if_pos rfl] at z
      split at z
      · next q => exact q
      · next q => exact absurd z q
    have hV : vlS b n (0, p) 0 (f 0 - 1) = tV b n p := by unfold vlS; rw [if_pos ⟨rfl, hC⟩]
    have hS1 : nmS b n (0, p) 0 (f 0 - 1) = (0, tE b n p) := by unfold nmS; rw [if_pos rfl, if_pos hC]
    rw [hS1] at hs
    rw [hV]
    have hlh : 0 ≤ tV b n p ∧ tV b n p ≤ f 0 - 1 := by
      unfold nmC at hC
      split at hC
      · split at hC
        · next q => exact q
        · exact absurd hC (by decide)
      · exact absurd hC (by decide)
    have hka : ∃ k, k < a ∧ tV b n p = nI k := by
      obtain ⟨c1, c2⟩ := hlh
      rw [a3] at c2
      cases a with
      | zero =>
        have z : (0 : Int32) ≤ nI 0 - 1 := Int32.le_trans c1 c2
        exact absurd z (by decide)
      | succ a =>
        rw [nI_s1 (by omega), Nat.add_sub_cancel] at c2
        obtain ⟨k, k1, k2, k3⟩ := rgB_t (x := tV b n p) (a := 0) (b := a) (decide_eq_true ⟨c1, c2⟩) (by omega) (by decide)
        exact ⟨k, by omega, k3⟩
    obtain ⟨k, k1, k2⟩ := hka
    have ek : nn (tV b n p) = k := by rw [k2]; exact nn_I (by omega)
    have y23 : nn (f 23) ≤ 20 := (hO.at 23).2.2
    have e23 : nn (f 23) = a := by rw [h23, a3]; exact nn_I (by omega)
    have hk23 : k < nn (f 23) := by omega
    have zm := hd.1.2.1
    obtain ⟨m1, m2, m3, m4⟩ := zm.2.2 k (by rw [mbs_len]; exact hk23)
    rw [mbs_prt hk23] at m4
    rw [k2]
    refine r_iload_n dX5_readProtect_22 rfl ?_
    refine r_aload_n dX5_readProtect_23 rfl ?_
    refine q_getR fl_X5_179 hW (kd_dr hu) rfl (kl_3_1 hW (kd_dr hu)) (Nat.succ_ne_zero _) dX5_readProtect_24 ?_
    refine q_getI fl_X5_183 hW (kk_3_1 (kd_dr hu)) rfl dX5_readProtect_27 ?_
    rw [show aI h_11 (62 + 1 + 6 + 12 * u + 3) 4 = nI a from by rw [show aI h_11 (62 + 1 + 6 + 12 * u + 3) 4 = nI (mbs f).length from zm.1, mbs_len, e23]]
    refine r_icmp_ge 60 dX5_readProtect_30 (by decide) (fun c_30 => ?_) (fun c_30 => ?_)
    · exact absurd ((nI_leI (by omega) (by omega)).mp c_30) (by omega)
    · refine r_aload_n dX5_readProtect_33 rfl ?_
      refine q_getR fl_X5_179 hW (kd_dr hu) rfl (kl_3_1 hW (kd_dr hu)) (Nat.succ_ne_zero _) dX5_readProtect_34 ?_
      refine q_getR fl_X5_188 hW (kk_3_1 (kd_dr hu)) rfl (kl_1_3 hW (kk_3_1 (kd_dr hu))) (Nat.succ_ne_zero _) dX5_readProtect_37 ?_
      refine r_iload_n dX5_readProtect_40 rfl ?_
      refine q_zald hW (kk_1_3 (kk_3_1 (kd_dr hu))) rfl (by omega) (by decide) dX5_readProtect_41 ?_
      rw [show aI h_11 (62 + 1 + 6 + 12 * u + 7) k = bI (decide (f (103 + 4 * k) = 1)) from m4]
      refine r_if_eq 50 dX5_readProtect_42 (by decide) (fun c_42 => ?_) (fun c_42 => ?_)
      · refine r_aload_n dX5_readProtect_50 rfl ?_
        refine q_getR fl_X5_179 hW (kd_dr hu) rfl (kl_3_1 hW (kd_dr hu)) (Nat.succ_ne_zero _) dX5_readProtect_51 ?_
        refine q_getR fl_X5_188 hW (kk_3_1 (kd_dr hu)) rfl (kl_1_3 hW (kk_3_1 (kd_dr hu))) (Nat.succ_ne_zero _) dX5_readProtect_54 ?_
        refine r_iload_n dX5_readProtect_57 rfl ?_
        refine r_iconst (1) dX5_readProtect_58 (by decide) ?_
        refine q_zast hW (kk_1_3 (kk_3_1 (kd_dr hu))) rfl (by omega) (by decide) dX5_readProtect_59 ?_
        first
          | (have hne : ¬ nmC b n p 0 (f 0 - 1) = 0 := fun q => c_19 (by unfold nmS; rw [if_pos rfl, if_pos q]; rfl)
             have hE : prE b n p f = nmS b n (0, p) 0 (f 0 - 1) := by unfold prE; rw [if_neg (fun q => hne q.1)]
             have hU : prU b n p f = f := by unfold prU; rw [if_neg hne]
             rw [hE, hU]
             refine r_aload_n dX5_readProtect_60 rfl ?_
             refine q_callV0 (cv_X5_readSemicolon ml_X5_103) hW kc_3 (by decide) rfl ⟨rfl, rfl⟩ rfl (Nat.le_of_ble_eq_true rfl) dX5_readProtect_61 (c_X5_readSemicolon hW hs) (fun v_61 h_61 q_61 => ?_)
             obtain ⟨rfl, eN, hs, t6⟩ := q_61
             have hd := hd.eqx eN (fun i i1 i2 q => by have : i = 3 := q; omega)
             have he := he.tr (eN.wk (T := (fun i => i = 3 ∨ i = 62 + 7 + 12 * u + 7)) (fun i q => Or.inl q))
             have h6 := t6.trans h6
             refine r_vret dX5_readProtect_64 rfl ⟨Nat.zero_le _, Nat.zero_le _⟩ ?_
             exact ⟨rfl, he, hs, hd, h6⟩)
          | (have hnp := of_decide_eq_false (bI_0.mp c_42)
             have hE : prE b n p f = (0, tE b n p) := by unfold prE; rw [ek, if_neg (fun q => hnp q.2), hS1]
             have hU : prU b n p f = prF f k 1 := by unfold prU; rw [if_pos hC, ek]
             rw [hE, hU]
             have e9 : eqx h_11 (sI h_11 (62 + 1 + 6 + 12 * u + 7) k (vp_nar .boolean 1)) (fun i => i = 62 + 7 + 12 * u + 7) := eqx.rf.sI rfl
             have hs : RdS (sI h_11 (62 + 1 + 6 + 12 * u + 7) k (vp_nar .boolean 1)) b n _ := hs.cg e9 (by omega) (by omega)
             have hd : DrP (sI h_11 (62 + 1 + 6 + 12 * u + 7) k (vp_nar .boolean 1)) u (prF f k 1) := hd.prt hk23 y23 y24
             have he : eqx h (sI h_11 (62 + 1 + 6 + 12 * u + 7) k (vp_nar .boolean 1)) (fun i => i = 3 ∨ i = 62 + 7 + 12 * u + 7) := he.tr (e9.wk (fun i q => Or.inr q))
             have h6 : aI (sI h_11 (62 + 1 + 6 + 12 * u + 7) k (vp_nar .boolean 1)) 3 6 = aI h 3 6 := by rw [sI_o (by omega)]; exact h6
             have hW : World (sI h_11 (62 + 1 + 6 + 12 * u + 7) k (vp_nar .boolean 1)) := wsI hW
             refine r_aload_n dX5_readProtect_60 rfl ?_
             refine q_callV0 (cv_X5_readSemicolon ml_X5_103) hW kc_3 (by decide) rfl ⟨rfl, rfl⟩ rfl (Nat.le_of_ble_eq_true rfl) dX5_readProtect_61 (c_X5_readSemicolon hW hs) (fun v_61 h_61 q_61 => ?_)
             obtain ⟨rfl, eN, hs, t6⟩ := q_61
             have hd := hd.eqx eN (fun i i1 i2 q => by have : i = 3 := q; omega)
             have he := he.tr (eN.wk (T := (fun i => i = 3 ∨ i = 62 + 7 + 12 * u + 7)) (fun i q => Or.inl q))
             have h6 := t6.trans h6
             refine r_vret dX5_readProtect_64 rfl ⟨Nat.zero_le _, Nat.zero_le _⟩ ?_
             exact ⟨rfl, he, hs, hd, h6⟩)
          | (have hpp := of_decide_eq_true (bI_1.mp c_42)
             have hE : prE b n p f = (3, tS b n p) := by unfold prE; rw [ek, if_pos ⟨hC, hpp⟩]
             have hU : prU b n p f = prF f k 1 := by unfold prU; rw [if_pos hC, ek]
             rw [hE, hU]
             have e9 : eqx h_47 (sI h_47 (62 + 1 + 6 + 12 * u + 7) k (vp_nar .boolean 1)) (fun i => i = 62 + 7 + 12 * u + 7) := eqx.rf.sI rfl
             have hs : RdS (sI h_47 (62 + 1 + 6 + 12 * u + 7) k (vp_nar .boolean 1)) b n _ := hs.cg e9 (by omega) (by omega)
             have hd : DrP (sI h_47 (62 + 1 + 6 + 12 * u + 7) k (vp_nar .boolean 1)) u (prF f k 1) := hd.prt hk23 y23 y24
             have he : eqx h (sI h_47 (62 + 1 + 6 + 12 * u + 7) k (vp_nar .boolean 1)) (fun i => i = 3 ∨ i = 62 + 7 + 12 * u + 7) := he.tr (e9.wk (fun i q => Or.inr q))
             have h6 : aI (sI h_47 (62 + 1 + 6 + 12 * u + 7) k (vp_nar .boolean 1)) 3 6 = aI h 3 6 := by rw [sI_o (by omega)]; exact h6
             have hW : World (sI h_47 (62 + 1 + 6 + 12 * u + 7) k (vp_nar .boolean 1)) := wsI hW
             refine r_aload_n dX5_readProtect_60 rfl ?_
             refine q_callV0 (cv_X5_readSemicolon ml_X5_103) hW kc_3 (by decide) rfl ⟨rfl, rfl⟩ rfl (Nat.le_of_ble_eq_true rfl) dX5_readProtect_61 (c_X5_readSemicolon hW hs) (fun v_61 h_61 q_61 => ?_)
             obtain ⟨rfl, eN, hs, t6⟩ := q_61
             have hd := hd.eqx eN (fun i i1 i2 q => by have : i = 3 := q; omega)
             have he := he.tr (eN.wk (T := (fun i => i = 3 ∨ i = 62 + 7 + 12 * u + 7)) (fun i q => Or.inl q))
             have h6 := t6.trans h6
             refine r_vret dX5_readProtect_64 rfl ⟨Nat.zero_le _, Nat.zero_le _⟩ ?_
             exact ⟨rfl, he, hs, hd, h6⟩)
      · refine r_aload_n dX5_readProtect_45 rfl ?_
        refine r_iconst (3) dX5_readProtect_46 (by decide) ?_
        refine q_callV1 (cv_X5_fail ml_X5_52) hW kc_3 (by decide) rfl ⟨rfl, rfl⟩ rfl (Nat.le_of_ble_eq_true rfl) dX5_readProtect_47 (c_X5_fail (c := 3) (e := (0, tE b n p)) (s := tS b n p) hW kn_3 (by decide) (n3 rfl) (hs.2.1.1) (Nat.le_of_ble_eq_true rfl)) (fun v_47 h_47 q_47 => ?_)
        obtain ⟨rfl, eF, fF, -, gF⟩ := q_47
        obtain ⟨g7, g8⟩ := gF rfl
        have hW := eF.W hW
        have hp9 := hs0.2.2.2
        have hs := RdS.er hs.1 eF fF g7 g8 (by decide) (Nat.le_of_ble_eq_true rfl) (tS_le hp9)
        have hd := hd.eqx eF (fun i i1 i2 q => by have : i = 3 := q; omega)
        have he := he.tr (eF.wk (T := (fun i => i = 3 ∨ i = 62 + 7 + 12 * u + 7)) (fun i q => Or.inl q))
        have h6 := (fF 6 (by decide) (by decide)).trans h6
        refine r_aload_n dX5_readProtect_50 rfl ?_
        refine q_getR fl_X5_179 hW (kd_dr hu) rfl (kl_3_1 hW (kd_dr hu)) (Nat.succ_ne_zero _) dX5_readProtect_51 ?_
        refine q_getR fl_X5_188 hW (kk_3_1 (kd_dr hu)) rfl (kl_1_3 hW (kk_3_1 (kd_dr hu))) (Nat.succ_ne_zero _) dX5_readProtect_54 ?_
        refine r_iload_n dX5_readProtect_57 rfl ?_
        refine r_iconst (1) dX5_readProtect_58 (by decide) ?_
        refine q_zast hW (kk_1_3 (kk_3_1 (kd_dr hu))) rfl (by omega) (by decide) dX5_readProtect_59 ?_
        first
          | (have hne : ¬ nmC b n p 0 (f 0 - 1) = 0 := fun q => c_19 (by unfold nmS; rw [if_pos rfl, if_pos q]; rfl)
             have hE : prE b n p f = nmS b n (0, p) 0 (f 0 - 1) := by unfold prE; rw [if_neg (fun q => hne q.1)]
             have hU : prU b n p f = f := by unfold prU; rw [if_neg hne]
             rw [hE, hU]
             refine r_aload_n dX5_readProtect_60 rfl ?_
             refine q_callV0 (cv_X5_readSemicolon ml_X5_103) hW kc_3 (by decide) rfl ⟨rfl, rfl⟩ rfl (Nat.le_of_ble_eq_true rfl) dX5_readProtect_61 (c_X5_readSemicolon hW hs) (fun v_61 h_61 q_61 => ?_)
             obtain ⟨rfl, eN, hs, t6⟩ := q_61
             have hd := hd.eqx eN (fun i i1 i2 q => by have : i = 3 := q; omega)
             have he := he.tr (eN.wk (T := (fun i => i = 3 ∨ i = 62 + 7 + 12 * u + 7)) (fun i q => Or.inl q))
             have h6 := t6.trans h6
             refine r_vret dX5_readProtect_64 rfl ⟨Nat.zero_le _, Nat.zero_le _⟩ ?_
             exact ⟨rfl, he, hs, hd, h6⟩)
          | (have hnp := of_decide_eq_false (bI_0.mp c_42)
             have hE : prE b n p f = (0, tE b n p) := by unfold prE; rw [ek, if_neg (fun q => hnp q.2), hS1]
             have hU : prU b n p f = prF f k 1 := by unfold prU; rw [if_pos hC, ek]
             rw [hE, hU]
             have e9 : eqx h_11 (sI h_11 (62 + 1 + 6 + 12 * u + 7) k (vp_nar .boolean 1)) (fun i => i = 62 + 7 + 12 * u + 7) := eqx.rf.sI rfl
             have hs : RdS (sI h_11 (62 + 1 + 6 + 12 * u + 7) k (vp_nar .boolean 1)) b n _ := hs.cg e9 (by omega) (by omega)
             have hd : DrP (sI h_11 (62 + 1 + 6 + 12 * u + 7) k (vp_nar .boolean 1)) u (prF f k 1) := hd.prt hk23 y23 y24
             have he : eqx h (sI h_11 (62 + 1 + 6 + 12 * u + 7) k (vp_nar .boolean 1)) (fun i => i = 3 ∨ i = 62 + 7 + 12 * u + 7) := he.tr (e9.wk (fun i q => Or.inr q))
             have h6 : aI (sI h_11 (62 + 1 + 6 + 12 * u + 7) k (vp_nar .boolean 1)) 3 6 = aI h 3 6 := by rw [sI_o (by omega)]; exact h6
             have hW : World (sI h_11 (62 + 1 + 6 + 12 * u + 7) k (vp_nar .boolean 1)) := wsI hW
             refine r_aload_n dX5_readProtect_60 rfl ?_
             refine q_callV0 (cv_X5_readSemicolon ml_X5_103) hW kc_3 (by decide) rfl ⟨rfl, rfl⟩ rfl (Nat.le_of_ble_eq_true rfl) dX5_readProtect_61 (c_X5_readSemicolon hW hs) (fun v_61 h_61 q_61 => ?_)
             obtain ⟨rfl, eN, hs, t6⟩ := q_61
             have hd := hd.eqx eN (fun i i1 i2 q => by have : i = 3 := q; omega)
             have he := he.tr (eN.wk (T := (fun i => i = 3 ∨ i = 62 + 7 + 12 * u + 7)) (fun i q => Or.inl q))
             have h6 := t6.trans h6
             refine r_vret dX5_readProtect_64 rfl ⟨Nat.zero_le _, Nat.zero_le _⟩ ?_
             exact ⟨rfl, he, hs, hd, h6⟩)
          | (have hpp := of_decide_eq_true (bI_1.mp c_42)
             have hE : prE b n p f = (3, tS b n p) := by unfold prE; rw [ek, if_pos ⟨hC, hpp⟩]
             have hU : prU b n p f = prF f k 1 := by unfold prU; rw [if_pos hC, ek]
             rw [hE, hU]
             have e9 : eqx h_47 (sI h_47 (62 + 1 + 6 + 12 * u + 7) k (vp_nar .boolean 1)) (fun i => i = 62 + 7 + 12 * u + 7) := eqx.rf.sI rfl
             have hs : RdS (sI h_47 (62 + 1 + 6 + 12 * u + 7) k (vp_nar .boolean 1)) b n _ := hs.cg e9 (by omega) (by omega)
             have hd : DrP (sI h_47 (62 + 1 + 6 + 12 * u + 7) k (vp_nar .boolean 1)) u (prF f k 1) := hd.prt hk23 y23 y24
             have he : eqx h (sI h_47 (62 + 1 + 6 + 12 * u + 7) k (vp_nar .boolean 1)) (fun i => i = 3 ∨ i = 62 + 7 + 12 * u + 7) := he.tr (e9.wk (fun i q => Or.inr q))
             have h6 : aI (sI h_47 (62 + 1 + 6 + 12 * u + 7) k (vp_nar .boolean 1)) 3 6 = aI h 3 6 := by rw [sI_o (by omega)]; exact h6
             have hW : World (sI h_47 (62 + 1 + 6 + 12 * u + 7) k (vp_nar .boolean 1)) := wsI hW
             refine r_aload_n dX5_readProtect_60 rfl ?_
             refine q_callV0 (cv_X5_readSemicolon ml_X5_103) hW kc_3 (by decide) rfl ⟨rfl, rfl⟩ rfl (Nat.le_of_ble_eq_true rfl) dX5_readProtect_61 (c_X5_readSemicolon hW hs) (fun v_61 h_61 q_61 => ?_)
             obtain ⟨rfl, eN, hs, t6⟩ := q_61
             have hd := hd.eqx eN (fun i i1 i2 q => by have : i = 3 := q; omega)
             have he := he.tr (eN.wk (T := (fun i => i = 3 ∨ i = 62 + 7 + 12 * u + 7)) (fun i q => Or.inl q))
             have h6 := t6.trans h6
             refine r_vret dX5_readProtect_64 rfl ⟨Nat.zero_le _, Nat.zero_le _⟩ ?_
             exact ⟨rfl, he, hs, hd, h6⟩)
