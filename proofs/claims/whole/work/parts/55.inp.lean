-- input: what is appended
def sxB (v : Int32) : Int32 := v.toInt8.toInt32
theorem nar_sx (v : Int32) : vp_nar .byte (sxB v) = sxB v := by
  show (sxB v).toInt8.toInt32 = sxB v
  unfold sxB
  rw [Int8.toInt8_toInt32]
theorem bit255 {i : Nat} (h : i < 8) : (255#8)[i] = true := by
  have hi : i = 0 ∨ i = 1 ∨ i = 2 ∨ i = 3 ∨ i = 4 ∨ i = 5 ∨ i = 6 ∨ i = 7 := by omega
  rcases hi with rfl | rfl | rfl | rfl | rfl | rfl | rfl | rfl <;> simp
theorem wb_bv (b : BitVec 32) (s : Nat) (hs : s ≤ 24) : BitVec.signExtend 8 (b >>> s) = BitVec.signExtend 8 (b.sshiftRight s) &&& 255#8 := by
  ext i hi
  rw [BitVec.getElem_and, bit255 hi, Bool.and_true, BitVec.getElem_signExtend, BitVec.getElem_signExtend]
  simp only [show i < 32 by omega, dif_pos]
  rw [BitVec.getElem_ushiftRight, BitVec.getElem_sshiftRight]
  rw [dif_pos (by omega)]
  rw [BitVec.getLsbD_eq_getElem (by omega)]
theorem wb_24 (x : Int32) : ((x.toUInt32 >>> ((24 : Int32).toUInt32 &&& Int32.toUInt32 31)).toInt32).toInt8 = ((x >>> (24 &&& 31)) &&& 255).toInt8 := by
  apply Int8.toBitVec_inj.mp
  simp [Int32.toBitVec_toInt8]
  exact wb_bv _ 24 (by decide)
theorem wb_16 (x : Int32) : ((x.toUInt32 >>> ((16 : Int32).toUInt32 &&& Int32.toUInt32 31)).toInt32).toInt8 = ((x >>> (16 &&& 31)) &&& 255).toInt8 := by
  apply Int8.toBitVec_inj.mp
  simp [Int32.toBitVec_toInt8]
  exact wb_bv _ 16 (by decide)
theorem wb_8 (x : Int32) : ((x.toUInt32 >>> ((8 : Int32).toUInt32 &&& Int32.toUInt32 31)).toInt32).toInt8 = ((x >>> (8 &&& 31)) &&& 255).toInt8 := by
  apply Int8.toBitVec_inj.mp
  simp [Int32.toBitVec_toInt8]
  exact wb_bv _ 8 (by decide)
theorem wb_0 (x : Int32) : ((x.toUInt32 >>> ((0 : Int32).toUInt32 &&& Int32.toUInt32 31)).toInt32).toInt8 = ((x >>> (0 &&& 31)) &&& 255).toInt8 := by
  apply Int8.toBitVec_inj.mp
  simp [Int32.toBitVec_toInt8]
  have h := wb_bv x.toBitVec 0 (by decide)
  simpa using h
theorem kn_m8 : True := trivial
/-- the input: its bytes and their number -/
def InC (h : AH) (b : Nat → Int32) (n : Nat) : Prop := aI h 1 1 = nI n ∧ n ≤ 700 ∧ ∀ i, i < n → aI h 2 i = sxB (b i)
def InR (h : AH) (b : Nat → Int32) (n : Nat) : Prop := aI h 723 14 = nI n ∧ n ≤ 700 ∧ ∀ i, i < n → aI h 734 i = b i
def apB (b : Nat → Int32) (n : Nat) (x : Int32) : Nat → Int32 := upd (upd (upd (upd b n ((x >>> (24 &&& 31)) &&& 255)) (n + 1) ((x >>> (16 &&& 31)) &&& 255)) (n + 2) ((x >>> (8 &&& 31)) &&& 255)) (n + 3) ((x >>> (0 &&& 31)) &&& 255)
theorem sx24 {x : Int32} : vp_nar .byte ((x.toUInt32 >>> ((24 : Int32).toUInt32 &&& Int32.toUInt32 31)).toInt32).toInt8.toInt32 = sxB ((x >>> (24 &&& 31)) &&& 255) := by rw [wb_24]; exact nar_sx _
theorem sx16 {x : Int32} : vp_nar .byte ((x.toUInt32 >>> ((16 : Int32).toUInt32 &&& Int32.toUInt32 31)).toInt32).toInt8.toInt32 = sxB ((x >>> (16 &&& 31)) &&& 255) := by rw [wb_16]; exact nar_sx _
theorem sx8 {x : Int32} : vp_nar .byte ((x.toUInt32 >>> ((8 : Int32).toUInt32 &&& Int32.toUInt32 31)).toInt32).toInt8.toInt32 = sxB ((x >>> (8 &&& 31)) &&& 255) := by rw [wb_8]; exact nar_sx _
theorem sx0 {x : Int32} : vp_nar .byte ((x.toUInt32 >>> ((0 : Int32).toUInt32 &&& Int32.toUInt32 31)).toInt32).toInt8.toInt32 = sxB ((x >>> (0 &&& 31)) &&& 255) := by rw [wb_0]; exact nar_sx _
theorem InC.ap {h h' : AH} {b : Nat → Int32} {n : Nat} {y : Int32} (hi : InC h b n) (hn : n < 700) (e1 : aI h' 1 1 = nI (n + 1)) (e2 : aI h' 2 = upd (aI h 2) n (sxB y)) : InC h' (upd b n y) (n + 1) :=
  ⟨e1, by omega, fun i i1 => by
    rw [e2]
    by_cases q : i = n
    · rw [q, pk_us, pk_us]
    · rw [pk_un q, pk_un q]; exact hi.2.2 i (by omega)⟩
theorem InR.ap {h h' : AH} {b : Nat → Int32} {n : Nat} {y : Int32} (hi : InR h b n) (hn : n < 700) (e1 : aI h' 723 14 = nI (n + 1)) (e2 : aI h' 734 = upd (aI h 734) n y) : InR h' (upd b n y) (n + 1) :=
  ⟨e1, by omega, fun i i1 => by
    rw [e2]
    by_cases q : i = n
    · rw [q, pk_us, pk_us]
    · rw [pk_un q, pk_un q]; exact hi.2.2 i (by omega)⟩
def IC : Nat → Prop := fun i => i = 1 ∨ i = 2
def IR : Nat → Prop := fun i => i = 723 ∨ i = 734
set_option maxRecDepth 100000 in
set_option maxHeartbeats 4000000 in
theorem c_X8_appendWord {l9 : Launch} {G : GC} {h : AH} {b : Nat → Int32} {n : Nat} {x : Int32} (hW : World h) (hi : InC h b n) (hn : n + 4 ≤ 700) : PM l9 G mX8_appendWord NT NT [.ref 1, .int x] h (fun v h' => v = none ∧ eqx h h' IC ∧ (∀ k, k ≠ 1 → aI h' 1 k = aI h 1 k) ∧ InC h' (apB b n x) (n + 4)) noX := by
  refine PM.of (by decide +kernel) rfl rfl (Nat.le_of_ble_eq_true rfl) (fun hst _ => ?_)
  refine r_bipush (24) dX8_appendWord_0 (by decide) ?_
  refine r_istore_n (ls2 := [_, _, some _]) dX8_appendWord_2 (by decide) rfl ?_
  refine r_iload_n dX8_appendWord_3 rfl ?_
  refine r_if_lt 46 dX8_appendWord_4 (by decide) (fun c_4 => ?_) (fun c_4 => ?_)
  · first | exact absurd c_4 (by decide) | exact absurd (by decide) c_4
  · refine r_aload_n dX8_appendWord_7 rfl ?_
    refine q_getI fl_X8_55 hW kc_1 rfl dX8_appendWord_8 ?_
    rw [hi.1]
    refine r_sipush (700) dX8_appendWord_11 (by decide) ?_
    refine r_icmp_ge 40 dX8_appendWord_14 (by decide) (fun c_14 => ?_) (fun c_14 => ?_)
    · exact absurd ((nI_leI (a := 700) (by decide) (by omega)).mp c_14) (by omega)
    · refine r_aload_n dX8_appendWord_17 rfl ?_
      refine q_getR fl_X8_9 hW kc_1 rfl (kl_8_0 hW) (by decide) dX8_appendWord_18 ?_
      refine r_aload_n dX8_appendWord_21 rfl ?_
      refine q_getI fl_X8_55 hW kc_1 rfl dX8_appendWord_22 ?_
      rw [hi.1]
      refine r_iload_n dX8_appendWord_25 rfl ?_
      refine r_iload_n dX8_appendWord_26 rfl ?_
      refine r_iushr dX8_appendWord_27 ?_
      refine r_i2b dX8_appendWord_28 ?_
      refine q_bast hW kc_2 (k := n) rfl (by omega) (by decide) dX8_appendWord_29 ?_
      refine r_aload_n dX8_appendWord_30 rfl ?_
      refine r_dup dX8_appendWord_31 rfl ?_
      refine q_getI fl_X8_55 hW kc_1 rfl dX8_appendWord_32 ?_
      rw [sI_o (by decide), hi.1]
      refine r_iconst (1) dX8_appendWord_35 (by decide) ?_
      refine r_iadd dX8_appendWord_36 ?_
      rw [nI_1]
      refine q_putI fl_X8_55 hW kc_1 rfl rfl dX8_appendWord_37 ?_
      refine r_iinc (-8) (by decide) (ls2 := [_, some _, _]) dX8_appendWord_40 rfl (by decide) rfl ?_
      rw [show ((24 : Int32) + (-8)) = 16 from by decide]
      refine r_goto 3 dX8_appendWord_43 (by decide) ?_
      obtain ⟨H1, eH1⟩ : ∃ H, H = sI (sI h 2 (n) (vp_nar .byte ((x.toUInt32 >>> ((24 : Int32).toUInt32 &&& Int32.toUInt32 31)).toInt32).toInt8.toInt32)) 1 1 (nI (n + 1)) := ⟨_, rfl⟩
      rw [← eH1]
      have hi1 : InC H1 _ (n + 1) := hi.ap (y := ((x >>> (24 &&& 31)) &&& 255)) (by omega) (by rw [eH1, sI_s]) (by rw [eH1, sI_o (by decide), sI_r, sx24])
      have hW : World H1 := by rw [eH1]; exact wsI (wsI hW)
      have hs1 : eqx h H1 IC := by rw [eH1]; exact (eqx.rf.sI (Or.inr rfl)).sI (Or.inl rfl)
      have ho1 : ∀ k, k ≠ 1 → aI H1 1 k = aI h 1 k := fun k hk => by rw [eH1, sI_k hk, sI_o (by decide)]
      refine r_iload_n dX8_appendWord_3 rfl ?_
      refine r_if_lt 46 dX8_appendWord_4 (by decide) (fun c_4 => ?_) (fun c_4 => ?_)
      · first | exact absurd c_4 (by decide) | exact absurd (by decide) c_4
      · refine r_aload_n dX8_appendWord_7 rfl ?_
        refine q_getI fl_X8_55 hW kc_1 rfl dX8_appendWord_8 ?_
        rw [hi1.1]
        refine r_sipush (700) dX8_appendWord_11 (by decide) ?_
        refine r_icmp_ge 40 dX8_appendWord_14 (by decide) (fun c_14 => ?_) (fun c_14 => ?_)
        · exact absurd ((nI_leI (a := 700) (by decide) (by omega)).mp c_14) (by omega)
        · refine r_aload_n dX8_appendWord_17 rfl ?_
          refine q_getR fl_X8_9 hW kc_1 rfl (kl_8_0 hW) (by decide) dX8_appendWord_18 ?_
          refine r_aload_n dX8_appendWord_21 rfl ?_
          refine q_getI fl_X8_55 hW kc_1 rfl dX8_appendWord_22 ?_
          rw [hi1.1]
          refine r_iload_n dX8_appendWord_25 rfl ?_
          refine r_iload_n dX8_appendWord_26 rfl ?_
          refine r_iushr dX8_appendWord_27 ?_
          refine r_i2b dX8_appendWord_28 ?_
          refine q_bast hW kc_2 (k := n + 1) rfl (by omega) (by decide) dX8_appendWord_29 ?_
          refine r_aload_n dX8_appendWord_30 rfl ?_
          refine r_dup dX8_appendWord_31 rfl ?_
          refine q_getI fl_X8_55 hW kc_1 rfl dX8_appendWord_32 ?_
          rw [sI_o (by decide), hi1.1]
          refine r_iconst (1) dX8_appendWord_35 (by decide) ?_
          refine r_iadd dX8_appendWord_36 ?_
          rw [nI_1]
          refine q_putI fl_X8_55 hW kc_1 rfl rfl dX8_appendWord_37 ?_
          refine r_iinc (-8) (by decide) (ls2 := [_, some _, _]) dX8_appendWord_40 rfl (by decide) rfl ?_
          rw [show ((16 : Int32) + (-8)) = 8 from by decide]
          refine r_goto 3 dX8_appendWord_43 (by decide) ?_
          obtain ⟨H2, eH2⟩ : ∃ H, H = sI (sI H1 2 (n + 1) (vp_nar .byte ((x.toUInt32 >>> ((16 : Int32).toUInt32 &&& Int32.toUInt32 31)).toInt32).toInt8.toInt32)) 1 1 (nI (n + 1 + 1)) := ⟨_, rfl⟩
          rw [← eH2]
          have hi2 : InC H2 _ (n + 1 + 1) := hi1.ap (y := ((x >>> (16 &&& 31)) &&& 255)) (by omega) (by rw [eH2, sI_s]) (by rw [eH2, sI_o (by decide), sI_r, sx16])
          have hW : World H2 := by rw [eH2]; exact wsI (wsI hW)
          have hs2 : eqx H1 H2 IC := by rw [eH2]; exact (eqx.rf.sI (Or.inr rfl)).sI (Or.inl rfl)
          have ho2 : ∀ k, k ≠ 1 → aI H2 1 k = aI H1 1 k := fun k hk => by rw [eH2, sI_k hk, sI_o (by decide)]
          refine r_iload_n dX8_appendWord_3 rfl ?_
          refine r_if_lt 46 dX8_appendWord_4 (by decide) (fun c_4 => ?_) (fun c_4 => ?_)
          · first | exact absurd c_4 (by decide) | exact absurd (by decide) c_4
          · refine r_aload_n dX8_appendWord_7 rfl ?_
            refine q_getI fl_X8_55 hW kc_1 rfl dX8_appendWord_8 ?_
            rw [hi2.1]
            refine r_sipush (700) dX8_appendWord_11 (by decide) ?_
            refine r_icmp_ge 40 dX8_appendWord_14 (by decide) (fun c_14 => ?_) (fun c_14 => ?_)
            · exact absurd ((nI_leI (a := 700) (by decide) (by omega)).mp c_14) (by omega)
            · refine r_aload_n dX8_appendWord_17 rfl ?_
              refine q_getR fl_X8_9 hW kc_1 rfl (kl_8_0 hW) (by decide) dX8_appendWord_18 ?_
              refine r_aload_n dX8_appendWord_21 rfl ?_
              refine q_getI fl_X8_55 hW kc_1 rfl dX8_appendWord_22 ?_
              rw [hi2.1]
              refine r_iload_n dX8_appendWord_25 rfl ?_
              refine r_iload_n dX8_appendWord_26 rfl ?_
              refine r_iushr dX8_appendWord_27 ?_
              refine r_i2b dX8_appendWord_28 ?_
              refine q_bast hW kc_2 (k := n + 2) rfl (by omega) (by decide) dX8_appendWord_29 ?_
              refine r_aload_n dX8_appendWord_30 rfl ?_
              refine r_dup dX8_appendWord_31 rfl ?_
              refine q_getI fl_X8_55 hW kc_1 rfl dX8_appendWord_32 ?_
              rw [sI_o (by decide), hi2.1]
              refine r_iconst (1) dX8_appendWord_35 (by decide) ?_
              refine r_iadd dX8_appendWord_36 ?_
              rw [nI_1]
              refine q_putI fl_X8_55 hW kc_1 rfl rfl dX8_appendWord_37 ?_
              refine r_iinc (-8) (by decide) (ls2 := [_, some _, _]) dX8_appendWord_40 rfl (by decide) rfl ?_
              rw [show ((8 : Int32) + (-8)) = 0 from by decide]
              refine r_goto 3 dX8_appendWord_43 (by decide) ?_
              obtain ⟨H3, eH3⟩ : ∃ H, H = sI (sI H2 2 (n + 2) (vp_nar .byte ((x.toUInt32 >>> ((8 : Int32).toUInt32 &&& Int32.toUInt32 31)).toInt32).toInt8.toInt32)) 1 1 (nI (n + 2 + 1)) := ⟨_, rfl⟩
              rw [← eH3]
              have hi3 : InC H3 _ (n + 2 + 1) := hi2.ap (y := ((x >>> (8 &&& 31)) &&& 255)) (by omega) (by rw [eH3, sI_s]) (by rw [eH3, sI_o (by decide), sI_r, sx8])
              have hW : World H3 := by rw [eH3]; exact wsI (wsI hW)
              have hs3 : eqx H2 H3 IC := by rw [eH3]; exact (eqx.rf.sI (Or.inr rfl)).sI (Or.inl rfl)
              have ho3 : ∀ k, k ≠ 1 → aI H3 1 k = aI H2 1 k := fun k hk => by rw [eH3, sI_k hk, sI_o (by decide)]
              refine r_iload_n dX8_appendWord_3 rfl ?_
              refine r_if_lt 46 dX8_appendWord_4 (by decide) (fun c_4 => ?_) (fun c_4 => ?_)
              · first | exact absurd c_4 (by decide) | exact absurd (by decide) c_4
              · refine r_aload_n dX8_appendWord_7 rfl ?_
                refine q_getI fl_X8_55 hW kc_1 rfl dX8_appendWord_8 ?_
                rw [hi3.1]
                refine r_sipush (700) dX8_appendWord_11 (by decide) ?_
                refine r_icmp_ge 40 dX8_appendWord_14 (by decide) (fun c_14 => ?_) (fun c_14 => ?_)
                · exact absurd ((nI_leI (a := 700) (by decide) (by omega)).mp c_14) (by omega)
                · refine r_aload_n dX8_appendWord_17 rfl ?_
                  refine q_getR fl_X8_9 hW kc_1 rfl (kl_8_0 hW) (by decide) dX8_appendWord_18 ?_
                  refine r_aload_n dX8_appendWord_21 rfl ?_
                  refine q_getI fl_X8_55 hW kc_1 rfl dX8_appendWord_22 ?_
                  rw [hi3.1]
                  refine r_iload_n dX8_appendWord_25 rfl ?_
                  refine r_iload_n dX8_appendWord_26 rfl ?_
                  refine r_iushr dX8_appendWord_27 ?_
                  refine r_i2b dX8_appendWord_28 ?_
                  refine q_bast hW kc_2 (k := n + 3) rfl (by omega) (by decide) dX8_appendWord_29 ?_
                  refine r_aload_n dX8_appendWord_30 rfl ?_
                  refine r_dup dX8_appendWord_31 rfl ?_
                  refine q_getI fl_X8_55 hW kc_1 rfl dX8_appendWord_32 ?_
                  rw [sI_o (by decide), hi3.1]
                  refine r_iconst (1) dX8_appendWord_35 (by decide) ?_
                  refine r_iadd dX8_appendWord_36 ?_
                  rw [nI_1]
                  refine q_putI fl_X8_55 hW kc_1 rfl rfl dX8_appendWord_37 ?_
                  refine r_iinc (-8) (by decide) (ls2 := [_, some _, _]) dX8_appendWord_40 rfl (by decide) rfl ?_
                  rw [show ((0 : Int32) + (-8)) = -8 from by decide]
                  refine r_goto 3 dX8_appendWord_43 (by decide) ?_
                  obtain ⟨H4, eH4⟩ : ∃ H, H = sI (sI H3 2 (n + 3) (vp_nar .byte ((x.toUInt32 >>> ((0 : Int32).toUInt32 &&& Int32.toUInt32 31)).toInt32).toInt8.toInt32)) 1 1 (nI (n + 3 + 1)) := ⟨_, rfl⟩
                  rw [← eH4]
                  have hi4 : InC H4 _ (n + 3 + 1) := hi3.ap (y := ((x >>> (0 &&& 31)) &&& 255)) (by omega) (by rw [eH4, sI_s]) (by rw [eH4, sI_o (by decide), sI_r, sx0])
                  have hW : World H4 := by rw [eH4]; exact wsI (wsI hW)
                  have hs4 : eqx H3 H4 IC := by rw [eH4]; exact (eqx.rf.sI (Or.inr rfl)).sI (Or.inl rfl)
                  have ho4 : ∀ k, k ≠ 1 → aI H4 1 k = aI H3 1 k := fun k hk => by rw [eH4, sI_k hk, sI_o (by decide)]
                  refine r_iload_n dX8_appendWord_3 rfl ?_
                  refine r_if_lt 46 dX8_appendWord_4 (by decide) (fun c_4 => ?_) (fun c_4 => ?_)
                  · refine r_vret dX8_appendWord_46 rfl ⟨Nat.zero_le _, Nat.zero_le _⟩ ?_
                    refine ⟨rfl, hs1.tr (hs2.tr (hs3.tr hs4)), fun k hk => (ho4 k hk).trans ((ho3 k hk).trans ((ho2 k hk).trans (ho1 k hk))), hi4⟩
                  · first | exact absurd c_4 (by decide) | exact absurd (by decide) c_4

set_option maxRecDepth 100000 in
set_option maxHeartbeats 4000000 in
theorem c_X9_appendWord {l9 : Launch} {G : GC} {h : AH} {b : Nat → Int32} {n : Nat} {x : Int32} (hW : World h) (hi : InR h b n) (hn : n + 4 ≤ 700) : PM l9 G mX9_appendWord NT NT [.ref 723, .int x] h (fun v h' => v = none ∧ eqx h h' IR ∧ (∀ k, k ≠ 14 → aI h' 723 k = aI h 723 k) ∧ InR h' (apB b n x) (n + 4)) noX := by
  refine PM.of (by decide +kernel) rfl rfl (Nat.le_of_ble_eq_true rfl) (fun hst _ => ?_)
  refine r_bipush (24) dX9_appendWord_0 (by decide) ?_
  refine r_istore_n (ls2 := [_, _, some _]) dX9_appendWord_2 (by decide) rfl ?_
  refine r_iload_n dX9_appendWord_3 rfl ?_
  refine r_if_lt 39 dX9_appendWord_4 (by decide) (fun c_4 => ?_) (fun c_4 => ?_)
  · first | exact absurd c_4 (by decide) | exact absurd (by decide) c_4
  · refine r_aload_n dX9_appendWord_7 rfl ?_
    refine q_getR fl_X9_41 hW kc_723 rfl (kl_9_13 hW) (by decide) dX9_appendWord_8 ?_
    refine r_aload_n dX9_appendWord_11 rfl ?_
    refine q_getI fl_X9_161 hW kc_723 rfl dX9_appendWord_12 ?_
    rw [hi.1]
    refine r_iload_n dX9_appendWord_15 rfl ?_
    refine r_iload_n dX9_appendWord_16 rfl ?_
    refine r_ishr dX9_appendWord_17 ?_
    refine r_sipush (255) dX9_appendWord_18 (by decide) ?_
    refine r_iand dX9_appendWord_21 ?_
    refine q_iast hW kc_734 (k := n) rfl (by omega) (by decide) dX9_appendWord_22 ?_
    refine r_aload_n dX9_appendWord_23 rfl ?_
    refine r_dup dX9_appendWord_24 rfl ?_
    refine q_getI fl_X9_161 hW kc_723 rfl dX9_appendWord_25 ?_
    rw [sI_o (by decide), hi.1]
    refine r_iconst (1) dX9_appendWord_28 (by decide) ?_
    refine r_iadd dX9_appendWord_29 ?_
    rw [nI_1]
    refine q_putI fl_X9_161 hW kc_723 rfl rfl dX9_appendWord_30 ?_
    refine r_iinc (-8) (by decide) (ls2 := [_, some _, _]) dX9_appendWord_33 rfl (by decide) rfl ?_
    rw [show ((24 : Int32) + (-8)) = 16 from by decide]
    refine r_goto 3 dX9_appendWord_36 (by decide) ?_
    obtain ⟨H1, eH1⟩ : ∃ H, H = sI (sI h 734 (n) ((x >>> (24 &&& 31)) &&& 255)) 723 14 (nI (n + 1)) := ⟨_, rfl⟩
    rw [← eH1]
    have hi1 : InR H1 _ (n + 1) := hi.ap (y := ((x >>> (24 &&& 31)) &&& 255)) (by omega) (by rw [eH1, sI_s]) (by rw [eH1, sI_o (by decide), sI_r])
    have hW : World H1 := by rw [eH1]; exact wsI (wsI hW)
    have hs1 : eqx h H1 IR := by rw [eH1]; exact (eqx.rf.sI (Or.inr rfl)).sI (Or.inl rfl)
    have ho1 : ∀ k, k ≠ 14 → aI H1 723 k = aI h 723 k := fun k hk => by rw [eH1, sI_k hk, sI_o (by decide)]
    refine r_iload_n dX9_appendWord_3 rfl ?_
    refine r_if_lt 39 dX9_appendWord_4 (by decide) (fun c_4 => ?_) (fun c_4 => ?_)
    · first | exact absurd c_4 (by decide) | exact absurd (by decide) c_4
    · refine r_aload_n dX9_appendWord_7 rfl ?_
      refine q_getR fl_X9_41 hW kc_723 rfl (kl_9_13 hW) (by decide) dX9_appendWord_8 ?_
      refine r_aload_n dX9_appendWord_11 rfl ?_
      refine q_getI fl_X9_161 hW kc_723 rfl dX9_appendWord_12 ?_
      rw [hi1.1]
      refine r_iload_n dX9_appendWord_15 rfl ?_
      refine r_iload_n dX9_appendWord_16 rfl ?_
      refine r_ishr dX9_appendWord_17 ?_
      refine r_sipush (255) dX9_appendWord_18 (by decide) ?_
      refine r_iand dX9_appendWord_21 ?_
      refine q_iast hW kc_734 (k := n + 1) rfl (by omega) (by decide) dX9_appendWord_22 ?_
      refine r_aload_n dX9_appendWord_23 rfl ?_
      refine r_dup dX9_appendWord_24 rfl ?_
      refine q_getI fl_X9_161 hW kc_723 rfl dX9_appendWord_25 ?_
      rw [sI_o (by decide), hi1.1]
      refine r_iconst (1) dX9_appendWord_28 (by decide) ?_
      refine r_iadd dX9_appendWord_29 ?_
      rw [nI_1]
      refine q_putI fl_X9_161 hW kc_723 rfl rfl dX9_appendWord_30 ?_
      refine r_iinc (-8) (by decide) (ls2 := [_, some _, _]) dX9_appendWord_33 rfl (by decide) rfl ?_
      rw [show ((16 : Int32) + (-8)) = 8 from by decide]
      refine r_goto 3 dX9_appendWord_36 (by decide) ?_
      obtain ⟨H2, eH2⟩ : ∃ H, H = sI (sI H1 734 (n + 1) ((x >>> (16 &&& 31)) &&& 255)) 723 14 (nI (n + 1 + 1)) := ⟨_, rfl⟩
      rw [← eH2]
      have hi2 : InR H2 _ (n + 1 + 1) := hi1.ap (y := ((x >>> (16 &&& 31)) &&& 255)) (by omega) (by rw [eH2, sI_s]) (by rw [eH2, sI_o (by decide), sI_r])
      have hW : World H2 := by rw [eH2]; exact wsI (wsI hW)
      have hs2 : eqx H1 H2 IR := by rw [eH2]; exact (eqx.rf.sI (Or.inr rfl)).sI (Or.inl rfl)
      have ho2 : ∀ k, k ≠ 14 → aI H2 723 k = aI H1 723 k := fun k hk => by rw [eH2, sI_k hk, sI_o (by decide)]
      refine r_iload_n dX9_appendWord_3 rfl ?_
      refine r_if_lt 39 dX9_appendWord_4 (by decide) (fun c_4 => ?_) (fun c_4 => ?_)
      · first | exact absurd c_4 (by decide) | exact absurd (by decide) c_4
      · refine r_aload_n dX9_appendWord_7 rfl ?_
        refine q_getR fl_X9_41 hW kc_723 rfl (kl_9_13 hW) (by decide) dX9_appendWord_8 ?_
        refine r_aload_n dX9_appendWord_11 rfl ?_
        refine q_getI fl_X9_161 hW kc_723 rfl dX9_appendWord_12 ?_
        rw [hi2.1]
        refine r_iload_n dX9_appendWord_15 rfl ?_
        refine r_iload_n dX9_appendWord_16 rfl ?_
        refine r_ishr dX9_appendWord_17 ?_
        refine r_sipush (255) dX9_appendWord_18 (by decide) ?_
        refine r_iand dX9_appendWord_21 ?_
        refine q_iast hW kc_734 (k := n + 2) rfl (by omega) (by decide) dX9_appendWord_22 ?_
        refine r_aload_n dX9_appendWord_23 rfl ?_
        refine r_dup dX9_appendWord_24 rfl ?_
        refine q_getI fl_X9_161 hW kc_723 rfl dX9_appendWord_25 ?_
        rw [sI_o (by decide), hi2.1]
        refine r_iconst (1) dX9_appendWord_28 (by decide) ?_
        refine r_iadd dX9_appendWord_29 ?_
        rw [nI_1]
        refine q_putI fl_X9_161 hW kc_723 rfl rfl dX9_appendWord_30 ?_
        refine r_iinc (-8) (by decide) (ls2 := [_, some _, _]) dX9_appendWord_33 rfl (by decide) rfl ?_
        rw [show ((8 : Int32) + (-8)) = 0 from by decide]
        refine r_goto 3 dX9_appendWord_36 (by decide) ?_
        obtain ⟨H3, eH3⟩ : ∃ H, H = sI (sI H2 734 (n + 2) ((x >>> (8 &&& 31)) &&& 255)) 723 14 (nI (n + 2 + 1)) := ⟨_, rfl⟩
        rw [← eH3]
        have hi3 : InR H3 _ (n + 2 + 1) := hi2.ap (y := ((x >>> (8 &&& 31)) &&& 255)) (by omega) (by rw [eH3, sI_s]) (by rw [eH3, sI_o (by decide), sI_r])
        have hW : World H3 := by rw [eH3]; exact wsI (wsI hW)
        have hs3 : eqx H2 H3 IR := by rw [eH3]; exact (eqx.rf.sI (Or.inr rfl)).sI (Or.inl rfl)
        have ho3 : ∀ k, k ≠ 14 → aI H3 723 k = aI H2 723 k := fun k hk => by rw [eH3, sI_k hk, sI_o (by decide)]
        refine r_iload_n dX9_appendWord_3 rfl ?_
        refine r_if_lt 39 dX9_appendWord_4 (by decide) (fun c_4 => ?_) (fun c_4 => ?_)
        · first | exact absurd c_4 (by decide) | exact absurd (by decide) c_4
        · refine r_aload_n dX9_appendWord_7 rfl ?_
          refine q_getR fl_X9_41 hW kc_723 rfl (kl_9_13 hW) (by decide) dX9_appendWord_8 ?_
          refine r_aload_n dX9_appendWord_11 rfl ?_
          refine q_getI fl_X9_161 hW kc_723 rfl dX9_appendWord_12 ?_
          rw [hi3.1]
          refine r_iload_n dX9_appendWord_15 rfl ?_
          refine r_iload_n dX9_appendWord_16 rfl ?_
          refine r_ishr dX9_appendWord_17 ?_
          refine r_sipush (255) dX9_appendWord_18 (by decide) ?_
          refine r_iand dX9_appendWord_21 ?_
          refine q_iast hW kc_734 (k := n + 3) rfl (by omega) (by decide) dX9_appendWord_22 ?_
          refine r_aload_n dX9_appendWord_23 rfl ?_
          refine r_dup dX9_appendWord_24 rfl ?_
          refine q_getI fl_X9_161 hW kc_723 rfl dX9_appendWord_25 ?_
          rw [sI_o (by decide), hi3.1]
          refine r_iconst (1) dX9_appendWord_28 (by decide) ?_
          refine r_iadd dX9_appendWord_29 ?_
          rw [nI_1]
          refine q_putI fl_X9_161 hW kc_723 rfl rfl dX9_appendWord_30 ?_
          refine r_iinc (-8) (by decide) (ls2 := [_, some _, _]) dX9_appendWord_33 rfl (by decide) rfl ?_
          rw [show ((0 : Int32) + (-8)) = -8 from by decide]
          refine r_goto 3 dX9_appendWord_36 (by decide) ?_
          obtain ⟨H4, eH4⟩ : ∃ H, H = sI (sI H3 734 (n + 3) ((x >>> (0 &&& 31)) &&& 255)) 723 14 (nI (n + 3 + 1)) := ⟨_, rfl⟩
          rw [← eH4]
          have hi4 : InR H4 _ (n + 3 + 1) := hi3.ap (y := ((x >>> (0 &&& 31)) &&& 255)) (by omega) (by rw [eH4, sI_s]) (by rw [eH4, sI_o (by decide), sI_r])
          have hW : World H4 := by rw [eH4]; exact wsI (wsI hW)
          have hs4 : eqx H3 H4 IR := by rw [eH4]; exact (eqx.rf.sI (Or.inr rfl)).sI (Or.inl rfl)
          have ho4 : ∀ k, k ≠ 14 → aI H4 723 k = aI H3 723 k := fun k hk => by rw [eH4, sI_k hk, sI_o (by decide)]
          refine r_iload_n dX9_appendWord_3 rfl ?_
          refine r_if_lt 39 dX9_appendWord_4 (by decide) (fun c_4 => ?_) (fun c_4 => ?_)
          · refine r_vret dX9_appendWord_39 rfl ⟨Nat.zero_le _, Nat.zero_le _⟩ ?_
            refine ⟨rfl, hs1.tr (hs2.tr (hs3.tr hs4)), fun k hk => (ho4 k hk).trans ((ho3 k hk).trans ((ho2 k hk).trans (ho1 k hk))), hi4⟩
          · first | exact absurd c_4 (by decide) | exact absurd (by decide) c_4

def ap5 (b : Nat → Int32) (n : Nat) (x1 x2 x3 x4 x5 : Int32) : Nat → Int32 := apB (apB (apB (apB (apB b n x1) (n + 4) x2) (n + 8) x3) (n + 12) x4) (n + 16) x5
set_option maxRecDepth 100000 in
set_option maxHeartbeats 4000000 in
theorem c_X8_appendInput {l9 : Launch} {G : GC} {h : AH} {b : Nat → Int32} {n : Nat} {x1 x2 x3 x4 x5 : Int32} (hW : World h) (hi : InC h b n) : PM l9 G mX8_appendInput NT NT [.ref 1, .int x1, .int x2, .int x3, .int x4, .int x5] h (fun v h' => (700 < n + 20 → v = some (.int (-1)) ∧ h' = h) ∧ (¬ 700 < n + 20 → v = some (.int (nI (n + 20))) ∧ eqx h h' IC ∧ (∀ k, k ≠ 1 → aI h' 1 k = aI h 1 k) ∧ InC h' (ap5 b n x1 x2 x3 x4 x5) (n + 20))) noX := by
  refine PM.of (by decide +kernel) rfl rfl (Nat.le_of_ble_eq_true rfl) (fun hst _ => ?_)
  refine r_aload_n dX8_appendInput_0 rfl ?_
  refine q_getI fl_X8_55 hW kc_1 rfl dX8_appendInput_1 ?_
  rw [hi.1]
  refine r_bipush (20) dX8_appendInput_4 (by decide) ?_
  refine r_iadd dX8_appendInput_6 ?_
  refine r_sipush (700) dX8_appendInput_7 (by decide) ?_
  have hn7 := hi.2.1
  rw [show nI n + 20 = nI (n + 20) from nadd rfl kn_20]
  refine r_icmp_le 15 dX8_appendInput_10 (by decide) (fun c_10 => ?_) (fun c_10 => ?_)
  · have hle : n + 20 ≤ 700 := (nI_leI (b := 700) (by omega) (by decide)).mp c_10
    refine r_aload_n dX8_appendInput_15 rfl ?_
    refine r_iload_n dX8_appendInput_16 rfl ?_
    refine q_callV1 (cv_X8_appendWord ml_X8_58) hW kc_1 (by decide) rfl ⟨rfl, rfl⟩ rfl (Nat.le_of_ble_eq_true rfl) dX8_appendInput_17 (c_X8_appendWord hW hi (by omega)) (fun v_17 h_17 q_17 => ?_)
    obtain ⟨rfl, e1, o1, hi⟩ := q_17
    have hW := e1.W hW
    refine r_aload_n dX8_appendInput_20 rfl ?_
    refine r_iload_n dX8_appendInput_21 rfl ?_
    refine q_callV1 (cv_X8_appendWord ml_X8_58) hW kc_1 (by decide) rfl ⟨rfl, rfl⟩ rfl (Nat.le_of_ble_eq_true rfl) dX8_appendInput_22 (c_X8_appendWord hW hi (by omega)) (fun v_22 h_22 q_22 => ?_)
    obtain ⟨rfl, e2, o2, hi⟩ := q_22
    have hW := e2.W hW
    refine r_aload_n dX8_appendInput_25 rfl ?_
    refine r_iload_n dX8_appendInput_26 rfl ?_
    refine q_callV1 (cv_X8_appendWord ml_X8_58) hW kc_1 (by decide) rfl ⟨rfl, rfl⟩ rfl (Nat.le_of_ble_eq_true rfl) dX8_appendInput_27 (c_X8_appendWord hW hi (by omega)) (fun v_27 h_27 q_27 => ?_)
    obtain ⟨rfl, e3, o3, hi⟩ := q_27
    have hW := e3.W hW
    refine r_aload_n dX8_appendInput_30 rfl ?_
    refine r_iload dX8_appendInput_31 rfl ?_
    refine q_callV1 (cv_X8_appendWord ml_X8_58) hW kc_1 (by decide) rfl ⟨rfl, rfl⟩ rfl (Nat.le_of_ble_eq_true rfl) dX8_appendInput_33 (c_X8_appendWord hW hi (by omega)) (fun v_33 h_33 q_33 => ?_)
    obtain ⟨rfl, e4, o4, hi⟩ := q_33
    have hW := e4.W hW
    refine r_aload_n dX8_appendInput_36 rfl ?_
    refine r_iload dX8_appendInput_37 rfl ?_
    refine q_callV1 (cv_X8_appendWord ml_X8_58) hW kc_1 (by decide) rfl ⟨rfl, rfl⟩ rfl (Nat.le_of_ble_eq_true rfl) dX8_appendInput_39 (c_X8_appendWord hW hi (by omega)) (fun v_39 h_39 q_39 => ?_)
    obtain ⟨rfl, e5, o5, hi⟩ := q_39
    have hW := e5.W hW
    refine r_aload_n dX8_appendInput_42 rfl ?_
    refine q_getI fl_X8_55 hW kc_1 rfl dX8_appendInput_43 ?_
    rw [hi.1]
    refine r_iret dX8_appendInput_46 rfl ⟨Nat.zero_le _, Nat.zero_le _⟩ ?_
    have e9 := e1.tr (e2.tr (e3.tr (e4.tr e5)))
    refine ⟨fun q => absurd q (by omega), fun _ => ⟨rfl, e9, fun k hk => (o5 k hk).trans ((o4 k hk).trans ((o3 k hk).trans ((o2 k hk).trans (o1 k hk)))), hi⟩⟩
  · refine r_iconst (-1) dX8_appendInput_13 (by decide) ?_
    refine r_iret dX8_appendInput_14 rfl ⟨Nat.zero_le _, Nat.zero_le _⟩ ?_
    refine ⟨fun _ => ⟨rfl, rfl⟩, fun q => absurd ?_ c_10⟩
    exact (nI_leI (b := 700) (by omega) (by decide)).mpr (by omega)

set_option maxRecDepth 100000 in
set_option maxHeartbeats 4000000 in
theorem c_X9_appendInput {l9 : Launch} {G : GC} {h : AH} {b : Nat → Int32} {n : Nat} {x1 x2 x3 x4 x5 : Int32} (hW : World h) (hi : InR h b n) : PM l9 G mX9_appendInput NT NT [.ref 723, .int x1, .int x2, .int x3, .int x4, .int x5] h (fun v h' => (700 < n + 20 → v = some (.int (-1)) ∧ h' = sI h 723 12 0) ∧ (¬ 700 < n + 20 → v = some (.int (nI (n + 20))) ∧ eqx h h' IR ∧ (∀ k, k ≠ 14 → k ≠ 12 → aI h' 723 k = aI h 723 k) ∧ aI h' 723 12 = 0 ∧ InR h' (ap5 b n x1 x2 x3 x4 x5) (n + 20))) noX := by
  refine PM.of (by decide +kernel) rfl rfl (Nat.le_of_ble_eq_true rfl) (fun hst _ => ?_)
  refine r_aload_n dX9_appendInput_0 rfl ?_
  refine r_iconst (0) dX9_appendInput_1 (by decide) ?_
  refine q_putI fl_X9_61 hW kc_723 rfl rfl dX9_appendInput_2 ?_
  refine r_aload_n dX9_appendInput_5 rfl ?_
  refine q_getI fl_X9_161 hW kc_723 rfl dX9_appendInput_6 ?_
  have hi : InR (sI h 723 12 0) b n := ⟨(sI_k (by decide)).trans hi.1, hi.2.1, fun i i1 => by rw [sI_o (by decide)]; exact hi.2.2 i i1⟩
  rw [hi.1]
  refine r_bipush (20) dX9_appendInput_9 (by decide) ?_
  refine r_iadd dX9_appendInput_11 ?_
  refine r_sipush (700) dX9_appendInput_12 (by decide) ?_
  have hn7 := hi.2.1
  rw [show nI n + 20 = nI (n + 20) from nadd rfl kn_20]
  refine r_icmp_le 20 dX9_appendInput_15 (by decide) (fun c_15 => ?_) (fun c_15 => ?_)
  · have hle : n + 20 ≤ 700 := (nI_leI (b := 700) (by omega) (by decide)).mp c_15
    refine r_aload_n dX9_appendInput_20 rfl ?_
    refine r_iload_n dX9_appendInput_21 rfl ?_
    refine q_callV1 (cv_X9_appendWord ml_X9_164) hW kc_723 (by decide) rfl ⟨rfl, rfl⟩ rfl (Nat.le_of_ble_eq_true rfl) dX9_appendInput_22 (c_X9_appendWord hW hi (by omega)) (fun v_22 h_22 q_22 => ?_)
    obtain ⟨rfl, e1, o1, hi⟩ := q_22
    have hW := e1.W hW
    refine r_aload_n dX9_appendInput_25 rfl ?_
    refine r_iload_n dX9_appendInput_26 rfl ?_
    refine q_callV1 (cv_X9_appendWord ml_X9_164) hW kc_723 (by decide) rfl ⟨rfl, rfl⟩ rfl (Nat.le_of_ble_eq_true rfl) dX9_appendInput_27 (c_X9_appendWord hW hi (by omega)) (fun v_27 h_27 q_27 => ?_)
    obtain ⟨rfl, e2, o2, hi⟩ := q_27
    have hW := e2.W hW
    refine r_aload_n dX9_appendInput_30 rfl ?_
    refine r_iload_n dX9_appendInput_31 rfl ?_
    refine q_callV1 (cv_X9_appendWord ml_X9_164) hW kc_723 (by decide) rfl ⟨rfl, rfl⟩ rfl (Nat.le_of_ble_eq_true rfl) dX9_appendInput_32 (c_X9_appendWord hW hi (by omega)) (fun v_32 h_32 q_32 => ?_)
    obtain ⟨rfl, e3, o3, hi⟩ := q_32
    have hW := e3.W hW
    refine r_aload_n dX9_appendInput_35 rfl ?_
    refine r_iload dX9_appendInput_36 rfl ?_
    refine q_callV1 (cv_X9_appendWord ml_X9_164) hW kc_723 (by decide) rfl ⟨rfl, rfl⟩ rfl (Nat.le_of_ble_eq_true rfl) dX9_appendInput_38 (c_X9_appendWord hW hi (by omega)) (fun v_38 h_38 q_38 => ?_)
    obtain ⟨rfl, e4, o4, hi⟩ := q_38
    have hW := e4.W hW
    refine r_aload_n dX9_appendInput_41 rfl ?_
    refine r_iload dX9_appendInput_42 rfl ?_
    refine q_callV1 (cv_X9_appendWord ml_X9_164) hW kc_723 (by decide) rfl ⟨rfl, rfl⟩ rfl (Nat.le_of_ble_eq_true rfl) dX9_appendInput_44 (c_X9_appendWord hW hi (by omega)) (fun v_44 h_44 q_44 => ?_)
    obtain ⟨rfl, e5, o5, hi⟩ := q_44
    have hW := e5.W hW
    refine r_aload_n dX9_appendInput_47 rfl ?_
    refine q_getI fl_X9_161 hW kc_723 rfl dX9_appendInput_48 ?_
    rw [hi.1]
    refine r_iret dX9_appendInput_51 rfl ⟨Nat.zero_le _, Nat.zero_le _⟩ ?_
    have e9 := e1.tr (e2.tr (e3.tr (e4.tr e5)))
    refine ⟨fun q => absurd q (by omega), fun _ => ⟨rfl, (eqx.rf.sI (S := IR) (Or.inl rfl)).tr e9, fun k hk hk2 => ((o5 k hk).trans ((o4 k hk).trans ((o3 k hk).trans ((o2 k hk).trans (o1 k hk))))).trans (sI_k hk2), ?_, hi⟩⟩
    rw [o5 12 (by decide), o4 12 (by decide), o3 12 (by decide), o2 12 (by decide), o1 12 (by decide)]
    exact sI_s
  · refine r_iconst (-1) dX9_appendInput_18 (by decide) ?_
    refine r_iret dX9_appendInput_19 rfl ⟨Nat.zero_le _, Nat.zero_le _⟩ ?_
    refine ⟨fun _ => ⟨rfl, rfl⟩, fun q => absurd ?_ c_15⟩
    exact (nI_leI (b := 700) (by omega) (by decide)).mpr (by omega)

set_option maxRecDepth 100000 in
set_option maxHeartbeats 4000000 in
theorem c_X8_truncateInput {l9 : Launch} {G : GC} {h : AH} {b : Nat → Int32} {n : Nat} {x : Int32} (hW : World h) (hi : InC h b n) : PM l9 G mX8_truncateInput NT NT [.ref 1, .int x] h (fun v h' => (rgB 0 (nI n) x = false → v = some (.int 0) ∧ h' = h) ∧ (rgB 0 (nI n) x = true → v = some (.int 1) ∧ h' = sI h 1 1 x ∧ InC h' b (nn x))) noX := by
  refine PM.of (by decide +kernel) rfl rfl (Nat.le_of_ble_eq_true rfl) (fun hst _ => ?_)
  refine r_iload_n dX8_truncateInput_0 rfl ?_
  refine r_if_lt 12 dX8_truncateInput_1 (by decide) (fun c_1 => ?_) (fun c_1 => ?_)
  · refine r_iconst (0) dX8_truncateInput_12 (by decide) ?_
    refine r_zret dX8_truncateInput_13 rfl (by decide) ⟨Nat.zero_le _, Nat.zero_le _⟩ ?_
    have kr : rgB 0 (nI n) x = false := by
      first
        | exact decide_eq_false (fun q => absurd c_1 (Int32.not_lt.mpr q.1))
        | exact decide_eq_false (fun q => c_9 q.2)
    exact ⟨fun _ => ⟨rfl, rfl⟩, fun q => by rw [kr] at q; cases q⟩
  · refine r_iload_n dX8_truncateInput_4 rfl ?_
    refine r_aload_n dX8_truncateInput_5 rfl ?_
    refine q_getI fl_X8_55 hW kc_1 rfl dX8_truncateInput_6 ?_
    rw [hi.1]
    refine r_icmp_le 14 dX8_truncateInput_9 (by decide) (fun c_9 => ?_) (fun c_9 => ?_)
    · have kr : rgB 0 (nI n) x = true := decide_eq_true ⟨Int32.not_lt.mp c_1, c_9⟩
      refine r_aload_n dX8_truncateInput_14 rfl ?_
      refine r_iload_n dX8_truncateInput_15 rfl ?_
      refine q_putI fl_X8_55 hW kc_1 rfl rfl dX8_truncateInput_16 ?_
      refine r_iconst (1) dX8_truncateInput_19 (by decide) ?_
      refine r_zret dX8_truncateInput_20 rfl (by decide) ⟨Nat.zero_le _, Nat.zero_le _⟩ ?_
      have hn7 := hi.2.1
      obtain ⟨k, k1, k2, hx⟩ := rgB_t (a := 0) (b := n) kr (by omega) (by decide)
      have ex : nn x = k := by rw [hx]; exact nn_I (by omega)
      refine ⟨fun q => (by rw [kr] at q; cases q), fun _ => ⟨rfl, rfl, ?_, by omega, fun i i1 => ?_⟩⟩
      · rw [sI_s, ex]; exact hx
      · rw [sI_o (by decide)]; exact hi.2.2 i (by omega)
    · refine r_iconst (0) dX8_truncateInput_12 (by decide) ?_
      refine r_zret dX8_truncateInput_13 rfl (by decide) ⟨Nat.zero_le _, Nat.zero_le _⟩ ?_
      have kr : rgB 0 (nI n) x = false := by
        first
          | exact decide_eq_false (fun q => absurd c_1 (Int32.not_lt.mpr q.1))
          | exact decide_eq_false (fun q => c_9 q.2)
      exact ⟨fun _ => ⟨rfl, rfl⟩, fun q => by rw [kr] at q; cases q⟩

set_option maxRecDepth 100000 in
set_option maxHeartbeats 4000000 in
theorem c_X9_truncateInput {l9 : Launch} {G : GC} {h : AH} {b : Nat → Int32} {n : Nat} {x : Int32} (hW : World h) (hi : InR h b n) : PM l9 G mX9_truncateInput NT NT [.ref 723, .int x] h (fun v h' => (rgB 0 (nI n) x = false → v = some (.int 0) ∧ h' = sI h 723 12 0) ∧ (rgB 0 (nI n) x = true → v = some (.int 1) ∧ h' = sI (sI h 723 12 0) 723 14 x ∧ InR h' b (nn x))) noX := by
  refine PM.of (by decide +kernel) rfl rfl (Nat.le_of_ble_eq_true rfl) (fun hst _ => ?_)
  refine r_aload_n dX9_truncateInput_0 rfl ?_
  refine r_iconst (0) dX9_truncateInput_1 (by decide) ?_
  refine q_putI fl_X9_61 hW kc_723 rfl rfl dX9_truncateInput_2 ?_
  refine r_iload_n dX9_truncateInput_5 rfl ?_
  refine r_iconst (0) dX9_truncateInput_6 (by decide) ?_
  refine r_aload_n dX9_truncateInput_7 rfl ?_
  refine q_getI fl_X9_161 hW kc_723 rfl dX9_truncateInput_8 ?_
  rw [show aI (sI h 723 12 0) 723 14 = nI n from (sI_k (by decide)).trans hi.1]
  refine q_callS3 (cs_X9_inRange ml_X9_167) ⟨rfl, rfl⟩ rfl (Nat.le_of_ble_eq_true rfl) dX9_truncateInput_11 c_X9_inRange (fun v_11 h_11 q_11 => ?_)
  obtain ⟨rfl, z9⟩ := q_11
  replace z9 := z9.symm
  subst z9
  refine r_if_ne 19 dX9_truncateInput_14 (by decide) (fun c_14 => ?_) (fun c_14 => ?_)
  · have kr : rgB 0 (nI n) x = true := bI_1.mp c_14
    refine r_aload_n dX9_truncateInput_19 rfl ?_
    refine r_iload_n dX9_truncateInput_20 rfl ?_
    refine q_putI fl_X9_161 hW kc_723 rfl rfl dX9_truncateInput_21 ?_
    refine r_iconst (1) dX9_truncateInput_24 (by decide) ?_
    refine r_zret dX9_truncateInput_25 rfl (by decide) ⟨Nat.zero_le _, Nat.zero_le _⟩ ?_
    have hn7 := hi.2.1
    obtain ⟨k, k1, k2, hx⟩ := rgB_t (a := 0) (b := n) kr (by omega) (by decide)
    have ex : nn x = k := by rw [hx]; exact nn_I (by omega)
    refine ⟨fun q => (by rw [kr] at q; cases q), fun _ => ⟨rfl, rfl, ?_, by omega, fun i i1 => ?_⟩⟩
    · rw [sI_s, ex]; exact hx
    · rw [sI_o (by decide), sI_o (by decide)]; exact hi.2.2 i (by omega)
  · refine r_iconst (0) dX9_truncateInput_17 (by decide) ?_
    refine r_zret dX9_truncateInput_18 rfl (by decide) ⟨Nat.zero_le _, Nat.zero_le _⟩ ?_
    have kr : rgB 0 (nI n) x = false := bI_0.mp (by first | exact c_14 | simpa using c_14)
    exact ⟨fun _ => ⟨rfl, rfl⟩, fun q => by rw [kr] at q; cases q⟩
