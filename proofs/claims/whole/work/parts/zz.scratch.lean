-- the reference's reader: a statement
section LDW
variable {l : Launch} {G : GC} {M : MD} {R : Room} {Fi : CX → State → Prop} {N pc : Nat} {ls : List (Option Value)} {st : List Value} {cs : Nat × Nat} {h : AH}
theorem r_ldcSW {ix j : Nat} {text : String} (hw : ((mY M).cls, ix, text, j) ∈ strTab) (hd : decode (mC M) pc = .ok (.ldc_w ix, 3)) (kk : PW l G M R Fi N (pc + 3) ls (.ref (1000000 + j) :: st) cs h) : PW l G M R Fi N pc ls st cs h := by
  intro p e s m args below meth c9 H locs la C hr hs hl
  have h9 := kk p e s m args below meth c9 H locs la C hr hs hl
  have hZ := C.2.2.2.2.2.2.2.1.1.2.2.2.2.1 _ hw
  have e1 : (Value.ref (1000000 + j) :: st).map (gv G) = .ref (gKs G j) :: st.map (gv G) := by
    show Value.ref (ga G (1000000 + j)) :: _ = _
    rw [ga_str]
  rw [e1] at h9
  intro T hT X
  obtain ⟨t, a1, b1⟩ := h9 T hT X
  exact ⟨t, X.ldcStringW C.1 C.2.2.2.2.2.1 (text := text) (a := gKs G j) hZ.1 hZ.2 (g := F0 m pc la (st.map (gv G))) rfl (by rw [C.2.1]; exact hd) t a1, b1⟩
end LDW
/-- what reading a statement up to its semicolon comes to, told of the row -/
def RsS (h h' : AH) (v : Option Value) (b : Nat → Int32) (n : Nat) (w : Nat → Int32) (ts : Nat → Bool) (p : Nat) : Prop :=
  ∃ (E : ER) (w' : Nat → Int32), v = some (.int (bI (decide (E.1 = 0)))) ∧ eqx h h' SRp ∧ OthF h h' ∧ (E.1 = 0 → RpS h' b n E.2 ∧ MW h' (w', ZG) ∧ TbD (aI h' 723 23) (stmT b n ts p)) ∧ (E.1 ≠ 0 → FlS h' E) ∧ smiS b n E = stmE b n ts w p ∧ ((stmE b n ts w p).1 = 0 → w' = stmW b n w p)
theorem RsS.of {h h' : AH} {v : Option Value} {b : Nat → Int32} {n : Nat} {w : Nat → Int32} {u : Nat} {E : ER} {f' : Nat → Int32} {ts ts' : Nat → Bool} {p : Nat} (hR : Rsl h h' v b n w u E f' ts') (hE : smiS b n E = stmE b n ts w p) (hW : (stmE b n ts w p).1 = 0 → setP w u f' = stmW b n w p) (hT : ∀ j, 1 ≤ j → j ≤ 10 → ts' j = stmT b n ts p j) : RsS h h' v b n w ts p := by
  obtain ⟨r1, r2, r3, r4, r5⟩ := hR
  refine ⟨E, setP w u f', r1, r2, r3, fun q => ?_, r5, hE, hW⟩
  obtain ⟨k1, k2, k3⟩ := r4 q
  refine ⟨k1, ?_, fun j j1 j2 => (k3 j j1 j2).trans (hT j j1 j2)⟩
  unfold PV at k2
  rw [setG_get] at k2
  exact k2
theorem stm_c {b : Nat → Int32} {n m p j : Nat} {ts : Nat → Bool} {w : Nat → Int32} (hj : stW b n p = j) (hj0 : j ≠ 0) (hj12 : j ≠ 12) (hj11 : j ≠ 11) (em : nn (w 0) = m) : stmE b n ts w p = if stC m ts j = 0 then (bdy b n (tE b n p) j (getP w (nn (w 0) - 1))).1 else (stC m ts j, tS b n p) := by
  by_cases h0 : m = 0
  · have hc : stC m ts j = 1 := if_pos h0
    rw [hc, if_neg (by decide)]
    unfold stmE
    rw [hj, if_neg hj0, em, if_pos (Or.inr h0)]
  · cases ht : ts j with
    | true =>
      have hc : stC m ts j = 3 := by unfold stC; rw [if_neg h0, if_pos ht]
      rw [hc, if_neg (by decide)]
      unfold stmE
      rw [hj, if_neg hj0, em, if_neg (fun q => Or.elim q hj12 h0), if_pos ⟨hj11, ht⟩]
    | false =>
      have hc : stC m ts j = 0 := by unfold stC; rw [if_neg h0, if_neg (by rw [ht]; decide)]
      rw [hc, if_pos rfl]
      unfold stmE
      rw [hj, if_neg hj0, em, if_neg (fun q => Or.elim q hj12 h0), if_neg (fun q => absurd q.2 (by rw [ht]; decide))]
theorem stm_j {b : Nat → Int32} {n m p j : Nat} {ts : Nat → Bool} {w : Nat → Int32} {e : ER} (hj : stW b n p = j) (hj0 : j ≠ 0) (hj12 : j ≠ 12) (hj11 : j ≠ 11) (em : nn (w 0) = m) (he : smiS b n e = (bdy b n (tE b n p) j (getP w (nn (w 0) - 1))).1) : smiS b n (stE2 b n m ts j p e) = stmE b n ts w p := by
  rw [stm_c hj hj0 hj12 hj11 em]
  unfold stE2
  by_cases hc : stC m ts j = 0
  · rw [if_pos hc, if_pos hc]; exact he
  · rw [if_neg hc, if_neg hc]; exact if_neg hc
theorem stm_k {b : Nat → Int32} {n m p j : Nat} {ts : Nat → Bool} {w : Nat → Int32} (hj : stW b n p = j) (hj0 : j ≠ 0) (hj12 : j ≠ 12) (hj11 : j ≠ 11) (em : nn (w 0) = m) : stE2 b n m ts j p (bdy b n (tE b n p) j (getP w (nn (w 0) - 1))).1 = stmE b n ts w p := by
  rw [stm_c hj hj0 hj12 hj11 em]
  rfl
theorem stm_w {b : Nat → Int32} {n p j : Nat} {w : Nat → Int32} {f' : Nat → Int32} (hj : stW b n p = j) (hj0 : j ≠ 0) (hf : f' = (bdy b n (tE b n p) j (getP w (nn (w 0) - 1))).2) : setP w (nn (w 0) - 1) f' = stmW b n w p := by
  unfold stmW
  rw [hj, if_neg hj0, hf]
theorem stm_t {b : Nat → Int32} {n p j : Nat} {ts : Nat → Bool} (hj : stW b n p = j) (hj0 : j ≠ 0) : ∀ i, 1 ≤ i → i ≤ 10 → (fun i => ts i || decide (i = j)) i = stmT b n ts p i := fun i _ _ => by
  unfold stmT
  rw [hj, if_neg hj0]
set_option maxRecDepth 100000 in
set_option maxHeartbeats 1600000 in
theorem c_X9_readSetting {l9 : Launch} {G : GC} {h : AH} {b : Nat → Int32} {n : Nat} {w : Nat → Int32} {ts : Nat → Bool} {p : Nat} (hW : World h) (hr : RpS h b n p) (hm : MW h (w, ZG)) (hP : PI w) (hT : 0 < nn (w 0) → TbD (aI h 723 23) ts) (hG : GOK G) (w0 : isW b n p 0 = false) (w1 : isW b n p 1 = false) (w2 : isW b n p 2 = false) : PM l9 G mX9_readSetting NT NT [.ref 723] h (fun v h' => RsS h h' v b n w ts p) noX := by
  refine PM.of (by decide +kernel) rfl rfl (Nat.le_of_ble_eq_true rfl) (fun hst _ => ?_)
  obtain ⟨m, m1, m2, m3⟩ := hP.n4.nat
  have em : nn (w 0) = m := by rw [m3]; exact nn_I (by omega)
  have hT9 : 0 < m → TbD (aI h 723 23) ts := fun q => hT (by omega)
  obtain ⟨u, eu⟩ : ∃ u, u = nn (w 0) - 1 := ⟨_, rfl⟩
  have hu : u < 4 := by omega
  have hmu : 0 < m → m = u + 1 := fun q => by omega
  have hpv : PV h w ZG u (getP w u) (getG ZG u) := MW.pv hm u
  refine r_aload_n dX9_readSetting_0 rfl ?_
  refine r_ldcS sw_X9_239 dX9_readSetting_1 ?_
  refine q_callV1 (cv_X9_isWord ml_X9_225) hW kc_723 (by decide) rfl ⟨rfl, rfl⟩ rfl (Nat.le_of_ble_eq_true rfl) dX9_readSetting_3 (c_X9_isWord hW hr hG (by decide)) (fun v_3 h_3 q_3 => ?_)
  obtain ⟨rfl, z9⟩ := q_3
  replace z9 := z9.symm
  subst z9
  refine r_if_eq 20 dX9_readSetting_6 (by decide) (fun c_6 => ?_) (fun c_6 => ?_)
  · refine r_aload_n dX9_readSetting_20 rfl ?_
    refine r_ldcS sw_X9_245 dX9_readSetting_21 ?_
    refine q_callV1 (cv_X9_isWord ml_X9_225) hW kc_723 (by decide) rfl ⟨rfl, rfl⟩ rfl (Nat.le_of_ble_eq_true rfl) dX9_readSetting_23 (c_X9_isWord hW hr hG (by decide)) (fun v_23 h_23 q_23 => ?_)
    obtain ⟨rfl, z9⟩ := q_23
    replace z9 := z9.symm
    subst z9
    refine r_if_eq 40 dX9_readSetting_26 (by decide) (fun c_26 => ?_) (fun c_26 => ?_)
    · refine r_aload_n dX9_readSetting_40 rfl ?_
      refine r_ldcS sw_X9_247 dX9_readSetting_41 ?_
      refine q_callV1 (cv_X9_isWord ml_X9_225) hW kc_723 (by decide) rfl ⟨rfl, rfl⟩ rfl (Nat.le_of_ble_eq_true rfl) dX9_readSetting_43 (c_X9_isWord hW hr hG (by decide)) (fun v_43 h_43 q_43 => ?_)
      obtain ⟨rfl, z9⟩ := q_43
      replace z9 := z9.symm
      subst z9
      refine r_if_eq 60 dX9_readSetting_46 (by decide) (fun c_46 => ?_) (fun c_46 => ?_)
      · refine r_aload_n dX9_readSetting_60 rfl ?_
        refine r_ldcS sw_X9_249 dX9_readSetting_61 ?_
        refine q_callV1 (cv_X9_isWord ml_X9_225) hW kc_723 (by decide) rfl ⟨rfl, rfl⟩ rfl (Nat.le_of_ble_eq_true rfl) dX9_readSetting_63 (c_X9_isWord hW hr hG (by decide)) (fun v_63 h_63 q_63 => ?_)
        obtain ⟨rfl, z9⟩ := q_63
        replace z9 := z9.symm
        subst z9
        refine r_if_eq 81 dX9_readSetting_66 (by decide) (fun c_66 => ?_) (fun c_66 => ?_)
        · refine r_aload_n dX9_readSetting_81 rfl ?_
          refine r_ldcS sw_X9_251 dX9_readSetting_82 ?_
          refine q_callV1 (cv_X9_isWord ml_X9_225) hW kc_723 (by decide) rfl ⟨rfl, rfl⟩ rfl (Nat.le_of_ble_eq_true rfl) dX9_readSetting_84 (c_X9_isWord hW hr hG (by decide)) (fun v_84 h_84 q_84 => ?_)
          obtain ⟨rfl, z9⟩ := q_84
          replace z9 := z9.symm
          subst z9
          refine r_if_eq 95 dX9_readSetting_87 (by decide) (fun c_87 => ?_) (fun c_87 => ?_)
          · refine r_aload_n dX9_readSetting_95 rfl ?_
            refine r_ldcSW sw_X9_257 dX9_readSetting_96 ?_
            refine q_callV1 (cv_X9_isWord ml_X9_225) hW kc_723 (by decide) rfl ⟨rfl, rfl⟩ rfl (Nat.le_of_ble_eq_true rfl) dX9_readSetting_99 (c_X9_isWord hW hr hG (by decide)) (fun v_99 h_99 q_99 => ?_)
            obtain ⟨rfl, z9⟩ := q_99
            replace z9 := z9.symm
            subst z9
            refine r_if_eq 110 dX9_readSetting_102 (by decide) (fun c_102 => ?_) (fun c_102 => ?_)
            · refine r_aload_n dX9_readSetting_110 rfl ?_
              refine r_ldcSW sw_X9_262 dX9_readSetting_111 ?_
              refine q_callV1 (cv_X9_isWord ml_X9_225) hW kc_723 (by decide) rfl ⟨rfl, rfl⟩ rfl (Nat.le_of_ble_eq_true rfl) dX9_readSetting_114 (c_X9_isWord hW hr hG (by decide)) (fun v_114 h_114 q_114 => ?_)
              obtain ⟨rfl, z9⟩ := q_114
              replace z9 := z9.symm
              subst z9
              refine r_if_eq 133 dX9_readSetting_117 (by decide) (fun c_117 => ?_) (fun c_117 => ?_)
              · refine r_aload_n dX9_readSetting_133 rfl ?_
                refine r_ldcSW sw_X9_267 dX9_readSetting_134 ?_
                refine q_callV1 (cv_X9_isWord ml_X9_225) hW kc_723 (by decide) rfl ⟨rfl, rfl⟩ rfl (Nat.le_of_ble_eq_true rfl) dX9_readSetting_137 (c_X9_isWord hW hr hG (by decide)) (fun v_137 h_137 q_137 => ?_)
                obtain ⟨rfl, z9⟩ := q_137
                replace z9 := z9.symm
                subst z9
                refine r_if_eq 148 dX9_readSetting_140 (by decide) (fun c_140 => ?_) (fun c_140 => ?_)
                · refine r_aload_n dX9_readSetting_148 rfl ?_
                  refine r_ldcSW sw_X9_272 dX9_readSetting_149 ?_
                  refine q_callV1 (cv_X9_isWord ml_X9_225) hW kc_723 (by decide) rfl ⟨rfl, rfl⟩ rfl (Nat.le_of_ble_eq_true rfl) dX9_readSetting_152 (c_X9_isWord hW hr hG (by decide)) (fun v_152 h_152 q_152 => ?_)
                  obtain ⟨rfl, z9⟩ := q_152
                  replace z9 := z9.symm
                  subst z9
                  refine r_if_eq 165 dX9_readSetting_155 (by decide) (fun c_155 => ?_) (fun c_155 => ?_)
                  · refine r_aload_n dX9_readSetting_165 rfl ?_
                    refine r_iconst (1) dX9_readSetting_166 (by decide) ?_
                    refine q_callV1 (cv_X9_failsAt ml_X9_204) hW kc_723 (by decide) rfl ⟨rfl, rfl⟩ rfl (Nat.le_of_ble_eq_true rfl) dX9_readSetting_167 (c_X9_failsAt (c := 1) hW kn_1 hr.2.2.1 hr.2.1.1) (fun v_167 h_167 q_167 => ?_)
                    obtain ⟨rfl, eF, f17, f18, fF⟩ := q_167
                    refine r_zret dX9_readSetting_170 rfl (by first | decide | exact bI_01 _) ⟨Nat.zero_le _, Nat.zero_le _⟩ ?_
                    first
                      | (have hj : stW b n p = 11 := by unfold stW; rw [if_neg (by rw [w0]; decide), if_neg (by rw [w1]; decide), if_neg (by rw [w2]; decide), if_neg (by rw [bI_0.mp c_6]; decide), if_neg (by rw [bI_0.mp c_26]; decide), if_neg (by rw [bI_0.mp c_46]; decide), if_neg (by rw [bI_0.mp c_66]; decide), if_neg (by rw [bI_0.mp c_87]; decide), if_neg (by rw [bI_0.mp c_102]; decide), if_neg (by rw [bI_0.mp c_117]; decide), if_neg (by rw [bI_0.mp c_140]; decide), if_pos (bI_1.mp c_155)]
                         have hS : smiS b n (gdE b n m p (getP w u)) = stmE b n ts w p := by
                           by_cases h0 : m = 0
                           · have hs1 : stmE b n ts w p = (1, tS b n p) := by
                               unfold stmE
                               rw [hj, if_neg (by decide), if_pos (Or.inr (em.trans h0))]
                             rw [hs1, show gdE b n m p (getP w u) = (1, tS b n p) from if_pos h0]
                             exact if_neg (by show ¬ (1 : Nat) = 0; decide)
                           · have hs1 : stmE b n ts w p = (bdy b n (tE b n p) 11 (getP w u)).1 := by
                               unfold stmE
                               rw [hj, if_neg (by decide), if_neg (fun q => Or.elim q (by decide) (fun z => h0 (em.symm.trans z))), if_neg (fun q => absurd rfl q.1), ← eu]
                             rw [hs1, show gdE b n m p (getP w u) = prE b n (tE b n p) (getP w u) from if_neg h0]
                             rfl
                         refine RsS.of hR hS (fun _ => ?_) (fun i i1 i2 => ?_)
                         · rw [eu]
                           refine stm_w hj (by decide) ?_
                           rw [← eu]; rfl
                         · rw [← stm_t (ts := ts) hj (by decide) i i1 i2]
                           show ts i = (ts i || decide (i = 11))
                           rw [decide_eq_false (by omega), Bool.or_false])
                      | (have hj : stW b n p = 12 := by unfold stW; rw [if_neg (by rw [w0]; decide), if_neg (by rw [w1]; decide), if_neg (by rw [w2]; decide), if_neg (by rw [bI_0.mp c_6]; decide), if_neg (by rw [bI_0.mp c_26]; decide), if_neg (by rw [bI_0.mp c_46]; decide), if_neg (by rw [bI_0.mp c_66]; decide), if_neg (by rw [bI_0.mp c_87]; decide), if_neg (by rw [bI_0.mp c_102]; decide), if_neg (by rw [bI_0.mp c_117]; decide), if_neg (by rw [bI_0.mp c_140]; decide), if_neg (by rw [bI_0.mp c_155]; decide)]
                         have hS : stmE b n ts w p = (1, tS b n p) := by
                           unfold stmE
                           rw [hj, if_neg (by decide), if_pos (Or.inl rfl)]
                         refine ⟨(1, tS b n p), w, rfl, eF.wk (fun i q => SRp9 q), fun k hk => fF k (by omega) (by omega), fun q => absurd q (by show ¬ (1 : Nat) = 0; decide), fun _ => ⟨f17, f18⟩, ?_, fun q => ?_⟩
                         · rw [hS]; exact if_neg (by show ¬ (1 : Nat) = 0; decide)
                         · rw [hS] at q; exact absurd q (by show ¬ (1 : Nat) = 0; decide))
                  · have hm0 : True := trivial
                    refine r_aload_n dX9_readSetting_158 rfl ?_
                    refine q_callV0 (cv_X9_readGuard ml_X9_274) hW kc_723 (by decide) rfl ⟨rfl, rfl⟩ rfl (Nat.le_of_ble_eq_true rfl) dX9_readSetting_159 (c_X9_readGuard (m := m) hW hr hpv hu m3 m2 hT9 hmu hT9 (fun q => hP.ok (by omega))) (fun v_159 h_159 q_159 => ?_)
                    have hv := q_159.1
                    subst hv
                    have hR := q_159
                    refine r_goto 170 dX9_readSetting_162 (by decide) ?_
                    refine r_zret dX9_readSetting_170 rfl (by first | decide | exact bI_01 _) ⟨Nat.zero_le _, Nat.zero_le _⟩ ?_
                    first
                      | (have hj : stW b n p = 11 := by unfold stW; rw [if_neg (by rw [w0]; decide), if_neg (by rw [w1]; decide), if_neg (by rw [w2]; decide), if_neg (by rw [bI_0.mp c_6]; decide), if_neg (by rw [bI_0.mp c_26]; decide), if_neg (by rw [bI_0.mp c_46]; decide), if_neg (by rw [bI_0.mp c_66]; decide), if_neg (by rw [bI_0.mp c_87]; decide), if_neg (by rw [bI_0.mp c_102]; decide), if_neg (by rw [bI_0.mp c_117]; decide), if_neg (by rw [bI_0.mp c_140]; decide), if_pos (bI_1.mp c_155)]
                         have hS : smiS b n (gdE b n m p (getP w u)) = stmE b n ts w p := by
                           by_cases h0 : m = 0
                           · have hs1 : stmE b n ts w p = (1, tS b n p) := by
                               unfold stmE
                               rw [hj, if_neg (by decide), if_pos (Or.inr (em.trans h0))]
                             rw [hs1, show gdE b n m p (getP w u) = (1, tS b n p) from if_pos h0]
                             exact if_neg (by show ¬ (1 : Nat) = 0; decide)
                           · have hs1 : stmE b n ts w p = (bdy b n (tE b n p) 11 (getP w u)).1 := by
                               unfold stmE
                               rw [hj, if_neg (by decide), if_neg (fun q => Or.elim q (by decide) (fun z => h0 (em.symm.trans z))), if_neg (fun q => absurd rfl q.1), ← eu]
                             rw [hs1, show gdE b n m p (getP w u) = prE b n (tE b n p) (getP w u) from if_neg h0]
                             rfl
                         refine RsS.of hR hS (fun _ => ?_) (fun i i1 i2 => ?_)
                         · rw [eu]
                           refine stm_w hj (by decide) ?_
                           rw [← eu]; rfl
                         · rw [← stm_t (ts := ts) hj (by decide) i i1 i2]
                           show ts i = (ts i || decide (i = 11))
                           rw [decide_eq_false (by omega), Bool.or_false])
                      | (have hj : stW b n p = 12 := by unfold stW; rw [if_neg (by rw [w0]; decide), if_neg (by rw [w1]; decide), if_neg (by rw [w2]; decide), if_neg (by rw [bI_0.mp c_6]; decide), if_neg (by rw [bI_0.mp c_26]; decide), if_neg (by rw [bI_0.mp c_46]; decide), if_neg (by rw [bI_0.mp c_66]; decide), if_neg (by rw [bI_0.mp c_87]; decide), if_neg (by rw [bI_0.mp c_102]; decide), if_neg (by rw [bI_0.mp c_117]; decide), if_neg (by rw [bI_0.mp c_140]; decide), if_neg (by rw [bI_0.mp c_155]; decide)]
                         have hS : stmE b n ts w p = (1, tS b n p) := by
                           unfold stmE
                           rw [hj, if_neg (by decide), if_pos (Or.inl rfl)]
                         refine ⟨(1, tS b n p), w, rfl, eF.wk (fun i q => SRp9 q), fun k hk => fF k (by omega) (by omega), fun q => absurd q (by show ¬ (1 : Nat) = 0; decide), fun _ => ⟨f17, f18⟩, ?_, fun q => ?_⟩
                         · rw [hS]; exact if_neg (by show ¬ (1 : Nat) = 0; decide)
                         · rw [hS] at q; exact absurd q (by show ¬ (1 : Nat) = 0; decide))
                · refine r_aload_n dX9_readSetting_143 rfl ?_
                  refine q_callV0 (cv_X9_readLoad ml_X9_269) hW kc_723 (by decide) rfl ⟨rfl, rfl⟩ rfl (Nat.le_of_ble_eq_true rfl) dX9_readSetting_144 (c_X9_readLoad hW hr hpv hu m3 m2 hT9 hmu) (fun v_144 h_144 q_144 => ?_)
                  obtain ⟨E, f', hR, hE, hFf⟩ := q_144
                  have hv := hR.1
                  subst hv
                  refine r_zret dX9_readSetting_147 rfl (by first | decide | exact bI_01 _) ⟨Nat.zero_le _, Nat.zero_le _⟩ ?_
                  have hj : stW b n p = 10 := by unfold stW; rw [if_neg (by rw [w0]; decide), if_neg (by rw [w1]; decide), if_neg (by rw [w2]; decide), if_neg (by rw [bI_0.mp c_6]; decide), if_neg (by rw [bI_0.mp c_26]; decide), if_neg (by rw [bI_0.mp c_46]; decide), if_neg (by rw [bI_0.mp c_66]; decide), if_neg (by rw [bI_0.mp c_87]; decide), if_neg (by rw [bI_0.mp c_102]; decide), if_neg (by rw [bI_0.mp c_117]; decide), if_pos (bI_1.mp c_140)]
                  have hS2 : stE2 b n m ts 10 p (loE b n (0, tE b n p) (getP w u)).1 = stmE b n ts w p := by
                    have z := stm_k (ts := ts) (w := w) hj (by decide) (by decide) (by decide) em
                    rw [← eu] at z
                    exact z
                  refine RsS.of hR (hE.trans hS2) (fun q => ?_) (stm_t hj (by decide))
                  rw [hS2] at hFf
                  rw [eu]
                  refine stm_w hj (by decide) ?_
                  rw [← eu]
                  exact hFf q
              · refine r_aload_n dX9_readSetting_120 rfl ?_
                refine r_sipush (256) dX9_readSetting_121 (by decide) ?_
                refine r_bipush (14) dX9_readSetting_124 (by decide) ?_
                refine r_iconst (0) dX9_readSetting_126 (by decide) ?_
                refine r_bipush (99) dX9_readSetting_127 (by decide) ?_
                refine q_callV4 (cv_X9_readTwo ml_X9_264) hW kc_723 (by decide) rfl ⟨rfl, rfl⟩ rfl (Nat.le_of_ble_eq_true rfl) dX9_readSetting_129 (c_X9_readTwo (j := 9) (k := 14) hW hr hpv hu m3 m2 hT9 ⟨by decide, by decide⟩ (by decide) hmu kn_14 (by decide)) (fun v_129 h_129 q_129 => ?_)
                have hv := q_129.1
                subst hv
                have hR := q_129
                refine r_zret dX9_readSetting_132 rfl (by first | decide | exact bI_01 _) ⟨Nat.zero_le _, Nat.zero_le _⟩ ?_
                have hj : stW b n p = 9 := by unfold stW; rw [if_neg (by rw [w0]; decide), if_neg (by rw [w1]; decide), if_neg (by rw [w2]; decide), if_neg (by rw [bI_0.mp c_6]; decide), if_neg (by rw [bI_0.mp c_26]; decide), if_neg (by rw [bI_0.mp c_46]; decide), if_neg (by rw [bI_0.mp c_66]; decide), if_neg (by rw [bI_0.mp c_87]; decide), if_neg (by rw [bI_0.mp c_102]; decide), if_pos (bI_1.mp c_117)]
                refine RsS.of hR (stm_j hj (by decide) (by decide) (by decide) em ?_) (fun _ => ?_) (stm_t hj (by decide))
                · rw [← eu]; rfl
                · rw [eu]
                  refine stm_w hj (by decide) ?_
                  rw [← eu]; rfl
            · refine r_aload_n dX9_readSetting_105 rfl ?_
              refine q_callV0 (cv_X9_readRule ml_X9_259) hW kc_723 (by decide) rfl ⟨rfl, rfl⟩ rfl (Nat.le_of_ble_eq_true rfl) dX9_readSetting_106 (c_X9_readRule hW hr hpv hu m3 m2 hT9 hmu hG) (fun v_106 h_106 q_106 => ?_)
              have hv := q_106.1
              subst hv
              have hR := q_106
              refine r_zret dX9_readSetting_109 rfl (by first | decide | exact bI_01 _) ⟨Nat.zero_le _, Nat.zero_le _⟩ ?_
              have hj : stW b n p = 8 := by unfold stW; rw [if_neg (by rw [w0]; decide), if_neg (by rw [w1]; decide), if_neg (by rw [w2]; decide), if_neg (by rw [bI_0.mp c_6]; decide), if_neg (by rw [bI_0.mp c_26]; decide), if_neg (by rw [bI_0.mp c_46]; decide), if_neg (by rw [bI_0.mp c_66]; decide), if_neg (by rw [bI_0.mp c_87]; decide), if_pos (bI_1.mp c_102)]
              refine RsS.of hR (stm_j hj (by decide) (by decide) (by decide) em ?_) (fun _ => ?_) (stm_t hj (by decide))
              · rw [← eu]; rfl
              · rw [eu]
                refine stm_w hj (by decide) ?_
                rw [← eu]; rfl
          · refine r_aload_n dX9_readSetting_90 rfl ?_
            refine q_callV0 (cv_X9_readPolicy ml_X9_253) hW kc_723 (by decide) rfl ⟨rfl, rfl⟩ rfl (Nat.le_of_ble_eq_true rfl) dX9_readSetting_91 (c_X9_readPolicy hW hr hpv hu m3 m2 hT9 hmu hG) (fun v_91 h_91 q_91 => ?_)
            have hv := q_91.1
            subst hv
            have hR := q_91
            refine r_zret dX9_readSetting_94 rfl (by first | decide | exact bI_01 _) ⟨Nat.zero_le _, Nat.zero_le _⟩ ?_
            have hj : stW b n p = 7 := by unfold stW; rw [if_neg (by rw [w0]; decide), if_neg (by rw [w1]; decide), if_neg (by rw [w2]; decide), if_neg (by rw [bI_0.mp c_6]; decide), if_neg (by rw [bI_0.mp c_26]; decide), if_neg (by rw [bI_0.mp c_46]; decide), if_neg (by rw [bI_0.mp c_66]; decide), if_pos (bI_1.mp c_87)]
            refine RsS.of hR (stm_j hj (by decide) (by decide) (by decide) em ?_) (fun _ => ?_) (stm_t hj (by decide))
            · rw [← eu]; rfl
            · rw [eu]
              refine stm_w hj (by decide) ?_
              rw [← eu]; rfl
        · refine r_aload_n dX9_readSetting_69 rfl ?_
          refine r_bipush (32) dX9_readSetting_70 (by decide) ?_
          refine r_bipush (6) dX9_readSetting_72 (by decide) ?_
          refine r_iconst (1) dX9_readSetting_74 (by decide) ?_
          refine r_bipush (8) dX9_readSetting_75 (by decide) ?_
          refine q_callV4 (cv_X9_readOne ml_X9_241) hW kc_723 (by decide) rfl ⟨rfl, rfl⟩ rfl (Nat.le_of_ble_eq_true rfl) dX9_readSetting_77 (c_X9_readOne (j := 6) (k := 6) hW hr hpv hu m3 m2 hT9 ⟨by decide, by decide⟩ (by decide) hmu kn_6 (by decide)) (fun v_77 h_77 q_77 => ?_)
          have hv := q_77.1
          subst hv
          have hR := q_77
          refine r_zret dX9_readSetting_80 rfl (by first | decide | exact bI_01 _) ⟨Nat.zero_le _, Nat.zero_le _⟩ ?_
          have hj : stW b n p = 6 := by unfold stW; rw [if_neg (by rw [w0]; decide), if_neg (by rw [w1]; decide), if_neg (by rw [w2]; decide), if_neg (by rw [bI_0.mp c_6]; decide), if_neg (by rw [bI_0.mp c_26]; decide), if_neg (by rw [bI_0.mp c_46]; decide), if_pos (bI_1.mp c_66)]
          refine RsS.of hR (stm_j hj (by decide) (by decide) (by decide) em ?_) (fun _ => ?_) (stm_t hj (by decide))
          · rw [← eu]; rfl
          · rw [eu]
            refine stm_w hj (by decide) ?_
            rw [← eu]; rfl
      · refine r_aload_n dX9_readSetting_49 rfl ?_
        refine r_bipush (16) dX9_readSetting_50 (by decide) ?_
        refine r_iconst (5) dX9_readSetting_52 (by decide) ?_
        refine r_iconst (1) dX9_readSetting_53 (by decide) ?_
        refine r_bipush (8) dX9_readSetting_54 (by decide) ?_
        refine q_callV4 (cv_X9_readOne ml_X9_241) hW kc_723 (by decide) rfl ⟨rfl, rfl⟩ rfl (Nat.le_of_ble_eq_true rfl) dX9_readSetting_56 (c_X9_readOne (j := 5) (k := 5) hW hr hpv hu m3 m2 hT9 ⟨by decide, by decide⟩ (by decide) hmu kn_5 (by decide)) (fun v_56 h_56 q_56 => ?_)
        have hv := q_56.1
        subst hv
        have hR := q_56
        refine r_zret dX9_readSetting_59 rfl (by first | decide | exact bI_01 _) ⟨Nat.zero_le _, Nat.zero_le _⟩ ?_
        have hj : stW b n p = 5 := by unfold stW; rw [if_neg (by rw [w0]; decide), if_neg (by rw [w1]; decide), if_neg (by rw [w2]; decide), if_neg (by rw [bI_0.mp c_6]; decide), if_neg (by rw [bI_0.mp c_26]; decide), if_pos (bI_1.mp c_46)]
        refine RsS.of hR (stm_j hj (by decide) (by decide) (by decide) em ?_) (fun _ => ?_) (stm_t hj (by decide))
        · rw [← eu]; rfl
        · rw [eu]
          refine stm_w hj (by decide) ?_
          rw [← eu]; rfl
    · refine r_aload_n dX9_readSetting_29 rfl ?_
      refine r_bipush (8) dX9_readSetting_30 (by decide) ?_
      refine r_iconst (4) dX9_readSetting_32 (by decide) ?_
      refine r_iconst (0) dX9_readSetting_33 (by decide) ?_
      refine r_bipush (9) dX9_readSetting_34 (by decide) ?_
      refine q_callV4 (cv_X9_readOne ml_X9_241) hW kc_723 (by decide) rfl ⟨rfl, rfl⟩ rfl (Nat.le_of_ble_eq_true rfl) dX9_readSetting_36 (c_X9_readOne (j := 4) (k := 4) hW hr hpv hu m3 m2 hT9 ⟨by decide, by decide⟩ (by decide) hmu kn_4 (by decide)) (fun v_36 h_36 q_36 => ?_)
      have hv := q_36.1
      subst hv
      have hR := q_36
      refine r_zret dX9_readSetting_39 rfl (by first | decide | exact bI_01 _) ⟨Nat.zero_le _, Nat.zero_le _⟩ ?_
      have hj : stW b n p = 4 := by unfold stW; rw [if_neg (by rw [w0]; decide), if_neg (by rw [w1]; decide), if_neg (by rw [w2]; decide), if_neg (by rw [bI_0.mp c_6]; decide), if_pos (bI_1.mp c_26)]
      refine RsS.of hR (stm_j hj (by decide) (by decide) (by decide) em ?_) (fun _ => ?_) (stm_t hj (by decide))
      · rw [← eu]; rfl
      · rw [eu]
        refine stm_w hj (by decide) ?_
        rw [← eu]; rfl
  · refine r_aload_n dX9_readSetting_9 rfl ?_
    refine r_iconst (4) dX9_readSetting_10 (by decide) ?_
    refine r_iconst (3) dX9_readSetting_11 (by decide) ?_
    refine r_bipush (10) dX9_readSetting_12 (by decide) ?_
    refine r_bipush (100) dX9_readSetting_14 (by decide) ?_
    refine q_callV4 (cv_X9_readOne ml_X9_241) hW kc_723 (by decide) rfl ⟨rfl, rfl⟩ rfl (Nat.le_of_ble_eq_true rfl) dX9_readSetting_16 (c_X9_readOne (j := 3) (k := 3) hW hr hpv hu m3 m2 hT9 ⟨by decide, by decide⟩ (by decide) hmu kn_3 (by decide)) (fun v_16 h_16 q_16 => ?_)
    have hv := q_16.1
    subst hv
    have hR := q_16
    refine r_zret dX9_readSetting_19 rfl (by first | decide | exact bI_01 _) ⟨Nat.zero_le _, Nat.zero_le _⟩ ?_
    have hj : stW b n p = 3 := by unfold stW; rw [if_neg (by rw [w0]; decide), if_neg (by rw [w1]; decide), if_neg (by rw [w2]; decide), if_pos (bI_1.mp c_6)]
    refine RsS.of hR (stm_j hj (by decide) (by decide) (by decide) em ?_) (fun _ => ?_) (stm_t hj (by decide))
    · rw [← eu]; rfl
    · rw [eu]
      refine stm_w hj (by decide) ?_
      rw [← eu]; rfl
