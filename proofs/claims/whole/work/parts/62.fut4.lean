def bsT (s : Int32 × Int64) (v : Int32) (c : Int64) : Int32 × Int64 := if s.1 = -1 ∨ c < s.2 then (v, c) else s
theorem bsT_t {s : Int32 × Int64} {v : Int32} {c : Int64} (h : s.1 = -1 ∨ c < s.2) : bsT s v c = (v, c) := if_pos h
theorem bsT_f {s : Int32 × Int64} {v : Int32} {c : Int64} (h : ¬ s.1 = -1) (h2 : ¬ c < s.2) : bsT s v c = s := if_neg (fun q => Or.elim q h h2)
def boPolicy_0 (_ : Row) (_ : Int32) (_ : Nat) : Int32 × Int64 := (-1, 0)
def boPolicy_1 (r : Row) (x : Int32) (n : Nat) : Int32 × Int64 := bsT (boPolicy_0 r x n) 0 (coQ r x (tpS (fP r x) (0)) n)
def boPolicy_2 (r : Row) (x : Int32) (n : Nat) : Int32 × Int64 := bsT (boPolicy_1 r x n) 1 (coQ r x (tpS (fP r x) (1)) n)
def boPolicy_3 (r : Row) (x : Int32) (n : Nat) : Int32 × Int64 := bsT (boPolicy_2 r x n) 2 (coQ r x (tpS (fP r x) (2)) n)
theorem boPolicy_e1 {r : Row} {x : Int32} {n : Nat} : boPolicy_1 r x n = bsT (boPolicy_0 r x n) 0 (coQ r x (tpS (fP r x) (0)) n) := by unfold boPolicy_1; exact rfl
theorem boPolicy_e2 {r : Row} {x : Int32} {n : Nat} : boPolicy_2 r x n = bsT (boPolicy_1 r x n) 1 (coQ r x (tpS (fP r x) (1)) n) := by unfold boPolicy_2; exact rfl
theorem boPolicy_e3 {r : Row} {x : Int32} {n : Nat} : boPolicy_3 r x n = bsT (boPolicy_2 r x n) 2 (coQ r x (tpS (fP r x) (2)) n) := by unfold boPolicy_3; exact rfl
set_option maxRecDepth 100000 in
set_option maxHeartbeats 1000000 in
theorem c_X8_bestPolicy {l9 : Launch} {G : GC} {h : AH} {r : Row} {m : Nat} {x y : Int32} (hW : World h) (hs : StR h 7 r.1 r.2) (hO : RoOK r.1 r.2 m) (hb : m + 300 < 2 ^ 23) : PM l9 G mX8_bestPolicy NT NT [.ref 1, .int x, .int y] h (fun v h' => cd2 (okP r x) (rgB 1 300 y) = 0 ∧ v = some (.int (boPolicy_3 r x (nn y)).1) ∧ eqx h h' (SB 62)) (fun E h' => thr [eB, eA] (cd2 (okP r x) (rgB 1 300 y)) E ∧ h' = h) := by
  refine PM.of (by decide +kernel) rfl rfl (Nat.le_of_ble_eq_true rfl) (fun hst _ => ?_)
  refine r_iconst (-1) dX8_bestPolicy_0 (by decide) ?_
  refine r_istore_n (ls2 := [_, _, some _, _, _, _, _, _, _, _]) dX8_bestPolicy_1 (by decide) rfl ?_
  refine r_lconst (0) dX8_bestPolicy_2 (by decide) ?_
  refine r_lstore (ls2 := [_, _, _, some _, _, none, _, _, _, _]) dX8_bestPolicy_3 (by decide) rfl ?_
  refine r_iconst (0) dX8_bestPolicy_5 (by decide) ?_
  refine r_istore (ls2 := [_, _, _, _, _, none, _, _, _, _]) dX8_bestPolicy_6 (by decide) rfl ?_
  have g3 : ∀ (H : AH) (z7 z8 z9 : Option Value) (b : Int32) (c : Int64), (boPolicy_3 r x (nn y)) = (b, c) → World H → eqx h H (SB 62) → cd2 (okP r x) (rgB 1 300 y) = 0 → PW l9 G mX8_bestPolicy (mO mX8_bestPolicy) (fiM G mX8_bestPolicy NT (fun v h' => cd2 (okP r x) (rgB 1 300 y) = 0 ∧ v = some (.int (boPolicy_3 r x (nn y)).1) ∧ eqx h h' (SB 62)) (fun E h' => thr [eB, eA] (cd2 (okP r x) (rgB 1 300 y)) E ∧ h' = h)) NT 8 [some (.ref 1), some (.int x), some (.int y), some (.int b), some (.long c), none, some (.int 3), z7, z8, z9] [] (6, 36) H := by
    intro H z7 z8 z9 b c hbc hW he hc0
    refine r_iload dX8_bestPolicy_8 rfl ?_
    refine r_iconst (2) dX8_bestPolicy_10 (by decide) ?_
    refine r_icmp_gt 68 dX8_bestPolicy_11 (by decide) (fun c_11 => ?_) (fun c_11 => ?_)
    · refine r_iload_n dX8_bestPolicy_68 rfl ?_
      refine r_iret dX8_bestPolicy_69 rfl ⟨Nat.le_of_ble_eq_true rfl, Nat.le_of_ble_eq_true rfl⟩ ?_
      exact ⟨hc0, some_int (by rw [hbc]), he⟩
    · first | exact absurd c_11 (by decide) | exact absurd (by decide) c_11
  have g2 : ∀ (H : AH) (z7 z8 z9 : Option Value) (b : Int32) (c : Int64), (boPolicy_2 r x (nn y)) = (b, c) → World H → eqx h H (SB 62) → cd2 (okP r x) (rgB 1 300 y) = 0 → PW l9 G mX8_bestPolicy (mO mX8_bestPolicy) (fiM G mX8_bestPolicy NT (fun v h' => cd2 (okP r x) (rgB 1 300 y) = 0 ∧ v = some (.int (boPolicy_3 r x (nn y)).1) ∧ eqx h h' (SB 62)) (fun E h' => thr [eB, eA] (cd2 (okP r x) (rgB 1 300 y)) E ∧ h' = h)) NT 8 [some (.ref 1), some (.int x), some (.int y), some (.int b), some (.long c), none, some (.int 2), z7, z8, z9] [] (4, 24) H := by
    intro H z7 z8 z9 b c hbc hW he hc0
    refine r_iload dX8_bestPolicy_8 rfl ?_
    refine r_iconst (2) dX8_bestPolicy_10 (by decide) ?_
    refine r_icmp_gt 68 dX8_bestPolicy_11 (by decide) (fun c_11 => ?_) (fun c_11 => ?_)
    · first | exact absurd c_11 (by decide) | exact absurd (by decide) c_11
    · have hsH : StR H 7 r.1 r.2 := hs.eqx he hO.1.1.2.2 (fun j j1 j2 => by unfold SB; omega)
      have he0 : eqx h H (SB 62) := he
      refine r_aload_n dX8_bestPolicy_14 rfl ?_
      refine r_iload_n dX8_bestPolicy_15 rfl ?_
      refine r_iload_n dX8_bestPolicy_16 rfl ?_
      refine q_callX2 (cv_X8_startTrial ml_X8_345) hW kc_1 (by decide) rfl rfl (Nat.le_of_ble_eq_true rfl) dX8_bestPolicy_17 (c_X8_startTrial hW hsH hO) (fun v_17 h_17 q_17 => ?_) (fun E_17 h_17 q_17 => ?_)
      · obtain ⟨hcd, ⟨n, n1, n2, hy⟩, p, hp, p2, hx, rfl, e0, s0⟩ := q_17
        have hW := e0.W hW
        have ex : nn x = p := by rw [hx]; exact nn_I (by omega)
        have ey : nn y = n := by rw [hy]; exact nn_I (by omega)
        have hI0 : TrI h_17 p (nn (r.1 1)) (T0 r p) := tr_st s0 hO p2
        have hO0 : TrO (nn (r.1 1)) (T0 r p) := hO.2 p p2
        have hE3 := hO.1.2.2.2.2.2
        have hT1 := hO.1.2.1.2.2
        have hE0 : qE (T0 r p).1 < 2 ^ 28 := by show nn (r.1 3) < _; omega
        have ht0 : nn (r.1 1) < 2 ^ 27 := by omega
        have hOp := hO.2 p p2
        have y24 : nn (getP r.1 p 24) ≤ 24 := (hOp.at 24).2.2
        refine r_astore (ls2 := [_, _, _, _, _, _, some _, _, _, _]) dX8_bestPolicy_20 (by decide) rfl ?_
        refine r_aload dX8_bestPolicy_22 rfl ?_
        refine q_getR fl_X8_143 hW (kd_dr hp) rfl (kl_3_0 hW (kd_dr hp)) (Nat.succ_ne_zero _) dX8_bestPolicy_24 ?_
        refine r_iload dX8_bestPolicy_27 rfl ?_
        refine q_callV1 (cv_X4_tryPolicy ml_X8_365) hW (kk_3_0 (kd_dr hp)) (by decide) rfl ⟨rfl, rfl⟩ rfl (Nat.le_of_ble_eq_true rfl) dX8_bestPolicy_29 (c_X4_tryPolicy hW (kk_3_0 (kd_dr hp)) hI0.po.1) (fun v_29 h_29 q_29 => ?_)
        obtain ⟨rfl, e9, s9⟩ := q_29
        have hW := e9.W hW
        have hI1 : TrI h_29 p (nn (r.1 1)) (stQ (T0 r p) ((tpS (getP r.1 p) (2)))) := hI0.st (e9.wk (fun i q => by unfold btw at *; omega)) (po_stg hI0.po e9 s9 (fun k hk => tpS_k (by omega) (by omega)) (tpS_k (by decide) (by decide)))
        have hO9 : PoOK ((tpS (getP r.1 p) (2))) (getG r.2 p) (nn (r.1 1)) (nn (r.1 1)) := hOp.tp (rg_I (k := 2) (by decide) (by decide) (by decide))
        have hO1 : TrO (nn (r.1 1)) (stQ (T0 r p) ((tpS (getP r.1 p) (2)))) := hO9
        have e8 : eqx h_17 h_29 (SB 62) := e9.wk (fun i q => by unfold btw at q; (try unfold SB); omega)
        refine r_aload_n dX8_bestPolicy_32 rfl ?_
        refine r_aload dX8_bestPolicy_33 rfl ?_
        refine r_iload_n dX8_bestPolicy_35 rfl ?_
        refine r_iload_n dX8_bestPolicy_36 rfl ?_
        refine q_callV3 (cv_X8_tryCost ml_X8_352) hW kc_1 (by decide) rfl ⟨rfl, rfl⟩ rfl (Nat.le_of_ble_eq_true rfl) dX8_bestPolicy_37 (c_X8_tryCost hW hp hI1 hO1 hx hy n2 ht0 hE0) (fun v_37 h_37 q_37 => ?_)
        obtain ⟨rfl, e1, hI2⟩ := q_37
        have eC : coQ r x (tpS (fP r x) (2)) (nn y) = (trT p (nn (r.1 1)) n (stQ (T0 r p) ((tpS (getP r.1 p) (2))))).2 2 - (stQ (T0 r p) ((tpS (getP r.1 p) (2)))).2 2 := by unfold coQ TQ gP fP; rw [ex, ey]; rfl
        have hW := e1.W hW
        rw [← eC]
        refine r_lstore (ls2 := [_, _, _, _, _, _, _, some _, _, none]) dX8_bestPolicy_40 (by decide) rfl ?_
        refine r_iload_n dX8_bestPolicy_42 rfl ?_
        refine r_iconst (-1) dX8_bestPolicy_43 (by decide) ?_
        refine r_icmp_eq 55 dX8_bestPolicy_44 (by decide) (fun c_44 => ?_) (fun c_44 => ?_)
        · refine r_iload dX8_bestPolicy_55 rfl ?_
          refine r_istore_n (ls2 := [_, _, some _, _, _, _, _, _, _, _]) dX8_bestPolicy_57 (by decide) rfl ?_
          refine r_lload dX8_bestPolicy_58 rfl ?_
          refine r_lstore (ls2 := [_, _, _, some _, _, none, _, _, _, _]) dX8_bestPolicy_60 (by decide) rfl ?_
          refine r_iinc (1) (by decide) (ls2 := [_, _, _, _, _, none, _, _, _, _]) dX8_bestPolicy_62 rfl (by decide) rfl ?_
          rw [show ((2 : Int32) + (1)) = 3 from by decide]
          refine r_goto 8 dX8_bestPolicy_65 (by decide) ?_
          have e7 := he0.tr (e0.tr (e8.tr e1))
          first
            | exact g3 _ _ _ _ _ _ (boPolicy_e3.trans (by rw [hbc]; exact bsT_t (Or.inl c_44))) hW e7 hcd
            | exact g3 _ _ _ _ _ _ (boPolicy_e3.trans (by rw [hbc]; exact bsT_t (Or.inr (hll.mp (Int32.not_le.mp c_52))))) hW e7 hcd
            | exact g3 _ _ _ _ _ _ (boPolicy_e3.trans (by rw [hbc]; exact bsT_f c_44 (fun q => absurd (hll.mpr q) (Int32.not_lt.mpr c_52)))) hW e7 hcd
        · refine r_lload dX8_bestPolicy_47 rfl ?_
          refine r_lload dX8_bestPolicy_49 rfl ?_
          have hll := lg_lt (x := coQ r x (tpS (fP r x) (2)) (nn y)) (y := c)
          refine r_lcmp dX8_bestPolicy_51 ?_
          refine r_if_ge 62 dX8_bestPolicy_52 (by decide) (fun c_52 => ?_) (fun c_52 => ?_)
          · refine r_iinc (1) (by decide) (ls2 := [_, _, _, _, _, none, _, _, _, _]) dX8_bestPolicy_62 rfl (by decide) rfl ?_
            rw [show ((2 : Int32) + (1)) = 3 from by decide]
            refine r_goto 8 dX8_bestPolicy_65 (by decide) ?_
            have e7 := he0.tr (e0.tr (e8.tr e1))
            first
              | exact g3 _ _ _ _ _ _ (boPolicy_e3.trans (by rw [hbc]; exact bsT_t (Or.inl c_44))) hW e7 hcd
              | exact g3 _ _ _ _ _ _ (boPolicy_e3.trans (by rw [hbc]; exact bsT_t (Or.inr (hll.mp (Int32.not_le.mp c_52))))) hW e7 hcd
              | exact g3 _ _ _ _ _ _ (boPolicy_e3.trans (by rw [hbc]; exact bsT_f c_44 (fun q => absurd (hll.mpr q) (Int32.not_lt.mpr c_52)))) hW e7 hcd
          · refine r_iload dX8_bestPolicy_55 rfl ?_
            refine r_istore_n (ls2 := [_, _, some _, _, _, _, _, _, _, _]) dX8_bestPolicy_57 (by decide) rfl ?_
            refine r_lload dX8_bestPolicy_58 rfl ?_
            refine r_lstore (ls2 := [_, _, _, some _, _, none, _, _, _, _]) dX8_bestPolicy_60 (by decide) rfl ?_
            refine r_iinc (1) (by decide) (ls2 := [_, _, _, _, _, none, _, _, _, _]) dX8_bestPolicy_62 rfl (by decide) rfl ?_
            rw [show ((2 : Int32) + (1)) = 3 from by decide]
            refine r_goto 8 dX8_bestPolicy_65 (by decide) ?_
            have e7 := he0.tr (e0.tr (e8.tr e1))
            first
              | exact g3 _ _ _ _ _ _ (boPolicy_e3.trans (by rw [hbc]; exact bsT_t (Or.inl c_44))) hW e7 hcd
              | exact g3 _ _ _ _ _ _ (boPolicy_e3.trans (by rw [hbc]; exact bsT_t (Or.inr (hll.mp (Int32.not_le.mp c_52))))) hW e7 hcd
              | exact g3 _ _ _ _ _ _ (boPolicy_e3.trans (by rw [hbc]; exact bsT_f c_44 (fun q => absurd (hll.mpr q) (Int32.not_lt.mpr c_52)))) hW e7 hcd
      · refine PX.out rfl ⟨Nat.le_of_ble_eq_true rfl, Nat.le_of_ble_eq_true rfl⟩ ?_
        obtain ⟨kx, rfl⟩ := q_17
        exact absurd hc0 kx.1
  have g1 : ∀ (H : AH) (z7 z8 z9 : Option Value) (b : Int32) (c : Int64), (boPolicy_1 r x (nn y)) = (b, c) → World H → eqx h H (SB 62) → cd2 (okP r x) (rgB 1 300 y) = 0 → PW l9 G mX8_bestPolicy (mO mX8_bestPolicy) (fiM G mX8_bestPolicy NT (fun v h' => cd2 (okP r x) (rgB 1 300 y) = 0 ∧ v = some (.int (boPolicy_3 r x (nn y)).1) ∧ eqx h h' (SB 62)) (fun E h' => thr [eB, eA] (cd2 (okP r x) (rgB 1 300 y)) E ∧ h' = h)) NT 8 [some (.ref 1), some (.int x), some (.int y), some (.int b), some (.long c), none, some (.int 1), z7, z8, z9] [] (2, 12) H := by
    intro H z7 z8 z9 b c hbc hW he hc0
    refine r_iload dX8_bestPolicy_8 rfl ?_
    refine r_iconst (2) dX8_bestPolicy_10 (by decide) ?_
    refine r_icmp_gt 68 dX8_bestPolicy_11 (by decide) (fun c_11 => ?_) (fun c_11 => ?_)
    · first | exact absurd c_11 (by decide) | exact absurd (by decide) c_11
    · have hsH : StR H 7 r.1 r.2 := hs.eqx he hO.1.1.2.2 (fun j j1 j2 => by unfold SB; omega)
      have he0 : eqx h H (SB 62) := he
      refine r_aload_n dX8_bestPolicy_14 rfl ?_
      refine r_iload_n dX8_bestPolicy_15 rfl ?_
      refine r_iload_n dX8_bestPolicy_16 rfl ?_
      refine q_callX2 (cv_X8_startTrial ml_X8_345) hW kc_1 (by decide) rfl rfl (Nat.le_of_ble_eq_true rfl) dX8_bestPolicy_17 (c_X8_startTrial hW hsH hO) (fun v_17 h_17 q_17 => ?_) (fun E_17 h_17 q_17 => ?_)
      · obtain ⟨hcd, ⟨n, n1, n2, hy⟩, p, hp, p2, hx, rfl, e0, s0⟩ := q_17
        have hW := e0.W hW
        have ex : nn x = p := by rw [hx]; exact nn_I (by omega)
        have ey : nn y = n := by rw [hy]; exact nn_I (by omega)
        have hI0 : TrI h_17 p (nn (r.1 1)) (T0 r p) := tr_st s0 hO p2
        have hO0 : TrO (nn (r.1 1)) (T0 r p) := hO.2 p p2
        have hE3 := hO.1.2.2.2.2.2
        have hT1 := hO.1.2.1.2.2
        have hE0 : qE (T0 r p).1 < 2 ^ 28 := by show nn (r.1 3) < _; omega
        have ht0 : nn (r.1 1) < 2 ^ 27 := by omega
        have hOp := hO.2 p p2
        have y24 : nn (getP r.1 p 24) ≤ 24 := (hOp.at 24).2.2
        refine r_astore (ls2 := [_, _, _, _, _, _, some _, _, _, _]) dX8_bestPolicy_20 (by decide) rfl ?_
        refine r_aload dX8_bestPolicy_22 rfl ?_
        refine q_getR fl_X8_143 hW (kd_dr hp) rfl (kl_3_0 hW (kd_dr hp)) (Nat.succ_ne_zero _) dX8_bestPolicy_24 ?_
        refine r_iload dX8_bestPolicy_27 rfl ?_
        refine q_callV1 (cv_X4_tryPolicy ml_X8_365) hW (kk_3_0 (kd_dr hp)) (by decide) rfl ⟨rfl, rfl⟩ rfl (Nat.le_of_ble_eq_true rfl) dX8_bestPolicy_29 (c_X4_tryPolicy hW (kk_3_0 (kd_dr hp)) hI0.po.1) (fun v_29 h_29 q_29 => ?_)
        obtain ⟨rfl, e9, s9⟩ := q_29
        have hW := e9.W hW
        have hI1 : TrI h_29 p (nn (r.1 1)) (stQ (T0 r p) ((tpS (getP r.1 p) (1)))) := hI0.st (e9.wk (fun i q => by unfold btw at *; omega)) (po_stg hI0.po e9 s9 (fun k hk => tpS_k (by omega) (by omega)) (tpS_k (by decide) (by decide)))
        have hO9 : PoOK ((tpS (getP r.1 p) (1))) (getG r.2 p) (nn (r.1 1)) (nn (r.1 1)) := hOp.tp (rg_I (k := 1) (by decide) (by decide) (by decide))
        have hO1 : TrO (nn (r.1 1)) (stQ (T0 r p) ((tpS (getP r.1 p) (1)))) := hO9
        have e8 : eqx h_17 h_29 (SB 62) := e9.wk (fun i q => by unfold btw at q; (try unfold SB); omega)
        refine r_aload_n dX8_bestPolicy_32 rfl ?_
        refine r_aload dX8_bestPolicy_33 rfl ?_
        refine r_iload_n dX8_bestPolicy_35 rfl ?_
        refine r_iload_n dX8_bestPolicy_36 rfl ?_
        refine q_callV3 (cv_X8_tryCost ml_X8_352) hW kc_1 (by decide) rfl ⟨rfl, rfl⟩ rfl (Nat.le_of_ble_eq_true rfl) dX8_bestPolicy_37 (c_X8_tryCost hW hp hI1 hO1 hx hy n2 ht0 hE0) (fun v_37 h_37 q_37 => ?_)
        obtain ⟨rfl, e1, hI2⟩ := q_37
        have eC : coQ r x (tpS (fP r x) (1)) (nn y) = (trT p (nn (r.1 1)) n (stQ (T0 r p) ((tpS (getP r.1 p) (1))))).2 2 - (stQ (T0 r p) ((tpS (getP r.1 p) (1)))).2 2 := by unfold coQ TQ gP fP; rw [ex, ey]; rfl
        have hW := e1.W hW
        rw [← eC]
        refine r_lstore (ls2 := [_, _, _, _, _, _, _, some _, _, none]) dX8_bestPolicy_40 (by decide) rfl ?_
        refine r_iload_n dX8_bestPolicy_42 rfl ?_
        refine r_iconst (-1) dX8_bestPolicy_43 (by decide) ?_
        refine r_icmp_eq 55 dX8_bestPolicy_44 (by decide) (fun c_44 => ?_) (fun c_44 => ?_)
        · refine r_iload dX8_bestPolicy_55 rfl ?_
          refine r_istore_n (ls2 := [_, _, some _, _, _, _, _, _, _, _]) dX8_bestPolicy_57 (by decide) rfl ?_
          refine r_lload dX8_bestPolicy_58 rfl ?_
          refine r_lstore (ls2 := [_, _, _, some _, _, none, _, _, _, _]) dX8_bestPolicy_60 (by decide) rfl ?_
          refine r_iinc (1) (by decide) (ls2 := [_, _, _, _, _, none, _, _, _, _]) dX8_bestPolicy_62 rfl (by decide) rfl ?_
          rw [show ((1 : Int32) + (1)) = 2 from by decide]
          refine r_goto 8 dX8_bestPolicy_65 (by decide) ?_
          have e7 := he0.tr (e0.tr (e8.tr e1))
          first
            | exact g2 _ _ _ _ _ _ (boPolicy_e2.trans (by rw [hbc]; exact bsT_t (Or.inl c_44))) hW e7 hcd
            | exact g2 _ _ _ _ _ _ (boPolicy_e2.trans (by rw [hbc]; exact bsT_t (Or.inr (hll.mp (Int32.not_le.mp c_52))))) hW e7 hcd
            | exact g2 _ _ _ _ _ _ (boPolicy_e2.trans (by rw [hbc]; exact bsT_f c_44 (fun q => absurd (hll.mpr q) (Int32.not_lt.mpr c_52)))) hW e7 hcd
        · refine r_lload dX8_bestPolicy_47 rfl ?_
          refine r_lload dX8_bestPolicy_49 rfl ?_
          have hll := lg_lt (x := coQ r x (tpS (fP r x) (1)) (nn y)) (y := c)
          refine r_lcmp dX8_bestPolicy_51 ?_
          refine r_if_ge 62 dX8_bestPolicy_52 (by decide) (fun c_52 => ?_) (fun c_52 => ?_)
          · refine r_iinc (1) (by decide) (ls2 := [_, _, _, _, _, none, _, _, _, _]) dX8_bestPolicy_62 rfl (by decide) rfl ?_
            rw [show ((1 : Int32) + (1)) = 2 from by decide]
            refine r_goto 8 dX8_bestPolicy_65 (by decide) ?_
            have e7 := he0.tr (e0.tr (e8.tr e1))
            first
              | exact g2 _ _ _ _ _ _ (boPolicy_e2.trans (by rw [hbc]; exact bsT_t (Or.inl c_44))) hW e7 hcd
              | exact g2 _ _ _ _ _ _ (boPolicy_e2.trans (by rw [hbc]; exact bsT_t (Or.inr (hll.mp (Int32.not_le.mp c_52))))) hW e7 hcd
              | exact g2 _ _ _ _ _ _ (boPolicy_e2.trans (by rw [hbc]; exact bsT_f c_44 (fun q => absurd (hll.mpr q) (Int32.not_lt.mpr c_52)))) hW e7 hcd
          · refine r_iload dX8_bestPolicy_55 rfl ?_
            refine r_istore_n (ls2 := [_, _, some _, _, _, _, _, _, _, _]) dX8_bestPolicy_57 (by decide) rfl ?_
            refine r_lload dX8_bestPolicy_58 rfl ?_
            refine r_lstore (ls2 := [_, _, _, some _, _, none, _, _, _, _]) dX8_bestPolicy_60 (by decide) rfl ?_
            refine r_iinc (1) (by decide) (ls2 := [_, _, _, _, _, none, _, _, _, _]) dX8_bestPolicy_62 rfl (by decide) rfl ?_
            rw [show ((1 : Int32) + (1)) = 2 from by decide]
            refine r_goto 8 dX8_bestPolicy_65 (by decide) ?_
            have e7 := he0.tr (e0.tr (e8.tr e1))
            first
              | exact g2 _ _ _ _ _ _ (boPolicy_e2.trans (by rw [hbc]; exact bsT_t (Or.inl c_44))) hW e7 hcd
              | exact g2 _ _ _ _ _ _ (boPolicy_e2.trans (by rw [hbc]; exact bsT_t (Or.inr (hll.mp (Int32.not_le.mp c_52))))) hW e7 hcd
              | exact g2 _ _ _ _ _ _ (boPolicy_e2.trans (by rw [hbc]; exact bsT_f c_44 (fun q => absurd (hll.mpr q) (Int32.not_lt.mpr c_52)))) hW e7 hcd
      · refine PX.out rfl ⟨Nat.le_of_ble_eq_true rfl, Nat.le_of_ble_eq_true rfl⟩ ?_
        obtain ⟨kx, rfl⟩ := q_17
        exact absurd hc0 kx.1
  refine r_iload dX8_bestPolicy_8 rfl ?_
  refine r_iconst (2) dX8_bestPolicy_10 (by decide) ?_
  refine r_icmp_gt 68 dX8_bestPolicy_11 (by decide) (fun c_11 => ?_) (fun c_11 => ?_)
  · first | exact absurd c_11 (by decide) | exact absurd (by decide) c_11
  · have hsH : StR h 7 r.1 r.2 := hs
    have he0 : eqx h h (SB 62) := eqx.rf
    refine r_aload_n dX8_bestPolicy_14 rfl ?_
    refine r_iload_n dX8_bestPolicy_15 rfl ?_
    refine r_iload_n dX8_bestPolicy_16 rfl ?_
    refine q_callX2 (cv_X8_startTrial ml_X8_345) hW kc_1 (by decide) rfl rfl (Nat.le_of_ble_eq_true rfl) dX8_bestPolicy_17 (c_X8_startTrial hW hsH hO) (fun v_17 h_17 q_17 => ?_) (fun E_17 h_17 q_17 => ?_)
    · obtain ⟨hcd, ⟨n, n1, n2, hy⟩, p, hp, p2, hx, rfl, e0, s0⟩ := q_17
      have hW := e0.W hW
      have ex : nn x = p := by rw [hx]; exact nn_I (by omega)
      have ey : nn y = n := by rw [hy]; exact nn_I (by omega)
      have hI0 : TrI h_17 p (nn (r.1 1)) (T0 r p) := tr_st s0 hO p2
      have hO0 : TrO (nn (r.1 1)) (T0 r p) := hO.2 p p2
      have hE3 := hO.1.2.2.2.2.2
      have hT1 := hO.1.2.1.2.2
      have hE0 : qE (T0 r p).1 < 2 ^ 28 := by show nn (r.1 3) < _; omega
      have ht0 : nn (r.1 1) < 2 ^ 27 := by omega
      have hOp := hO.2 p p2
      have y24 : nn (getP r.1 p 24) ≤ 24 := (hOp.at 24).2.2
      refine r_astore (ls2 := [_, _, _, _, _, _, some _, _, _, _]) dX8_bestPolicy_20 (by decide) rfl ?_
      refine r_aload dX8_bestPolicy_22 rfl ?_
      refine q_getR fl_X8_143 hW (kd_dr hp) rfl (kl_3_0 hW (kd_dr hp)) (Nat.succ_ne_zero _) dX8_bestPolicy_24 ?_
      refine r_iload dX8_bestPolicy_27 rfl ?_
      refine q_callV1 (cv_X4_tryPolicy ml_X8_365) hW (kk_3_0 (kd_dr hp)) (by decide) rfl ⟨rfl, rfl⟩ rfl (Nat.le_of_ble_eq_true rfl) dX8_bestPolicy_29 (c_X4_tryPolicy hW (kk_3_0 (kd_dr hp)) hI0.po.1) (fun v_29 h_29 q_29 => ?_)
      obtain ⟨rfl, e9, s9⟩ := q_29
      have hW := e9.W hW
      have hI1 : TrI h_29 p (nn (r.1 1)) (stQ (T0 r p) ((tpS (getP r.1 p) (0)))) := hI0.st (e9.wk (fun i q => by unfold btw at *; omega)) (po_stg hI0.po e9 s9 (fun k hk => tpS_k (by omega) (by omega)) (tpS_k (by decide) (by decide)))
      have hO9 : PoOK ((tpS (getP r.1 p) (0))) (getG r.2 p) (nn (r.1 1)) (nn (r.1 1)) := hOp.tp (rg_I (k := 0) (by decide) (by decide) (by decide))
      have hO1 : TrO (nn (r.1 1)) (stQ (T0 r p) ((tpS (getP r.1 p) (0)))) := hO9
      have e8 : eqx h_17 h_29 (SB 62) := e9.wk (fun i q => by unfold btw at q; (try unfold SB); omega)
      refine r_aload_n dX8_bestPolicy_32 rfl ?_
      refine r_aload dX8_bestPolicy_33 rfl ?_
      refine r_iload_n dX8_bestPolicy_35 rfl ?_
      refine r_iload_n dX8_bestPolicy_36 rfl ?_
      refine q_callV3 (cv_X8_tryCost ml_X8_352) hW kc_1 (by decide) rfl ⟨rfl, rfl⟩ rfl (Nat.le_of_ble_eq_true rfl) dX8_bestPolicy_37 (c_X8_tryCost hW hp hI1 hO1 hx hy n2 ht0 hE0) (fun v_37 h_37 q_37 => ?_)
      obtain ⟨rfl, e1, hI2⟩ := q_37
      have eC : coQ r x (tpS (fP r x) (0)) (nn y) = (trT p (nn (r.1 1)) n (stQ (T0 r p) ((tpS (getP r.1 p) (0))))).2 2 - (stQ (T0 r p) ((tpS (getP r.1 p) (0)))).2 2 := by unfold coQ TQ gP fP; rw [ex, ey]; rfl
      have hW := e1.W hW
      rw [← eC]
      refine r_lstore (ls2 := [_, _, _, _, _, _, _, some _, _, none]) dX8_bestPolicy_40 (by decide) rfl ?_
      refine r_iload_n dX8_bestPolicy_42 rfl ?_
      refine r_iconst (-1) dX8_bestPolicy_43 (by decide) ?_
      refine r_icmp_eq 55 dX8_bestPolicy_44 (by decide) (fun c_44 => ?_) (fun c_44 => ?_)
      · refine r_iload dX8_bestPolicy_55 rfl ?_
        refine r_istore_n (ls2 := [_, _, some _, _, _, _, _, _, _, _]) dX8_bestPolicy_57 (by decide) rfl ?_
        refine r_lload dX8_bestPolicy_58 rfl ?_
        refine r_lstore (ls2 := [_, _, _, some _, _, none, _, _, _, _]) dX8_bestPolicy_60 (by decide) rfl ?_
        refine r_iinc (1) (by decide) (ls2 := [_, _, _, _, _, none, _, _, _, _]) dX8_bestPolicy_62 rfl (by decide) rfl ?_
        rw [show ((0 : Int32) + (1)) = 1 from by decide]
        refine r_goto 8 dX8_bestPolicy_65 (by decide) ?_
        have e7 := he0.tr (e0.tr (e8.tr e1))
        exact g1 _ _ _ _ _ _ (boPolicy_e1.trans (bsT_t (Or.inl rfl))) hW e7 hcd
      · exact absurd rfl c_44
    · refine PX.out rfl ⟨Nat.le_of_ble_eq_true rfl, Nat.le_of_ble_eq_true rfl⟩ ?_
      obtain ⟨kx, rfl⟩ := q_17
      exact ⟨kx, rfl⟩

def boTarget_0 (_ : Row) (_ : Int32) (_ : Nat) : Int32 × Int64 := (-1, 0)
def boTarget_1 (r : Row) (x : Int32) (n : Nat) : Int32 × Int64 := bsT (boTarget_0 r x n) 10 (coQ r x (upd (fP r x) 3 (10)) n)
def boTarget_2 (r : Row) (x : Int32) (n : Nat) : Int32 × Int64 := bsT (boTarget_1 r x n) 20 (coQ r x (upd (fP r x) 3 (20)) n)
def boTarget_3 (r : Row) (x : Int32) (n : Nat) : Int32 × Int64 := bsT (boTarget_2 r x n) 30 (coQ r x (upd (fP r x) 3 (30)) n)
def boTarget_4 (r : Row) (x : Int32) (n : Nat) : Int32 × Int64 := bsT (boTarget_3 r x n) 40 (coQ r x (upd (fP r x) 3 (40)) n)
def boTarget_5 (r : Row) (x : Int32) (n : Nat) : Int32 × Int64 := bsT (boTarget_4 r x n) 50 (coQ r x (upd (fP r x) 3 (50)) n)
def boTarget_6 (r : Row) (x : Int32) (n : Nat) : Int32 × Int64 := bsT (boTarget_5 r x n) 60 (coQ r x (upd (fP r x) 3 (60)) n)
def boTarget_7 (r : Row) (x : Int32) (n : Nat) : Int32 × Int64 := bsT (boTarget_6 r x n) 70 (coQ r x (upd (fP r x) 3 (70)) n)
def boTarget_8 (r : Row) (x : Int32) (n : Nat) : Int32 × Int64 := bsT (boTarget_7 r x n) 80 (coQ r x (upd (fP r x) 3 (80)) n)
def boTarget_9 (r : Row) (x : Int32) (n : Nat) : Int32 × Int64 := bsT (boTarget_8 r x n) 90 (coQ r x (upd (fP r x) 3 (90)) n)
def boTarget_10 (r : Row) (x : Int32) (n : Nat) : Int32 × Int64 := bsT (boTarget_9 r x n) 100 (coQ r x (upd (fP r x) 3 (100)) n)
theorem boTarget_e1 {r : Row} {x : Int32} {n : Nat} : boTarget_1 r x n = bsT (boTarget_0 r x n) 10 (coQ r x (upd (fP r x) 3 (10)) n) := by unfold boTarget_1; exact rfl
theorem boTarget_e2 {r : Row} {x : Int32} {n : Nat} : boTarget_2 r x n = bsT (boTarget_1 r x n) 20 (coQ r x (upd (fP r x) 3 (20)) n) := by unfold boTarget_2; exact rfl
theorem boTarget_e3 {r : Row} {x : Int32} {n : Nat} : boTarget_3 r x n = bsT (boTarget_2 r x n) 30 (coQ r x (upd (fP r x) 3 (30)) n) := by unfold boTarget_3; exact rfl
theorem boTarget_e4 {r : Row} {x : Int32} {n : Nat} : boTarget_4 r x n = bsT (boTarget_3 r x n) 40 (coQ r x (upd (fP r x) 3 (40)) n) := by unfold boTarget_4; exact rfl
theorem boTarget_e5 {r : Row} {x : Int32} {n : Nat} : boTarget_5 r x n = bsT (boTarget_4 r x n) 50 (coQ r x (upd (fP r x) 3 (50)) n) := by unfold boTarget_5; exact rfl
theorem boTarget_e6 {r : Row} {x : Int32} {n : Nat} : boTarget_6 r x n = bsT (boTarget_5 r x n) 60 (coQ r x (upd (fP r x) 3 (60)) n) := by unfold boTarget_6; exact rfl
theorem boTarget_e7 {r : Row} {x : Int32} {n : Nat} : boTarget_7 r x n = bsT (boTarget_6 r x n) 70 (coQ r x (upd (fP r x) 3 (70)) n) := by unfold boTarget_7; exact rfl
theorem boTarget_e8 {r : Row} {x : Int32} {n : Nat} : boTarget_8 r x n = bsT (boTarget_7 r x n) 80 (coQ r x (upd (fP r x) 3 (80)) n) := by unfold boTarget_8; exact rfl
theorem boTarget_e9 {r : Row} {x : Int32} {n : Nat} : boTarget_9 r x n = bsT (boTarget_8 r x n) 90 (coQ r x (upd (fP r x) 3 (90)) n) := by unfold boTarget_9; exact rfl
theorem boTarget_e10 {r : Row} {x : Int32} {n : Nat} : boTarget_10 r x n = bsT (boTarget_9 r x n) 100 (coQ r x (upd (fP r x) 3 (100)) n) := by unfold boTarget_10; exact rfl
set_option maxRecDepth 100000 in
set_option maxHeartbeats 1000000 in
theorem c_X8_bestTarget {l9 : Launch} {G : GC} {h : AH} {r : Row} {m : Nat} {x y : Int32} (hW : World h) (hs : StR h 7 r.1 r.2) (hO : RoOK r.1 r.2 m) (hb : m + 300 < 2 ^ 23) : PM l9 G mX8_bestTarget NT NT [.ref 1, .int x, .int y] h (fun v h' => cd2 (okP r x) (rgB 1 300 y) = 0 ∧ v = some (.int (boTarget_10 r x (nn y)).1) ∧ eqx h h' (SB 62)) (fun E h' => thr [eB, eA] (cd2 (okP r x) (rgB 1 300 y)) E ∧ h' = h) := by
  refine PM.of (by decide +kernel) rfl rfl (Nat.le_of_ble_eq_true rfl) (fun hst _ => ?_)
  refine r_iconst (-1) dX8_bestTarget_0 (by decide) ?_
  refine r_istore_n (ls2 := [_, _, some _, _, _, _, _, _, _, _]) dX8_bestTarget_1 (by decide) rfl ?_
  refine r_lconst (0) dX8_bestTarget_2 (by decide) ?_
  refine r_lstore (ls2 := [_, _, _, some _, _, none, _, _, _, _]) dX8_bestTarget_3 (by decide) rfl ?_
  refine r_bipush (10) dX8_bestTarget_5 (by decide) ?_
  refine r_istore (ls2 := [_, _, _, _, _, none, _, _, _, _]) dX8_bestTarget_7 (by decide) rfl ?_
  have g10 : ∀ (H : AH) (z7 z8 z9 : Option Value) (b : Int32) (c : Int64), (boTarget_10 r x (nn y)) = (b, c) → World H → eqx h H (SB 62) → cd2 (okP r x) (rgB 1 300 y) = 0 → PW l9 G mX8_bestTarget (mO mX8_bestTarget) (fiM G mX8_bestTarget NT (fun v h' => cd2 (okP r x) (rgB 1 300 y) = 0 ∧ v = some (.int (boTarget_10 r x (nn y)).1) ∧ eqx h h' (SB 62)) (fun E h' => thr [eB, eA] (cd2 (okP r x) (rgB 1 300 y)) E ∧ h' = h)) NT 9 [some (.ref 1), some (.int x), some (.int y), some (.int b), some (.long c), none, some (.int 110), z7, z8, z9] [] (20, 120) H := by
    intro H z7 z8 z9 b c hbc hW he hc0
    refine r_iload dX8_bestTarget_9 rfl ?_
    refine r_bipush (100) dX8_bestTarget_11 (by decide) ?_
    refine r_icmp_gt 70 dX8_bestTarget_13 (by decide) (fun c_13 => ?_) (fun c_13 => ?_)
    · refine r_iload_n dX8_bestTarget_70 rfl ?_
      refine r_iret dX8_bestTarget_71 rfl ⟨Nat.le_of_ble_eq_true rfl, Nat.le_of_ble_eq_true rfl⟩ ?_
      exact ⟨hc0, some_int (by rw [hbc]), he⟩
    · first | exact absurd c_13 (by decide) | exact absurd (by decide) c_13
  have g9 : ∀ (H : AH) (z7 z8 z9 : Option Value) (b : Int32) (c : Int64), (boTarget_9 r x (nn y)) = (b, c) → World H → eqx h H (SB 62) → cd2 (okP r x) (rgB 1 300 y) = 0 → PW l9 G mX8_bestTarget (mO mX8_bestTarget) (fiM G mX8_bestTarget NT (fun v h' => cd2 (okP r x) (rgB 1 300 y) = 0 ∧ v = some (.int (boTarget_10 r x (nn y)).1) ∧ eqx h h' (SB 62)) (fun E h' => thr [eB, eA] (cd2 (okP r x) (rgB 1 300 y)) E ∧ h' = h)) NT 9 [some (.ref 1), some (.int x), some (.int y), some (.int b), some (.long c), none, some (.int 100), z7, z8, z9] [] (18, 108) H := by
    intro H z7 z8 z9 b c hbc hW he hc0
    refine r_iload dX8_bestTarget_9 rfl ?_
    refine r_bipush (100) dX8_bestTarget_11 (by decide) ?_
    refine r_icmp_gt 70 dX8_bestTarget_13 (by decide) (fun c_13 => ?_) (fun c_13 => ?_)
    · first | exact absurd c_13 (by decide) | exact absurd (by decide) c_13
    · have hsH : StR H 7 r.1 r.2 := hs.eqx he hO.1.1.2.2 (fun j j1 j2 => by unfold SB; omega)
      have he0 : eqx h H (SB 62) := he
      refine r_aload_n dX8_bestTarget_16 rfl ?_
      refine r_iload_n dX8_bestTarget_17 rfl ?_
      refine r_iload_n dX8_bestTarget_18 rfl ?_
      refine q_callX2 (cv_X8_startTrial ml_X8_345) hW kc_1 (by decide) rfl rfl (Nat.le_of_ble_eq_true rfl) dX8_bestTarget_19 (c_X8_startTrial hW hsH hO) (fun v_19 h_19 q_19 => ?_) (fun E_19 h_19 q_19 => ?_)
      · obtain ⟨hcd, ⟨n, n1, n2, hy⟩, p, hp, p2, hx, rfl, e0, s0⟩ := q_19
        have hW := e0.W hW
        have ex : nn x = p := by rw [hx]; exact nn_I (by omega)
        have ey : nn y = n := by rw [hy]; exact nn_I (by omega)
        have hI0 : TrI h_19 p (nn (r.1 1)) (T0 r p) := tr_st s0 hO p2
        have hO0 : TrO (nn (r.1 1)) (T0 r p) := hO.2 p p2
        have hE3 := hO.1.2.2.2.2.2
        have hT1 := hO.1.2.1.2.2
        have hE0 : qE (T0 r p).1 < 2 ^ 28 := by show nn (r.1 3) < _; omega
        have ht0 : nn (r.1 1) < 2 ^ 27 := by omega
        have hOp := hO.2 p p2
        have y24 : nn (getP r.1 p 24) ≤ 24 := (hOp.at 24).2.2
        refine r_astore (ls2 := [_, _, _, _, _, _, some _, _, _, _]) dX8_bestTarget_22 (by decide) rfl ?_
        refine r_aload dX8_bestTarget_24 rfl ?_
        refine q_getR fl_X8_143 hW (kd_dr hp) rfl (kl_3_0 hW (kd_dr hp)) (Nat.succ_ne_zero _) dX8_bestTarget_26 ?_
        refine r_iload dX8_bestTarget_29 rfl ?_
        refine q_putI fl_X8_334 hW (kk_3_0 (kd_dr hp)) rfl rfl dX8_bestTarget_31 ?_
        have hI1 : TrI (sI h_19 (62 + 1 + 6 + 12 * p + 1) 3 100) p (nn (r.1 1)) (stQ (T0 r p) ((upd (getP r.1 p) 3 (100)))) := tr_st' hI0 (by decide) (by decide) y24
        have hO9 : PoOK ((upd (getP r.1 p) 3 (100))) (getG r.2 p) (nn (r.1 1)) (nn (r.1 1)) := hOp.st (fun j hj => pk_un (by omega)) (pk_un (by decide)) (PoB.upd hOp.1 (fun _ => rg_I (k := 100) (by decide) (by decide) (by decide))) (by rw [pk_un (by decide), pk_un (by decide)]; exact hOp.2.1.1) (by rw [pk_un (by decide), pk_un (by decide)]; exact hOp.2.1.2)
        have hO1 : TrO (nn (r.1 1)) (stQ (T0 r p) ((upd (getP r.1 p) 3 (100)))) := hO9
        have e8 : eqx h_19 (sI h_19 (62 + 1 + 6 + 12 * p + 1) 3 100) (SB 62) := eqx.rf.sI (by unfold SB; omega)
        have hW : World (sI h_19 (62 + 1 + 6 + 12 * p + 1) 3 100) := wsI hW
        refine r_aload_n dX8_bestTarget_34 rfl ?_
        refine r_aload dX8_bestTarget_35 rfl ?_
        refine r_iload_n dX8_bestTarget_37 rfl ?_
        refine r_iload_n dX8_bestTarget_38 rfl ?_
        refine q_callV3 (cv_X8_tryCost ml_X8_352) hW kc_1 (by decide) rfl ⟨rfl, rfl⟩ rfl (Nat.le_of_ble_eq_true rfl) dX8_bestTarget_39 (c_X8_tryCost hW hp hI1 hO1 hx hy n2 ht0 hE0) (fun v_39 h_39 q_39 => ?_)
        obtain ⟨rfl, e1, hI2⟩ := q_39
        have eC : coQ r x (upd (fP r x) 3 (100)) (nn y) = (trT p (nn (r.1 1)) n (stQ (T0 r p) ((upd (getP r.1 p) 3 (100))))).2 2 - (stQ (T0 r p) ((upd (getP r.1 p) 3 (100)))).2 2 := by unfold coQ TQ gP fP; rw [ex, ey]; rfl
        have hW := e1.W hW
        rw [← eC]
        refine r_lstore (ls2 := [_, _, _, _, _, _, _, some _, _, none]) dX8_bestTarget_42 (by decide) rfl ?_
        refine r_iload_n dX8_bestTarget_44 rfl ?_
        refine r_iconst (-1) dX8_bestTarget_45 (by decide) ?_
        refine r_icmp_eq 57 dX8_bestTarget_46 (by decide) (fun c_46 => ?_) (fun c_46 => ?_)
        · refine r_iload dX8_bestTarget_57 rfl ?_
          refine r_istore_n (ls2 := [_, _, some _, _, _, _, _, _, _, _]) dX8_bestTarget_59 (by decide) rfl ?_
          refine r_lload dX8_bestTarget_60 rfl ?_
          refine r_lstore (ls2 := [_, _, _, some _, _, none, _, _, _, _]) dX8_bestTarget_62 (by decide) rfl ?_
          refine r_iinc (10) (by decide) (ls2 := [_, _, _, _, _, none, _, _, _, _]) dX8_bestTarget_64 rfl (by decide) rfl ?_
          rw [show ((100 : Int32) + (10)) = 110 from by decide]
          refine r_goto 9 dX8_bestTarget_67 (by decide) ?_
          have e7 := he0.tr (e0.tr (e8.tr e1))
          first
            | exact g10 _ _ _ _ _ _ (boTarget_e10.trans (by rw [hbc]; exact bsT_t (Or.inl c_46))) hW e7 hcd
            | exact g10 _ _ _ _ _ _ (boTarget_e10.trans (by rw [hbc]; exact bsT_t (Or.inr (hll.mp (Int32.not_le.mp c_54))))) hW e7 hcd
            | exact g10 _ _ _ _ _ _ (boTarget_e10.trans (by rw [hbc]; exact bsT_f c_46 (fun q => absurd (hll.mpr q) (Int32.not_lt.mpr c_54)))) hW e7 hcd
        · refine r_lload dX8_bestTarget_49 rfl ?_
          refine r_lload dX8_bestTarget_51 rfl ?_
          have hll := lg_lt (x := coQ r x (upd (fP r x) 3 (100)) (nn y)) (y := c)
          refine r_lcmp dX8_bestTarget_53 ?_
          refine r_if_ge 64 dX8_bestTarget_54 (by decide) (fun c_54 => ?_) (fun c_54 => ?_)
          · refine r_iinc (10) (by decide) (ls2 := [_, _, _, _, _, none, _, _, _, _]) dX8_bestTarget_64 rfl (by decide) rfl ?_
            rw [show ((100 : Int32) + (10)) = 110 from by decide]
            refine r_goto 9 dX8_bestTarget_67 (by decide) ?_
            have e7 := he0.tr (e0.tr (e8.tr e1))
            first
              | exact g10 _ _ _ _ _ _ (boTarget_e10.trans (by rw [hbc]; exact bsT_t (Or.inl c_46))) hW e7 hcd
              | exact g10 _ _ _ _ _ _ (boTarget_e10.trans (by rw [hbc]; exact bsT_t (Or.inr (hll.mp (Int32.not_le.mp c_54))))) hW e7 hcd
              | exact g10 _ _ _ _ _ _ (boTarget_e10.trans (by rw [hbc]; exact bsT_f c_46 (fun q => absurd (hll.mpr q) (Int32.not_lt.mpr c_54)))) hW e7 hcd
          · refine r_iload dX8_bestTarget_57 rfl ?_
            refine r_istore_n (ls2 := [_, _, some _, _, _, _, _, _, _, _]) dX8_bestTarget_59 (by decide) rfl ?_
            refine r_lload dX8_bestTarget_60 rfl ?_
            refine r_lstore (ls2 := [_, _, _, some _, _, none, _, _, _, _]) dX8_bestTarget_62 (by decide) rfl ?_
            refine r_iinc (10) (by decide) (ls2 := [_, _, _, _, _, none, _, _, _, _]) dX8_bestTarget_64 rfl (by decide) rfl ?_
            rw [show ((100 : Int32) + (10)) = 110 from by decide]
            refine r_goto 9 dX8_bestTarget_67 (by decide) ?_
            have e7 := he0.tr (e0.tr (e8.tr e1))
            first
              | exact g10 _ _ _ _ _ _ (boTarget_e10.trans (by rw [hbc]; exact bsT_t (Or.inl c_46))) hW e7 hcd
              | exact g10 _ _ _ _ _ _ (boTarget_e10.trans (by rw [hbc]; exact bsT_t (Or.inr (hll.mp (Int32.not_le.mp c_54))))) hW e7 hcd
              | exact g10 _ _ _ _ _ _ (boTarget_e10.trans (by rw [hbc]; exact bsT_f c_46 (fun q => absurd (hll.mpr q) (Int32.not_lt.mpr c_54)))) hW e7 hcd
      · refine PX.out rfl ⟨Nat.le_of_ble_eq_true rfl, Nat.le_of_ble_eq_true rfl⟩ ?_
        obtain ⟨kx, rfl⟩ := q_19
        exact absurd hc0 kx.1
  have g8 : ∀ (H : AH) (z7 z8 z9 : Option Value) (b : Int32) (c : Int64), (boTarget_8 r x (nn y)) = (b, c) → World H → eqx h H (SB 62) → cd2 (okP r x) (rgB 1 300 y) = 0 → PW l9 G mX8_bestTarget (mO mX8_bestTarget) (fiM G mX8_bestTarget NT (fun v h' => cd2 (okP r x) (rgB 1 300 y) = 0 ∧ v = some (.int (boTarget_10 r x (nn y)).1) ∧ eqx h h' (SB 62)) (fun E h' => thr [eB, eA] (cd2 (okP r x) (rgB 1 300 y)) E ∧ h' = h)) NT 9 [some (.ref 1), some (.int x), some (.int y), some (.int b), some (.long c), none, some (.int 90), z7, z8, z9] [] (16, 96) H := by
    intro H z7 z8 z9 b c hbc hW he hc0
    refine r_iload dX8_bestTarget_9 rfl ?_
    refine r_bipush (100) dX8_bestTarget_11 (by decide) ?_
    refine r_icmp_gt 70 dX8_bestTarget_13 (by decide) (fun c_13 => ?_) (fun c_13 => ?_)
    · first | exact absurd c_13 (by decide) | exact absurd (by decide) c_13
    · have hsH : StR H 7 r.1 r.2 := hs.eqx he hO.1.1.2.2 (fun j j1 j2 => by unfold SB; omega)
      have he0 : eqx h H (SB 62) := he
      refine r_aload_n dX8_bestTarget_16 rfl ?_
      refine r_iload_n dX8_bestTarget_17 rfl ?_
      refine r_iload_n dX8_bestTarget_18 rfl ?_
      refine q_callX2 (cv_X8_startTrial ml_X8_345) hW kc_1 (by decide) rfl rfl (Nat.le_of_ble_eq_true rfl) dX8_bestTarget_19 (c_X8_startTrial hW hsH hO) (fun v_19 h_19 q_19 => ?_) (fun E_19 h_19 q_19 => ?_)
      · obtain ⟨hcd, ⟨n, n1, n2, hy⟩, p, hp, p2, hx, rfl, e0, s0⟩ := q_19
        have hW := e0.W hW
        have ex : nn x = p := by rw [hx]; exact nn_I (by omega)
        have ey : nn y = n := by rw [hy]; exact nn_I (by omega)
        have hI0 : TrI h_19 p (nn (r.1 1)) (T0 r p) := tr_st s0 hO p2
        have hO0 : TrO (nn (r.1 1)) (T0 r p) := hO.2 p p2
        have hE3 := hO.1.2.2.2.2.2
        have hT1 := hO.1.2.1.2.2
        have hE0 : qE (T0 r p).1 < 2 ^ 28 := by show nn (r.1 3) < _; omega
        have ht0 : nn (r.1 1) < 2 ^ 27 := by omega
        have hOp := hO.2 p p2
        have y24 : nn (getP r.1 p 24) ≤ 24 := (hOp.at 24).2.2
        refine r_astore (ls2 := [_, _, _, _, _, _, some _, _, _, _]) dX8_bestTarget_22 (by decide) rfl ?_
        refine r_aload dX8_bestTarget_24 rfl ?_
        refine q_getR fl_X8_143 hW (kd_dr hp) rfl (kl_3_0 hW (kd_dr hp)) (Nat.succ_ne_zero _) dX8_bestTarget_26 ?_
        refine r_iload dX8_bestTarget_29 rfl ?_
        refine q_putI fl_X8_334 hW (kk_3_0 (kd_dr hp)) rfl rfl dX8_bestTarget_31 ?_
        have hI1 : TrI (sI h_19 (62 + 1 + 6 + 12 * p + 1) 3 90) p (nn (r.1 1)) (stQ (T0 r p) ((upd (getP r.1 p) 3 (90)))) := tr_st' hI0 (by decide) (by decide) y24
        have hO9 : PoOK ((upd (getP r.1 p) 3 (90))) (getG r.2 p) (nn (r.1 1)) (nn (r.1 1)) := hOp.st (fun j hj => pk_un (by omega)) (pk_un (by decide)) (PoB.upd hOp.1 (fun _ => rg_I (k := 90) (by decide) (by decide) (by decide))) (by rw [pk_un (by decide), pk_un (by decide)]; exact hOp.2.1.1) (by rw [pk_un (by decide), pk_un (by decide)]; exact hOp.2.1.2)
        have hO1 : TrO (nn (r.1 1)) (stQ (T0 r p) ((upd (getP r.1 p) 3 (90)))) := hO9
        have e8 : eqx h_19 (sI h_19 (62 + 1 + 6 + 12 * p + 1) 3 90) (SB 62) := eqx.rf.sI (by unfold SB; omega)
        have hW : World (sI h_19 (62 + 1 + 6 + 12 * p + 1) 3 90) := wsI hW
        refine r_aload_n dX8_bestTarget_34 rfl ?_
        refine r_aload dX8_bestTarget_35 rfl ?_
        refine r_iload_n dX8_bestTarget_37 rfl ?_
        refine r_iload_n dX8_bestTarget_38 rfl ?_
        refine q_callV3 (cv_X8_tryCost ml_X8_352) hW kc_1 (by decide) rfl ⟨rfl, rfl⟩ rfl (Nat.le_of_ble_eq_true rfl) dX8_bestTarget_39 (c_X8_tryCost hW hp hI1 hO1 hx hy n2 ht0 hE0) (fun v_39 h_39 q_39 => ?_)
        obtain ⟨rfl, e1, hI2⟩ := q_39
        have eC : coQ r x (upd (fP r x) 3 (90)) (nn y) = (trT p (nn (r.1 1)) n (stQ (T0 r p) ((upd (getP r.1 p) 3 (90))))).2 2 - (stQ (T0 r p) ((upd (getP r.1 p) 3 (90)))).2 2 := by unfold coQ TQ gP fP; rw [ex, ey]; rfl
        have hW := e1.W hW
        rw [← eC]
        refine r_lstore (ls2 := [_, _, _, _, _, _, _, some _, _, none]) dX8_bestTarget_42 (by decide) rfl ?_
        refine r_iload_n dX8_bestTarget_44 rfl ?_
        refine r_iconst (-1) dX8_bestTarget_45 (by decide) ?_
        refine r_icmp_eq 57 dX8_bestTarget_46 (by decide) (fun c_46 => ?_) (fun c_46 => ?_)
        · refine r_iload dX8_bestTarget_57 rfl ?_
          refine r_istore_n (ls2 := [_, _, some _, _, _, _, _, _, _, _]) dX8_bestTarget_59 (by decide) rfl ?_
          refine r_lload dX8_bestTarget_60 rfl ?_
          refine r_lstore (ls2 := [_, _, _, some _, _, none, _, _, _, _]) dX8_bestTarget_62 (by decide) rfl ?_
          refine r_iinc (10) (by decide) (ls2 := [_, _, _, _, _, none, _, _, _, _]) dX8_bestTarget_64 rfl (by decide) rfl ?_
          rw [show ((90 : Int32) + (10)) = 100 from by decide]
          refine r_goto 9 dX8_bestTarget_67 (by decide) ?_
          have e7 := he0.tr (e0.tr (e8.tr e1))
          first
            | exact g9 _ _ _ _ _ _ (boTarget_e9.trans (by rw [hbc]; exact bsT_t (Or.inl c_46))) hW e7 hcd
            | exact g9 _ _ _ _ _ _ (boTarget_e9.trans (by rw [hbc]; exact bsT_t (Or.inr (hll.mp (Int32.not_le.mp c_54))))) hW e7 hcd
            | exact g9 _ _ _ _ _ _ (boTarget_e9.trans (by rw [hbc]; exact bsT_f c_46 (fun q => absurd (hll.mpr q) (Int32.not_lt.mpr c_54)))) hW e7 hcd
        · refine r_lload dX8_bestTarget_49 rfl ?_
          refine r_lload dX8_bestTarget_51 rfl ?_
          have hll := lg_lt (x := coQ r x (upd (fP r x) 3 (90)) (nn y)) (y := c)
          refine r_lcmp dX8_bestTarget_53 ?_
          refine r_if_ge 64 dX8_bestTarget_54 (by decide) (fun c_54 => ?_) (fun c_54 => ?_)
          · refine r_iinc (10) (by decide) (ls2 := [_, _, _, _, _, none, _, _, _, _]) dX8_bestTarget_64 rfl (by decide) rfl ?_
            rw [show ((90 : Int32) + (10)) = 100 from by decide]
            refine r_goto 9 dX8_bestTarget_67 (by decide) ?_
            have e7 := he0.tr (e0.tr (e8.tr e1))
            first
              | exact g9 _ _ _ _ _ _ (boTarget_e9.trans (by rw [hbc]; exact bsT_t (Or.inl c_46))) hW e7 hcd
              | exact g9 _ _ _ _ _ _ (boTarget_e9.trans (by rw [hbc]; exact bsT_t (Or.inr (hll.mp (Int32.not_le.mp c_54))))) hW e7 hcd
              | exact g9 _ _ _ _ _ _ (boTarget_e9.trans (by rw [hbc]; exact bsT_f c_46 (fun q => absurd (hll.mpr q) (Int32.not_lt.mpr c_54)))) hW e7 hcd
          · refine r_iload dX8_bestTarget_57 rfl ?_
            refine r_istore_n (ls2 := [_, _, some _, _, _, _, _, _, _, _]) dX8_bestTarget_59 (by decide) rfl ?_
            refine r_lload dX8_bestTarget_60 rfl ?_
            refine r_lstore (ls2 := [_, _, _, some _, _, none, _, _, _, _]) dX8_bestTarget_62 (by decide) rfl ?_
            refine r_iinc (10) (by decide) (ls2 := [_, _, _, _, _, none, _, _, _, _]) dX8_bestTarget_64 rfl (by decide) rfl ?_
            rw [show ((90 : Int32) + (10)) = 100 from by decide]
            refine r_goto 9 dX8_bestTarget_67 (by decide) ?_
            have e7 := he0.tr (e0.tr (e8.tr e1))
            first
              | exact g9 _ _ _ _ _ _ (boTarget_e9.trans (by rw [hbc]; exact bsT_t (Or.inl c_46))) hW e7 hcd
              | exact g9 _ _ _ _ _ _ (boTarget_e9.trans (by rw [hbc]; exact bsT_t (Or.inr (hll.mp (Int32.not_le.mp c_54))))) hW e7 hcd
              | exact g9 _ _ _ _ _ _ (boTarget_e9.trans (by rw [hbc]; exact bsT_f c_46 (fun q => absurd (hll.mpr q) (Int32.not_lt.mpr c_54)))) hW e7 hcd
      · refine PX.out rfl ⟨Nat.le_of_ble_eq_true rfl, Nat.le_of_ble_eq_true rfl⟩ ?_
        obtain ⟨kx, rfl⟩ := q_19
        exact absurd hc0 kx.1
  have g7 : ∀ (H : AH) (z7 z8 z9 : Option Value) (b : Int32) (c : Int64), (boTarget_7 r x (nn y)) = (b, c) → World H → eqx h H (SB 62) → cd2 (okP r x) (rgB 1 300 y) = 0 → PW l9 G mX8_bestTarget (mO mX8_bestTarget) (fiM G mX8_bestTarget NT (fun v h' => cd2 (okP r x) (rgB 1 300 y) = 0 ∧ v = some (.int (boTarget_10 r x (nn y)).1) ∧ eqx h h' (SB 62)) (fun E h' => thr [eB, eA] (cd2 (okP r x) (rgB 1 300 y)) E ∧ h' = h)) NT 9 [some (.ref 1), some (.int x), some (.int y), some (.int b), some (.long c), none, some (.int 80), z7, z8, z9] [] (14, 84) H := by
    intro H z7 z8 z9 b c hbc hW he hc0
    refine r_iload dX8_bestTarget_9 rfl ?_
    refine r_bipush (100) dX8_bestTarget_11 (by decide) ?_
    refine r_icmp_gt 70 dX8_bestTarget_13 (by decide) (fun c_13 => ?_) (fun c_13 => ?_)
    · first | exact absurd c_13 (by decide) | exact absurd (by decide) c_13
    · have hsH : StR H 7 r.1 r.2 := hs.eqx he hO.1.1.2.2 (fun j j1 j2 => by unfold SB; omega)
      have he0 : eqx h H (SB 62) := he
      refine r_aload_n dX8_bestTarget_16 rfl ?_
      refine r_iload_n dX8_bestTarget_17 rfl ?_
      refine r_iload_n dX8_bestTarget_18 rfl ?_
      refine q_callX2 (cv_X8_startTrial ml_X8_345) hW kc_1 (by decide) rfl rfl (Nat.le_of_ble_eq_true rfl) dX8_bestTarget_19 (c_X8_startTrial hW hsH hO) (fun v_19 h_19 q_19 => ?_) (fun E_19 h_19 q_19 => ?_)
      · obtain ⟨hcd, ⟨n, n1, n2, hy⟩, p, hp, p2, hx, rfl, e0, s0⟩ := q_19
        have hW := e0.W hW
        have ex : nn x = p := by rw [hx]; exact nn_I (by omega)
        have ey : nn y = n := by rw [hy]; exact nn_I (by omega)
        have hI0 : TrI h_19 p (nn (r.1 1)) (T0 r p) := tr_st s0 hO p2
        have hO0 : TrO (nn (r.1 1)) (T0 r p) := hO.2 p p2
        have hE3 := hO.1.2.2.2.2.2
        have hT1 := hO.1.2.1.2.2
        have hE0 : qE (T0 r p).1 < 2 ^ 28 := by show nn (r.1 3) < _; omega
        have ht0 : nn (r.1 1) < 2 ^ 27 := by omega
        have hOp := hO.2 p p2
        have y24 : nn (getP r.1 p 24) ≤ 24 := (hOp.at 24).2.2
        refine r_astore (ls2 := [_, _, _, _, _, _, some _, _, _, _]) dX8_bestTarget_22 (by decide) rfl ?_
        refine r_aload dX8_bestTarget_24 rfl ?_
        refine q_getR fl_X8_143 hW (kd_dr hp) rfl (kl_3_0 hW (kd_dr hp)) (Nat.succ_ne_zero _) dX8_bestTarget_26 ?_
        refine r_iload dX8_bestTarget_29 rfl ?_
        refine q_putI fl_X8_334 hW (kk_3_0 (kd_dr hp)) rfl rfl dX8_bestTarget_31 ?_
        have hI1 : TrI (sI h_19 (62 + 1 + 6 + 12 * p + 1) 3 80) p (nn (r.1 1)) (stQ (T0 r p) ((upd (getP r.1 p) 3 (80)))) := tr_st' hI0 (by decide) (by decide) y24
        have hO9 : PoOK ((upd (getP r.1 p) 3 (80))) (getG r.2 p) (nn (r.1 1)) (nn (r.1 1)) := hOp.st (fun j hj => pk_un (by omega)) (pk_un (by decide)) (PoB.upd hOp.1 (fun _ => rg_I (k := 80) (by decide) (by decide) (by decide))) (by rw [pk_un (by decide), pk_un (by decide)]; exact hOp.2.1.1) (by rw [pk_un (by decide), pk_un (by decide)]; exact hOp.2.1.2)
        have hO1 : TrO (nn (r.1 1)) (stQ (T0 r p) ((upd (getP r.1 p) 3 (80)))) := hO9
        have e8 : eqx h_19 (sI h_19 (62 + 1 + 6 + 12 * p + 1) 3 80) (SB 62) := eqx.rf.sI (by unfold SB; omega)
        have hW : World (sI h_19 (62 + 1 + 6 + 12 * p + 1) 3 80) := wsI hW
        refine r_aload_n dX8_bestTarget_34 rfl ?_
        refine r_aload dX8_bestTarget_35 rfl ?_
        refine r_iload_n dX8_bestTarget_37 rfl ?_
        refine r_iload_n dX8_bestTarget_38 rfl ?_
        refine q_callV3 (cv_X8_tryCost ml_X8_352) hW kc_1 (by decide) rfl ⟨rfl, rfl⟩ rfl (Nat.le_of_ble_eq_true rfl) dX8_bestTarget_39 (c_X8_tryCost hW hp hI1 hO1 hx hy n2 ht0 hE0) (fun v_39 h_39 q_39 => ?_)
        obtain ⟨rfl, e1, hI2⟩ := q_39
        have eC : coQ r x (upd (fP r x) 3 (80)) (nn y) = (trT p (nn (r.1 1)) n (stQ (T0 r p) ((upd (getP r.1 p) 3 (80))))).2 2 - (stQ (T0 r p) ((upd (getP r.1 p) 3 (80)))).2 2 := by unfold coQ TQ gP fP; rw [ex, ey]; rfl
        have hW := e1.W hW
        rw [← eC]
        refine r_lstore (ls2 := [_, _, _, _, _, _, _, some _, _, none]) dX8_bestTarget_42 (by decide) rfl ?_
        refine r_iload_n dX8_bestTarget_44 rfl ?_
        refine r_iconst (-1) dX8_bestTarget_45 (by decide) ?_
        refine r_icmp_eq 57 dX8_bestTarget_46 (by decide) (fun c_46 => ?_) (fun c_46 => ?_)
        · refine r_iload dX8_bestTarget_57 rfl ?_
          refine r_istore_n (ls2 := [_, _, some _, _, _, _, _, _, _, _]) dX8_bestTarget_59 (by decide) rfl ?_
          refine r_lload dX8_bestTarget_60 rfl ?_
          refine r_lstore (ls2 := [_, _, _, some _, _, none, _, _, _, _]) dX8_bestTarget_62 (by decide) rfl ?_
          refine r_iinc (10) (by decide) (ls2 := [_, _, _, _, _, none, _, _, _, _]) dX8_bestTarget_64 rfl (by decide) rfl ?_
          rw [show ((80 : Int32) + (10)) = 90 from by decide]
          refine r_goto 9 dX8_bestTarget_67 (by decide) ?_
          have e7 := he0.tr (e0.tr (e8.tr e1))
          first
            | exact g8 _ _ _ _ _ _ (boTarget_e8.trans (by rw [hbc]; exact bsT_t (Or.inl c_46))) hW e7 hcd
            | exact g8 _ _ _ _ _ _ (boTarget_e8.trans (by rw [hbc]; exact bsT_t (Or.inr (hll.mp (Int32.not_le.mp c_54))))) hW e7 hcd
            | exact g8 _ _ _ _ _ _ (boTarget_e8.trans (by rw [hbc]; exact bsT_f c_46 (fun q => absurd (hll.mpr q) (Int32.not_lt.mpr c_54)))) hW e7 hcd
        · refine r_lload dX8_bestTarget_49 rfl ?_
          refine r_lload dX8_bestTarget_51 rfl ?_
          have hll := lg_lt (x := coQ r x (upd (fP r x) 3 (80)) (nn y)) (y := c)
          refine r_lcmp dX8_bestTarget_53 ?_
          refine r_if_ge 64 dX8_bestTarget_54 (by decide) (fun c_54 => ?_) (fun c_54 => ?_)
          · refine r_iinc (10) (by decide) (ls2 := [_, _, _, _, _, none, _, _, _, _]) dX8_bestTarget_64 rfl (by decide) rfl ?_
            rw [show ((80 : Int32) + (10)) = 90 from by decide]
            refine r_goto 9 dX8_bestTarget_67 (by decide) ?_
            have e7 := he0.tr (e0.tr (e8.tr e1))
            first
              | exact g8 _ _ _ _ _ _ (boTarget_e8.trans (by rw [hbc]; exact bsT_t (Or.inl c_46))) hW e7 hcd
              | exact g8 _ _ _ _ _ _ (boTarget_e8.trans (by rw [hbc]; exact bsT_t (Or.inr (hll.mp (Int32.not_le.mp c_54))))) hW e7 hcd
              | exact g8 _ _ _ _ _ _ (boTarget_e8.trans (by rw [hbc]; exact bsT_f c_46 (fun q => absurd (hll.mpr q) (Int32.not_lt.mpr c_54)))) hW e7 hcd
          · refine r_iload dX8_bestTarget_57 rfl ?_
            refine r_istore_n (ls2 := [_, _, some _, _, _, _, _, _, _, _]) dX8_bestTarget_59 (by decide) rfl ?_
            refine r_lload dX8_bestTarget_60 rfl ?_
            refine r_lstore (ls2 := [_, _, _, some _, _, none, _, _, _, _]) dX8_bestTarget_62 (by decide) rfl ?_
            refine r_iinc (10) (by decide) (ls2 := [_, _, _, _, _, none, _, _, _, _]) dX8_bestTarget_64 rfl (by decide) rfl ?_
            rw [show ((80 : Int32) + (10)) = 90 from by decide]
            refine r_goto 9 dX8_bestTarget_67 (by decide) ?_
            have e7 := he0.tr (e0.tr (e8.tr e1))
            first
              | exact g8 _ _ _ _ _ _ (boTarget_e8.trans (by rw [hbc]; exact bsT_t (Or.inl c_46))) hW e7 hcd
              | exact g8 _ _ _ _ _ _ (boTarget_e8.trans (by rw [hbc]; exact bsT_t (Or.inr (hll.mp (Int32.not_le.mp c_54))))) hW e7 hcd
              | exact g8 _ _ _ _ _ _ (boTarget_e8.trans (by rw [hbc]; exact bsT_f c_46 (fun q => absurd (hll.mpr q) (Int32.not_lt.mpr c_54)))) hW e7 hcd
      · refine PX.out rfl ⟨Nat.le_of_ble_eq_true rfl, Nat.le_of_ble_eq_true rfl⟩ ?_
        obtain ⟨kx, rfl⟩ := q_19
        exact absurd hc0 kx.1
  have g6 : ∀ (H : AH) (z7 z8 z9 : Option Value) (b : Int32) (c : Int64), (boTarget_6 r x (nn y)) = (b, c) → World H → eqx h H (SB 62) → cd2 (okP r x) (rgB 1 300 y) = 0 → PW l9 G mX8_bestTarget (mO mX8_bestTarget) (fiM G mX8_bestTarget NT (fun v h' => cd2 (okP r x) (rgB 1 300 y) = 0 ∧ v = some (.int (boTarget_10 r x (nn y)).1) ∧ eqx h h' (SB 62)) (fun E h' => thr [eB, eA] (cd2 (okP r x) (rgB 1 300 y)) E ∧ h' = h)) NT 9 [some (.ref 1), some (.int x), some (.int y), some (.int b), some (.long c), none, some (.int 70), z7, z8, z9] [] (12, 72) H := by
    intro H z7 z8 z9 b c hbc hW he hc0
    refine r_iload dX8_bestTarget_9 rfl ?_
    refine r_bipush (100) dX8_bestTarget_11 (by decide) ?_
    refine r_icmp_gt 70 dX8_bestTarget_13 (by decide) (fun c_13 => ?_) (fun c_13 => ?_)
    · first | exact absurd c_13 (by decide) | exact absurd (by decide) c_13
    · have hsH : StR H 7 r.1 r.2 := hs.eqx he hO.1.1.2.2 (fun j j1 j2 => by unfold SB; omega)
      have he0 : eqx h H (SB 62) := he
      refine r_aload_n dX8_bestTarget_16 rfl ?_
      refine r_iload_n dX8_bestTarget_17 rfl ?_
      refine r_iload_n dX8_bestTarget_18 rfl ?_
      refine q_callX2 (cv_X8_startTrial ml_X8_345) hW kc_1 (by decide) rfl rfl (Nat.le_of_ble_eq_true rfl) dX8_bestTarget_19 (c_X8_startTrial hW hsH hO) (fun v_19 h_19 q_19 => ?_) (fun E_19 h_19 q_19 => ?_)
      · obtain ⟨hcd, ⟨n, n1, n2, hy⟩, p, hp, p2, hx, rfl, e0, s0⟩ := q_19
        have hW := e0.W hW
        have ex : nn x = p := by rw [hx]; exact nn_I (by omega)
        have ey : nn y = n := by rw [hy]; exact nn_I (by omega)
        have hI0 : TrI h_19 p (nn (r.1 1)) (T0 r p) := tr_st s0 hO p2
        have hO0 : TrO (nn (r.1 1)) (T0 r p) := hO.2 p p2
        have hE3 := hO.1.2.2.2.2.2
        have hT1 := hO.1.2.1.2.2
        have hE0 : qE (T0 r p).1 < 2 ^ 28 := by show nn (r.1 3) < _; omega
        have ht0 : nn (r.1 1) < 2 ^ 27 := by omega
        have hOp := hO.2 p p2
        have y24 : nn (getP r.1 p 24) ≤ 24 := (hOp.at 24).2.2
        refine r_astore (ls2 := [_, _, _, _, _, _, some _, _, _, _]) dX8_bestTarget_22 (by decide) rfl ?_
        refine r_aload dX8_bestTarget_24 rfl ?_
        refine q_getR fl_X8_143 hW (kd_dr hp) rfl (kl_3_0 hW (kd_dr hp)) (Nat.succ_ne_zero _) dX8_bestTarget_26 ?_
        refine r_iload dX8_bestTarget_29 rfl ?_
        refine q_putI fl_X8_334 hW (kk_3_0 (kd_dr hp)) rfl rfl dX8_bestTarget_31 ?_
        have hI1 : TrI (sI h_19 (62 + 1 + 6 + 12 * p + 1) 3 70) p (nn (r.1 1)) (stQ (T0 r p) ((upd (getP r.1 p) 3 (70)))) := tr_st' hI0 (by decide) (by decide) y24
        have hO9 : PoOK ((upd (getP r.1 p) 3 (70))) (getG r.2 p) (nn (r.1 1)) (nn (r.1 1)) := hOp.st (fun j hj => pk_un (by omega)) (pk_un (by decide)) (PoB.upd hOp.1 (fun _ => rg_I (k := 70) (by decide) (by decide) (by decide))) (by rw [pk_un (by decide), pk_un (by decide)]; exact hOp.2.1.1) (by rw [pk_un (by decide), pk_un (by decide)]; exact hOp.2.1.2)
        have hO1 : TrO (nn (r.1 1)) (stQ (T0 r p) ((upd (getP r.1 p) 3 (70)))) := hO9
        have e8 : eqx h_19 (sI h_19 (62 + 1 + 6 + 12 * p + 1) 3 70) (SB 62) := eqx.rf.sI (by unfold SB; omega)
        have hW : World (sI h_19 (62 + 1 + 6 + 12 * p + 1) 3 70) := wsI hW
        refine r_aload_n dX8_bestTarget_34 rfl ?_
        refine r_aload dX8_bestTarget_35 rfl ?_
        refine r_iload_n dX8_bestTarget_37 rfl ?_
        refine r_iload_n dX8_bestTarget_38 rfl ?_
        refine q_callV3 (cv_X8_tryCost ml_X8_352) hW kc_1 (by decide) rfl ⟨rfl, rfl⟩ rfl (Nat.le_of_ble_eq_true rfl) dX8_bestTarget_39 (c_X8_tryCost hW hp hI1 hO1 hx hy n2 ht0 hE0) (fun v_39 h_39 q_39 => ?_)
        obtain ⟨rfl, e1, hI2⟩ := q_39
        have eC : coQ r x (upd (fP r x) 3 (70)) (nn y) = (trT p (nn (r.1 1)) n (stQ (T0 r p) ((upd (getP r.1 p) 3 (70))))).2 2 - (stQ (T0 r p) ((upd (getP r.1 p) 3 (70)))).2 2 := by unfold coQ TQ gP fP; rw [ex, ey]; rfl
        have hW := e1.W hW
        rw [← eC]
        refine r_lstore (ls2 := [_, _, _, _, _, _, _, some _, _, none]) dX8_bestTarget_42 (by decide) rfl ?_
        refine r_iload_n dX8_bestTarget_44 rfl ?_
        refine r_iconst (-1) dX8_bestTarget_45 (by decide) ?_
        refine r_icmp_eq 57 dX8_bestTarget_46 (by decide) (fun c_46 => ?_) (fun c_46 => ?_)
        · refine r_iload dX8_bestTarget_57 rfl ?_
          refine r_istore_n (ls2 := [_, _, some _, _, _, _, _, _, _, _]) dX8_bestTarget_59 (by decide) rfl ?_
          refine r_lload dX8_bestTarget_60 rfl ?_
          refine r_lstore (ls2 := [_, _, _, some _, _, none, _, _, _, _]) dX8_bestTarget_62 (by decide) rfl ?_
          refine r_iinc (10) (by decide) (ls2 := [_, _, _, _, _, none, _, _, _, _]) dX8_bestTarget_64 rfl (by decide) rfl ?_
          rw [show ((70 : Int32) + (10)) = 80 from by decide]
          refine r_goto 9 dX8_bestTarget_67 (by decide) ?_
          have e7 := he0.tr (e0.tr (e8.tr e1))
          first
            | exact g7 _ _ _ _ _ _ (boTarget_e7.trans (by rw [hbc]; exact bsT_t (Or.inl c_46))) hW e7 hcd
            | exact g7 _ _ _ _ _ _ (boTarget_e7.trans (by rw [hbc]; exact bsT_t (Or.inr (hll.mp (Int32.not_le.mp c_54))))) hW e7 hcd
            | exact g7 _ _ _ _ _ _ (boTarget_e7.trans (by rw [hbc]; exact bsT_f c_46 (fun q => absurd (hll.mpr q) (Int32.not_lt.mpr c_54)))) hW e7 hcd
        · refine r_lload dX8_bestTarget_49 rfl ?_
          refine r_lload dX8_bestTarget_51 rfl ?_
          have hll := lg_lt (x := coQ r x (upd (fP r x) 3 (70)) (nn y)) (y := c)
          refine r_lcmp dX8_bestTarget_53 ?_
          refine r_if_ge 64 dX8_bestTarget_54 (by decide) (fun c_54 => ?_) (fun c_54 => ?_)
          · refine r_iinc (10) (by decide) (ls2 := [_, _, _, _, _, none, _, _, _, _]) dX8_bestTarget_64 rfl (by decide) rfl ?_
            rw [show ((70 : Int32) + (10)) = 80 from by decide]
            refine r_goto 9 dX8_bestTarget_67 (by decide) ?_
            have e7 := he0.tr (e0.tr (e8.tr e1))
            first
              | exact g7 _ _ _ _ _ _ (boTarget_e7.trans (by rw [hbc]; exact bsT_t (Or.inl c_46))) hW e7 hcd
              | exact g7 _ _ _ _ _ _ (boTarget_e7.trans (by rw [hbc]; exact bsT_t (Or.inr (hll.mp (Int32.not_le.mp c_54))))) hW e7 hcd
              | exact g7 _ _ _ _ _ _ (boTarget_e7.trans (by rw [hbc]; exact bsT_f c_46 (fun q => absurd (hll.mpr q) (Int32.not_lt.mpr c_54)))) hW e7 hcd
          · refine r_iload dX8_bestTarget_57 rfl ?_
            refine r_istore_n (ls2 := [_, _, some _, _, _, _, _, _, _, _]) dX8_bestTarget_59 (by decide) rfl ?_
            refine r_lload dX8_bestTarget_60 rfl ?_
            refine r_lstore (ls2 := [_, _, _, some _, _, none, _, _, _, _]) dX8_bestTarget_62 (by decide) rfl ?_
            refine r_iinc (10) (by decide) (ls2 := [_, _, _, _, _, none, _, _, _, _]) dX8_bestTarget_64 rfl (by decide) rfl ?_
            rw [show ((70 : Int32) + (10)) = 80 from by decide]
            refine r_goto 9 dX8_bestTarget_67 (by decide) ?_
            have e7 := he0.tr (e0.tr (e8.tr e1))
            first
              | exact g7 _ _ _ _ _ _ (boTarget_e7.trans (by rw [hbc]; exact bsT_t (Or.inl c_46))) hW e7 hcd
              | exact g7 _ _ _ _ _ _ (boTarget_e7.trans (by rw [hbc]; exact bsT_t (Or.inr (hll.mp (Int32.not_le.mp c_54))))) hW e7 hcd
              | exact g7 _ _ _ _ _ _ (boTarget_e7.trans (by rw [hbc]; exact bsT_f c_46 (fun q => absurd (hll.mpr q) (Int32.not_lt.mpr c_54)))) hW e7 hcd
      · refine PX.out rfl ⟨Nat.le_of_ble_eq_true rfl, Nat.le_of_ble_eq_true rfl⟩ ?_
        obtain ⟨kx, rfl⟩ := q_19
        exact absurd hc0 kx.1
  have g5 : ∀ (H : AH) (z7 z8 z9 : Option Value) (b : Int32) (c : Int64), (boTarget_5 r x (nn y)) = (b, c) → World H → eqx h H (SB 62) → cd2 (okP r x) (rgB 1 300 y) = 0 → PW l9 G mX8_bestTarget (mO mX8_bestTarget) (fiM G mX8_bestTarget NT (fun v h' => cd2 (okP r x) (rgB 1 300 y) = 0 ∧ v = some (.int (boTarget_10 r x (nn y)).1) ∧ eqx h h' (SB 62)) (fun E h' => thr [eB, eA] (cd2 (okP r x) (rgB 1 300 y)) E ∧ h' = h)) NT 9 [some (.ref 1), some (.int x), some (.int y), some (.int b), some (.long c), none, some (.int 60), z7, z8, z9] [] (10, 60) H := by
    intro H z7 z8 z9 b c hbc hW he hc0
    refine r_iload dX8_bestTarget_9 rfl ?_
    refine r_bipush (100) dX8_bestTarget_11 (by decide) ?_
    refine r_icmp_gt 70 dX8_bestTarget_13 (by decide) (fun c_13 => ?_) (fun c_13 => ?_)
    · first | exact absurd c_13 (by decide) | exact absurd (by decide) c_13
    · have hsH : StR H 7 r.1 r.2 := hs.eqx he hO.1.1.2.2 (fun j j1 j2 => by unfold SB; omega)
      have he0 : eqx h H (SB 62) := he
      refine r_aload_n dX8_bestTarget_16 rfl ?_
      refine r_iload_n dX8_bestTarget_17 rfl ?_
      refine r_iload_n dX8_bestTarget_18 rfl ?_
      refine q_callX2 (cv_X8_startTrial ml_X8_345) hW kc_1 (by decide) rfl rfl (Nat.le_of_ble_eq_true rfl) dX8_bestTarget_19 (c_X8_startTrial hW hsH hO) (fun v_19 h_19 q_19 => ?_) (fun E_19 h_19 q_19 => ?_)
      · obtain ⟨hcd, ⟨n, n1, n2, hy⟩, p, hp, p2, hx, rfl, e0, s0⟩ := q_19
        have hW := e0.W hW
        have ex : nn x = p := by rw [hx]; exact nn_I (by omega)
        have ey : nn y = n := by rw [hy]; exact nn_I (by omega)
        have hI0 : TrI h_19 p (nn (r.1 1)) (T0 r p) := tr_st s0 hO p2
        have hO0 : TrO (nn (r.1 1)) (T0 r p) := hO.2 p p2
        have hE3 := hO.1.2.2.2.2.2
        have hT1 := hO.1.2.1.2.2
        have hE0 : qE (T0 r p).1 < 2 ^ 28 := by show nn (r.1 3) < _; omega
        have ht0 : nn (r.1 1) < 2 ^ 27 := by omega
        have hOp := hO.2 p p2
        have y24 : nn (getP r.1 p 24) ≤ 24 := (hOp.at 24).2.2
        refine r_astore (ls2 := [_, _, _, _, _, _, some _, _, _, _]) dX8_bestTarget_22 (by decide) rfl ?_
        refine r_aload dX8_bestTarget_24 rfl ?_
        refine q_getR fl_X8_143 hW (kd_dr hp) rfl (kl_3_0 hW (kd_dr hp)) (Nat.succ_ne_zero _) dX8_bestTarget_26 ?_
        refine r_iload dX8_bestTarget_29 rfl ?_
        refine q_putI fl_X8_334 hW (kk_3_0 (kd_dr hp)) rfl rfl dX8_bestTarget_31 ?_
        have hI1 : TrI (sI h_19 (62 + 1 + 6 + 12 * p + 1) 3 60) p (nn (r.1 1)) (stQ (T0 r p) ((upd (getP r.1 p) 3 (60)))) := tr_st' hI0 (by decide) (by decide) y24
        have hO9 : PoOK ((upd (getP r.1 p) 3 (60))) (getG r.2 p) (nn (r.1 1)) (nn (r.1 1)) := hOp.st (fun j hj => pk_un (by omega)) (pk_un (by decide)) (PoB.upd hOp.1 (fun _ => rg_I (k := 60) (by decide) (by decide) (by decide))) (by rw [pk_un (by decide), pk_un (by decide)]; exact hOp.2.1.1) (by rw [pk_un (by decide), pk_un (by decide)]; exact hOp.2.1.2)
        have hO1 : TrO (nn (r.1 1)) (stQ (T0 r p) ((upd (getP r.1 p) 3 (60)))) := hO9
        have e8 : eqx h_19 (sI h_19 (62 + 1 + 6 + 12 * p + 1) 3 60) (SB 62) := eqx.rf.sI (by unfold SB; omega)
        have hW : World (sI h_19 (62 + 1 + 6 + 12 * p + 1) 3 60) := wsI hW
        refine r_aload_n dX8_bestTarget_34 rfl ?_
        refine r_aload dX8_bestTarget_35 rfl ?_
        refine r_iload_n dX8_bestTarget_37 rfl ?_
        refine r_iload_n dX8_bestTarget_38 rfl ?_
        refine q_callV3 (cv_X8_tryCost ml_X8_352) hW kc_1 (by decide) rfl ⟨rfl, rfl⟩ rfl (Nat.le_of_ble_eq_true rfl) dX8_bestTarget_39 (c_X8_tryCost hW hp hI1 hO1 hx hy n2 ht0 hE0) (fun v_39 h_39 q_39 => ?_)
        obtain ⟨rfl, e1, hI2⟩ := q_39
        have eC : coQ r x (upd (fP r x) 3 (60)) (nn y) = (trT p (nn (r.1 1)) n (stQ (T0 r p) ((upd (getP r.1 p) 3 (60))))).2 2 - (stQ (T0 r p) ((upd (getP r.1 p) 3 (60)))).2 2 := by unfold coQ TQ gP fP; rw [ex, ey]; rfl
        have hW := e1.W hW
        rw [← eC]
        refine r_lstore (ls2 := [_, _, _, _, _, _, _, some _, _, none]) dX8_bestTarget_42 (by decide) rfl ?_
        refine r_iload_n dX8_bestTarget_44 rfl ?_
        refine r_iconst (-1) dX8_bestTarget_45 (by decide) ?_
        refine r_icmp_eq 57 dX8_bestTarget_46 (by decide) (fun c_46 => ?_) (fun c_46 => ?_)
        · refine r_iload dX8_bestTarget_57 rfl ?_
          refine r_istore_n (ls2 := [_, _, some _, _, _, _, _, _, _, _]) dX8_bestTarget_59 (by decide) rfl ?_
          refine r_lload dX8_bestTarget_60 rfl ?_
          refine r_lstore (ls2 := [_, _, _, some _, _, none, _, _, _, _]) dX8_bestTarget_62 (by decide) rfl ?_
          refine r_iinc (10) (by decide) (ls2 := [_, _, _, _, _, none, _, _, _, _]) dX8_bestTarget_64 rfl (by decide) rfl ?_
          rw [show ((60 : Int32) + (10)) = 70 from by decide]
          refine r_goto 9 dX8_bestTarget_67 (by decide) ?_
          have e7 := he0.tr (e0.tr (e8.tr e1))
          first
            | exact g6 _ _ _ _ _ _ (boTarget_e6.trans (by rw [hbc]; exact bsT_t (Or.inl c_46))) hW e7 hcd
            | exact g6 _ _ _ _ _ _ (boTarget_e6.trans (by rw [hbc]; exact bsT_t (Or.inr (hll.mp (Int32.not_le.mp c_54))))) hW e7 hcd
            | exact g6 _ _ _ _ _ _ (boTarget_e6.trans (by rw [hbc]; exact bsT_f c_46 (fun q => absurd (hll.mpr q) (Int32.not_lt.mpr c_54)))) hW e7 hcd
        · refine r_lload dX8_bestTarget_49 rfl ?_
          refine r_lload dX8_bestTarget_51 rfl ?_
          have hll := lg_lt (x := coQ r x (upd (fP r x) 3 (60)) (nn y)) (y := c)
          refine r_lcmp dX8_bestTarget_53 ?_
          refine r_if_ge 64 dX8_bestTarget_54 (by decide) (fun c_54 => ?_) (fun c_54 => ?_)
          · refine r_iinc (10) (by decide) (ls2 := [_, _, _, _, _, none, _, _, _, _]) dX8_bestTarget_64 rfl (by decide) rfl ?_
            rw [show ((60 : Int32) + (10)) = 70 from by decide]
            refine r_goto 9 dX8_bestTarget_67 (by decide) ?_
            have e7 := he0.tr (e0.tr (e8.tr e1))
            first
              | exact g6 _ _ _ _ _ _ (boTarget_e6.trans (by rw [hbc]; exact bsT_t (Or.inl c_46))) hW e7 hcd
              | exact g6 _ _ _ _ _ _ (boTarget_e6.trans (by rw [hbc]; exact bsT_t (Or.inr (hll.mp (Int32.not_le.mp c_54))))) hW e7 hcd
              | exact g6 _ _ _ _ _ _ (boTarget_e6.trans (by rw [hbc]; exact bsT_f c_46 (fun q => absurd (hll.mpr q) (Int32.not_lt.mpr c_54)))) hW e7 hcd
          · refine r_iload dX8_bestTarget_57 rfl ?_
            refine r_istore_n (ls2 := [_, _, some _, _, _, _, _, _, _, _]) dX8_bestTarget_59 (by decide) rfl ?_
            refine r_lload dX8_bestTarget_60 rfl ?_
            refine r_lstore (ls2 := [_, _, _, some _, _, none, _, _, _, _]) dX8_bestTarget_62 (by decide) rfl ?_
            refine r_iinc (10) (by decide) (ls2 := [_, _, _, _, _, none, _, _, _, _]) dX8_bestTarget_64 rfl (by decide) rfl ?_
            rw [show ((60 : Int32) + (10)) = 70 from by decide]
            refine r_goto 9 dX8_bestTarget_67 (by decide) ?_
            have e7 := he0.tr (e0.tr (e8.tr e1))
            first
              | exact g6 _ _ _ _ _ _ (boTarget_e6.trans (by rw [hbc]; exact bsT_t (Or.inl c_46))) hW e7 hcd
              | exact g6 _ _ _ _ _ _ (boTarget_e6.trans (by rw [hbc]; exact bsT_t (Or.inr (hll.mp (Int32.not_le.mp c_54))))) hW e7 hcd
              | exact g6 _ _ _ _ _ _ (boTarget_e6.trans (by rw [hbc]; exact bsT_f c_46 (fun q => absurd (hll.mpr q) (Int32.not_lt.mpr c_54)))) hW e7 hcd
      · refine PX.out rfl ⟨Nat.le_of_ble_eq_true rfl, Nat.le_of_ble_eq_true rfl⟩ ?_
        obtain ⟨kx, rfl⟩ := q_19
        exact absurd hc0 kx.1
  have g4 : ∀ (H : AH) (z7 z8 z9 : Option Value) (b : Int32) (c : Int64), (boTarget_4 r x (nn y)) = (b, c) → World H → eqx h H (SB 62) → cd2 (okP r x) (rgB 1 300 y) = 0 → PW l9 G mX8_bestTarget (mO mX8_bestTarget) (fiM G mX8_bestTarget NT (fun v h' => cd2 (okP r x) (rgB 1 300 y) = 0 ∧ v = some (.int (boTarget_10 r x (nn y)).1) ∧ eqx h h' (SB 62)) (fun E h' => thr [eB, eA] (cd2 (okP r x) (rgB 1 300 y)) E ∧ h' = h)) NT 9 [some (.ref 1), some (.int x), some (.int y), some (.int b), some (.long c), none, some (.int 50), z7, z8, z9] [] (8, 48) H := by
    intro H z7 z8 z9 b c hbc hW he hc0
    refine r_iload dX8_bestTarget_9 rfl ?_
    refine r_bipush (100) dX8_bestTarget_11 (by decide) ?_
    refine r_icmp_gt 70 dX8_bestTarget_13 (by decide) (fun c_13 => ?_) (fun c_13 => ?_)
    · first | exact absurd c_13 (by decide) | exact absurd (by decide) c_13
    · have hsH : StR H 7 r.1 r.2 := hs.eqx he hO.1.1.2.2 (fun j j1 j2 => by unfold SB; omega)
      have he0 : eqx h H (SB 62) := he
      refine r_aload_n dX8_bestTarget_16 rfl ?_
      refine r_iload_n dX8_bestTarget_17 rfl ?_
      refine r_iload_n dX8_bestTarget_18 rfl ?_
      refine q_callX2 (cv_X8_startTrial ml_X8_345) hW kc_1 (by decide) rfl rfl (Nat.le_of_ble_eq_true rfl) dX8_bestTarget_19 (c_X8_startTrial hW hsH hO) (fun v_19 h_19 q_19 => ?_) (fun E_19 h_19 q_19 => ?_)
      · obtain ⟨hcd, ⟨n, n1, n2, hy⟩, p, hp, p2, hx, rfl, e0, s0⟩ := q_19
        have hW := e0.W hW
        have ex : nn x = p := by rw [hx]; exact nn_I (by omega)
        have ey : nn y = n := by rw [hy]; exact nn_I (by omega)
        have hI0 : TrI h_19 p (nn (r.1 1)) (T0 r p) := tr_st s0 hO p2
        have hO0 : TrO (nn (r.1 1)) (T0 r p) := hO.2 p p2
        have hE3 := hO.1.2.2.2.2.2
        have hT1 := hO.1.2.1.2.2
        have hE0 : qE (T0 r p).1 < 2 ^ 28 := by show nn (r.1 3) < _; omega
        have ht0 : nn (r.1 1) < 2 ^ 27 := by omega
        have hOp := hO.2 p p2
        have y24 : nn (getP r.1 p 24) ≤ 24 := (hOp.at 24).2.2
        refine r_astore (ls2 := [_, _, _, _, _, _, some _, _, _, _]) dX8_bestTarget_22 (by decide) rfl ?_
        refine r_aload dX8_bestTarget_24 rfl ?_
        refine q_getR fl_X8_143 hW (kd_dr hp) rfl (kl_3_0 hW (kd_dr hp)) (Nat.succ_ne_zero _) dX8_bestTarget_26 ?_
        refine r_iload dX8_bestTarget_29 rfl ?_
        refine q_putI fl_X8_334 hW (kk_3_0 (kd_dr hp)) rfl rfl dX8_bestTarget_31 ?_
        have hI1 : TrI (sI h_19 (62 + 1 + 6 + 12 * p + 1) 3 50) p (nn (r.1 1)) (stQ (T0 r p) ((upd (getP r.1 p) 3 (50)))) := tr_st' hI0 (by decide) (by decide) y24
        have hO9 : PoOK ((upd (getP r.1 p) 3 (50))) (getG r.2 p) (nn (r.1 1)) (nn (r.1 1)) := hOp.st (fun j hj => pk_un (by omega)) (pk_un (by decide)) (PoB.upd hOp.1 (fun _ => rg_I (k := 50) (by decide) (by decide) (by decide))) (by rw [pk_un (by decide), pk_un (by decide)]; exact hOp.2.1.1) (by rw [pk_un (by decide), pk_un (by decide)]; exact hOp.2.1.2)
        have hO1 : TrO (nn (r.1 1)) (stQ (T0 r p) ((upd (getP r.1 p) 3 (50)))) := hO9
        have e8 : eqx h_19 (sI h_19 (62 + 1 + 6 + 12 * p + 1) 3 50) (SB 62) := eqx.rf.sI (by unfold SB; omega)
        have hW : World (sI h_19 (62 + 1 + 6 + 12 * p + 1) 3 50) := wsI hW
        refine r_aload_n dX8_bestTarget_34 rfl ?_
        refine r_aload dX8_bestTarget_35 rfl ?_
        refine r_iload_n dX8_bestTarget_37 rfl ?_
        refine r_iload_n dX8_bestTarget_38 rfl ?_
        refine q_callV3 (cv_X8_tryCost ml_X8_352) hW kc_1 (by decide) rfl ⟨rfl, rfl⟩ rfl (Nat.le_of_ble_eq_true rfl) dX8_bestTarget_39 (c_X8_tryCost hW hp hI1 hO1 hx hy n2 ht0 hE0) (fun v_39 h_39 q_39 => ?_)
        obtain ⟨rfl, e1, hI2⟩ := q_39
        have eC : coQ r x (upd (fP r x) 3 (50)) (nn y) = (trT p (nn (r.1 1)) n (stQ (T0 r p) ((upd (getP r.1 p) 3 (50))))).2 2 - (stQ (T0 r p) ((upd (getP r.1 p) 3 (50)))).2 2 := by unfold coQ TQ gP fP; rw [ex, ey]; rfl
        have hW := e1.W hW
        rw [← eC]
        refine r_lstore (ls2 := [_, _, _, _, _, _, _, some _, _, none]) dX8_bestTarget_42 (by decide) rfl ?_
        refine r_iload_n dX8_bestTarget_44 rfl ?_
        refine r_iconst (-1) dX8_bestTarget_45 (by decide) ?_
        refine r_icmp_eq 57 dX8_bestTarget_46 (by decide) (fun c_46 => ?_) (fun c_46 => ?_)
        · refine r_iload dX8_bestTarget_57 rfl ?_
          refine r_istore_n (ls2 := [_, _, some _, _, _, _, _, _, _, _]) dX8_bestTarget_59 (by decide) rfl ?_
          refine r_lload dX8_bestTarget_60 rfl ?_
          refine r_lstore (ls2 := [_, _, _, some _, _, none, _, _, _, _]) dX8_bestTarget_62 (by decide) rfl ?_
          refine r_iinc (10) (by decide) (ls2 := [_, _, _, _, _, none, _, _, _, _]) dX8_bestTarget_64 rfl (by decide) rfl ?_
          rw [show ((50 : Int32) + (10)) = 60 from by decide]
          refine r_goto 9 dX8_bestTarget_67 (by decide) ?_
          have e7 := he0.tr (e0.tr (e8.tr e1))
          first
            | exact g5 _ _ _ _ _ _ (boTarget_e5.trans (by rw [hbc]; exact bsT_t (Or.inl c_46))) hW e7 hcd
            | exact g5 _ _ _ _ _ _ (boTarget_e5.trans (by rw [hbc]; exact bsT_t (Or.inr (hll.mp (Int32.not_le.mp c_54))))) hW e7 hcd
            | exact g5 _ _ _ _ _ _ (boTarget_e5.trans (by rw [hbc]; exact bsT_f c_46 (fun q => absurd (hll.mpr q) (Int32.not_lt.mpr c_54)))) hW e7 hcd
        · refine r_lload dX8_bestTarget_49 rfl ?_
          refine r_lload dX8_bestTarget_51 rfl ?_
          have hll := lg_lt (x := coQ r x (upd (fP r x) 3 (50)) (nn y)) (y := c)
          refine r_lcmp dX8_bestTarget_53 ?_
          refine r_if_ge 64 dX8_bestTarget_54 (by decide) (fun c_54 => ?_) (fun c_54 => ?_)
          · refine r_iinc (10) (by decide) (ls2 := [_, _, _, _, _, none, _, _, _, _]) dX8_bestTarget_64 rfl (by decide) rfl ?_
            rw [show ((50 : Int32) + (10)) = 60 from by decide]
            refine r_goto 9 dX8_bestTarget_67 (by decide) ?_
            have e7 := he0.tr (e0.tr (e8.tr e1))
            first
              | exact g5 _ _ _ _ _ _ (boTarget_e5.trans (by rw [hbc]; exact bsT_t (Or.inl c_46))) hW e7 hcd
              | exact g5 _ _ _ _ _ _ (boTarget_e5.trans (by rw [hbc]; exact bsT_t (Or.inr (hll.mp (Int32.not_le.mp c_54))))) hW e7 hcd
              | exact g5 _ _ _ _ _ _ (boTarget_e5.trans (by rw [hbc]; exact bsT_f c_46 (fun q => absurd (hll.mpr q) (Int32.not_lt.mpr c_54)))) hW e7 hcd
          · refine r_iload dX8_bestTarget_57 rfl ?_
            refine r_istore_n (ls2 := [_, _, some _, _, _, _, _, _, _, _]) dX8_bestTarget_59 (by decide) rfl ?_
            refine r_lload dX8_bestTarget_60 rfl ?_
            refine r_lstore (ls2 := [_, _, _, some _, _, none, _, _, _, _]) dX8_bestTarget_62 (by decide) rfl ?_
            refine r_iinc (10) (by decide) (ls2 := [_, _, _, _, _, none, _, _, _, _]) dX8_bestTarget_64 rfl (by decide) rfl ?_
            rw [show ((50 : Int32) + (10)) = 60 from by decide]
            refine r_goto 9 dX8_bestTarget_67 (by decide) ?_
            have e7 := he0.tr (e0.tr (e8.tr e1))
            first
              | exact g5 _ _ _ _ _ _ (boTarget_e5.trans (by rw [hbc]; exact bsT_t (Or.inl c_46))) hW e7 hcd
              | exact g5 _ _ _ _ _ _ (boTarget_e5.trans (by rw [hbc]; exact bsT_t (Or.inr (hll.mp (Int32.not_le.mp c_54))))) hW e7 hcd
              | exact g5 _ _ _ _ _ _ (boTarget_e5.trans (by rw [hbc]; exact bsT_f c_46 (fun q => absurd (hll.mpr q) (Int32.not_lt.mpr c_54)))) hW e7 hcd
      · refine PX.out rfl ⟨Nat.le_of_ble_eq_true rfl, Nat.le_of_ble_eq_true rfl⟩ ?_
        obtain ⟨kx, rfl⟩ := q_19
        exact absurd hc0 kx.1
  have g3 : ∀ (H : AH) (z7 z8 z9 : Option Value) (b : Int32) (c : Int64), (boTarget_3 r x (nn y)) = (b, c) → World H → eqx h H (SB 62) → cd2 (okP r x) (rgB 1 300 y) = 0 → PW l9 G mX8_bestTarget (mO mX8_bestTarget) (fiM G mX8_bestTarget NT (fun v h' => cd2 (okP r x) (rgB 1 300 y) = 0 ∧ v = some (.int (boTarget_10 r x (nn y)).1) ∧ eqx h h' (SB 62)) (fun E h' => thr [eB, eA] (cd2 (okP r x) (rgB 1 300 y)) E ∧ h' = h)) NT 9 [some (.ref 1), some (.int x), some (.int y), some (.int b), some (.long c), none, some (.int 40), z7, z8, z9] [] (6, 36) H := by
    intro H z7 z8 z9 b c hbc hW he hc0
    refine r_iload dX8_bestTarget_9 rfl ?_
    refine r_bipush (100) dX8_bestTarget_11 (by decide) ?_
    refine r_icmp_gt 70 dX8_bestTarget_13 (by decide) (fun c_13 => ?_) (fun c_13 => ?_)
    · first | exact absurd c_13 (by decide) | exact absurd (by decide) c_13
    · have hsH : StR H 7 r.1 r.2 := hs.eqx he hO.1.1.2.2 (fun j j1 j2 => by unfold SB; omega)
      have he0 : eqx h H (SB 62) := he
      refine r_aload_n dX8_bestTarget_16 rfl ?_
      refine r_iload_n dX8_bestTarget_17 rfl ?_
      refine r_iload_n dX8_bestTarget_18 rfl ?_
      refine q_callX2 (cv_X8_startTrial ml_X8_345) hW kc_1 (by decide) rfl rfl (Nat.le_of_ble_eq_true rfl) dX8_bestTarget_19 (c_X8_startTrial hW hsH hO) (fun v_19 h_19 q_19 => ?_) (fun E_19 h_19 q_19 => ?_)
      · obtain ⟨hcd, ⟨n, n1, n2, hy⟩, p, hp, p2, hx, rfl, e0, s0⟩ := q_19
        have hW := e0.W hW
        have ex : nn x = p := by rw [hx]; exact nn_I (by omega)
        have ey : nn y = n := by rw [hy]; exact nn_I (by omega)
        have hI0 : TrI h_19 p (nn (r.1 1)) (T0 r p) := tr_st s0 hO p2
        have hO0 : TrO (nn (r.1 1)) (T0 r p) := hO.2 p p2
        have hE3 := hO.1.2.2.2.2.2
        have hT1 := hO.1.2.1.2.2
        have hE0 : qE (T0 r p).1 < 2 ^ 28 := by show nn (r.1 3) < _; omega
        have ht0 : nn (r.1 1) < 2 ^ 27 := by omega
        have hOp := hO.2 p p2
        have y24 : nn (getP r.1 p 24) ≤ 24 := (hOp.at 24).2.2
        refine r_astore (ls2 := [_, _, _, _, _, _, some _, _, _, _]) dX8_bestTarget_22 (by decide) rfl ?_
        refine r_aload dX8_bestTarget_24 rfl ?_
        refine q_getR fl_X8_143 hW (kd_dr hp) rfl (kl_3_0 hW (kd_dr hp)) (Nat.succ_ne_zero _) dX8_bestTarget_26 ?_
        refine r_iload dX8_bestTarget_29 rfl ?_
        refine q_putI fl_X8_334 hW (kk_3_0 (kd_dr hp)) rfl rfl dX8_bestTarget_31 ?_
        have hI1 : TrI (sI h_19 (62 + 1 + 6 + 12 * p + 1) 3 40) p (nn (r.1 1)) (stQ (T0 r p) ((upd (getP r.1 p) 3 (40)))) := tr_st' hI0 (by decide) (by decide) y24
        have hO9 : PoOK ((upd (getP r.1 p) 3 (40))) (getG r.2 p) (nn (r.1 1)) (nn (r.1 1)) := hOp.st (fun j hj => pk_un (by omega)) (pk_un (by decide)) (PoB.upd hOp.1 (fun _ => rg_I (k := 40) (by decide) (by decide) (by decide))) (by rw [pk_un (by decide), pk_un (by decide)]; exact hOp.2.1.1) (by rw [pk_un (by decide), pk_un (by decide)]; exact hOp.2.1.2)
        have hO1 : TrO (nn (r.1 1)) (stQ (T0 r p) ((upd (getP r.1 p) 3 (40)))) := hO9
        have e8 : eqx h_19 (sI h_19 (62 + 1 + 6 + 12 * p + 1) 3 40) (SB 62) := eqx.rf.sI (by unfold SB; omega)
        have hW : World (sI h_19 (62 + 1 + 6 + 12 * p + 1) 3 40) := wsI hW
        refine r_aload_n dX8_bestTarget_34 rfl ?_
        refine r_aload dX8_bestTarget_35 rfl ?_
        refine r_iload_n dX8_bestTarget_37 rfl ?_
        refine r_iload_n dX8_bestTarget_38 rfl ?_
        refine q_callV3 (cv_X8_tryCost ml_X8_352) hW kc_1 (by decide) rfl ⟨rfl, rfl⟩ rfl (Nat.le_of_ble_eq_true rfl) dX8_bestTarget_39 (c_X8_tryCost hW hp hI1 hO1 hx hy n2 ht0 hE0) (fun v_39 h_39 q_39 => ?_)
        obtain ⟨rfl, e1, hI2⟩ := q_39
        have eC : coQ r x (upd (fP r x) 3 (40)) (nn y) = (trT p (nn (r.1 1)) n (stQ (T0 r p) ((upd (getP r.1 p) 3 (40))))).2 2 - (stQ (T0 r p) ((upd (getP r.1 p) 3 (40)))).2 2 := by unfold coQ TQ gP fP; rw [ex, ey]; rfl
        have hW := e1.W hW
        rw [← eC]
        refine r_lstore (ls2 := [_, _, _, _, _, _, _, some _, _, none]) dX8_bestTarget_42 (by decide) rfl ?_
        refine r_iload_n dX8_bestTarget_44 rfl ?_
        refine r_iconst (-1) dX8_bestTarget_45 (by decide) ?_
        refine r_icmp_eq 57 dX8_bestTarget_46 (by decide) (fun c_46 => ?_) (fun c_46 => ?_)
        · refine r_iload dX8_bestTarget_57 rfl ?_
          refine r_istore_n (ls2 := [_, _, some _, _, _, _, _, _, _, _]) dX8_bestTarget_59 (by decide) rfl ?_
          refine r_lload dX8_bestTarget_60 rfl ?_
          refine r_lstore (ls2 := [_, _, _, some _, _, none, _, _, _, _]) dX8_bestTarget_62 (by decide) rfl ?_
          refine r_iinc (10) (by decide) (ls2 := [_, _, _, _, _, none, _, _, _, _]) dX8_bestTarget_64 rfl (by decide) rfl ?_
          rw [show ((40 : Int32) + (10)) = 50 from by decide]
          refine r_goto 9 dX8_bestTarget_67 (by decide) ?_
          have e7 := he0.tr (e0.tr (e8.tr e1))
          first
            | exact g4 _ _ _ _ _ _ (boTarget_e4.trans (by rw [hbc]; exact bsT_t (Or.inl c_46))) hW e7 hcd
            | exact g4 _ _ _ _ _ _ (boTarget_e4.trans (by rw [hbc]; exact bsT_t (Or.inr (hll.mp (Int32.not_le.mp c_54))))) hW e7 hcd
            | exact g4 _ _ _ _ _ _ (boTarget_e4.trans (by rw [hbc]; exact bsT_f c_46 (fun q => absurd (hll.mpr q) (Int32.not_lt.mpr c_54)))) hW e7 hcd
        · refine r_lload dX8_bestTarget_49 rfl ?_
          refine r_lload dX8_bestTarget_51 rfl ?_
          have hll := lg_lt (x := coQ r x (upd (fP r x) 3 (40)) (nn y)) (y := c)
          refine r_lcmp dX8_bestTarget_53 ?_
          refine r_if_ge 64 dX8_bestTarget_54 (by decide) (fun c_54 => ?_) (fun c_54 => ?_)
          · refine r_iinc (10) (by decide) (ls2 := [_, _, _, _, _, none, _, _, _, _]) dX8_bestTarget_64 rfl (by decide) rfl ?_
            rw [show ((40 : Int32) + (10)) = 50 from by decide]
            refine r_goto 9 dX8_bestTarget_67 (by decide) ?_
            have e7 := he0.tr (e0.tr (e8.tr e1))
            first
              | exact g4 _ _ _ _ _ _ (boTarget_e4.trans (by rw [hbc]; exact bsT_t (Or.inl c_46))) hW e7 hcd
              | exact g4 _ _ _ _ _ _ (boTarget_e4.trans (by rw [hbc]; exact bsT_t (Or.inr (hll.mp (Int32.not_le.mp c_54))))) hW e7 hcd
              | exact g4 _ _ _ _ _ _ (boTarget_e4.trans (by rw [hbc]; exact bsT_f c_46 (fun q => absurd (hll.mpr q) (Int32.not_lt.mpr c_54)))) hW e7 hcd
          · refine r_iload dX8_bestTarget_57 rfl ?_
            refine r_istore_n (ls2 := [_, _, some _, _, _, _, _, _, _, _]) dX8_bestTarget_59 (by decide) rfl ?_
            refine r_lload dX8_bestTarget_60 rfl ?_
            refine r_lstore (ls2 := [_, _, _, some _, _, none, _, _, _, _]) dX8_bestTarget_62 (by decide) rfl ?_
            refine r_iinc (10) (by decide) (ls2 := [_, _, _, _, _, none, _, _, _, _]) dX8_bestTarget_64 rfl (by decide) rfl ?_
            rw [show ((40 : Int32) + (10)) = 50 from by decide]
            refine r_goto 9 dX8_bestTarget_67 (by decide) ?_
            have e7 := he0.tr (e0.tr (e8.tr e1))
            first
              | exact g4 _ _ _ _ _ _ (boTarget_e4.trans (by rw [hbc]; exact bsT_t (Or.inl c_46))) hW e7 hcd
              | exact g4 _ _ _ _ _ _ (boTarget_e4.trans (by rw [hbc]; exact bsT_t (Or.inr (hll.mp (Int32.not_le.mp c_54))))) hW e7 hcd
              | exact g4 _ _ _ _ _ _ (boTarget_e4.trans (by rw [hbc]; exact bsT_f c_46 (fun q => absurd (hll.mpr q) (Int32.not_lt.mpr c_54)))) hW e7 hcd
      · refine PX.out rfl ⟨Nat.le_of_ble_eq_true rfl, Nat.le_of_ble_eq_true rfl⟩ ?_
        obtain ⟨kx, rfl⟩ := q_19
        exact absurd hc0 kx.1
  have g2 : ∀ (H : AH) (z7 z8 z9 : Option Value) (b : Int32) (c : Int64), (boTarget_2 r x (nn y)) = (b, c) → World H → eqx h H (SB 62) → cd2 (okP r x) (rgB 1 300 y) = 0 → PW l9 G mX8_bestTarget (mO mX8_bestTarget) (fiM G mX8_bestTarget NT (fun v h' => cd2 (okP r x) (rgB 1 300 y) = 0 ∧ v = some (.int (boTarget_10 r x (nn y)).1) ∧ eqx h h' (SB 62)) (fun E h' => thr [eB, eA] (cd2 (okP r x) (rgB 1 300 y)) E ∧ h' = h)) NT 9 [some (.ref 1), some (.int x), some (.int y), some (.int b), some (.long c), none, some (.int 30), z7, z8, z9] [] (4, 24) H := by
    intro H z7 z8 z9 b c hbc hW he hc0
    refine r_iload dX8_bestTarget_9 rfl ?_
    refine r_bipush (100) dX8_bestTarget_11 (by decide) ?_
    refine r_icmp_gt 70 dX8_bestTarget_13 (by decide) (fun c_13 => ?_) (fun c_13 => ?_)
    · first | exact absurd c_13 (by decide) | exact absurd (by decide) c_13
    · have hsH : StR H 7 r.1 r.2 := hs.eqx he hO.1.1.2.2 (fun j j1 j2 => by unfold SB; omega)
      have he0 : eqx h H (SB 62) := he
      refine r_aload_n dX8_bestTarget_16 rfl ?_
      refine r_iload_n dX8_bestTarget_17 rfl ?_
      refine r_iload_n dX8_bestTarget_18 rfl ?_
      refine q_callX2 (cv_X8_startTrial ml_X8_345) hW kc_1 (by decide) rfl rfl (Nat.le_of_ble_eq_true rfl) dX8_bestTarget_19 (c_X8_startTrial hW hsH hO) (fun v_19 h_19 q_19 => ?_) (fun E_19 h_19 q_19 => ?_)
      · obtain ⟨hcd, ⟨n, n1, n2, hy⟩, p, hp, p2, hx, rfl, e0, s0⟩ := q_19
        have hW := e0.W hW
        have ex : nn x = p := by rw [hx]; exact nn_I (by omega)
        have ey : nn y = n := by rw [hy]; exact nn_I (by omega)
        have hI0 : TrI h_19 p (nn (r.1 1)) (T0 r p) := tr_st s0 hO p2
        have hO0 : TrO (nn (r.1 1)) (T0 r p) := hO.2 p p2
        have hE3 := hO.1.2.2.2.2.2
        have hT1 := hO.1.2.1.2.2
        have hE0 : qE (T0 r p).1 < 2 ^ 28 := by show nn (r.1 3) < _; omega
        have ht0 : nn (r.1 1) < 2 ^ 27 := by omega
        have hOp := hO.2 p p2
        have y24 : nn (getP r.1 p 24) ≤ 24 := (hOp.at 24).2.2
        refine r_astore (ls2 := [_, _, _, _, _, _, some _, _, _, _]) dX8_bestTarget_22 (by decide) rfl ?_
        refine r_aload dX8_bestTarget_24 rfl ?_
        refine q_getR fl_X8_143 hW (kd_dr hp) rfl (kl_3_0 hW (kd_dr hp)) (Nat.succ_ne_zero _) dX8_bestTarget_26 ?_
        refine r_iload dX8_bestTarget_29 rfl ?_
        refine q_putI fl_X8_334 hW (kk_3_0 (kd_dr hp)) rfl rfl dX8_bestTarget_31 ?_
        have hI1 : TrI (sI h_19 (62 + 1 + 6 + 12 * p + 1) 3 30) p (nn (r.1 1)) (stQ (T0 r p) ((upd (getP r.1 p) 3 (30)))) := tr_st' hI0 (by decide) (by decide) y24
        have hO9 : PoOK ((upd (getP r.1 p) 3 (30))) (getG r.2 p) (nn (r.1 1)) (nn (r.1 1)) := hOp.st (fun j hj => pk_un (by omega)) (pk_un (by decide)) (PoB.upd hOp.1 (fun _ => rg_I (k := 30) (by decide) (by decide) (by decide))) (by rw [pk_un (by decide), pk_un (by decide)]; exact hOp.2.1.1) (by rw [pk_un (by decide), pk_un (by decide)]; exact hOp.2.1.2)
        have hO1 : TrO (nn (r.1 1)) (stQ (T0 r p) ((upd (getP r.1 p) 3 (30)))) := hO9
        have e8 : eqx h_19 (sI h_19 (62 + 1 + 6 + 12 * p + 1) 3 30) (SB 62) := eqx.rf.sI (by unfold SB; omega)
        have hW : World (sI h_19 (62 + 1 + 6 + 12 * p + 1) 3 30) := wsI hW
        refine r_aload_n dX8_bestTarget_34 rfl ?_
        refine r_aload dX8_bestTarget_35 rfl ?_
        refine r_iload_n dX8_bestTarget_37 rfl ?_
        refine r_iload_n dX8_bestTarget_38 rfl ?_
        refine q_callV3 (cv_X8_tryCost ml_X8_352) hW kc_1 (by decide) rfl ⟨rfl, rfl⟩ rfl (Nat.le_of_ble_eq_true rfl) dX8_bestTarget_39 (c_X8_tryCost hW hp hI1 hO1 hx hy n2 ht0 hE0) (fun v_39 h_39 q_39 => ?_)
        obtain ⟨rfl, e1, hI2⟩ := q_39
        have eC : coQ r x (upd (fP r x) 3 (30)) (nn y) = (trT p (nn (r.1 1)) n (stQ (T0 r p) ((upd (getP r.1 p) 3 (30))))).2 2 - (stQ (T0 r p) ((upd (getP r.1 p) 3 (30)))).2 2 := by unfold coQ TQ gP fP; rw [ex, ey]; rfl
        have hW := e1.W hW
        rw [← eC]
        refine r_lstore (ls2 := [_, _, _, _, _, _, _, some _, _, none]) dX8_bestTarget_42 (by decide) rfl ?_
        refine r_iload_n dX8_bestTarget_44 rfl ?_
        refine r_iconst (-1) dX8_bestTarget_45 (by decide) ?_
        refine r_icmp_eq 57 dX8_bestTarget_46 (by decide) (fun c_46 => ?_) (fun c_46 => ?_)
        · refine r_iload dX8_bestTarget_57 rfl ?_
          refine r_istore_n (ls2 := [_, _, some _, _, _, _, _, _, _, _]) dX8_bestTarget_59 (by decide) rfl ?_
          refine r_lload dX8_bestTarget_60 rfl ?_
          refine r_lstore (ls2 := [_, _, _, some _, _, none, _, _, _, _]) dX8_bestTarget_62 (by decide) rfl ?_
          refine r_iinc (10) (by decide) (ls2 := [_, _, _, _, _, none, _, _, _, _]) dX8_bestTarget_64 rfl (by decide) rfl ?_
          rw [show ((30 : Int32) + (10)) = 40 from by decide]
          refine r_goto 9 dX8_bestTarget_67 (by decide) ?_
          have e7 := he0.tr (e0.tr (e8.tr e1))
          first
            | exact g3 _ _ _ _ _ _ (boTarget_e3.trans (by rw [hbc]; exact bsT_t (Or.inl c_46))) hW e7 hcd
            | exact g3 _ _ _ _ _ _ (boTarget_e3.trans (by rw [hbc]; exact bsT_t (Or.inr (hll.mp (Int32.not_le.mp c_54))))) hW e7 hcd
            | exact g3 _ _ _ _ _ _ (boTarget_e3.trans (by rw [hbc]; exact bsT_f c_46 (fun q => absurd (hll.mpr q) (Int32.not_lt.mpr c_54)))) hW e7 hcd
        · refine r_lload dX8_bestTarget_49 rfl ?_
          refine r_lload dX8_bestTarget_51 rfl ?_
          have hll := lg_lt (x := coQ r x (upd (fP r x) 3 (30)) (nn y)) (y := c)
          refine r_lcmp dX8_bestTarget_53 ?_
          refine r_if_ge 64 dX8_bestTarget_54 (by decide) (fun c_54 => ?_) (fun c_54 => ?_)
          · refine r_iinc (10) (by decide) (ls2 := [_, _, _, _, _, none, _, _, _, _]) dX8_bestTarget_64 rfl (by decide) rfl ?_
            rw [show ((30 : Int32) + (10)) = 40 from by decide]
            refine r_goto 9 dX8_bestTarget_67 (by decide) ?_
            have e7 := he0.tr (e0.tr (e8.tr e1))
            first
              | exact g3 _ _ _ _ _ _ (boTarget_e3.trans (by rw [hbc]; exact bsT_t (Or.inl c_46))) hW e7 hcd
              | exact g3 _ _ _ _ _ _ (boTarget_e3.trans (by rw [hbc]; exact bsT_t (Or.inr (hll.mp (Int32.not_le.mp c_54))))) hW e7 hcd
              | exact g3 _ _ _ _ _ _ (boTarget_e3.trans (by rw [hbc]; exact bsT_f c_46 (fun q => absurd (hll.mpr q) (Int32.not_lt.mpr c_54)))) hW e7 hcd
          · refine r_iload dX8_bestTarget_57 rfl ?_
            refine r_istore_n (ls2 := [_, _, some _, _, _, _, _, _, _, _]) dX8_bestTarget_59 (by decide) rfl ?_
            refine r_lload dX8_bestTarget_60 rfl ?_
            refine r_lstore (ls2 := [_, _, _, some _, _, none, _, _, _, _]) dX8_bestTarget_62 (by decide) rfl ?_
            refine r_iinc (10) (by decide) (ls2 := [_, _, _, _, _, none, _, _, _, _]) dX8_bestTarget_64 rfl (by decide) rfl ?_
            rw [show ((30 : Int32) + (10)) = 40 from by decide]
            refine r_goto 9 dX8_bestTarget_67 (by decide) ?_
            have e7 := he0.tr (e0.tr (e8.tr e1))
            first
              | exact g3 _ _ _ _ _ _ (boTarget_e3.trans (by rw [hbc]; exact bsT_t (Or.inl c_46))) hW e7 hcd
              | exact g3 _ _ _ _ _ _ (boTarget_e3.trans (by rw [hbc]; exact bsT_t (Or.inr (hll.mp (Int32.not_le.mp c_54))))) hW e7 hcd
              | exact g3 _ _ _ _ _ _ (boTarget_e3.trans (by rw [hbc]; exact bsT_f c_46 (fun q => absurd (hll.mpr q) (Int32.not_lt.mpr c_54)))) hW e7 hcd
      · refine PX.out rfl ⟨Nat.le_of_ble_eq_true rfl, Nat.le_of_ble_eq_true rfl⟩ ?_
        obtain ⟨kx, rfl⟩ := q_19
        exact absurd hc0 kx.1
  have g1 : ∀ (H : AH) (z7 z8 z9 : Option Value) (b : Int32) (c : Int64), (boTarget_1 r x (nn y)) = (b, c) → World H → eqx h H (SB 62) → cd2 (okP r x) (rgB 1 300 y) = 0 → PW l9 G mX8_bestTarget (mO mX8_bestTarget) (fiM G mX8_bestTarget NT (fun v h' => cd2 (okP r x) (rgB 1 300 y) = 0 ∧ v = some (.int (boTarget_10 r x (nn y)).1) ∧ eqx h h' (SB 62)) (fun E h' => thr [eB, eA] (cd2 (okP r x) (rgB 1 300 y)) E ∧ h' = h)) NT 9 [some (.ref 1), some (.int x), some (.int y), some (.int b), some (.long c), none, some (.int 20), z7, z8, z9] [] (2, 12) H := by
    intro H z7 z8 z9 b c hbc hW he hc0
    refine r_iload dX8_bestTarget_9 rfl ?_
    refine r_bipush (100) dX8_bestTarget_11 (by decide) ?_
    refine r_icmp_gt 70 dX8_bestTarget_13 (by decide) (fun c_13 => ?_) (fun c_13 => ?_)
    · first | exact absurd c_13 (by decide) | exact absurd (by decide) c_13
    · have hsH : StR H 7 r.1 r.2 := hs.eqx he hO.1.1.2.2 (fun j j1 j2 => by unfold SB; omega)
      have he0 : eqx h H (SB 62) := he
      refine r_aload_n dX8_bestTarget_16 rfl ?_
      refine r_iload_n dX8_bestTarget_17 rfl ?_
      refine r_iload_n dX8_bestTarget_18 rfl ?_
      refine q_callX2 (cv_X8_startTrial ml_X8_345) hW kc_1 (by decide) rfl rfl (Nat.le_of_ble_eq_true rfl) dX8_bestTarget_19 (c_X8_startTrial hW hsH hO) (fun v_19 h_19 q_19 => ?_) (fun E_19 h_19 q_19 => ?_)
      · obtain ⟨hcd, ⟨n, n1, n2, hy⟩, p, hp, p2, hx, rfl, e0, s0⟩ := q_19
        have hW := e0.W hW
        have ex : nn x = p := by rw [hx]; exact nn_I (by omega)
        have ey : nn y = n := by rw [hy]; exact nn_I (by omega)
        have hI0 : TrI h_19 p (nn (r.1 1)) (T0 r p) := tr_st s0 hO p2
        have hO0 : TrO (nn (r.1 1)) (T0 r p) := hO.2 p p2
        have hE3 := hO.1.2.2.2.2.2
        have hT1 := hO.1.2.1.2.2
        have hE0 : qE (T0 r p).1 < 2 ^ 28 := by show nn (r.1 3) < _; omega
        have ht0 : nn (r.1 1) < 2 ^ 27 := by omega
        have hOp := hO.2 p p2
        have y24 : nn (getP r.1 p 24) ≤ 24 := (hOp.at 24).2.2
        refine r_astore (ls2 := [_, _, _, _, _, _, some _, _, _, _]) dX8_bestTarget_22 (by decide) rfl ?_
        refine r_aload dX8_bestTarget_24 rfl ?_
        refine q_getR fl_X8_143 hW (kd_dr hp) rfl (kl_3_0 hW (kd_dr hp)) (Nat.succ_ne_zero _) dX8_bestTarget_26 ?_
        refine r_iload dX8_bestTarget_29 rfl ?_
        refine q_putI fl_X8_334 hW (kk_3_0 (kd_dr hp)) rfl rfl dX8_bestTarget_31 ?_
        have hI1 : TrI (sI h_19 (62 + 1 + 6 + 12 * p + 1) 3 20) p (nn (r.1 1)) (stQ (T0 r p) ((upd (getP r.1 p) 3 (20)))) := tr_st' hI0 (by decide) (by decide) y24
        have hO9 : PoOK ((upd (getP r.1 p) 3 (20))) (getG r.2 p) (nn (r.1 1)) (nn (r.1 1)) := hOp.st (fun j hj => pk_un (by omega)) (pk_un (by decide)) (PoB.upd hOp.1 (fun _ => rg_I (k := 20) (by decide) (by decide) (by decide))) (by rw [pk_un (by decide), pk_un (by decide)]; exact hOp.2.1.1) (by rw [pk_un (by decide), pk_un (by decide)]; exact hOp.2.1.2)
        have hO1 : TrO (nn (r.1 1)) (stQ (T0 r p) ((upd (getP r.1 p) 3 (20)))) := hO9
        have e8 : eqx h_19 (sI h_19 (62 + 1 + 6 + 12 * p + 1) 3 20) (SB 62) := eqx.rf.sI (by unfold SB; omega)
        have hW : World (sI h_19 (62 + 1 + 6 + 12 * p + 1) 3 20) := wsI hW
        refine r_aload_n dX8_bestTarget_34 rfl ?_
        refine r_aload dX8_bestTarget_35 rfl ?_
        refine r_iload_n dX8_bestTarget_37 rfl ?_
        refine r_iload_n dX8_bestTarget_38 rfl ?_
        refine q_callV3 (cv_X8_tryCost ml_X8_352) hW kc_1 (by decide) rfl ⟨rfl, rfl⟩ rfl (Nat.le_of_ble_eq_true rfl) dX8_bestTarget_39 (c_X8_tryCost hW hp hI1 hO1 hx hy n2 ht0 hE0) (fun v_39 h_39 q_39 => ?_)
        obtain ⟨rfl, e1, hI2⟩ := q_39
        have eC : coQ r x (upd (fP r x) 3 (20)) (nn y) = (trT p (nn (r.1 1)) n (stQ (T0 r p) ((upd (getP r.1 p) 3 (20))))).2 2 - (stQ (T0 r p) ((upd (getP r.1 p) 3 (20)))).2 2 := by unfold coQ TQ gP fP; rw [ex, ey]; rfl
        have hW := e1.W hW
        rw [← eC]
        refine r_lstore (ls2 := [_, _, _, _, _, _, _, some _, _, none]) dX8_bestTarget_42 (by decide) rfl ?_
        refine r_iload_n dX8_bestTarget_44 rfl ?_
        refine r_iconst (-1) dX8_bestTarget_45 (by decide) ?_
        refine r_icmp_eq 57 dX8_bestTarget_46 (by decide) (fun c_46 => ?_) (fun c_46 => ?_)
        · refine r_iload dX8_bestTarget_57 rfl ?_
          refine r_istore_n (ls2 := [_, _, some _, _, _, _, _, _, _, _]) dX8_bestTarget_59 (by decide) rfl ?_
          refine r_lload dX8_bestTarget_60 rfl ?_
          refine r_lstore (ls2 := [_, _, _, some _, _, none, _, _, _, _]) dX8_bestTarget_62 (by decide) rfl ?_
          refine r_iinc (10) (by decide) (ls2 := [_, _, _, _, _, none, _, _, _, _]) dX8_bestTarget_64 rfl (by decide) rfl ?_
          rw [show ((20 : Int32) + (10)) = 30 from by decide]
          refine r_goto 9 dX8_bestTarget_67 (by decide) ?_
          have e7 := he0.tr (e0.tr (e8.tr e1))
          first
            | exact g2 _ _ _ _ _ _ (boTarget_e2.trans (by rw [hbc]; exact bsT_t (Or.inl c_46))) hW e7 hcd
            | exact g2 _ _ _ _ _ _ (boTarget_e2.trans (by rw [hbc]; exact bsT_t (Or.inr (hll.mp (Int32.not_le.mp c_54))))) hW e7 hcd
            | exact g2 _ _ _ _ _ _ (boTarget_e2.trans (by rw [hbc]; exact bsT_f c_46 (fun q => absurd (hll.mpr q) (Int32.not_lt.mpr c_54)))) hW e7 hcd
        · refine r_lload dX8_bestTarget_49 rfl ?_
          refine r_lload dX8_bestTarget_51 rfl ?_
          have hll := lg_lt (x := coQ r x (upd (fP r x) 3 (20)) (nn y)) (y := c)
          refine r_lcmp dX8_bestTarget_53 ?_
          refine r_if_ge 64 dX8_bestTarget_54 (by decide) (fun c_54 => ?_) (fun c_54 => ?_)
          · refine r_iinc (10) (by decide) (ls2 := [_, _, _, _, _, none, _, _, _, _]) dX8_bestTarget_64 rfl (by decide) rfl ?_
            rw [show ((20 : Int32) + (10)) = 30 from by decide]
            refine r_goto 9 dX8_bestTarget_67 (by decide) ?_
            have e7 := he0.tr (e0.tr (e8.tr e1))
            first
              | exact g2 _ _ _ _ _ _ (boTarget_e2.trans (by rw [hbc]; exact bsT_t (Or.inl c_46))) hW e7 hcd
              | exact g2 _ _ _ _ _ _ (boTarget_e2.trans (by rw [hbc]; exact bsT_t (Or.inr (hll.mp (Int32.not_le.mp c_54))))) hW e7 hcd
              | exact g2 _ _ _ _ _ _ (boTarget_e2.trans (by rw [hbc]; exact bsT_f c_46 (fun q => absurd (hll.mpr q) (Int32.not_lt.mpr c_54)))) hW e7 hcd
          · refine r_iload dX8_bestTarget_57 rfl ?_
            refine r_istore_n (ls2 := [_, _, some _, _, _, _, _, _, _, _]) dX8_bestTarget_59 (by decide) rfl ?_
            refine r_lload dX8_bestTarget_60 rfl ?_
            refine r_lstore (ls2 := [_, _, _, some _, _, none, _, _, _, _]) dX8_bestTarget_62 (by decide) rfl ?_
            refine r_iinc (10) (by decide) (ls2 := [_, _, _, _, _, none, _, _, _, _]) dX8_bestTarget_64 rfl (by decide) rfl ?_
            rw [show ((20 : Int32) + (10)) = 30 from by decide]
            refine r_goto 9 dX8_bestTarget_67 (by decide) ?_
            have e7 := he0.tr (e0.tr (e8.tr e1))
            first
              | exact g2 _ _ _ _ _ _ (boTarget_e2.trans (by rw [hbc]; exact bsT_t (Or.inl c_46))) hW e7 hcd
              | exact g2 _ _ _ _ _ _ (boTarget_e2.trans (by rw [hbc]; exact bsT_t (Or.inr (hll.mp (Int32.not_le.mp c_54))))) hW e7 hcd
              | exact g2 _ _ _ _ _ _ (boTarget_e2.trans (by rw [hbc]; exact bsT_f c_46 (fun q => absurd (hll.mpr q) (Int32.not_lt.mpr c_54)))) hW e7 hcd
      · refine PX.out rfl ⟨Nat.le_of_ble_eq_true rfl, Nat.le_of_ble_eq_true rfl⟩ ?_
        obtain ⟨kx, rfl⟩ := q_19
        exact absurd hc0 kx.1
  refine r_iload dX8_bestTarget_9 rfl ?_
  refine r_bipush (100) dX8_bestTarget_11 (by decide) ?_
  refine r_icmp_gt 70 dX8_bestTarget_13 (by decide) (fun c_13 => ?_) (fun c_13 => ?_)
  · first | exact absurd c_13 (by decide) | exact absurd (by decide) c_13
  · have hsH : StR h 7 r.1 r.2 := hs
    have he0 : eqx h h (SB 62) := eqx.rf
    refine r_aload_n dX8_bestTarget_16 rfl ?_
    refine r_iload_n dX8_bestTarget_17 rfl ?_
    refine r_iload_n dX8_bestTarget_18 rfl ?_
    refine q_callX2 (cv_X8_startTrial ml_X8_345) hW kc_1 (by decide) rfl rfl (Nat.le_of_ble_eq_true rfl) dX8_bestTarget_19 (c_X8_startTrial hW hsH hO) (fun v_19 h_19 q_19 => ?_) (fun E_19 h_19 q_19 => ?_)
    · obtain ⟨hcd, ⟨n, n1, n2, hy⟩, p, hp, p2, hx, rfl, e0, s0⟩ := q_19
      have hW := e0.W hW
      have ex : nn x = p := by rw [hx]; exact nn_I (by omega)
      have ey : nn y = n := by rw [hy]; exact nn_I (by omega)
      have hI0 : TrI h_19 p (nn (r.1 1)) (T0 r p) := tr_st s0 hO p2
      have hO0 : TrO (nn (r.1 1)) (T0 r p) := hO.2 p p2
      have hE3 := hO.1.2.2.2.2.2
      have hT1 := hO.1.2.1.2.2
      have hE0 : qE (T0 r p).1 < 2 ^ 28 := by show nn (r.1 3) < _; omega
      have ht0 : nn (r.1 1) < 2 ^ 27 := by omega
      have hOp := hO.2 p p2
      have y24 : nn (getP r.1 p 24) ≤ 24 := (hOp.at 24).2.2
      refine r_astore (ls2 := [_, _, _, _, _, _, some _, _, _, _]) dX8_bestTarget_22 (by decide) rfl ?_
      refine r_aload dX8_bestTarget_24 rfl ?_
      refine q_getR fl_X8_143 hW (kd_dr hp) rfl (kl_3_0 hW (kd_dr hp)) (Nat.succ_ne_zero _) dX8_bestTarget_26 ?_
      refine r_iload dX8_bestTarget_29 rfl ?_
      refine q_putI fl_X8_334 hW (kk_3_0 (kd_dr hp)) rfl rfl dX8_bestTarget_31 ?_
      have hI1 : TrI (sI h_19 (62 + 1 + 6 + 12 * p + 1) 3 10) p (nn (r.1 1)) (stQ (T0 r p) ((upd (getP r.1 p) 3 (10)))) := tr_st' hI0 (by decide) (by decide) y24
      have hO9 : PoOK ((upd (getP r.1 p) 3 (10))) (getG r.2 p) (nn (r.1 1)) (nn (r.1 1)) := hOp.st (fun j hj => pk_un (by omega)) (pk_un (by decide)) (PoB.upd hOp.1 (fun _ => rg_I (k := 10) (by decide) (by decide) (by decide))) (by rw [pk_un (by decide), pk_un (by decide)]; exact hOp.2.1.1) (by rw [pk_un (by decide), pk_un (by decide)]; exact hOp.2.1.2)
      have hO1 : TrO (nn (r.1 1)) (stQ (T0 r p) ((upd (getP r.1 p) 3 (10)))) := hO9
      have e8 : eqx h_19 (sI h_19 (62 + 1 + 6 + 12 * p + 1) 3 10) (SB 62) := eqx.rf.sI (by unfold SB; omega)
      have hW : World (sI h_19 (62 + 1 + 6 + 12 * p + 1) 3 10) := wsI hW
      refine r_aload_n dX8_bestTarget_34 rfl ?_
      refine r_aload dX8_bestTarget_35 rfl ?_
      refine r_iload_n dX8_bestTarget_37 rfl ?_
      refine r_iload_n dX8_bestTarget_38 rfl ?_
      refine q_callV3 (cv_X8_tryCost ml_X8_352) hW kc_1 (by decide) rfl ⟨rfl, rfl⟩ rfl (Nat.le_of_ble_eq_true rfl) dX8_bestTarget_39 (c_X8_tryCost hW hp hI1 hO1 hx hy n2 ht0 hE0) (fun v_39 h_39 q_39 => ?_)
      obtain ⟨rfl, e1, hI2⟩ := q_39
      have eC : coQ r x (upd (fP r x) 3 (10)) (nn y) = (trT p (nn (r.1 1)) n (stQ (T0 r p) ((upd (getP r.1 p) 3 (10))))).2 2 - (stQ (T0 r p) ((upd (getP r.1 p) 3 (10)))).2 2 := by unfold coQ TQ gP fP; rw [ex, ey]; rfl
      have hW := e1.W hW
      rw [← eC]
      refine r_lstore (ls2 := [_, _, _, _, _, _, _, some _, _, none]) dX8_bestTarget_42 (by decide) rfl ?_
      refine r_iload_n dX8_bestTarget_44 rfl ?_
      refine r_iconst (-1) dX8_bestTarget_45 (by decide) ?_
      refine r_icmp_eq 57 dX8_bestTarget_46 (by decide) (fun c_46 => ?_) (fun c_46 => ?_)
      · refine r_iload dX8_bestTarget_57 rfl ?_
        refine r_istore_n (ls2 := [_, _, some _, _, _, _, _, _, _, _]) dX8_bestTarget_59 (by decide) rfl ?_
        refine r_lload dX8_bestTarget_60 rfl ?_
        refine r_lstore (ls2 := [_, _, _, some _, _, none, _, _, _, _]) dX8_bestTarget_62 (by decide) rfl ?_
        refine r_iinc (10) (by decide) (ls2 := [_, _, _, _, _, none, _, _, _, _]) dX8_bestTarget_64 rfl (by decide) rfl ?_
        rw [show ((10 : Int32) + (10)) = 20 from by decide]
        refine r_goto 9 dX8_bestTarget_67 (by decide) ?_
        have e7 := he0.tr (e0.tr (e8.tr e1))
        exact g1 _ _ _ _ _ _ (boTarget_e1.trans (bsT_t (Or.inl rfl))) hW e7 hcd
      · exact absurd rfl c_46
    · refine PX.out rfl ⟨Nat.le_of_ble_eq_true rfl, Nat.le_of_ble_eq_true rfl⟩ ?_
      obtain ⟨kx, rfl⟩ := q_19
      exact ⟨kx, rfl⟩

def boCool_0 (_ : Row) (_ : Int32) (_ : Nat) : Int32 × Int64 := (-1, 0)
def boCool_1 (r : Row) (x : Int32) (n : Nat) : Int32 × Int64 := bsT (boCool_0 r x n) 0 (coQ r x (upd (fP r x) 13 (0)) n)
def boCool_2 (r : Row) (x : Int32) (n : Nat) : Int32 × Int64 := bsT (boCool_1 r x n) 5 (coQ r x (upd (fP r x) 13 (5)) n)
def boCool_3 (r : Row) (x : Int32) (n : Nat) : Int32 × Int64 := bsT (boCool_2 r x n) 10 (coQ r x (upd (fP r x) 13 (10)) n)
def boCool_4 (r : Row) (x : Int32) (n : Nat) : Int32 × Int64 := bsT (boCool_3 r x n) 15 (coQ r x (upd (fP r x) 13 (15)) n)
def boCool_5 (r : Row) (x : Int32) (n : Nat) : Int32 × Int64 := bsT (boCool_4 r x n) 20 (coQ r x (upd (fP r x) 13 (20)) n)
def boCool_6 (r : Row) (x : Int32) (n : Nat) : Int32 × Int64 := bsT (boCool_5 r x n) 25 (coQ r x (upd (fP r x) 13 (25)) n)
def boCool_7 (r : Row) (x : Int32) (n : Nat) : Int32 × Int64 := bsT (boCool_6 r x n) 30 (coQ r x (upd (fP r x) 13 (30)) n)
theorem boCool_e1 {r : Row} {x : Int32} {n : Nat} : boCool_1 r x n = bsT (boCool_0 r x n) 0 (coQ r x (upd (fP r x) 13 (0)) n) := by unfold boCool_1; exact rfl
theorem boCool_e2 {r : Row} {x : Int32} {n : Nat} : boCool_2 r x n = bsT (boCool_1 r x n) 5 (coQ r x (upd (fP r x) 13 (5)) n) := by unfold boCool_2; exact rfl
theorem boCool_e3 {r : Row} {x : Int32} {n : Nat} : boCool_3 r x n = bsT (boCool_2 r x n) 10 (coQ r x (upd (fP r x) 13 (10)) n) := by unfold boCool_3; exact rfl
theorem boCool_e4 {r : Row} {x : Int32} {n : Nat} : boCool_4 r x n = bsT (boCool_3 r x n) 15 (coQ r x (upd (fP r x) 13 (15)) n) := by unfold boCool_4; exact rfl
theorem boCool_e5 {r : Row} {x : Int32} {n : Nat} : boCool_5 r x n = bsT (boCool_4 r x n) 20 (coQ r x (upd (fP r x) 13 (20)) n) := by unfold boCool_5; exact rfl
theorem boCool_e6 {r : Row} {x : Int32} {n : Nat} : boCool_6 r x n = bsT (boCool_5 r x n) 25 (coQ r x (upd (fP r x) 13 (25)) n) := by unfold boCool_6; exact rfl
theorem boCool_e7 {r : Row} {x : Int32} {n : Nat} : boCool_7 r x n = bsT (boCool_6 r x n) 30 (coQ r x (upd (fP r x) 13 (30)) n) := by unfold boCool_7; exact rfl
set_option maxRecDepth 100000 in
set_option maxHeartbeats 1000000 in
theorem c_X8_bestCool {l9 : Launch} {G : GC} {h : AH} {r : Row} {m : Nat} {x y : Int32} (hW : World h) (hs : StR h 7 r.1 r.2) (hO : RoOK r.1 r.2 m) (hb : m + 300 < 2 ^ 23) : PM l9 G mX8_bestCool NT NT [.ref 1, .int x, .int y] h (fun v h' => cd2 (okP r x) (rgB 1 300 y) = 0 ∧ v = some (.int (boCool_7 r x (nn y)).1) ∧ eqx h h' (SB 62)) (fun E h' => thr [eB, eA] (cd2 (okP r x) (rgB 1 300 y)) E ∧ h' = h) := by
  refine PM.of (by decide +kernel) rfl rfl (Nat.le_of_ble_eq_true rfl) (fun hst _ => ?_)
  refine r_iconst (-1) dX8_bestCool_0 (by decide) ?_
  refine r_istore_n (ls2 := [_, _, some _, _, _, _, _, _, _, _]) dX8_bestCool_1 (by decide) rfl ?_
  refine r_lconst (0) dX8_bestCool_2 (by decide) ?_
  refine r_lstore (ls2 := [_, _, _, some _, _, none, _, _, _, _]) dX8_bestCool_3 (by decide) rfl ?_
  refine r_iconst (0) dX8_bestCool_5 (by decide) ?_
  refine r_istore (ls2 := [_, _, _, _, _, none, _, _, _, _]) dX8_bestCool_6 (by decide) rfl ?_
  have g7 : ∀ (H : AH) (z7 z8 z9 : Option Value) (b : Int32) (c : Int64), (boCool_7 r x (nn y)) = (b, c) → World H → eqx h H (SB 62) → cd2 (okP r x) (rgB 1 300 y) = 0 → PW l9 G mX8_bestCool (mO mX8_bestCool) (fiM G mX8_bestCool NT (fun v h' => cd2 (okP r x) (rgB 1 300 y) = 0 ∧ v = some (.int (boCool_7 r x (nn y)).1) ∧ eqx h h' (SB 62)) (fun E h' => thr [eB, eA] (cd2 (okP r x) (rgB 1 300 y)) E ∧ h' = h)) NT 8 [some (.ref 1), some (.int x), some (.int y), some (.int b), some (.long c), none, some (.int 35), z7, z8, z9] [] (14, 84) H := by
    intro H z7 z8 z9 b c hbc hW he hc0
    refine r_iload dX8_bestCool_8 rfl ?_
    refine r_bipush (30) dX8_bestCool_10 (by decide) ?_
    refine r_icmp_gt 69 dX8_bestCool_12 (by decide) (fun c_12 => ?_) (fun c_12 => ?_)
    · refine r_iload_n dX8_bestCool_69 rfl ?_
      refine r_iret dX8_bestCool_70 rfl ⟨Nat.le_of_ble_eq_true rfl, Nat.le_of_ble_eq_true rfl⟩ ?_
      exact ⟨hc0, some_int (by rw [hbc]), he⟩
    · first | exact absurd c_12 (by decide) | exact absurd (by decide) c_12
  have g6 : ∀ (H : AH) (z7 z8 z9 : Option Value) (b : Int32) (c : Int64), (boCool_6 r x (nn y)) = (b, c) → World H → eqx h H (SB 62) → cd2 (okP r x) (rgB 1 300 y) = 0 → PW l9 G mX8_bestCool (mO mX8_bestCool) (fiM G mX8_bestCool NT (fun v h' => cd2 (okP r x) (rgB 1 300 y) = 0 ∧ v = some (.int (boCool_7 r x (nn y)).1) ∧ eqx h h' (SB 62)) (fun E h' => thr [eB, eA] (cd2 (okP r x) (rgB 1 300 y)) E ∧ h' = h)) NT 8 [some (.ref 1), some (.int x), some (.int y), some (.int b), some (.long c), none, some (.int 30), z7, z8, z9] [] (12, 72) H := by
    intro H z7 z8 z9 b c hbc hW he hc0
    refine r_iload dX8_bestCool_8 rfl ?_
    refine r_bipush (30) dX8_bestCool_10 (by decide) ?_
    refine r_icmp_gt 69 dX8_bestCool_12 (by decide) (fun c_12 => ?_) (fun c_12 => ?_)
    · first | exact absurd c_12 (by decide) | exact absurd (by decide) c_12
    · have hsH : StR H 7 r.1 r.2 := hs.eqx he hO.1.1.2.2 (fun j j1 j2 => by unfold SB; omega)
      have he0 : eqx h H (SB 62) := he
      refine r_aload_n dX8_bestCool_15 rfl ?_
      refine r_iload_n dX8_bestCool_16 rfl ?_
      refine r_iload_n dX8_bestCool_17 rfl ?_
      refine q_callX2 (cv_X8_startTrial ml_X8_345) hW kc_1 (by decide) rfl rfl (Nat.le_of_ble_eq_true rfl) dX8_bestCool_18 (c_X8_startTrial hW hsH hO) (fun v_18 h_18 q_18 => ?_) (fun E_18 h_18 q_18 => ?_)
      · obtain ⟨hcd, ⟨n, n1, n2, hy⟩, p, hp, p2, hx, rfl, e0, s0⟩ := q_18
        have hW := e0.W hW
        have ex : nn x = p := by rw [hx]; exact nn_I (by omega)
        have ey : nn y = n := by rw [hy]; exact nn_I (by omega)
        have hI0 : TrI h_18 p (nn (r.1 1)) (T0 r p) := tr_st s0 hO p2
        have hO0 : TrO (nn (r.1 1)) (T0 r p) := hO.2 p p2
        have hE3 := hO.1.2.2.2.2.2
        have hT1 := hO.1.2.1.2.2
        have hE0 : qE (T0 r p).1 < 2 ^ 28 := by show nn (r.1 3) < _; omega
        have ht0 : nn (r.1 1) < 2 ^ 27 := by omega
        have hOp := hO.2 p p2
        have y24 : nn (getP r.1 p 24) ≤ 24 := (hOp.at 24).2.2
        refine r_astore (ls2 := [_, _, _, _, _, _, some _, _, _, _]) dX8_bestCool_21 (by decide) rfl ?_
        refine r_aload dX8_bestCool_23 rfl ?_
        refine q_getR fl_X8_143 hW (kd_dr hp) rfl (kl_3_0 hW (kd_dr hp)) (Nat.succ_ne_zero _) dX8_bestCool_25 ?_
        refine r_iload dX8_bestCool_28 rfl ?_
        refine q_putI fl_X8_236 hW (kk_3_0 (kd_dr hp)) rfl rfl dX8_bestCool_30 ?_
        have hI1 : TrI (sI h_18 (62 + 1 + 6 + 12 * p + 1) 13 30) p (nn (r.1 1)) (stQ (T0 r p) ((upd (getP r.1 p) 13 (30)))) := tr_st' hI0 (by decide) (by decide) y24
        have hO9 : PoOK ((upd (getP r.1 p) 13 (30))) (getG r.2 p) (nn (r.1 1)) (nn (r.1 1)) := hOp.st (fun j hj => pk_un (by omega)) (pk_un (by decide)) (PoB.upd hOp.1 (fun _ => rg_I (k := 30) (by decide) (by decide) (by decide))) (by rw [pk_un (by decide), pk_un (by decide)]; exact hOp.2.1.1) (by rw [pk_un (by decide), pk_un (by decide)]; exact hOp.2.1.2)
        have hO1 : TrO (nn (r.1 1)) (stQ (T0 r p) ((upd (getP r.1 p) 13 (30)))) := hO9
        have e8 : eqx h_18 (sI h_18 (62 + 1 + 6 + 12 * p + 1) 13 30) (SB 62) := eqx.rf.sI (by unfold SB; omega)
        have hW : World (sI h_18 (62 + 1 + 6 + 12 * p + 1) 13 30) := wsI hW
        refine r_aload_n dX8_bestCool_33 rfl ?_
        refine r_aload dX8_bestCool_34 rfl ?_
        refine r_iload_n dX8_bestCool_36 rfl ?_
        refine r_iload_n dX8_bestCool_37 rfl ?_
        refine q_callV3 (cv_X8_tryCost ml_X8_352) hW kc_1 (by decide) rfl ⟨rfl, rfl⟩ rfl (Nat.le_of_ble_eq_true rfl) dX8_bestCool_38 (c_X8_tryCost hW hp hI1 hO1 hx hy n2 ht0 hE0) (fun v_38 h_38 q_38 => ?_)
        obtain ⟨rfl, e1, hI2⟩ := q_38
        have eC : coQ r x (upd (fP r x) 13 (30)) (nn y) = (trT p (nn (r.1 1)) n (stQ (T0 r p) ((upd (getP r.1 p) 13 (30))))).2 2 - (stQ (T0 r p) ((upd (getP r.1 p) 13 (30)))).2 2 := by unfold coQ TQ gP fP; rw [ex, ey]; rfl
        have hW := e1.W hW
        rw [← eC]
        refine r_lstore (ls2 := [_, _, _, _, _, _, _, some _, _, none]) dX8_bestCool_41 (by decide) rfl ?_
        refine r_iload_n dX8_bestCool_43 rfl ?_
        refine r_iconst (-1) dX8_bestCool_44 (by decide) ?_
        refine r_icmp_eq 56 dX8_bestCool_45 (by decide) (fun c_45 => ?_) (fun c_45 => ?_)
        · refine r_iload dX8_bestCool_56 rfl ?_
          refine r_istore_n (ls2 := [_, _, some _, _, _, _, _, _, _, _]) dX8_bestCool_58 (by decide) rfl ?_
          refine r_lload dX8_bestCool_59 rfl ?_
          refine r_lstore (ls2 := [_, _, _, some _, _, none, _, _, _, _]) dX8_bestCool_61 (by decide) rfl ?_
          refine r_iinc (5) (by decide) (ls2 := [_, _, _, _, _, none, _, _, _, _]) dX8_bestCool_63 rfl (by decide) rfl ?_
          rw [show ((30 : Int32) + (5)) = 35 from by decide]
          refine r_goto 8 dX8_bestCool_66 (by decide) ?_
          have e7 := he0.tr (e0.tr (e8.tr e1))
          first
            | exact g7 _ _ _ _ _ _ (boCool_e7.trans (by rw [hbc]; exact bsT_t (Or.inl c_45))) hW e7 hcd
            | exact g7 _ _ _ _ _ _ (boCool_e7.trans (by rw [hbc]; exact bsT_t (Or.inr (hll.mp (Int32.not_le.mp c_53))))) hW e7 hcd
            | exact g7 _ _ _ _ _ _ (boCool_e7.trans (by rw [hbc]; exact bsT_f c_45 (fun q => absurd (hll.mpr q) (Int32.not_lt.mpr c_53)))) hW e7 hcd
        · refine r_lload dX8_bestCool_48 rfl ?_
          refine r_lload dX8_bestCool_50 rfl ?_
          have hll := lg_lt (x := coQ r x (upd (fP r x) 13 (30)) (nn y)) (y := c)
          refine r_lcmp dX8_bestCool_52 ?_
          refine r_if_ge 63 dX8_bestCool_53 (by decide) (fun c_53 => ?_) (fun c_53 => ?_)
          · refine r_iinc (5) (by decide) (ls2 := [_, _, _, _, _, none, _, _, _, _]) dX8_bestCool_63 rfl (by decide) rfl ?_
            rw [show ((30 : Int32) + (5)) = 35 from by decide]
            refine r_goto 8 dX8_bestCool_66 (by decide) ?_
            have e7 := he0.tr (e0.tr (e8.tr e1))
            first
              | exact g7 _ _ _ _ _ _ (boCool_e7.trans (by rw [hbc]; exact bsT_t (Or.inl c_45))) hW e7 hcd
              | exact g7 _ _ _ _ _ _ (boCool_e7.trans (by rw [hbc]; exact bsT_t (Or.inr (hll.mp (Int32.not_le.mp c_53))))) hW e7 hcd
              | exact g7 _ _ _ _ _ _ (boCool_e7.trans (by rw [hbc]; exact bsT_f c_45 (fun q => absurd (hll.mpr q) (Int32.not_lt.mpr c_53)))) hW e7 hcd
          · refine r_iload dX8_bestCool_56 rfl ?_
            refine r_istore_n (ls2 := [_, _, some _, _, _, _, _, _, _, _]) dX8_bestCool_58 (by decide) rfl ?_
            refine r_lload dX8_bestCool_59 rfl ?_
            refine r_lstore (ls2 := [_, _, _, some _, _, none, _, _, _, _]) dX8_bestCool_61 (by decide) rfl ?_
            refine r_iinc (5) (by decide) (ls2 := [_, _, _, _, _, none, _, _, _, _]) dX8_bestCool_63 rfl (by decide) rfl ?_
            rw [show ((30 : Int32) + (5)) = 35 from by decide]
            refine r_goto 8 dX8_bestCool_66 (by decide) ?_
            have e7 := he0.tr (e0.tr (e8.tr e1))
            first
              | exact g7 _ _ _ _ _ _ (boCool_e7.trans (by rw [hbc]; exact bsT_t (Or.inl c_45))) hW e7 hcd
              | exact g7 _ _ _ _ _ _ (boCool_e7.trans (by rw [hbc]; exact bsT_t (Or.inr (hll.mp (Int32.not_le.mp c_53))))) hW e7 hcd
              | exact g7 _ _ _ _ _ _ (boCool_e7.trans (by rw [hbc]; exact bsT_f c_45 (fun q => absurd (hll.mpr q) (Int32.not_lt.mpr c_53)))) hW e7 hcd
      · refine PX.out rfl ⟨Nat.le_of_ble_eq_true rfl, Nat.le_of_ble_eq_true rfl⟩ ?_
        obtain ⟨kx, rfl⟩ := q_18
        exact absurd hc0 kx.1
  have g5 : ∀ (H : AH) (z7 z8 z9 : Option Value) (b : Int32) (c : Int64), (boCool_5 r x (nn y)) = (b, c) → World H → eqx h H (SB 62) → cd2 (okP r x) (rgB 1 300 y) = 0 → PW l9 G mX8_bestCool (mO mX8_bestCool) (fiM G mX8_bestCool NT (fun v h' => cd2 (okP r x) (rgB 1 300 y) = 0 ∧ v = some (.int (boCool_7 r x (nn y)).1) ∧ eqx h h' (SB 62)) (fun E h' => thr [eB, eA] (cd2 (okP r x) (rgB 1 300 y)) E ∧ h' = h)) NT 8 [some (.ref 1), some (.int x), some (.int y), some (.int b), some (.long c), none, some (.int 25), z7, z8, z9] [] (10, 60) H := by
    intro H z7 z8 z9 b c hbc hW he hc0
    refine r_iload dX8_bestCool_8 rfl ?_
    refine r_bipush (30) dX8_bestCool_10 (by decide) ?_
    refine r_icmp_gt 69 dX8_bestCool_12 (by decide) (fun c_12 => ?_) (fun c_12 => ?_)
    · first | exact absurd c_12 (by decide) | exact absurd (by decide) c_12
    · have hsH : StR H 7 r.1 r.2 := hs.eqx he hO.1.1.2.2 (fun j j1 j2 => by unfold SB; omega)
      have he0 : eqx h H (SB 62) := he
      refine r_aload_n dX8_bestCool_15 rfl ?_
      refine r_iload_n dX8_bestCool_16 rfl ?_
      refine r_iload_n dX8_bestCool_17 rfl ?_
      refine q_callX2 (cv_X8_startTrial ml_X8_345) hW kc_1 (by decide) rfl rfl (Nat.le_of_ble_eq_true rfl) dX8_bestCool_18 (c_X8_startTrial hW hsH hO) (fun v_18 h_18 q_18 => ?_) (fun E_18 h_18 q_18 => ?_)
      · obtain ⟨hcd, ⟨n, n1, n2, hy⟩, p, hp, p2, hx, rfl, e0, s0⟩ := q_18
        have hW := e0.W hW
        have ex : nn x = p := by rw [hx]; exact nn_I (by omega)
        have ey : nn y = n := by rw [hy]; exact nn_I (by omega)
        have hI0 : TrI h_18 p (nn (r.1 1)) (T0 r p) := tr_st s0 hO p2
        have hO0 : TrO (nn (r.1 1)) (T0 r p) := hO.2 p p2
        have hE3 := hO.1.2.2.2.2.2
        have hT1 := hO.1.2.1.2.2
        have hE0 : qE (T0 r p).1 < 2 ^ 28 := by show nn (r.1 3) < _; omega
        have ht0 : nn (r.1 1) < 2 ^ 27 := by omega
        have hOp := hO.2 p p2
        have y24 : nn (getP r.1 p 24) ≤ 24 := (hOp.at 24).2.2
        refine r_astore (ls2 := [_, _, _, _, _, _, some _, _, _, _]) dX8_bestCool_21 (by decide) rfl ?_
        refine r_aload dX8_bestCool_23 rfl ?_
        refine q_getR fl_X8_143 hW (kd_dr hp) rfl (kl_3_0 hW (kd_dr hp)) (Nat.succ_ne_zero _) dX8_bestCool_25 ?_
        refine r_iload dX8_bestCool_28 rfl ?_
        refine q_putI fl_X8_236 hW (kk_3_0 (kd_dr hp)) rfl rfl dX8_bestCool_30 ?_
        have hI1 : TrI (sI h_18 (62 + 1 + 6 + 12 * p + 1) 13 25) p (nn (r.1 1)) (stQ (T0 r p) ((upd (getP r.1 p) 13 (25)))) := tr_st' hI0 (by decide) (by decide) y24
        have hO9 : PoOK ((upd (getP r.1 p) 13 (25))) (getG r.2 p) (nn (r.1 1)) (nn (r.1 1)) := hOp.st (fun j hj => pk_un (by omega)) (pk_un (by decide)) (PoB.upd hOp.1 (fun _ => rg_I (k := 25) (by decide) (by decide) (by decide))) (by rw [pk_un (by decide), pk_un (by decide)]; exact hOp.2.1.1) (by rw [pk_un (by decide), pk_un (by decide)]; exact hOp.2.1.2)
        have hO1 : TrO (nn (r.1 1)) (stQ (T0 r p) ((upd (getP r.1 p) 13 (25)))) := hO9
        have e8 : eqx h_18 (sI h_18 (62 + 1 + 6 + 12 * p + 1) 13 25) (SB 62) := eqx.rf.sI (by unfold SB; omega)
        have hW : World (sI h_18 (62 + 1 + 6 + 12 * p + 1) 13 25) := wsI hW
        refine r_aload_n dX8_bestCool_33 rfl ?_
        refine r_aload dX8_bestCool_34 rfl ?_
        refine r_iload_n dX8_bestCool_36 rfl ?_
        refine r_iload_n dX8_bestCool_37 rfl ?_
        refine q_callV3 (cv_X8_tryCost ml_X8_352) hW kc_1 (by decide) rfl ⟨rfl, rfl⟩ rfl (Nat.le_of_ble_eq_true rfl) dX8_bestCool_38 (c_X8_tryCost hW hp hI1 hO1 hx hy n2 ht0 hE0) (fun v_38 h_38 q_38 => ?_)
        obtain ⟨rfl, e1, hI2⟩ := q_38
        have eC : coQ r x (upd (fP r x) 13 (25)) (nn y) = (trT p (nn (r.1 1)) n (stQ (T0 r p) ((upd (getP r.1 p) 13 (25))))).2 2 - (stQ (T0 r p) ((upd (getP r.1 p) 13 (25)))).2 2 := by unfold coQ TQ gP fP; rw [ex, ey]; rfl
        have hW := e1.W hW
        rw [← eC]
        refine r_lstore (ls2 := [_, _, _, _, _, _, _, some _, _, none]) dX8_bestCool_41 (by decide) rfl ?_
        refine r_iload_n dX8_bestCool_43 rfl ?_
        refine r_iconst (-1) dX8_bestCool_44 (by decide) ?_
        refine r_icmp_eq 56 dX8_bestCool_45 (by decide) (fun c_45 => ?_) (fun c_45 => ?_)
        · refine r_iload dX8_bestCool_56 rfl ?_
          refine r_istore_n (ls2 := [_, _, some _, _, _, _, _, _, _, _]) dX8_bestCool_58 (by decide) rfl ?_
          refine r_lload dX8_bestCool_59 rfl ?_
          refine r_lstore (ls2 := [_, _, _, some _, _, none, _, _, _, _]) dX8_bestCool_61 (by decide) rfl ?_
          refine r_iinc (5) (by decide) (ls2 := [_, _, _, _, _, none, _, _, _, _]) dX8_bestCool_63 rfl (by decide) rfl ?_
          rw [show ((25 : Int32) + (5)) = 30 from by decide]
          refine r_goto 8 dX8_bestCool_66 (by decide) ?_
          have e7 := he0.tr (e0.tr (e8.tr e1))
          first
            | exact g6 _ _ _ _ _ _ (boCool_e6.trans (by rw [hbc]; exact bsT_t (Or.inl c_45))) hW e7 hcd
            | exact g6 _ _ _ _ _ _ (boCool_e6.trans (by rw [hbc]; exact bsT_t (Or.inr (hll.mp (Int32.not_le.mp c_53))))) hW e7 hcd
            | exact g6 _ _ _ _ _ _ (boCool_e6.trans (by rw [hbc]; exact bsT_f c_45 (fun q => absurd (hll.mpr q) (Int32.not_lt.mpr c_53)))) hW e7 hcd
        · refine r_lload dX8_bestCool_48 rfl ?_
          refine r_lload dX8_bestCool_50 rfl ?_
          have hll := lg_lt (x := coQ r x (upd (fP r x) 13 (25)) (nn y)) (y := c)
          refine r_lcmp dX8_bestCool_52 ?_
          refine r_if_ge 63 dX8_bestCool_53 (by decide) (fun c_53 => ?_) (fun c_53 => ?_)
          · refine r_iinc (5) (by decide) (ls2 := [_, _, _, _, _, none, _, _, _, _]) dX8_bestCool_63 rfl (by decide) rfl ?_
            rw [show ((25 : Int32) + (5)) = 30 from by decide]
            refine r_goto 8 dX8_bestCool_66 (by decide) ?_
            have e7 := he0.tr (e0.tr (e8.tr e1))
            first
              | exact g6 _ _ _ _ _ _ (boCool_e6.trans (by rw [hbc]; exact bsT_t (Or.inl c_45))) hW e7 hcd
              | exact g6 _ _ _ _ _ _ (boCool_e6.trans (by rw [hbc]; exact bsT_t (Or.inr (hll.mp (Int32.not_le.mp c_53))))) hW e7 hcd
              | exact g6 _ _ _ _ _ _ (boCool_e6.trans (by rw [hbc]; exact bsT_f c_45 (fun q => absurd (hll.mpr q) (Int32.not_lt.mpr c_53)))) hW e7 hcd
          · refine r_iload dX8_bestCool_56 rfl ?_
            refine r_istore_n (ls2 := [_, _, some _, _, _, _, _, _, _, _]) dX8_bestCool_58 (by decide) rfl ?_
            refine r_lload dX8_bestCool_59 rfl ?_
            refine r_lstore (ls2 := [_, _, _, some _, _, none, _, _, _, _]) dX8_bestCool_61 (by decide) rfl ?_
            refine r_iinc (5) (by decide) (ls2 := [_, _, _, _, _, none, _, _, _, _]) dX8_bestCool_63 rfl (by decide) rfl ?_
            rw [show ((25 : Int32) + (5)) = 30 from by decide]
            refine r_goto 8 dX8_bestCool_66 (by decide) ?_
            have e7 := he0.tr (e0.tr (e8.tr e1))
            first
              | exact g6 _ _ _ _ _ _ (boCool_e6.trans (by rw [hbc]; exact bsT_t (Or.inl c_45))) hW e7 hcd
              | exact g6 _ _ _ _ _ _ (boCool_e6.trans (by rw [hbc]; exact bsT_t (Or.inr (hll.mp (Int32.not_le.mp c_53))))) hW e7 hcd
              | exact g6 _ _ _ _ _ _ (boCool_e6.trans (by rw [hbc]; exact bsT_f c_45 (fun q => absurd (hll.mpr q) (Int32.not_lt.mpr c_53)))) hW e7 hcd
      · refine PX.out rfl ⟨Nat.le_of_ble_eq_true rfl, Nat.le_of_ble_eq_true rfl⟩ ?_
        obtain ⟨kx, rfl⟩ := q_18
        exact absurd hc0 kx.1
  have g4 : ∀ (H : AH) (z7 z8 z9 : Option Value) (b : Int32) (c : Int64), (boCool_4 r x (nn y)) = (b, c) → World H → eqx h H (SB 62) → cd2 (okP r x) (rgB 1 300 y) = 0 → PW l9 G mX8_bestCool (mO mX8_bestCool) (fiM G mX8_bestCool NT (fun v h' => cd2 (okP r x) (rgB 1 300 y) = 0 ∧ v = some (.int (boCool_7 r x (nn y)).1) ∧ eqx h h' (SB 62)) (fun E h' => thr [eB, eA] (cd2 (okP r x) (rgB 1 300 y)) E ∧ h' = h)) NT 8 [some (.ref 1), some (.int x), some (.int y), some (.int b), some (.long c), none, some (.int 20), z7, z8, z9] [] (8, 48) H := by
    intro H z7 z8 z9 b c hbc hW he hc0
    refine r_iload dX8_bestCool_8 rfl ?_
    refine r_bipush (30) dX8_bestCool_10 (by decide) ?_
    refine r_icmp_gt 69 dX8_bestCool_12 (by decide) (fun c_12 => ?_) (fun c_12 => ?_)
    · first | exact absurd c_12 (by decide) | exact absurd (by decide) c_12
    · have hsH : StR H 7 r.1 r.2 := hs.eqx he hO.1.1.2.2 (fun j j1 j2 => by unfold SB; omega)
      have he0 : eqx h H (SB 62) := he
      refine r_aload_n dX8_bestCool_15 rfl ?_
      refine r_iload_n dX8_bestCool_16 rfl ?_
      refine r_iload_n dX8_bestCool_17 rfl ?_
      refine q_callX2 (cv_X8_startTrial ml_X8_345) hW kc_1 (by decide) rfl rfl (Nat.le_of_ble_eq_true rfl) dX8_bestCool_18 (c_X8_startTrial hW hsH hO) (fun v_18 h_18 q_18 => ?_) (fun E_18 h_18 q_18 => ?_)
      · obtain ⟨hcd, ⟨n, n1, n2, hy⟩, p, hp, p2, hx, rfl, e0, s0⟩ := q_18
        have hW := e0.W hW
        have ex : nn x = p := by rw [hx]; exact nn_I (by omega)
        have ey : nn y = n := by rw [hy]; exact nn_I (by omega)
        have hI0 : TrI h_18 p (nn (r.1 1)) (T0 r p) := tr_st s0 hO p2
        have hO0 : TrO (nn (r.1 1)) (T0 r p) := hO.2 p p2
        have hE3 := hO.1.2.2.2.2.2
        have hT1 := hO.1.2.1.2.2
        have hE0 : qE (T0 r p).1 < 2 ^ 28 := by show nn (r.1 3) < _; omega
        have ht0 : nn (r.1 1) < 2 ^ 27 := by omega
        have hOp := hO.2 p p2
        have y24 : nn (getP r.1 p 24) ≤ 24 := (hOp.at 24).2.2
        refine r_astore (ls2 := [_, _, _, _, _, _, some _, _, _, _]) dX8_bestCool_21 (by decide) rfl ?_
        refine r_aload dX8_bestCool_23 rfl ?_
        refine q_getR fl_X8_143 hW (kd_dr hp) rfl (kl_3_0 hW (kd_dr hp)) (Nat.succ_ne_zero _) dX8_bestCool_25 ?_
        refine r_iload dX8_bestCool_28 rfl ?_
        refine q_putI fl_X8_236 hW (kk_3_0 (kd_dr hp)) rfl rfl dX8_bestCool_30 ?_
        have hI1 : TrI (sI h_18 (62 + 1 + 6 + 12 * p + 1) 13 20) p (nn (r.1 1)) (stQ (T0 r p) ((upd (getP r.1 p) 13 (20)))) := tr_st' hI0 (by decide) (by decide) y24
        have hO9 : PoOK ((upd (getP r.1 p) 13 (20))) (getG r.2 p) (nn (r.1 1)) (nn (r.1 1)) := hOp.st (fun j hj => pk_un (by omega)) (pk_un (by decide)) (PoB.upd hOp.1 (fun _ => rg_I (k := 20) (by decide) (by decide) (by decide))) (by rw [pk_un (by decide), pk_un (by decide)]; exact hOp.2.1.1) (by rw [pk_un (by decide), pk_un (by decide)]; exact hOp.2.1.2)
        have hO1 : TrO (nn (r.1 1)) (stQ (T0 r p) ((upd (getP r.1 p) 13 (20)))) := hO9
        have e8 : eqx h_18 (sI h_18 (62 + 1 + 6 + 12 * p + 1) 13 20) (SB 62) := eqx.rf.sI (by unfold SB; omega)
        have hW : World (sI h_18 (62 + 1 + 6 + 12 * p + 1) 13 20) := wsI hW
        refine r_aload_n dX8_bestCool_33 rfl ?_
        refine r_aload dX8_bestCool_34 rfl ?_
        refine r_iload_n dX8_bestCool_36 rfl ?_
        refine r_iload_n dX8_bestCool_37 rfl ?_
        refine q_callV3 (cv_X8_tryCost ml_X8_352) hW kc_1 (by decide) rfl ⟨rfl, rfl⟩ rfl (Nat.le_of_ble_eq_true rfl) dX8_bestCool_38 (c_X8_tryCost hW hp hI1 hO1 hx hy n2 ht0 hE0) (fun v_38 h_38 q_38 => ?_)
        obtain ⟨rfl, e1, hI2⟩ := q_38
        have eC : coQ r x (upd (fP r x) 13 (20)) (nn y) = (trT p (nn (r.1 1)) n (stQ (T0 r p) ((upd (getP r.1 p) 13 (20))))).2 2 - (stQ (T0 r p) ((upd (getP r.1 p) 13 (20)))).2 2 := by unfold coQ TQ gP fP; rw [ex, ey]; rfl
        have hW := e1.W hW
        rw [← eC]
        refine r_lstore (ls2 := [_, _, _, _, _, _, _, some _, _, none]) dX8_bestCool_41 (by decide) rfl ?_
        refine r_iload_n dX8_bestCool_43 rfl ?_
        refine r_iconst (-1) dX8_bestCool_44 (by decide) ?_
        refine r_icmp_eq 56 dX8_bestCool_45 (by decide) (fun c_45 => ?_) (fun c_45 => ?_)
        · refine r_iload dX8_bestCool_56 rfl ?_
          refine r_istore_n (ls2 := [_, _, some _, _, _, _, _, _, _, _]) dX8_bestCool_58 (by decide) rfl ?_
          refine r_lload dX8_bestCool_59 rfl ?_
          refine r_lstore (ls2 := [_, _, _, some _, _, none, _, _, _, _]) dX8_bestCool_61 (by decide) rfl ?_
          refine r_iinc (5) (by decide) (ls2 := [_, _, _, _, _, none, _, _, _, _]) dX8_bestCool_63 rfl (by decide) rfl ?_
          rw [show ((20 : Int32) + (5)) = 25 from by decide]
          refine r_goto 8 dX8_bestCool_66 (by decide) ?_
          have e7 := he0.tr (e0.tr (e8.tr e1))
          first
            | exact g5 _ _ _ _ _ _ (boCool_e5.trans (by rw [hbc]; exact bsT_t (Or.inl c_45))) hW e7 hcd
            | exact g5 _ _ _ _ _ _ (boCool_e5.trans (by rw [hbc]; exact bsT_t (Or.inr (hll.mp (Int32.not_le.mp c_53))))) hW e7 hcd
            | exact g5 _ _ _ _ _ _ (boCool_e5.trans (by rw [hbc]; exact bsT_f c_45 (fun q => absurd (hll.mpr q) (Int32.not_lt.mpr c_53)))) hW e7 hcd
        · refine r_lload dX8_bestCool_48 rfl ?_
          refine r_lload dX8_bestCool_50 rfl ?_
          have hll := lg_lt (x := coQ r x (upd (fP r x) 13 (20)) (nn y)) (y := c)
          refine r_lcmp dX8_bestCool_52 ?_
          refine r_if_ge 63 dX8_bestCool_53 (by decide) (fun c_53 => ?_) (fun c_53 => ?_)
          · refine r_iinc (5) (by decide) (ls2 := [_, _, _, _, _, none, _, _, _, _]) dX8_bestCool_63 rfl (by decide) rfl ?_
            rw [show ((20 : Int32) + (5)) = 25 from by decide]
            refine r_goto 8 dX8_bestCool_66 (by decide) ?_
            have e7 := he0.tr (e0.tr (e8.tr e1))
            first
              | exact g5 _ _ _ _ _ _ (boCool_e5.trans (by rw [hbc]; exact bsT_t (Or.inl c_45))) hW e7 hcd
              | exact g5 _ _ _ _ _ _ (boCool_e5.trans (by rw [hbc]; exact bsT_t (Or.inr (hll.mp (Int32.not_le.mp c_53))))) hW e7 hcd
              | exact g5 _ _ _ _ _ _ (boCool_e5.trans (by rw [hbc]; exact bsT_f c_45 (fun q => absurd (hll.mpr q) (Int32.not_lt.mpr c_53)))) hW e7 hcd
          · refine r_iload dX8_bestCool_56 rfl ?_
            refine r_istore_n (ls2 := [_, _, some _, _, _, _, _, _, _, _]) dX8_bestCool_58 (by decide) rfl ?_
            refine r_lload dX8_bestCool_59 rfl ?_
            refine r_lstore (ls2 := [_, _, _, some _, _, none, _, _, _, _]) dX8_bestCool_61 (by decide) rfl ?_
            refine r_iinc (5) (by decide) (ls2 := [_, _, _, _, _, none, _, _, _, _]) dX8_bestCool_63 rfl (by decide) rfl ?_
            rw [show ((20 : Int32) + (5)) = 25 from by decide]
            refine r_goto 8 dX8_bestCool_66 (by decide) ?_
            have e7 := he0.tr (e0.tr (e8.tr e1))
            first
              | exact g5 _ _ _ _ _ _ (boCool_e5.trans (by rw [hbc]; exact bsT_t (Or.inl c_45))) hW e7 hcd
              | exact g5 _ _ _ _ _ _ (boCool_e5.trans (by rw [hbc]; exact bsT_t (Or.inr (hll.mp (Int32.not_le.mp c_53))))) hW e7 hcd
              | exact g5 _ _ _ _ _ _ (boCool_e5.trans (by rw [hbc]; exact bsT_f c_45 (fun q => absurd (hll.mpr q) (Int32.not_lt.mpr c_53)))) hW e7 hcd
      · refine PX.out rfl ⟨Nat.le_of_ble_eq_true rfl, Nat.le_of_ble_eq_true rfl⟩ ?_
        obtain ⟨kx, rfl⟩ := q_18
        exact absurd hc0 kx.1
  have g3 : ∀ (H : AH) (z7 z8 z9 : Option Value) (b : Int32) (c : Int64), (boCool_3 r x (nn y)) = (b, c) → World H → eqx h H (SB 62) → cd2 (okP r x) (rgB 1 300 y) = 0 → PW l9 G mX8_bestCool (mO mX8_bestCool) (fiM G mX8_bestCool NT (fun v h' => cd2 (okP r x) (rgB 1 300 y) = 0 ∧ v = some (.int (boCool_7 r x (nn y)).1) ∧ eqx h h' (SB 62)) (fun E h' => thr [eB, eA] (cd2 (okP r x) (rgB 1 300 y)) E ∧ h' = h)) NT 8 [some (.ref 1), some (.int x), some (.int y), some (.int b), some (.long c), none, some (.int 15), z7, z8, z9] [] (6, 36) H := by
    intro H z7 z8 z9 b c hbc hW he hc0
    refine r_iload dX8_bestCool_8 rfl ?_
    refine r_bipush (30) dX8_bestCool_10 (by decide) ?_
    refine r_icmp_gt 69 dX8_bestCool_12 (by decide) (fun c_12 => ?_) (fun c_12 => ?_)
    · first | exact absurd c_12 (by decide) | exact absurd (by decide) c_12
    · have hsH : StR H 7 r.1 r.2 := hs.eqx he hO.1.1.2.2 (fun j j1 j2 => by unfold SB; omega)
      have he0 : eqx h H (SB 62) := he
      refine r_aload_n dX8_bestCool_15 rfl ?_
      refine r_iload_n dX8_bestCool_16 rfl ?_
      refine r_iload_n dX8_bestCool_17 rfl ?_
      refine q_callX2 (cv_X8_startTrial ml_X8_345) hW kc_1 (by decide) rfl rfl (Nat.le_of_ble_eq_true rfl) dX8_bestCool_18 (c_X8_startTrial hW hsH hO) (fun v_18 h_18 q_18 => ?_) (fun E_18 h_18 q_18 => ?_)
      · obtain ⟨hcd, ⟨n, n1, n2, hy⟩, p, hp, p2, hx, rfl, e0, s0⟩ := q_18
        have hW := e0.W hW
        have ex : nn x = p := by rw [hx]; exact nn_I (by omega)
        have ey : nn y = n := by rw [hy]; exact nn_I (by omega)
        have hI0 : TrI h_18 p (nn (r.1 1)) (T0 r p) := tr_st s0 hO p2
        have hO0 : TrO (nn (r.1 1)) (T0 r p) := hO.2 p p2
        have hE3 := hO.1.2.2.2.2.2
        have hT1 := hO.1.2.1.2.2
        have hE0 : qE (T0 r p).1 < 2 ^ 28 := by show nn (r.1 3) < _; omega
        have ht0 : nn (r.1 1) < 2 ^ 27 := by omega
        have hOp := hO.2 p p2
        have y24 : nn (getP r.1 p 24) ≤ 24 := (hOp.at 24).2.2
        refine r_astore (ls2 := [_, _, _, _, _, _, some _, _, _, _]) dX8_bestCool_21 (by decide) rfl ?_
        refine r_aload dX8_bestCool_23 rfl ?_
        refine q_getR fl_X8_143 hW (kd_dr hp) rfl (kl_3_0 hW (kd_dr hp)) (Nat.succ_ne_zero _) dX8_bestCool_25 ?_
        refine r_iload dX8_bestCool_28 rfl ?_
        refine q_putI fl_X8_236 hW (kk_3_0 (kd_dr hp)) rfl rfl dX8_bestCool_30 ?_
        have hI1 : TrI (sI h_18 (62 + 1 + 6 + 12 * p + 1) 13 15) p (nn (r.1 1)) (stQ (T0 r p) ((upd (getP r.1 p) 13 (15)))) := tr_st' hI0 (by decide) (by decide) y24
        have hO9 : PoOK ((upd (getP r.1 p) 13 (15))) (getG r.2 p) (nn (r.1 1)) (nn (r.1 1)) := hOp.st (fun j hj => pk_un (by omega)) (pk_un (by decide)) (PoB.upd hOp.1 (fun _ => rg_I (k := 15) (by decide) (by decide) (by decide))) (by rw [pk_un (by decide), pk_un (by decide)]; exact hOp.2.1.1) (by rw [pk_un (by decide), pk_un (by decide)]; exact hOp.2.1.2)
        have hO1 : TrO (nn (r.1 1)) (stQ (T0 r p) ((upd (getP r.1 p) 13 (15)))) := hO9
        have e8 : eqx h_18 (sI h_18 (62 + 1 + 6 + 12 * p + 1) 13 15) (SB 62) := eqx.rf.sI (by unfold SB; omega)
        have hW : World (sI h_18 (62 + 1 + 6 + 12 * p + 1) 13 15) := wsI hW
        refine r_aload_n dX8_bestCool_33 rfl ?_
        refine r_aload dX8_bestCool_34 rfl ?_
        refine r_iload_n dX8_bestCool_36 rfl ?_
        refine r_iload_n dX8_bestCool_37 rfl ?_
        refine q_callV3 (cv_X8_tryCost ml_X8_352) hW kc_1 (by decide) rfl ⟨rfl, rfl⟩ rfl (Nat.le_of_ble_eq_true rfl) dX8_bestCool_38 (c_X8_tryCost hW hp hI1 hO1 hx hy n2 ht0 hE0) (fun v_38 h_38 q_38 => ?_)
        obtain ⟨rfl, e1, hI2⟩ := q_38
        have eC : coQ r x (upd (fP r x) 13 (15)) (nn y) = (trT p (nn (r.1 1)) n (stQ (T0 r p) ((upd (getP r.1 p) 13 (15))))).2 2 - (stQ (T0 r p) ((upd (getP r.1 p) 13 (15)))).2 2 := by unfold coQ TQ gP fP; rw [ex, ey]; rfl
        have hW := e1.W hW
        rw [← eC]
        refine r_lstore (ls2 := [_, _, _, _, _, _, _, some _, _, none]) dX8_bestCool_41 (by decide) rfl ?_
        refine r_iload_n dX8_bestCool_43 rfl ?_
        refine r_iconst (-1) dX8_bestCool_44 (by decide) ?_
        refine r_icmp_eq 56 dX8_bestCool_45 (by decide) (fun c_45 => ?_) (fun c_45 => ?_)
        · refine r_iload dX8_bestCool_56 rfl ?_
          refine r_istore_n (ls2 := [_, _, some _, _, _, _, _, _, _, _]) dX8_bestCool_58 (by decide) rfl ?_
          refine r_lload dX8_bestCool_59 rfl ?_
          refine r_lstore (ls2 := [_, _, _, some _, _, none, _, _, _, _]) dX8_bestCool_61 (by decide) rfl ?_
          refine r_iinc (5) (by decide) (ls2 := [_, _, _, _, _, none, _, _, _, _]) dX8_bestCool_63 rfl (by decide) rfl ?_
          rw [show ((15 : Int32) + (5)) = 20 from by decide]
          refine r_goto 8 dX8_bestCool_66 (by decide) ?_
          have e7 := he0.tr (e0.tr (e8.tr e1))
          first
            | exact g4 _ _ _ _ _ _ (boCool_e4.trans (by rw [hbc]; exact bsT_t (Or.inl c_45))) hW e7 hcd
            | exact g4 _ _ _ _ _ _ (boCool_e4.trans (by rw [hbc]; exact bsT_t (Or.inr (hll.mp (Int32.not_le.mp c_53))))) hW e7 hcd
            | exact g4 _ _ _ _ _ _ (boCool_e4.trans (by rw [hbc]; exact bsT_f c_45 (fun q => absurd (hll.mpr q) (Int32.not_lt.mpr c_53)))) hW e7 hcd
        · refine r_lload dX8_bestCool_48 rfl ?_
          refine r_lload dX8_bestCool_50 rfl ?_
          have hll := lg_lt (x := coQ r x (upd (fP r x) 13 (15)) (nn y)) (y := c)
          refine r_lcmp dX8_bestCool_52 ?_
          refine r_if_ge 63 dX8_bestCool_53 (by decide) (fun c_53 => ?_) (fun c_53 => ?_)
          · refine r_iinc (5) (by decide) (ls2 := [_, _, _, _, _, none, _, _, _, _]) dX8_bestCool_63 rfl (by decide) rfl ?_
            rw [show ((15 : Int32) + (5)) = 20 from by decide]
            refine r_goto 8 dX8_bestCool_66 (by decide) ?_
            have e7 := he0.tr (e0.tr (e8.tr e1))
            first
              | exact g4 _ _ _ _ _ _ (boCool_e4.trans (by rw [hbc]; exact bsT_t (Or.inl c_45))) hW e7 hcd
              | exact g4 _ _ _ _ _ _ (boCool_e4.trans (by rw [hbc]; exact bsT_t (Or.inr (hll.mp (Int32.not_le.mp c_53))))) hW e7 hcd
              | exact g4 _ _ _ _ _ _ (boCool_e4.trans (by rw [hbc]; exact bsT_f c_45 (fun q => absurd (hll.mpr q) (Int32.not_lt.mpr c_53)))) hW e7 hcd
          · refine r_iload dX8_bestCool_56 rfl ?_
            refine r_istore_n (ls2 := [_, _, some _, _, _, _, _, _, _, _]) dX8_bestCool_58 (by decide) rfl ?_
            refine r_lload dX8_bestCool_59 rfl ?_
            refine r_lstore (ls2 := [_, _, _, some _, _, none, _, _, _, _]) dX8_bestCool_61 (by decide) rfl ?_
            refine r_iinc (5) (by decide) (ls2 := [_, _, _, _, _, none, _, _, _, _]) dX8_bestCool_63 rfl (by decide) rfl ?_
            rw [show ((15 : Int32) + (5)) = 20 from by decide]
            refine r_goto 8 dX8_bestCool_66 (by decide) ?_
            have e7 := he0.tr (e0.tr (e8.tr e1))
            first
              | exact g4 _ _ _ _ _ _ (boCool_e4.trans (by rw [hbc]; exact bsT_t (Or.inl c_45))) hW e7 hcd
              | exact g4 _ _ _ _ _ _ (boCool_e4.trans (by rw [hbc]; exact bsT_t (Or.inr (hll.mp (Int32.not_le.mp c_53))))) hW e7 hcd
              | exact g4 _ _ _ _ _ _ (boCool_e4.trans (by rw [hbc]; exact bsT_f c_45 (fun q => absurd (hll.mpr q) (Int32.not_lt.mpr c_53)))) hW e7 hcd
      · refine PX.out rfl ⟨Nat.le_of_ble_eq_true rfl, Nat.le_of_ble_eq_true rfl⟩ ?_
        obtain ⟨kx, rfl⟩ := q_18
        exact absurd hc0 kx.1
  have g2 : ∀ (H : AH) (z7 z8 z9 : Option Value) (b : Int32) (c : Int64), (boCool_2 r x (nn y)) = (b, c) → World H → eqx h H (SB 62) → cd2 (okP r x) (rgB 1 300 y) = 0 → PW l9 G mX8_bestCool (mO mX8_bestCool) (fiM G mX8_bestCool NT (fun v h' => cd2 (okP r x) (rgB 1 300 y) = 0 ∧ v = some (.int (boCool_7 r x (nn y)).1) ∧ eqx h h' (SB 62)) (fun E h' => thr [eB, eA] (cd2 (okP r x) (rgB 1 300 y)) E ∧ h' = h)) NT 8 [some (.ref 1), some (.int x), some (.int y), some (.int b), some (.long c), none, some (.int 10), z7, z8, z9] [] (4, 24) H := by
    intro H z7 z8 z9 b c hbc hW he hc0
    refine r_iload dX8_bestCool_8 rfl ?_
    refine r_bipush (30) dX8_bestCool_10 (by decide) ?_
    refine r_icmp_gt 69 dX8_bestCool_12 (by decide) (fun c_12 => ?_) (fun c_12 => ?_)
    · first | exact absurd c_12 (by decide) | exact absurd (by decide) c_12
    · have hsH : StR H 7 r.1 r.2 := hs.eqx he hO.1.1.2.2 (fun j j1 j2 => by unfold SB; omega)
      have he0 : eqx h H (SB 62) := he
      refine r_aload_n dX8_bestCool_15 rfl ?_
      refine r_iload_n dX8_bestCool_16 rfl ?_
      refine r_iload_n dX8_bestCool_17 rfl ?_
      refine q_callX2 (cv_X8_startTrial ml_X8_345) hW kc_1 (by decide) rfl rfl (Nat.le_of_ble_eq_true rfl) dX8_bestCool_18 (c_X8_startTrial hW hsH hO) (fun v_18 h_18 q_18 => ?_) (fun E_18 h_18 q_18 => ?_)
      · obtain ⟨hcd, ⟨n, n1, n2, hy⟩, p, hp, p2, hx, rfl, e0, s0⟩ := q_18
        have hW := e0.W hW
        have ex : nn x = p := by rw [hx]; exact nn_I (by omega)
        have ey : nn y = n := by rw [hy]; exact nn_I (by omega)
        have hI0 : TrI h_18 p (nn (r.1 1)) (T0 r p) := tr_st s0 hO p2
        have hO0 : TrO (nn (r.1 1)) (T0 r p) := hO.2 p p2
        have hE3 := hO.1.2.2.2.2.2
        have hT1 := hO.1.2.1.2.2
        have hE0 : qE (T0 r p).1 < 2 ^ 28 := by show nn (r.1 3) < _; omega
        have ht0 : nn (r.1 1) < 2 ^ 27 := by omega
        have hOp := hO.2 p p2
        have y24 : nn (getP r.1 p 24) ≤ 24 := (hOp.at 24).2.2
        refine r_astore (ls2 := [_, _, _, _, _, _, some _, _, _, _]) dX8_bestCool_21 (by decide) rfl ?_
        refine r_aload dX8_bestCool_23 rfl ?_
        refine q_getR fl_X8_143 hW (kd_dr hp) rfl (kl_3_0 hW (kd_dr hp)) (Nat.succ_ne_zero _) dX8_bestCool_25 ?_
        refine r_iload dX8_bestCool_28 rfl ?_
        refine q_putI fl_X8_236 hW (kk_3_0 (kd_dr hp)) rfl rfl dX8_bestCool_30 ?_
        have hI1 : TrI (sI h_18 (62 + 1 + 6 + 12 * p + 1) 13 10) p (nn (r.1 1)) (stQ (T0 r p) ((upd (getP r.1 p) 13 (10)))) := tr_st' hI0 (by decide) (by decide) y24
        have hO9 : PoOK ((upd (getP r.1 p) 13 (10))) (getG r.2 p) (nn (r.1 1)) (nn (r.1 1)) := hOp.st (fun j hj => pk_un (by omega)) (pk_un (by decide)) (PoB.upd hOp.1 (fun _ => rg_I (k := 10) (by decide) (by decide) (by decide))) (by rw [pk_un (by decide), pk_un (by decide)]; exact hOp.2.1.1) (by rw [pk_un (by decide), pk_un (by decide)]; exact hOp.2.1.2)
        have hO1 : TrO (nn (r.1 1)) (stQ (T0 r p) ((upd (getP r.1 p) 13 (10)))) := hO9
        have e8 : eqx h_18 (sI h_18 (62 + 1 + 6 + 12 * p + 1) 13 10) (SB 62) := eqx.rf.sI (by unfold SB; omega)
        have hW : World (sI h_18 (62 + 1 + 6 + 12 * p + 1) 13 10) := wsI hW
        refine r_aload_n dX8_bestCool_33 rfl ?_
        refine r_aload dX8_bestCool_34 rfl ?_
        refine r_iload_n dX8_bestCool_36 rfl ?_
        refine r_iload_n dX8_bestCool_37 rfl ?_
        refine q_callV3 (cv_X8_tryCost ml_X8_352) hW kc_1 (by decide) rfl ⟨rfl, rfl⟩ rfl (Nat.le_of_ble_eq_true rfl) dX8_bestCool_38 (c_X8_tryCost hW hp hI1 hO1 hx hy n2 ht0 hE0) (fun v_38 h_38 q_38 => ?_)
        obtain ⟨rfl, e1, hI2⟩ := q_38
        have eC : coQ r x (upd (fP r x) 13 (10)) (nn y) = (trT p (nn (r.1 1)) n (stQ (T0 r p) ((upd (getP r.1 p) 13 (10))))).2 2 - (stQ (T0 r p) ((upd (getP r.1 p) 13 (10)))).2 2 := by unfold coQ TQ gP fP; rw [ex, ey]; rfl
        have hW := e1.W hW
        rw [← eC]
        refine r_lstore (ls2 := [_, _, _, _, _, _, _, some _, _, none]) dX8_bestCool_41 (by decide) rfl ?_
        refine r_iload_n dX8_bestCool_43 rfl ?_
        refine r_iconst (-1) dX8_bestCool_44 (by decide) ?_
        refine r_icmp_eq 56 dX8_bestCool_45 (by decide) (fun c_45 => ?_) (fun c_45 => ?_)
        · refine r_iload dX8_bestCool_56 rfl ?_
          refine r_istore_n (ls2 := [_, _, some _, _, _, _, _, _, _, _]) dX8_bestCool_58 (by decide) rfl ?_
          refine r_lload dX8_bestCool_59 rfl ?_
          refine r_lstore (ls2 := [_, _, _, some _, _, none, _, _, _, _]) dX8_bestCool_61 (by decide) rfl ?_
          refine r_iinc (5) (by decide) (ls2 := [_, _, _, _, _, none, _, _, _, _]) dX8_bestCool_63 rfl (by decide) rfl ?_
          rw [show ((10 : Int32) + (5)) = 15 from by decide]
          refine r_goto 8 dX8_bestCool_66 (by decide) ?_
          have e7 := he0.tr (e0.tr (e8.tr e1))
          first
            | exact g3 _ _ _ _ _ _ (boCool_e3.trans (by rw [hbc]; exact bsT_t (Or.inl c_45))) hW e7 hcd
            | exact g3 _ _ _ _ _ _ (boCool_e3.trans (by rw [hbc]; exact bsT_t (Or.inr (hll.mp (Int32.not_le.mp c_53))))) hW e7 hcd
            | exact g3 _ _ _ _ _ _ (boCool_e3.trans (by rw [hbc]; exact bsT_f c_45 (fun q => absurd (hll.mpr q) (Int32.not_lt.mpr c_53)))) hW e7 hcd
        · refine r_lload dX8_bestCool_48 rfl ?_
          refine r_lload dX8_bestCool_50 rfl ?_
          have hll := lg_lt (x := coQ r x (upd (fP r x) 13 (10)) (nn y)) (y := c)
          refine r_lcmp dX8_bestCool_52 ?_
          refine r_if_ge 63 dX8_bestCool_53 (by decide) (fun c_53 => ?_) (fun c_53 => ?_)
          · refine r_iinc (5) (by decide) (ls2 := [_, _, _, _, _, none, _, _, _, _]) dX8_bestCool_63 rfl (by decide) rfl ?_
            rw [show ((10 : Int32) + (5)) = 15 from by decide]
            refine r_goto 8 dX8_bestCool_66 (by decide) ?_
            have e7 := he0.tr (e0.tr (e8.tr e1))
            first
              | exact g3 _ _ _ _ _ _ (boCool_e3.trans (by rw [hbc]; exact bsT_t (Or.inl c_45))) hW e7 hcd
              | exact g3 _ _ _ _ _ _ (boCool_e3.trans (by rw [hbc]; exact bsT_t (Or.inr (hll.mp (Int32.not_le.mp c_53))))) hW e7 hcd
              | exact g3 _ _ _ _ _ _ (boCool_e3.trans (by rw [hbc]; exact bsT_f c_45 (fun q => absurd (hll.mpr q) (Int32.not_lt.mpr c_53)))) hW e7 hcd
          · refine r_iload dX8_bestCool_56 rfl ?_
            refine r_istore_n (ls2 := [_, _, some _, _, _, _, _, _, _, _]) dX8_bestCool_58 (by decide) rfl ?_
            refine r_lload dX8_bestCool_59 rfl ?_
            refine r_lstore (ls2 := [_, _, _, some _, _, none, _, _, _, _]) dX8_bestCool_61 (by decide) rfl ?_
            refine r_iinc (5) (by decide) (ls2 := [_, _, _, _, _, none, _, _, _, _]) dX8_bestCool_63 rfl (by decide) rfl ?_
            rw [show ((10 : Int32) + (5)) = 15 from by decide]
            refine r_goto 8 dX8_bestCool_66 (by decide) ?_
            have e7 := he0.tr (e0.tr (e8.tr e1))
            first
              | exact g3 _ _ _ _ _ _ (boCool_e3.trans (by rw [hbc]; exact bsT_t (Or.inl c_45))) hW e7 hcd
              | exact g3 _ _ _ _ _ _ (boCool_e3.trans (by rw [hbc]; exact bsT_t (Or.inr (hll.mp (Int32.not_le.mp c_53))))) hW e7 hcd
              | exact g3 _ _ _ _ _ _ (boCool_e3.trans (by rw [hbc]; exact bsT_f c_45 (fun q => absurd (hll.mpr q) (Int32.not_lt.mpr c_53)))) hW e7 hcd
      · refine PX.out rfl ⟨Nat.le_of_ble_eq_true rfl, Nat.le_of_ble_eq_true rfl⟩ ?_
        obtain ⟨kx, rfl⟩ := q_18
        exact absurd hc0 kx.1
  have g1 : ∀ (H : AH) (z7 z8 z9 : Option Value) (b : Int32) (c : Int64), (boCool_1 r x (nn y)) = (b, c) → World H → eqx h H (SB 62) → cd2 (okP r x) (rgB 1 300 y) = 0 → PW l9 G mX8_bestCool (mO mX8_bestCool) (fiM G mX8_bestCool NT (fun v h' => cd2 (okP r x) (rgB 1 300 y) = 0 ∧ v = some (.int (boCool_7 r x (nn y)).1) ∧ eqx h h' (SB 62)) (fun E h' => thr [eB, eA] (cd2 (okP r x) (rgB 1 300 y)) E ∧ h' = h)) NT 8 [some (.ref 1), some (.int x), some (.int y), some (.int b), some (.long c), none, some (.int 5), z7, z8, z9] [] (2, 12) H := by
    intro H z7 z8 z9 b c hbc hW he hc0
    refine r_iload dX8_bestCool_8 rfl ?_
    refine r_bipush (30) dX8_bestCool_10 (by decide) ?_
    refine r_icmp_gt 69 dX8_bestCool_12 (by decide) (fun c_12 => ?_) (fun c_12 => ?_)
    · first | exact absurd c_12 (by decide) | exact absurd (by decide) c_12
    · have hsH : StR H 7 r.1 r.2 := hs.eqx he hO.1.1.2.2 (fun j j1 j2 => by unfold SB; omega)
      have he0 : eqx h H (SB 62) := he
      refine r_aload_n dX8_bestCool_15 rfl ?_
      refine r_iload_n dX8_bestCool_16 rfl ?_
      refine r_iload_n dX8_bestCool_17 rfl ?_
      refine q_callX2 (cv_X8_startTrial ml_X8_345) hW kc_1 (by decide) rfl rfl (Nat.le_of_ble_eq_true rfl) dX8_bestCool_18 (c_X8_startTrial hW hsH hO) (fun v_18 h_18 q_18 => ?_) (fun E_18 h_18 q_18 => ?_)
      · obtain ⟨hcd, ⟨n, n1, n2, hy⟩, p, hp, p2, hx, rfl, e0, s0⟩ := q_18
        have hW := e0.W hW
        have ex : nn x = p := by rw [hx]; exact nn_I (by omega)
        have ey : nn y = n := by rw [hy]; exact nn_I (by omega)
        have hI0 : TrI h_18 p (nn (r.1 1)) (T0 r p) := tr_st s0 hO p2
        have hO0 : TrO (nn (r.1 1)) (T0 r p) := hO.2 p p2
        have hE3 := hO.1.2.2.2.2.2
        have hT1 := hO.1.2.1.2.2
        have hE0 : qE (T0 r p).1 < 2 ^ 28 := by show nn (r.1 3) < _; omega
        have ht0 : nn (r.1 1) < 2 ^ 27 := by omega
        have hOp := hO.2 p p2
        have y24 : nn (getP r.1 p 24) ≤ 24 := (hOp.at 24).2.2
        refine r_astore (ls2 := [_, _, _, _, _, _, some _, _, _, _]) dX8_bestCool_21 (by decide) rfl ?_
        refine r_aload dX8_bestCool_23 rfl ?_
        refine q_getR fl_X8_143 hW (kd_dr hp) rfl (kl_3_0 hW (kd_dr hp)) (Nat.succ_ne_zero _) dX8_bestCool_25 ?_
        refine r_iload dX8_bestCool_28 rfl ?_
        refine q_putI fl_X8_236 hW (kk_3_0 (kd_dr hp)) rfl rfl dX8_bestCool_30 ?_
        have hI1 : TrI (sI h_18 (62 + 1 + 6 + 12 * p + 1) 13 5) p (nn (r.1 1)) (stQ (T0 r p) ((upd (getP r.1 p) 13 (5)))) := tr_st' hI0 (by decide) (by decide) y24
        have hO9 : PoOK ((upd (getP r.1 p) 13 (5))) (getG r.2 p) (nn (r.1 1)) (nn (r.1 1)) := hOp.st (fun j hj => pk_un (by omega)) (pk_un (by decide)) (PoB.upd hOp.1 (fun _ => rg_I (k := 5) (by decide) (by decide) (by decide))) (by rw [pk_un (by decide), pk_un (by decide)]; exact hOp.2.1.1) (by rw [pk_un (by decide), pk_un (by decide)]; exact hOp.2.1.2)
        have hO1 : TrO (nn (r.1 1)) (stQ (T0 r p) ((upd (getP r.1 p) 13 (5)))) := hO9
        have e8 : eqx h_18 (sI h_18 (62 + 1 + 6 + 12 * p + 1) 13 5) (SB 62) := eqx.rf.sI (by unfold SB; omega)
        have hW : World (sI h_18 (62 + 1 + 6 + 12 * p + 1) 13 5) := wsI hW
        refine r_aload_n dX8_bestCool_33 rfl ?_
        refine r_aload dX8_bestCool_34 rfl ?_
        refine r_iload_n dX8_bestCool_36 rfl ?_
        refine r_iload_n dX8_bestCool_37 rfl ?_
        refine q_callV3 (cv_X8_tryCost ml_X8_352) hW kc_1 (by decide) rfl ⟨rfl, rfl⟩ rfl (Nat.le_of_ble_eq_true rfl) dX8_bestCool_38 (c_X8_tryCost hW hp hI1 hO1 hx hy n2 ht0 hE0) (fun v_38 h_38 q_38 => ?_)
        obtain ⟨rfl, e1, hI2⟩ := q_38
        have eC : coQ r x (upd (fP r x) 13 (5)) (nn y) = (trT p (nn (r.1 1)) n (stQ (T0 r p) ((upd (getP r.1 p) 13 (5))))).2 2 - (stQ (T0 r p) ((upd (getP r.1 p) 13 (5)))).2 2 := by unfold coQ TQ gP fP; rw [ex, ey]; rfl
        have hW := e1.W hW
        rw [← eC]
        refine r_lstore (ls2 := [_, _, _, _, _, _, _, some _, _, none]) dX8_bestCool_41 (by decide) rfl ?_
        refine r_iload_n dX8_bestCool_43 rfl ?_
        refine r_iconst (-1) dX8_bestCool_44 (by decide) ?_
        refine r_icmp_eq 56 dX8_bestCool_45 (by decide) (fun c_45 => ?_) (fun c_45 => ?_)
        · refine r_iload dX8_bestCool_56 rfl ?_
          refine r_istore_n (ls2 := [_, _, some _, _, _, _, _, _, _, _]) dX8_bestCool_58 (by decide) rfl ?_
          refine r_lload dX8_bestCool_59 rfl ?_
          refine r_lstore (ls2 := [_, _, _, some _, _, none, _, _, _, _]) dX8_bestCool_61 (by decide) rfl ?_
          refine r_iinc (5) (by decide) (ls2 := [_, _, _, _, _, none, _, _, _, _]) dX8_bestCool_63 rfl (by decide) rfl ?_
          rw [show ((5 : Int32) + (5)) = 10 from by decide]
          refine r_goto 8 dX8_bestCool_66 (by decide) ?_
          have e7 := he0.tr (e0.tr (e8.tr e1))
          first
            | exact g2 _ _ _ _ _ _ (boCool_e2.trans (by rw [hbc]; exact bsT_t (Or.inl c_45))) hW e7 hcd
            | exact g2 _ _ _ _ _ _ (boCool_e2.trans (by rw [hbc]; exact bsT_t (Or.inr (hll.mp (Int32.not_le.mp c_53))))) hW e7 hcd
            | exact g2 _ _ _ _ _ _ (boCool_e2.trans (by rw [hbc]; exact bsT_f c_45 (fun q => absurd (hll.mpr q) (Int32.not_lt.mpr c_53)))) hW e7 hcd
        · refine r_lload dX8_bestCool_48 rfl ?_
          refine r_lload dX8_bestCool_50 rfl ?_
          have hll := lg_lt (x := coQ r x (upd (fP r x) 13 (5)) (nn y)) (y := c)
          refine r_lcmp dX8_bestCool_52 ?_
          refine r_if_ge 63 dX8_bestCool_53 (by decide) (fun c_53 => ?_) (fun c_53 => ?_)
          · refine r_iinc (5) (by decide) (ls2 := [_, _, _, _, _, none, _, _, _, _]) dX8_bestCool_63 rfl (by decide) rfl ?_
            rw [show ((5 : Int32) + (5)) = 10 from by decide]
            refine r_goto 8 dX8_bestCool_66 (by decide) ?_
            have e7 := he0.tr (e0.tr (e8.tr e1))
            first
              | exact g2 _ _ _ _ _ _ (boCool_e2.trans (by rw [hbc]; exact bsT_t (Or.inl c_45))) hW e7 hcd
              | exact g2 _ _ _ _ _ _ (boCool_e2.trans (by rw [hbc]; exact bsT_t (Or.inr (hll.mp (Int32.not_le.mp c_53))))) hW e7 hcd
              | exact g2 _ _ _ _ _ _ (boCool_e2.trans (by rw [hbc]; exact bsT_f c_45 (fun q => absurd (hll.mpr q) (Int32.not_lt.mpr c_53)))) hW e7 hcd
          · refine r_iload dX8_bestCool_56 rfl ?_
            refine r_istore_n (ls2 := [_, _, some _, _, _, _, _, _, _, _]) dX8_bestCool_58 (by decide) rfl ?_
            refine r_lload dX8_bestCool_59 rfl ?_
            refine r_lstore (ls2 := [_, _, _, some _, _, none, _, _, _, _]) dX8_bestCool_61 (by decide) rfl ?_
            refine r_iinc (5) (by decide) (ls2 := [_, _, _, _, _, none, _, _, _, _]) dX8_bestCool_63 rfl (by decide) rfl ?_
            rw [show ((5 : Int32) + (5)) = 10 from by decide]
            refine r_goto 8 dX8_bestCool_66 (by decide) ?_
            have e7 := he0.tr (e0.tr (e8.tr e1))
            first
              | exact g2 _ _ _ _ _ _ (boCool_e2.trans (by rw [hbc]; exact bsT_t (Or.inl c_45))) hW e7 hcd
              | exact g2 _ _ _ _ _ _ (boCool_e2.trans (by rw [hbc]; exact bsT_t (Or.inr (hll.mp (Int32.not_le.mp c_53))))) hW e7 hcd
              | exact g2 _ _ _ _ _ _ (boCool_e2.trans (by rw [hbc]; exact bsT_f c_45 (fun q => absurd (hll.mpr q) (Int32.not_lt.mpr c_53)))) hW e7 hcd
      · refine PX.out rfl ⟨Nat.le_of_ble_eq_true rfl, Nat.le_of_ble_eq_true rfl⟩ ?_
        obtain ⟨kx, rfl⟩ := q_18
        exact absurd hc0 kx.1
  refine r_iload dX8_bestCool_8 rfl ?_
  refine r_bipush (30) dX8_bestCool_10 (by decide) ?_
  refine r_icmp_gt 69 dX8_bestCool_12 (by decide) (fun c_12 => ?_) (fun c_12 => ?_)
  · first | exact absurd c_12 (by decide) | exact absurd (by decide) c_12
  · have hsH : StR h 7 r.1 r.2 := hs
    have he0 : eqx h h (SB 62) := eqx.rf
    refine r_aload_n dX8_bestCool_15 rfl ?_
    refine r_iload_n dX8_bestCool_16 rfl ?_
    refine r_iload_n dX8_bestCool_17 rfl ?_
    refine q_callX2 (cv_X8_startTrial ml_X8_345) hW kc_1 (by decide) rfl rfl (Nat.le_of_ble_eq_true rfl) dX8_bestCool_18 (c_X8_startTrial hW hsH hO) (fun v_18 h_18 q_18 => ?_) (fun E_18 h_18 q_18 => ?_)
    · obtain ⟨hcd, ⟨n, n1, n2, hy⟩, p, hp, p2, hx, rfl, e0, s0⟩ := q_18
      have hW := e0.W hW
      have ex : nn x = p := by rw [hx]; exact nn_I (by omega)
      have ey : nn y = n := by rw [hy]; exact nn_I (by omega)
      have hI0 : TrI h_18 p (nn (r.1 1)) (T0 r p) := tr_st s0 hO p2
      have hO0 : TrO (nn (r.1 1)) (T0 r p) := hO.2 p p2
      have hE3 := hO.1.2.2.2.2.2
      have hT1 := hO.1.2.1.2.2
      have hE0 : qE (T0 r p).1 < 2 ^ 28 := by show nn (r.1 3) < _; omega
      have ht0 : nn (r.1 1) < 2 ^ 27 := by omega
      have hOp := hO.2 p p2
      have y24 : nn (getP r.1 p 24) ≤ 24 := (hOp.at 24).2.2
      refine r_astore (ls2 := [_, _, _, _, _, _, some _, _, _, _]) dX8_bestCool_21 (by decide) rfl ?_
      refine r_aload dX8_bestCool_23 rfl ?_
      refine q_getR fl_X8_143 hW (kd_dr hp) rfl (kl_3_0 hW (kd_dr hp)) (Nat.succ_ne_zero _) dX8_bestCool_25 ?_
      refine r_iload dX8_bestCool_28 rfl ?_
      refine q_putI fl_X8_236 hW (kk_3_0 (kd_dr hp)) rfl rfl dX8_bestCool_30 ?_
      have hI1 : TrI (sI h_18 (62 + 1 + 6 + 12 * p + 1) 13 0) p (nn (r.1 1)) (stQ (T0 r p) ((upd (getP r.1 p) 13 (0)))) := tr_st' hI0 (by decide) (by decide) y24
      have hO9 : PoOK ((upd (getP r.1 p) 13 (0))) (getG r.2 p) (nn (r.1 1)) (nn (r.1 1)) := hOp.st (fun j hj => pk_un (by omega)) (pk_un (by decide)) (PoB.upd hOp.1 (fun _ => rg_I (k := 0) (by decide) (by decide) (by decide))) (by rw [pk_un (by decide), pk_un (by decide)]; exact hOp.2.1.1) (by rw [pk_un (by decide), pk_un (by decide)]; exact hOp.2.1.2)
      have hO1 : TrO (nn (r.1 1)) (stQ (T0 r p) ((upd (getP r.1 p) 13 (0)))) := hO9
      have e8 : eqx h_18 (sI h_18 (62 + 1 + 6 + 12 * p + 1) 13 0) (SB 62) := eqx.rf.sI (by unfold SB; omega)
      have hW : World (sI h_18 (62 + 1 + 6 + 12 * p + 1) 13 0) := wsI hW
      refine r_aload_n dX8_bestCool_33 rfl ?_
      refine r_aload dX8_bestCool_34 rfl ?_
      refine r_iload_n dX8_bestCool_36 rfl ?_
      refine r_iload_n dX8_bestCool_37 rfl ?_
      refine q_callV3 (cv_X8_tryCost ml_X8_352) hW kc_1 (by decide) rfl ⟨rfl, rfl⟩ rfl (Nat.le_of_ble_eq_true rfl) dX8_bestCool_38 (c_X8_tryCost hW hp hI1 hO1 hx hy n2 ht0 hE0) (fun v_38 h_38 q_38 => ?_)
      obtain ⟨rfl, e1, hI2⟩ := q_38
      have eC : coQ r x (upd (fP r x) 13 (0)) (nn y) = (trT p (nn (r.1 1)) n (stQ (T0 r p) ((upd (getP r.1 p) 13 (0))))).2 2 - (stQ (T0 r p) ((upd (getP r.1 p) 13 (0)))).2 2 := by unfold coQ TQ gP fP; rw [ex, ey]; rfl
      have hW := e1.W hW
      rw [← eC]
      refine r_lstore (ls2 := [_, _, _, _, _, _, _, some _, _, none]) dX8_bestCool_41 (by decide) rfl ?_
      refine r_iload_n dX8_bestCool_43 rfl ?_
      refine r_iconst (-1) dX8_bestCool_44 (by decide) ?_
      refine r_icmp_eq 56 dX8_bestCool_45 (by decide) (fun c_45 => ?_) (fun c_45 => ?_)
      · refine r_iload dX8_bestCool_56 rfl ?_
        refine r_istore_n (ls2 := [_, _, some _, _, _, _, _, _, _, _]) dX8_bestCool_58 (by decide) rfl ?_
        refine r_lload dX8_bestCool_59 rfl ?_
        refine r_lstore (ls2 := [_, _, _, some _, _, none, _, _, _, _]) dX8_bestCool_61 (by decide) rfl ?_
        refine r_iinc (5) (by decide) (ls2 := [_, _, _, _, _, none, _, _, _, _]) dX8_bestCool_63 rfl (by decide) rfl ?_
        rw [show ((0 : Int32) + (5)) = 5 from by decide]
        refine r_goto 8 dX8_bestCool_66 (by decide) ?_
        have e7 := he0.tr (e0.tr (e8.tr e1))
        exact g1 _ _ _ _ _ _ (boCool_e1.trans (bsT_t (Or.inl rfl))) hW e7 hcd
      · exact absurd rfl c_45
    · refine PX.out rfl ⟨Nat.le_of_ble_eq_true rfl, Nat.le_of_ble_eq_true rfl⟩ ?_
      obtain ⟨kx, rfl⟩ := q_18
      exact ⟨kx, rfl⟩
