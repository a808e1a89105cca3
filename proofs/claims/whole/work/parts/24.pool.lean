theorem c_X1_countReadyL {l9 : Launch} {G : GC} {h : AH} {o : Nat} {l : List Mb} {t : Int32} (hW : World h) (hk : kd o 1) (hm : MemR h o l) : PM l9 G mX1_countReady NT NT [.ref o, .int t] h (fun v h' => v = some (.int (nI (cn (fun k => decide (mRdy l k ≤ t)) l.length))) ∧ h' = h) noX := by
  have e : cn (fun k => decide (aI h (o + 3) k ≤ t)) l.length = cn (fun k => decide (mRdy l k ≤ t)) l.length := cn_cg (fun k hk => by rw [(hm.2.2 k hk).2.2.1])
  rw [← e]
  exact c_X1_countReady hW hk hm.1 hm.2.1
theorem c_X1_placeOfL {l9 : Launch} {G : GC} {h : AH} {o : Nat} {l : List Mb} {x : Int32} (hW : World h) (hk : kd o 1) (hm : MemR h o l) : PM l9 G mX1_placeOf NT NT [.ref o, .int x] h (fun v h' => v = some (.int (oI (fi (fun k => decide (mNum l k = x)) l.length))) ∧ h' = h) noX := by
  have e : fi (fun k => decide (aI h (o + 1) k = x)) l.length = fi (fun k => decide (mNum l k = x)) l.length := fi_cg (fun k hk => by rw [(hm.2.2 k hk).1])
  rw [← e]
  exact c_X1_placeOf hW hk hm.1 hm.2.1
theorem c_X1_isReadyL {l9 : Launch} {G : GC} {h : AH} {o k : Nat} {l : List Mb} {t : Int32} (hW : World h) (hk : kd o 1) (hm : MemR h o l) (hl : k < l.length) : PM l9 G mX1_isReady NT NT [.ref o, .int (nI k), .int t] h (fun v h' => v = some (.int (bI (decide (mRdy l k ≤ t)))) ∧ h' = h) noX := by
  rw [← (hm.2.2 k hl).2.2.1]
  exact c_X1_isReady hW hk (by have := hm.2.1; omega)
theorem c_X1_hasL {l9 : Launch} {G : GC} {h : AH} {o k : Nat} {l : List Mb} (hW : World h) (hk : kd o 1) (hm : MemR h o l) (hl : k < l.length) : PM l9 G mX1_has NT NT [.ref o, .int (nI k)] h (fun v h' => v = some (.int 1) ∧ h' = h) noX := by
  have z := hm.2.1
  have e : decide (0 ≤ nI k ∧ nI k < aI h o 4) = true := by
    rw [hm.1]
    exact decide_eq_true ⟨nI_pos' (by omega), (nI_ltI (by omega) (by omega)).mpr hl⟩
  have e2 : bI (decide (0 ≤ nI k ∧ nI k < aI h o 4)) = 1 := by rw [e]; rfl
  rw [← e2]
  exact c_X1_has hW hk
def DemR (h : AH) (o c : Nat) (f : Nat → Int32) : Prop := (∀ j, j < 24 → j < c → aI h (o + 10) j = f (60 + j)) ∧ aI h o 4 = nI c
def bkz (f : Nat → Int32) (c m : Nat) : Int32 := if m < c ∧ m < 24 then bk f c m else 0
set_option maxRecDepth 100000 in
set_option maxHeartbeats 4000000 in
theorem c_X3_powerAt {l9 : Launch} {G : GC} {h : AH} {o : Nat} {x : Int32} {s : Nat → Int32} {ld : List Int32} {l : List Mb} (hW : World h) (hk : kd o 3) (zs : SetR h (o + 1) s ld) (zm : MemR h (o + 3) l) : PM l9 G mX3_powerAt NT NT [.ref o, .int x] h (fun v h' => v = some (.int (s 2 * nI (cn (fun k => decide (mRdy l k ≤ x)) l.length))) ∧ h' = h) noX := by
  refine PM.of (by decide +kernel) rfl rfl (Nat.le_of_ble_eq_true rfl) (fun hst _ => ?_)
  refine r_aload_n dX3_powerAt_0 rfl ?_
  refine q_getR fl_X3_12 hW hk rfl (kl_3_0 hW hk) (Nat.succ_ne_zero _) dX3_powerAt_1 ?_
  refine q_getI fl_X3_96 hW (kk_3_0 hk) rfl dX3_powerAt_4 ?_
  refine r_aload_n dX3_powerAt_7 rfl ?_
  refine q_getR fl_X3_21 hW hk rfl (kl_3_1 hW hk) (Nat.succ_ne_zero _) dX3_powerAt_8 ?_
  refine r_iload_n dX3_powerAt_11 rfl ?_
  refine q_callV1 (cv_X1_countReady ml_X3_99) hW (kk_3_1 hk) (by decide) rfl ⟨rfl, rfl⟩ rfl (Nat.le_of_ble_eq_true rfl) dX3_powerAt_12 (c_X1_countReadyL hW (kk_3_1 hk) ‹_›) (fun v_12 h_12 q_12 => ?_)
  obtain ⟨rfl, z9⟩ := q_12
  replace z9 := z9.symm
  subst z9
  refine r_imul dX3_powerAt_15 ?_
  refine r_iret dX3_powerAt_16 rfl ⟨Nat.zero_le _, Nat.zero_le _⟩ ?_
  exact ⟨some_int (by rw [zs.1 2 (by decide)]), rfl⟩

set_option maxRecDepth 100000 in
set_option maxHeartbeats 4000000 in
theorem c_X3_demandAhead {l9 : Launch} {G : GC} {h : AH} {o : Nat} {t a : Nat} {pu : Int32} {s : Nat → Int32} {ld : List Int32} (hW : World h) (hk : kd o 3) (zs : SetR h (o + 1) s ld) (zp : aI h o 6 = pu) (ht : t + a < 2 ^ 31) : PM l9 G mX3_demandAhead NT NT [.ref o, .int (nI t), .int (nI a)] h (fun v h' => v = some (.int (ldA ld (t + a) + (if a = 0 then pu else 0))) ∧ h' = h) noX := by
  refine PM.of (by decide +kernel) rfl rfl (Nat.le_of_ble_eq_true rfl) (fun hst _ => ?_)
  refine r_aload_n dX3_demandAhead_0 rfl ?_
  refine q_getR fl_X3_12 hW hk rfl (kl_3_0 hW hk) (Nat.succ_ne_zero _) dX3_demandAhead_1 ?_
  refine r_iload_n dX3_demandAhead_4 rfl ?_
  refine r_iload_n dX3_demandAhead_5 rfl ?_
  refine r_iadd dX3_demandAhead_6 ?_
  rw [nI_add]
  refine q_callV1 (cv_X4_loadAt ml_X3_103) hW (kk_3_0 hk) (by decide) rfl ⟨rfl, rfl⟩ rfl (Nat.le_of_ble_eq_true rfl) dX3_demandAhead_7 (c_X4_loadAt hW (kk_3_0 hk) zs ht) (fun v_7 h_7 q_7 => ?_)
  obtain ⟨rfl, z9⟩ := q_7
  replace z9 := z9.symm
  subst z9
  refine r_iload_n dX3_demandAhead_10 rfl ?_
  refine r_if_ne 21 dX3_demandAhead_11 (by decide) (fun c_11 => ?_) (fun c_11 => ?_)
  · refine r_iconst (0) dX3_demandAhead_21 (by decide) ?_
    refine r_iadd dX3_demandAhead_22 ?_
    refine r_iret dX3_demandAhead_23 rfl ⟨Nat.zero_le _, Nat.zero_le _⟩ ?_
    have e0 : nI a = 0 ↔ a = 0 := nI_eq (b := 0) (by omega) (by decide)
    first
      | (rw [if_neg (fun q => c_11 (e0.mpr q))]; exact ⟨rfl, rfl⟩)
      | (rw [if_pos (e0.mp (Decidable.not_not.mp c_11)), zp]; exact ⟨rfl, rfl⟩)
      | (rw [if_pos (e0.mp c_11), zp]; exact ⟨rfl, rfl⟩)
  · refine r_aload_n dX3_demandAhead_14 rfl ?_
    refine q_getI fl_X3_58 hW hk rfl dX3_demandAhead_15 ?_
    refine r_goto 22 dX3_demandAhead_18 (by decide) ?_
    refine r_iadd dX3_demandAhead_22 ?_
    refine r_iret dX3_demandAhead_23 rfl ⟨Nat.zero_le _, Nat.zero_le _⟩ ?_
    have e0 : nI a = 0 ↔ a = 0 := nI_eq (b := 0) (by omega) (by decide)
    first
      | (rw [if_neg (fun q => c_11 (e0.mpr q))]; exact ⟨rfl, rfl⟩)
      | (rw [if_pos (e0.mp (Decidable.not_not.mp c_11)), zp]; exact ⟨rfl, rfl⟩)
      | (rw [if_pos (e0.mp c_11), zp]; exact ⟨rfl, rfl⟩)

set_option maxRecDepth 100000 in
set_option maxHeartbeats 4000000 in
theorem c_X3_keptDemands {l9 : Launch} {G : GC} {h : AH} {o : Nat} {c : Nat} (hW : World h) (hk : kd o 3) (zc : aI h o 4 = nI c) (hc : c < 2 ^ 31) : PM l9 G mX3_keptDemands NT NT [.ref o] h (fun v h' => v = some (.int (nI (min 24 c))) ∧ h' = h) noX := by
  refine PM.of (by decide +kernel) rfl rfl (Nat.le_of_ble_eq_true rfl) (fun hst _ => ?_)
  refine r_bipush (24) dX3_keptDemands_0 (by decide) ?_
  refine r_aload_n dX3_keptDemands_2 rfl ?_
  refine q_getI fl_X3_49 hW hk rfl dX3_keptDemands_3 ?_
  refine q_min mm_X3_106 rfl (Nat.le_of_ble_eq_true rfl) dX3_keptDemands_6 ?_
  refine r_iret dX3_keptDemands_9 rfl ⟨Nat.zero_le _, Nat.zero_le _⟩ ?_
  exact ⟨some_int (by rw [zc]; exact imn_I (a := 24) (by decide) hc), rfl⟩

set_option maxRecDepth 100000 in
set_option maxHeartbeats 4000000 in
theorem c_X3_demandBack {l9 : Launch} {G : GC} {h : AH} {o : Nat} {c m : Nat} {f : Nat → Int32} (hW : World h) (hk : kd o 3) (zd : DemR h o c f) (hc : c < 2 ^ 30) (hm : m < 2 ^ 31) : PM l9 G mX3_demandBack NT NT [.ref o, .int (nI m)] h (fun v h' => v = some (.int (bkz f c m)) ∧ h' = h) noX := by
  refine PM.of (by decide +kernel) rfl rfl (Nat.le_of_ble_eq_true rfl) (fun hst _ => ?_)
  refine r_iload_n dX3_demandBack_0 rfl ?_
  refine r_if_lt 18 dX3_demandBack_1 (by decide) (fun c_1 => ?_) (fun c_1 => ?_)
  · exact absurd c_1 (nI_pos hm)
  · refine r_iload_n dX3_demandBack_4 rfl ?_
    refine r_aload_n dX3_demandBack_5 rfl ?_
    refine q_getI fl_X3_49 hW hk rfl dX3_demandBack_6 ?_
    refine r_icmp_ge 18 dX3_demandBack_9 (by decide) (fun c_9 => ?_) (fun c_9 => ?_)
    · have zc := zd.2
      have zc2 := zd.2
      refine r_iconst (0) dX3_demandBack_18 (by decide) ?_
      refine r_iret dX3_demandBack_19 rfl ⟨Nat.zero_le _, Nat.zero_le _⟩ ?_
      unfold bkz
      first
        | (rw [if_pos ⟨y1, y2⟩]
           refine ⟨some_int (zd.1 _ ym ?_), rfl⟩
           rcases Nat.lt_or_ge (c - 1 - m) 24 with q | q <;> omega)
        | (rw [if_neg]
           · exact ⟨rfl, rfl⟩
           · intro q
             first
               | exact absurd ((nI_ltI (b := 24) (by omega) (by omega)).mpr q.2) c_15
               | (rw [zc] at c_9; exact absurd c_9 (i_lt.mpr ((nI_ltI (by omega) (by omega)).mpr q.1))))
    · refine r_iload_n dX3_demandBack_12 rfl ?_
      refine r_bipush (24) dX3_demandBack_13 (by decide) ?_
      refine r_icmp_lt 20 dX3_demandBack_15 (by decide) (fun c_15 => ?_) (fun c_15 => ?_)
      · have zc := zd.2
        rw [zc] at c_9
        have y1 : m < c := (nI_ltI (by omega) (by omega)).mp (i_lt.mp c_9)
        have y2 : m < 24 := (nI_ltI (b := 24) (by omega) (by omega)).mp c_15
        have ym : (c - 1 - m) % 24 < 24 := Nat.mod_lt _ (by decide)
        refine r_aload_n dX3_demandBack_20 rfl ?_
        refine q_getR fl_X3_32 hW hk rfl (kl_3_3 hW hk) (Nat.succ_ne_zero _) dX3_demandBack_21 ?_
        refine r_aload_n dX3_demandBack_24 rfl ?_
        refine q_getI fl_X3_49 hW hk rfl dX3_demandBack_25 ?_
        refine r_iconst (1) dX3_demandBack_28 (by decide) ?_
        refine r_isub dX3_demandBack_29 ?_
        refine r_iload_n dX3_demandBack_30 rfl ?_
        refine r_isub dX3_demandBack_31 ?_
        refine r_bipush (24) dX3_demandBack_32 (by decide) ?_
        rw [zc, nI_s1 (by omega), pk_sub (by omega)]
        refine r_irem dX3_demandBack_34 (by decide) ?_
        rw [show (24 : Int32) = nI 24 from rfl, pk_rem (by omega) (by decide) (by decide)]
        refine q_iald hW (kk_3_3 hk) (k := (c - 1 - m) % 24) rfl ym (by decide) dX3_demandBack_35 ?_
        refine r_iret dX3_demandBack_36 rfl ⟨Nat.zero_le _, Nat.zero_le _⟩ ?_
        unfold bkz
        first
          | (rw [if_pos ⟨y1, y2⟩]
             refine ⟨some_int (zd.1 _ ym ?_), rfl⟩
             rcases Nat.lt_or_ge (c - 1 - m) 24 with q | q <;> omega)
          | (rw [if_neg]
             · exact ⟨rfl, rfl⟩
             · intro q
               first
                 | exact absurd ((nI_ltI (b := 24) (by omega) (by omega)).mpr q.2) c_15
                 | (rw [zc] at c_9; exact absurd c_9 (i_lt.mpr ((nI_ltI (by omega) (by omega)).mpr q.1))))
      · have zc := zd.2
        have zc2 := zd.2
        refine r_iconst (0) dX3_demandBack_18 (by decide) ?_
        refine r_iret dX3_demandBack_19 rfl ⟨Nat.zero_le _, Nat.zero_le _⟩ ?_
        unfold bkz
        first
          | (rw [if_pos ⟨y1, y2⟩]
             refine ⟨some_int (zd.1 _ ym ?_), rfl⟩
             rcases Nat.lt_or_ge (c - 1 - m) 24 with q | q <;> omega)
          | (rw [if_neg]
             · exact ⟨rfl, rfl⟩
             · intro q
               first
                 | exact absurd ((nI_ltI (b := 24) (by omega) (by omega)).mpr q.2) c_15
                 | (rw [zc] at c_9; exact absurd c_9 (i_lt.mpr ((nI_ltI (by omega) (by omega)).mpr q.1))))

set_option maxRecDepth 100000 in
set_option maxHeartbeats 4000000 in
theorem c_X3_windowLength {l9 : Launch} {G : GC} {h : AH} {o : Nat} {c : Nat} {s : Nat → Int32} {ld : List Int32} (hW : World h) (hk : kd o 3) (zs : SetR h (o + 1) s ld) (zc : aI h o 4 = nI c) (hc : c < 2 ^ 30) (z5 : rg (s 5) 1 8) : PM l9 G mX3_windowLength NT NT [.ref o] h (fun v h' => v = some (.int (nI (wn s c))) ∧ h' = h) noX := by
  refine PM.of (by decide +kernel) rfl rfl (Nat.le_of_ble_eq_true rfl) (fun hst _ => ?_)
  refine r_aload_n dX3_windowLength_0 rfl ?_
  refine q_getR fl_X3_12 hW hk rfl (kl_3_0 hW hk) (Nat.succ_ne_zero _) dX3_windowLength_1 ?_
  refine q_getI fl_X3_112 hW (kk_3_0 hk) rfl dX3_windowLength_4 ?_
  refine r_aload_n dX3_windowLength_7 rfl ?_
  refine q_getI fl_X3_49 hW hk rfl dX3_windowLength_8 ?_
  refine q_min mm_X3_106 rfl (Nat.le_of_ble_eq_true rfl) dX3_windowLength_11 ?_
  refine r_iret dX3_windowLength_14 rfl ⟨Nat.zero_le _, Nat.zero_le _⟩ ?_
  refine ⟨some_int ?_, rfl⟩
  rw [zc, zs.1 5 (by decide), rg_imn z5 (rg_I (Nat.le_refl c) (Nat.le_refl c) (by omega)) (by decide) (by omega), nn_I (by omega)]
  rfl

theorem wn_le {s : Nat → Int32} {c : Nat} (z5 : rg (s 5) 1 8) : wn s c ≤ 8 ∧ wn s c ≤ c ∧ (0 < c → 0 < wn s c) := by
  have := z5.2.1
  have := z5.2.2
  unfold wn
  omega
theorem bkz_in {f : Nat → Int32} {c m : Nat} (h1 : m < c) (h2 : m < 24) : bkz f c m = bk f c m := if_pos ⟨h1, h2⟩
set_option maxRecDepth 100000 in
set_option maxHeartbeats 4000000 in
theorem c_X3_windowSum {l9 : Launch} {G : GC} {h : AH} {o : Nat} {s : Nat → Int32} {ld : List Int32} {c : Nat} (hW : World h) (hk : kd o 3) (zs : SetR h (o + 1) s ld) (zd : DemR h o c s) (hc : c < 2 ^ 30) (z5 : rg (s 5) 1 8) : PM l9 G mX3_windowSum NT NT [.ref o] h (fun v h' => v = some (.int (ws s c (wn s c))) ∧ h' = h) noX := by
  refine PM.of (by decide +kernel) rfl rfl (Nat.le_of_ble_eq_true rfl) (fun hst _ => ?_)
  have zc := zd.2
  obtain ⟨y8, yc, -⟩ := wn_le (c := c) z5
  refine r_iconst (0) dX3_windowSum_0 (by decide) ?_
  refine r_istore_n (ls2 := [some _, _, _, _]) dX3_windowSum_1 (by decide) rfl ?_
  refine r_aload_n dX3_windowSum_2 rfl ?_
  refine q_callV0 (cv_X3_windowLength ml_X3_115) hW hk (by decide) rfl ⟨rfl, rfl⟩ rfl (Nat.le_of_ble_eq_true rfl) dX3_windowSum_3 (c_X3_windowLength hW hk ‹_› ‹_› (by omega) ‹_›) (fun v_3 h_3 q_3 => ?_)
  obtain ⟨rfl, z9⟩ := q_3
  replace z9 := z9.symm
  subst z9
  refine r_istore_n (ls2 := [_, some _, _, _]) dX3_windowSum_6 (by decide) rfl ?_
  refine r_iconst (0) dX3_windowSum_7 (by decide) ?_
  refine r_istore_n (ls2 := [_, _, some _, _]) dX3_windowSum_8 (by decide) rfl ?_
  refine loopN (P := fun i => i ≤ wn s c → PW l9 G mX3_windowSum _ _ NT 9 [some (.ref o), some (.int (ws s c i)), some (.int (nI (wn s c))), some (.int (nI i))] [] (0, 0) h) (wn s c) (fun i ih hi => ?_) 0 (Nat.zero_le _)
  refine r_iload_n dX3_windowSum_9 rfl ?_
  refine r_iload_n dX3_windowSum_10 rfl ?_
  refine r_icmp_ge 28 dX3_windowSum_11 (by decide) (fun c_11 => ?_) (fun c_11 => ?_)
  · have hge : wn s c = i := by have := (nI_leI (by omega) (by omega)).mp c_11; omega
    refine r_iload_n dX3_windowSum_28 rfl ?_
    refine r_iret dX3_windowSum_29 rfl ⟨Nat.zero_le _, Nat.zero_le _⟩ ?_
    rw [hge]; exact ⟨rfl, rfl⟩
  · have hlt : i < wn s c := (nI_ltI (by omega) (by omega)).mp (i_lt.mp c_11)
    refine r_iload_n dX3_windowSum_14 rfl ?_
    refine r_aload_n dX3_windowSum_15 rfl ?_
    refine r_iload_n dX3_windowSum_16 rfl ?_
    refine q_callV1 (cv_X3_demandBack ml_X3_119) hW hk (by decide) rfl ⟨rfl, rfl⟩ rfl (Nat.le_of_ble_eq_true rfl) dX3_windowSum_17 (c_X3_demandBack hW hk ‹_› (by omega) (by omega)) (fun v_17 h_17 q_17 => ?_)
    obtain ⟨rfl, z9⟩ := q_17
    replace z9 := z9.symm
    subst z9
    rw [bkz_in (by omega) (by omega)]
    refine r_iadd dX3_windowSum_20 ?_
    refine r_istore_n (ls2 := [some _, _, _, _]) dX3_windowSum_21 (by decide) rfl ?_
    refine r_iinc (1) (by decide) (ls2 := [_, _, some _, _]) dX3_windowSum_22 rfl (by decide) rfl ?_
    refine r_goto 9 dX3_windowSum_25 (by decide) ?_
    rw [nI_1]
    exact ih hlt hlt

set_option maxRecDepth 100000 in
set_option maxHeartbeats 4000000 in
theorem c_X3_canSpare {l9 : Launch} {G : GC} {h : AH} {o : Nat} {x : Nat} {s : Nat → Int32} {ld : List Int32} {l : List Mb} (hW : World h) (hk : kd o 3) (zs : SetR h (o + 1) s ld) (zm : MemR h (o + 3) l) (z0 : rg (s 0) 0 20) (hx : x < l.length) : PM l9 G mX3_canSpare NT NT [.ref o, .int (nI x)] h (fun v h' => v = some (.int (bI (decide (nn (s 0) < l.length) && !mPrt l x))) ∧ h' = h) noX := by
  refine PM.of (by decide +kernel) rfl rfl (Nat.le_of_ble_eq_true rfl) (fun hst _ => ?_)
  have zl := zm.2.1
  obtain ⟨mn, m1, m2, m3⟩ := z0.nat
  have zn : nn (s 0) = mn := by rw [m3]; exact nn_I (by omega)
  have y4 := (zm.2.2 x hx).2.2.2
  refine r_aload_n dX3_canSpare_0 rfl ?_
  refine q_getR fl_X3_21 hW hk rfl (kl_3_1 hW hk) (Nat.succ_ne_zero _) dX3_canSpare_1 ?_
  refine q_getI fl_X3_43 hW (kk_3_1 hk) rfl dX3_canSpare_4 ?_
  refine r_aload_n dX3_canSpare_7 rfl ?_
  refine q_getR fl_X3_12 hW hk rfl (kl_3_0 hW hk) (Nat.succ_ne_zero _) dX3_canSpare_8 ?_
  refine q_getI fl_X3_122 hW (kk_3_0 hk) rfl dX3_canSpare_11 ?_
  refine r_icmp_le 44 dX3_canSpare_14 (by decide) (fun c_14 => ?_) (fun c_14 => ?_)
  · refine r_iconst (0) dX3_canSpare_44 (by decide) ?_
    refine r_zret dX3_canSpare_45 rfl (by decide) ⟨Nat.zero_le _, Nat.zero_le _⟩ ?_
    rw [zn]
    first
      | (rw [y4] at c_37; rw [decide_eq_true y1, bI_0.mp c_37]; exact ⟨rfl, rfl⟩)
      | (rw [y4] at c_37; rw [decide_eq_true y1, bI_0.mp (Decidable.not_not.mp c_37)]; exact ⟨rfl, rfl⟩)
      | (rw [y4] at c_37; rw [decide_eq_true y1, bI_1.mp c_37]; exact ⟨rfl, rfl⟩)
      | (rw [zm.1, zs.1 0 (by decide), m3] at c_14
         rw [decide_eq_false (fun q => absurd c_14 (i_lt.mpr ((nI_ltI (by omega) (by omega)).mpr q)))]; exact ⟨rfl, rfl⟩)
  · rw [zm.1, zs.1 0 (by decide), m3] at c_14
    have y1 : mn < l.length := (nI_ltI (by omega) (by omega)).mp (i_lt.mp c_14)
    refine r_aload_n dX3_canSpare_17 rfl ?_
    refine q_getR fl_X3_21 hW hk rfl (kl_3_1 hW hk) (Nat.succ_ne_zero _) dX3_canSpare_18 ?_
    refine r_iload_n dX3_canSpare_21 rfl ?_
    refine q_callV1 (cv_X1_has ml_X3_124) hW (kk_3_1 hk) (by decide) rfl ⟨rfl, rfl⟩ rfl (Nat.le_of_ble_eq_true rfl) dX3_canSpare_22 (c_X1_hasL hW (kk_3_1 hk) ‹_› ‹_›) (fun v_22 h_22 q_22 => ?_)
    obtain ⟨rfl, z9⟩ := q_22
    replace z9 := z9.symm
    subst z9
    refine r_if_eq 44 dX3_canSpare_25 (by decide) (fun c_25 => ?_) (fun c_25 => ?_)
    · exact absurd c_25 (by decide)
    · refine r_aload_n dX3_canSpare_28 rfl ?_
      refine q_getR fl_X3_21 hW hk rfl (kl_3_1 hW hk) (Nat.succ_ne_zero _) dX3_canSpare_29 ?_
      refine q_getR fl_X3_128 hW (kk_3_1 hk) rfl (kl_1_3 hW (kk_3_1 hk)) (Nat.succ_ne_zero _) dX3_canSpare_32 ?_
      refine r_iload_n dX3_canSpare_35 rfl ?_
      refine q_zald hW (kk_1_3 (kk_3_1 hk)) (k := x) rfl (by omega) (by decide) dX3_canSpare_36 ?_
      refine r_if_ne 44 dX3_canSpare_37 (by decide) (fun c_37 => ?_) (fun c_37 => ?_)
      · refine r_iconst (0) dX3_canSpare_44 (by decide) ?_
        refine r_zret dX3_canSpare_45 rfl (by decide) ⟨Nat.zero_le _, Nat.zero_le _⟩ ?_
        rw [zn]
        first
          | (rw [y4] at c_37; rw [decide_eq_true y1, bI_0.mp c_37]; exact ⟨rfl, rfl⟩)
          | (rw [y4] at c_37; rw [decide_eq_true y1, bI_0.mp (Decidable.not_not.mp c_37)]; exact ⟨rfl, rfl⟩)
          | (rw [y4] at c_37; rw [decide_eq_true y1, bI_1.mp c_37]; exact ⟨rfl, rfl⟩)
          | (rw [zm.1, zs.1 0 (by decide), m3] at c_14
             rw [decide_eq_false (fun q => absurd c_14 (i_lt.mpr ((nI_ltI (by omega) (by omega)).mpr q)))]; exact ⟨rfl, rfl⟩)
      · refine r_iconst (1) dX3_canSpare_40 (by decide) ?_
        refine r_goto 45 dX3_canSpare_41 (by decide) ?_
        refine r_zret dX3_canSpare_45 rfl (by decide) ⟨Nat.zero_le _, Nat.zero_le _⟩ ?_
        rw [zn]
        first
          | (rw [y4] at c_37; rw [decide_eq_true y1, bI_0.mp c_37]; exact ⟨rfl, rfl⟩)
          | (rw [y4] at c_37; rw [decide_eq_true y1, bI_0.mp (Decidable.not_not.mp c_37)]; exact ⟨rfl, rfl⟩)
          | (rw [y4] at c_37; rw [decide_eq_true y1, bI_1.mp c_37]; exact ⟨rfl, rfl⟩)
          | (rw [zm.1, zs.1 0 (by decide), m3] at c_14
             rw [decide_eq_false (fun q => absurd c_14 (i_lt.mpr ((nI_ltI (by omega) (by omega)).mpr q)))]; exact ⟨rfl, rfl⟩)

set_option maxRecDepth 100000 in
set_option maxHeartbeats 4000000 in
theorem c_X3_forecastByTrend {l9 : Launch} {G : GC} {h : AH} {o : Nat} {s : Nat → Int32} {ld : List Int32} {c : Nat} (hW : World h) (hk : kd o 3) (zs : SetR h (o + 1) s ld) (zd : DemR h o c s) (hc : c < 2 ^ 30) (z5 : rg (s 5) 1 8) (hc0 : 0 < c) (z7 : s 7 = 1) : PM l9 G mX3_forecastByTrend NT NT [.ref o] h (fun v h' => v = some (.int (foF s c)) ∧ h' = h) noX := by
  refine PM.of (by decide +kernel) rfl rfl (Nat.le_of_ble_eq_true rfl) (fun hst _ => ?_)
  have zc := zd.2
  obtain ⟨y8, yc, y0⟩ := wn_le (c := c) z5
  have y1 := y0 hc0
  have zx : imx 1 (nI (wn s c) - 1) = nI (max 1 (wn s c - 1)) := by rw [nI_s1 (by omega)]; exact imx_I (a := 1) (by decide) (by omega)
  refine r_aload_n dX3_forecastByTrend_0 rfl ?_
  refine r_iconst (0) dX3_forecastByTrend_1 (by decide) ?_
  refine q_callV1 (cv_X3_demandBack ml_X3_119) hW hk (by decide) rfl ⟨rfl, rfl⟩ rfl (Nat.le_of_ble_eq_true rfl) dX3_forecastByTrend_2 (c_X3_demandBack (m := 0) hW hk zd (by omega) (by omega)) (fun v_2 h_2 q_2 => ?_)
  obtain ⟨rfl, z9⟩ := q_2
  replace z9 := z9.symm
  subst z9
  rw [bkz_in (by omega) (by omega)]
  refine r_istore_n (ls2 := [some _, _, _, _]) dX3_forecastByTrend_5 (by decide) rfl ?_
  refine r_aload_n dX3_forecastByTrend_6 rfl ?_
  refine r_aload_n dX3_forecastByTrend_7 rfl ?_
  refine q_callV0 (cv_X3_windowLength ml_X3_115) hW hk (by decide) rfl ⟨rfl, rfl⟩ rfl (Nat.le_of_ble_eq_true rfl) dX3_forecastByTrend_8 (c_X3_windowLength hW hk ‹_› ‹_› (by omega) ‹_›) (fun v_8 h_8 q_8 => ?_)
  obtain ⟨rfl, z9⟩ := q_8
  replace z9 := z9.symm
  subst z9
  refine r_iconst (1) dX3_forecastByTrend_11 (by decide) ?_
  refine r_isub dX3_forecastByTrend_12 ?_
  rw [nI_s1 (by omega)]
  refine q_callV1 (cv_X3_demandBack ml_X3_119) hW hk (by decide) rfl ⟨rfl, rfl⟩ rfl (Nat.le_of_ble_eq_true rfl) dX3_forecastByTrend_13 (c_X3_demandBack hW hk ‹_› (by omega) (by omega)) (fun v_13 h_13 q_13 => ?_)
  obtain ⟨rfl, z9⟩ := q_13
  replace z9 := z9.symm
  subst z9
  rw [bkz_in (by omega) (by omega)]
  refine r_istore_n (ls2 := [_, some _, _, _]) dX3_forecastByTrend_16 (by decide) rfl ?_
  refine r_iconst (1) dX3_forecastByTrend_17 (by decide) ?_
  refine r_aload_n dX3_forecastByTrend_18 rfl ?_
  refine q_callV0 (cv_X3_windowLength ml_X3_115) hW hk (by decide) rfl ⟨rfl, rfl⟩ rfl (Nat.le_of_ble_eq_true rfl) dX3_forecastByTrend_19 (c_X3_windowLength hW hk ‹_› ‹_› (by omega) ‹_›) (fun v_19 h_19 q_19 => ?_)
  obtain ⟨rfl, z9⟩ := q_19
  replace z9 := z9.symm
  subst z9
  refine r_iconst (1) dX3_forecastByTrend_22 (by decide) ?_
  refine r_isub dX3_forecastByTrend_23 ?_
  refine q_max mm_X3_179 rfl (Nat.le_of_ble_eq_true rfl) dX3_forecastByTrend_24 ?_
  refine r_istore_n (ls2 := [_, _, some _, _]) dX3_forecastByTrend_27 (by decide) rfl ?_
  refine r_iconst (0) dX3_forecastByTrend_28 (by decide) ?_
  refine r_iload_n dX3_forecastByTrend_29 rfl ?_
  refine r_iload_n dX3_forecastByTrend_30 rfl ?_
  refine r_iload_n dX3_forecastByTrend_31 rfl ?_
  refine r_isub dX3_forecastByTrend_32 ?_
  refine r_aload_n dX3_forecastByTrend_33 rfl ?_
  refine q_getR fl_X3_12 hW hk rfl (kl_3_0 hW hk) (Nat.succ_ne_zero _) dX3_forecastByTrend_34 ?_
  refine q_getI fl_X3_176 hW (kk_3_0 hk) rfl dX3_forecastByTrend_37 ?_
  refine r_imul dX3_forecastByTrend_40 ?_
  refine r_iload_n dX3_forecastByTrend_41 rfl ?_
  refine r_idiv dX3_forecastByTrend_42 (by rw [zx]; exact nI_ne0 (by omega) (by omega)) ?_
  refine r_iadd dX3_forecastByTrend_43 ?_
  refine q_max mm_X3_179 rfl (Nat.le_of_ble_eq_true rfl) dX3_forecastByTrend_44 ?_
  refine r_iret dX3_forecastByTrend_47 rfl ⟨Nat.zero_le _, Nat.zero_le _⟩ ?_
  refine ⟨some_int ?_, rfl⟩
  rw [zs.1 6 (by decide)]
  unfold foF
  rw [if_pos z7]

set_option maxRecDepth 100000 in
set_option maxHeartbeats 4000000 in
theorem c_X3_forecastBySeason {l9 : Launch} {G : GC} {h : AH} {o : Nat} {s : Nat → Int32} {ld : List Int32} {c : Nat} (hW : World h) (hk : kd o 3) (zs : SetR h (o + 1) s ld) (zd : DemR h o c s) (hc : c < 2 ^ 30) (z5 : rg (s 5) 1 8) (hc0 : 0 < c) (z7 : s 7 = 2) (z6 : rg (s 6) 1 8) (z8 : rg (s 8) 1 24) : PM l9 G mX3_forecastBySeason NT NT [.ref o] h (fun v h' => v = some (.int (foF s c)) ∧ h' = h) noX := by
  refine PM.of (by decide +kernel) rfl rfl (Nat.le_of_ble_eq_true rfl) (fun hst _ => ?_)
  have zc := zd.2
  obtain ⟨ld9, l1, l2, l3⟩ := z6.nat
  obtain ⟨pe, p1, p2, p3⟩ := z8.nat
  have yd : dUp (s 6) (s 8) = nI ((ld9 + pe - 1) / pe) := by rw [l3, p3]; exact dUp_I (by omega) (by omega)
  have ya : ld9 ≤ (ld9 + pe - 1) / pe * pe := by
    have q1 := Nat.div_add_mod (ld9 + pe - 1) pe
    have q2 := Nat.mod_lt (ld9 + pe - 1) (show 0 < pe by omega)
    rw [Nat.mul_comm] at q1; omega
  have yb : (ld9 + pe - 1) / pe * pe < ld9 + pe := by
    have q1 := Nat.div_add_mod (ld9 + pe - 1) pe
    rw [Nat.mul_comm] at q1; omega
  have ye : dUp (s 6) (s 8) * s 8 - s 6 = nI ((ld9 + pe - 1) / pe * pe - ld9) := by rw [yd, p3, pk_mul, l3, pk_sub ya]
  have yf : nn (dUp (s 6) (s 8) * s 8 - s 6) = (ld9 + pe - 1) / pe * pe - ld9 := by rw [ye]; exact nn_I (by omega)
  refine r_aload_n dX3_forecastBySeason_0 rfl ?_
  refine q_getR fl_X3_12 hW hk rfl (kl_3_0 hW hk) (Nat.succ_ne_zero _) dX3_forecastBySeason_1 ?_
  refine q_getI fl_X3_176 hW (kk_3_0 hk) rfl dX3_forecastBySeason_4 ?_
  refine r_aload_n dX3_forecastBySeason_7 rfl ?_
  refine q_getR fl_X3_12 hW hk rfl (kl_3_0 hW hk) (Nat.succ_ne_zero _) dX3_forecastBySeason_8 ?_
  refine q_getI fl_X3_182 hW (kk_3_0 hk) rfl dX3_forecastBySeason_11 ?_
  refine q_callSN2 cn_X3_170 ⟨rfl, rfl⟩ rfl (Nat.le_of_ble_eq_true rfl) dX3_forecastBySeason_14 c_X8_dividedUp (fun v_14 h_14 q_14 => ?_)
  obtain ⟨rfl, z9⟩ := q_14
  replace z9 := z9.symm
  subst z9
  rw [zs.1 6 (by decide), zs.1 8 (by decide)]
  refine r_istore_n (ls2 := [some _, _, _]) dX3_forecastBySeason_17 (by decide) rfl ?_
  refine r_iload_n dX3_forecastBySeason_18 rfl ?_
  refine r_aload_n dX3_forecastBySeason_19 rfl ?_
  refine q_getR fl_X3_12 hW hk rfl (kl_3_0 hW hk) (Nat.succ_ne_zero _) dX3_forecastBySeason_20 ?_
  refine q_getI fl_X3_182 hW (kk_3_0 hk) rfl dX3_forecastBySeason_23 ?_
  refine r_imul dX3_forecastBySeason_26 ?_
  refine r_aload_n dX3_forecastBySeason_27 rfl ?_
  refine q_getR fl_X3_12 hW hk rfl (kl_3_0 hW hk) (Nat.succ_ne_zero _) dX3_forecastBySeason_28 ?_
  refine q_getI fl_X3_176 hW (kk_3_0 hk) rfl dX3_forecastBySeason_31 ?_
  refine r_isub dX3_forecastBySeason_34 ?_
  rw [zs.1 6 (by decide), zs.1 8 (by decide), ye]
  refine r_istore_n (ls2 := [_, some _, _]) dX3_forecastBySeason_35 (by decide) rfl ?_
  refine r_aload_n dX3_forecastBySeason_36 rfl ?_
  refine r_iload_n dX3_forecastBySeason_37 rfl ?_
  refine r_aload_n dX3_forecastBySeason_38 rfl ?_
  refine q_getI fl_X3_49 hW hk rfl dX3_forecastBySeason_39 ?_
  refine r_icmp_ge 49 dX3_forecastBySeason_42 (by decide) (fun c_42 => ?_) (fun c_42 => ?_)
  · refine r_iconst (0) dX3_forecastBySeason_49 (by decide) ?_
    rw [zc] at c_42
    first
      | (have y1 := (nI_ltI (by omega) (by omega)).mp (i_lt.mp c_42))
      | rw [show (0 : Int32) = nI 0 from rfl]
    refine q_callV1 (cv_X3_demandBack ml_X3_119) hW hk (by decide) rfl ⟨rfl, rfl⟩ rfl (Nat.le_of_ble_eq_true rfl) dX3_forecastBySeason_50 (c_X3_demandBack hW hk zd (by omega) (by omega)) (fun v_50 h_50 q_50 => ?_)
    obtain ⟨rfl, z9⟩ := q_50
    replace z9 := z9.symm
    subst z9
    refine r_iret dX3_forecastBySeason_53 rfl ⟨Nat.zero_le _, Nat.zero_le _⟩ ?_
    refine ⟨some_int ?_, rfl⟩
    unfold foF
    rw [if_neg (by rw [z7]; decide), if_pos z7, ye]
    first
      | (rw [if_pos ((nI_ltI (by omega) (by omega)).mpr y1), nn_I (by omega), bkz_in (by omega) (by omega)])
      | (rw [if_neg (Int32.not_lt.mpr c_42), bkz_in (by omega) (by omega)])
  · refine r_iload_n dX3_forecastBySeason_45 rfl ?_
    refine r_goto 50 dX3_forecastBySeason_46 (by decide) ?_
    rw [zc] at c_42
    first
      | (have y1 := (nI_ltI (by omega) (by omega)).mp (i_lt.mp c_42))
      | rw [show (0 : Int32) = nI 0 from rfl]
    refine q_callV1 (cv_X3_demandBack ml_X3_119) hW hk (by decide) rfl ⟨rfl, rfl⟩ rfl (Nat.le_of_ble_eq_true rfl) dX3_forecastBySeason_50 (c_X3_demandBack hW hk zd (by omega) (by omega)) (fun v_50 h_50 q_50 => ?_)
    obtain ⟨rfl, z9⟩ := q_50
    replace z9 := z9.symm
    subst z9
    refine r_iret dX3_forecastBySeason_53 rfl ⟨Nat.zero_le _, Nat.zero_le _⟩ ?_
    refine ⟨some_int ?_, rfl⟩
    unfold foF
    rw [if_neg (by rw [z7]; decide), if_pos z7, ye]
    first
      | (rw [if_pos ((nI_ltI (by omega) (by omega)).mpr y1), nn_I (by omega), bkz_in (by omega) (by omega)])
      | (rw [if_neg (Int32.not_lt.mpr c_42), bkz_in (by omega) (by omega)])
