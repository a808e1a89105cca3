-- the class: what would be
abbrev Tr : Type := Q4 × (Nat → Int64)
def tk1 (p t : Nat) (s : Tr) : Tr := (pasQ p t s.1, pasG (qF s.1) s.2 t)
theorem tk1_1 {p t : Nat} {s : Tr} : (tk1 p t s).1 = pasQ p t s.1 := by simp only [tk1]
theorem tk1_2 {p t : Nat} {s : Tr} : (tk1 p t s).2 = pasG (qF s.1) s.2 t := by simp only [tk1]
/-- n ticks of one pool alone, from time t -/
def trT (p t : Nat) : Nat → Tr → Tr
  | 0, s => s
  | n + 1, s => tk1 p (t + n) (trT p t n s)
theorem trT_s {p t n : Nat} {s : Tr} : trT p t (n + 1) s = tk1 p (t + n) (trT p t n s) := rfl
def TrI (h : AH) (p t : Nat) (s : Tr) : Prop := aI h 62 2 = nI t ∧ SQ h 62 p t t s.1 s.2
def TrO (t : Nat) (s : Tr) : Prop := PoOK (qF s.1) s.2 t t
theorem tk1_ok {p t : Nat} {s : Tr} (h : TrO t s) (ht : t + 1 < 2 ^ 30) : TrO (t + 1) (tk1 p t s) ∧ qE (tk1 p t s).1 ≤ qE s.1 + 5 := by
  unfold TrO at h ⊢
  rw [tk1_1, tk1_2]
  obtain ⟨j1, j2, j3, -⟩ := pas_ok (p := p) (t := t) h ht
  exact ⟨j1, j3⟩
theorem trT_ok {p t : Nat} {s : Tr} (h : TrO t s) : ∀ n, t + n + 1 < 2 ^ 30 → TrO (t + n) (trT p t n s) ∧ qE (trT p t n s).1 ≤ qE s.1 + 5 * n
  | 0, _ => ⟨h, Nat.le_refl _⟩
  | n + 1, hb => by
    obtain ⟨i1, i2⟩ := trT_ok h n (by omega)
    rw [trT_s]
    obtain ⟨j1, j3⟩ := tk1_ok (p := p) i1 (by omega)
    exact ⟨j1, by omega⟩
theorem TrI.ev {h : AH} {p t : Nat} {s : Tr} (hi : TrI h p t s) : aI h (62 + 2) 4 = nI (qE s.1) := hi.2.2.1.1
theorem TrI.po {h : AH} {p t : Nat} {s : Tr} (hi : TrI h p t s) : PoR h (62 + 7 + 12 * p) t t (qF s.1) s.2 := hi.2.2.2
theorem TrI.sz {h : AH} {p t : Nat} {s : Tr} (hi : TrI h p t s) (hO : TrO t s) : aI h (62 + 1 + 6 + 12 * p + 3) 4 = qF s.1 23 := by
  have z : aI h (62 + 7 + 12 * p + 3) 4 = nI (mbs (qF s.1)).length := hi.po.2.1.1
  rw [mbs_len, ← (PoOK.at hO 23).1] at z
  exact z
theorem TrI.tl {h : AH} {p t k : Nat} {s : Tr} (hi : TrI h p t s) (hk : k < 5) : aJ h (62 + 1 + 6 + 12 * p + 8) k = tlG s.2 k := hi.po.2.2.1.1 k hk
theorem tr_st {h : AH} {r : Row} {m p : Nat} (hs : StR h 62 r.1 r.2) (hO : RoOK r.1 r.2 m) (hp : p < nn (r.1 0)) : TrI h p (nn (r.1 1)) (rowQ r.1 p, getG r.2 p) := ⟨hs.2.1.trans hO.1.2.1.1, hs.2.2.1.trans hO.1.2.2.1.1, hs.2.2.2.1, hs.po hp⟩
theorem kd_dr {p : Nat} (hp : p < 4) : kd (62 + 1 + 6 + 12 * p) 3 := kk_14 (i := 63) (kk_6_0 (i := 62) kc_62).1 hp
def T0 (r : Row) (p : Nat) : Tr := (rowQ r.1 p, getG r.2 p)
/-- .. after n ticks -/
def TN (r : Row) (x : Int32) (n : Nat) : Tr := trT (nn x) (nn (r.1 1)) n (T0 r (nn x))
set_option maxRecDepth 100000 in
set_option maxHeartbeats 800000 in
theorem c_X8_startTrial {l9 : Launch} {G : GC} {h : AH} {r : Row} {m : Nat} {x y : Int32} (hW : World h) (hs : StR h 7 r.1 r.2) (hO : RoOK r.1 r.2 m) : PM l9 G mX8_startTrial NT NT [.ref 1, .int x, .int y] h (fun v h' => cd2 (okP r x) (rgB 1 300 y) = 0 ∧ (∃ n, 1 ≤ n ∧ n ≤ 300 ∧ y = nI n) ∧ ∃ p, p < 4 ∧ p < nn (r.1 0) ∧ x = nI p ∧ v = some (.ref (62 + 1 + 6 + 12 * p)) ∧ eqx h h' (SB 62) ∧ StR h' 62 r.1 r.2) (fun E h' => thr [eB, eA] (cd2 (okP r x) (rgB 1 300 y)) E ∧ h' = h) := by
  refine PM.of (by decide +kernel) rfl rfl (Nat.le_of_ble_eq_true rfl) (fun hst _ => ?_)
  refine r_aload_n dX8_startTrial_0 rfl ?_
  refine r_iload_n dX8_startTrial_1 rfl ?_
  refine q_callX1 (cv_X8_existingPool ml_X8_112) hW kc_1 (by decide) rfl rfl (Nat.le_of_ble_eq_true rfl) dX8_startTrial_2 (c_X8_existingPool hW hs hO) (fun v_2 h_2 q_2 => ?_) (fun E_2 h_2 q_2 => ?_)
  · obtain ⟨z9, ko, p, p1, p2, rfl, rfl⟩ := q_2
    replace z9 := z9.symm
    subst z9
    have ex : nn (nI p) = p := nn_I (by omega)
    have hOp := hO.2 p p2
    have hpo : PoR h (14 + 12 * p) (nn (r.1 1)) (nn (r.1 1)) (getP r.1 p) (getG r.2 p) := hs.po p2
    have hpo9 := hpo
    obtain ⟨zs, zm, zt, ⟨zd, zc⟩, zf, z20, z18, z19, z17, z21, z22, z16⟩ := hpo
    have zd0 : DemR h (14 + 12 * p) (nn (r.1 1)) (getP r.1 p) := ⟨zd, zc⟩
    have yc := hOp.2.2.2.2.1.2.1
    refine r_pop dX8_startTrial_5 rfl ?_
    refine r_iload_n dX8_startTrial_6 rfl ?_
    refine r_iconst (1) dX8_startTrial_7 (by decide) ?_
    refine r_sipush (300) dX8_startTrial_8 (by decide) ?_
    refine q_callXS3 (cs_X8_requireRange ml_X8_116) rfl (Nat.le_of_ble_eq_true rfl) dX8_startTrial_11 c_X8_requireRange (fun v_11 h_11 q_11 => ?_) (fun E_11 h_11 q_11 => ?_)
    · obtain ⟨z9, kr, rfl⟩ := q_11
      replace z9 := z9.symm
      subst z9
      have kr9 : rgB 1 300 y = true := decide_eq_true kr
      obtain ⟨n, n1, n2, hy⟩ := rgB_t (a := 1) (b := 300) kr9 (by decide) (by decide)
      refine r_aload_n dX8_startTrial_14 rfl ?_
      refine q_getR fl_X8_41 hW kc_1 rfl (kl_8_7 hW) (by decide) dX8_startTrial_15 ?_
      refine r_aload_n dX8_startTrial_18 rfl ?_
      refine q_getR fl_X8_37 hW kc_1 rfl (kl_8_6 hW) (by decide) dX8_startTrial_19 ?_
      refine q_callV1 (cv_X6_copyFrom ml_X8_72) hW kc_62 (by decide) rfl ⟨rfl, rfl⟩ rfl (Nat.le_of_ble_eq_true rfl) dX8_startTrial_22 (c_X6_copyFrom hW kc_62 kc_7 (by decide) hs hO.1.1 hO.f16) (fun v_22 h_22 q_22 => ?_)
      obtain ⟨rfl, e1, s1⟩ := q_22
      have hW := e1.W hW
      refine r_aload_n dX8_startTrial_25 rfl ?_
      refine q_getR fl_X8_41 hW kc_1 rfl (kl_8_7 hW) (by decide) dX8_startTrial_26 ?_
      refine q_getR fl_X8_164 hW kc_62 rfl (kl_6_0 hW kc_62) (Nat.succ_ne_zero _) dX8_startTrial_29 ?_
      refine r_iload_n dX8_startTrial_32 rfl ?_
      refine q_pald hW (kk_6_0 kc_62) rfl p1 dX8_startTrial_33 ?_
      refine r_aret dX8_startTrial_34 rfl ⟨Nat.le_of_ble_eq_true rfl, Nat.le_of_ble_eq_true rfl⟩ ?_
      exact ⟨cd2_t ko kr9, ⟨n, n1, n2, hy⟩, p, p1, p2, rfl, rfl, e1, s1⟩
    · refine PX.out rfl ⟨Nat.le_of_ble_eq_true rfl, Nat.le_of_ble_eq_true rfl⟩ ?_
      obtain ⟨rfl, kx, rfl⟩ := q_11
      exact ⟨thr_22 ko (decide_eq_false kx), rfl⟩
  · refine PX.out rfl ⟨Nat.le_of_ble_eq_true rfl, Nat.le_of_ble_eq_true rfl⟩ ?_
    obtain ⟨rfl, kx, rfl⟩ := q_2
    exact ⟨thr_21 kx, rfl⟩

set_option maxRecDepth 100000 in
set_option maxHeartbeats 800000 in
theorem c_X8_tryTick {l9 : Launch} {G : GC} {h : AH} {p t : Nat} {s : Tr} (hW : World h) (hp : p < 4) (hi : TrI h p t s) (hO : TrO t s) (ht : t < 2 ^ 28) (hE : qE s.1 < 2 ^ 29) : PM l9 G mX8_tryTick NT NT [.ref 1, .int (nI p)] h (fun v h' => v = none ∧ eqx h h' (SB 62) ∧ TrI h' p (t + 1) (tk1 p t s)) noX := by
  refine PM.of (by decide +kernel) rfl rfl (Nat.le_of_ble_eq_true rfl) (fun hst _ => ?_)
  refine r_aload_n dX8_tryTick_0 rfl ?_
  refine q_getR fl_X8_41 hW kc_1 rfl (kl_8_7 hW) (by decide) dX8_tryTick_1 ?_
  refine r_iload_n dX8_tryTick_4 rfl ?_
  refine q_callV1 (cv_X6_passPhases ml_X8_368) hW kc_62 (by decide) rfl ⟨rfl, rfl⟩ rfl (Nat.le_of_ble_eq_true rfl) dX8_tryTick_5 (c_X6_passPhases hW kc_62 hp hi.1 hi.2 hO (by omega) (by omega)) (fun v_5 h_5 q_5 => ?_)
  obtain ⟨rfl, e1, e3, q1⟩ := q_5
  have hW := e1.W hW
  refine r_aload_n dX8_tryTick_8 rfl ?_
  refine q_getR fl_X8_41 hW kc_1 rfl (kl_8_7 hW) (by decide) dX8_tryTick_9 ?_
  refine r_dup dX8_tryTick_12 rfl ?_
  refine q_getI fl_X8_86 hW kc_62 rfl dX8_tryTick_13 ?_
  rw [show aI h_5 62 2 = nI t from (e3 2 (by decide)).trans hi.1]
  refine r_iconst (1) dX8_tryTick_16 (by decide) ?_
  refine r_iadd dX8_tryTick_17 ?_
  rw [nI_1]
  refine q_putI fl_X8_86 hW kc_62 rfl rfl dX8_tryTick_18 ?_
  refine r_vret dX8_tryTick_21 rfl ⟨Nat.zero_le _, Nat.zero_le _⟩ ?_
  have e2 : eqx h_5 (sI h_5 62 2 (nI (t + 1))) (fun i => i = 62) := eqx.rf.sI rfl
  refine ⟨rfl, (e1.wk (fun i q => SS_SB hp i q)).tr (e2.wk (fun i q => by (try unfold SB); omega)), ?_⟩
  unfold TrI
  rw [tk1_1, tk1_2]
  refine ⟨sI_s, ?_, ?_, ?_⟩
  · rw [sI_k (by decide)]; exact q1.1
  · exact q1.2.1.eqx e2 (fun i h1 h2 => by omega)
  · exact q1.2.2.eqx e2 (fun i h1 h2 => by omega)

set_option maxRecDepth 100000 in
set_option maxHeartbeats 800000 in
theorem c_X8_tryTicks {l9 : Launch} {G : GC} {h : AH} {p t n : Nat} {s : Tr} {x y : Int32} (hW : World h) (hp : p < 4) (hi : TrI h p t s) (hO : TrO t s) (hx : x = nI p) (hy : y = nI n) (hn : n ≤ 300) (ht : t < 2 ^ 27) (hE : qE s.1 < 2 ^ 28) : PM l9 G mX8_tryTicks NT NT [.ref 1, .int x, .int y] h (fun v h' => v = none ∧ eqx h h' (SB 62) ∧ TrI h' p (t + n) (trT p t n s)) noX := by
  refine PM.of (by decide +kernel) rfl rfl (Nat.le_of_ble_eq_true rfl) (fun hst _ => ?_)
  subst hx
  refine r_iconst (0) dX8_tryTicks_0 (by decide) ?_
  refine r_istore_n (ls2 := [_, _, some _, _]) dX8_tryTicks_1 (by decide) rfl ?_
  refine loopN (P := fun i => ∀ (H : AH), i ≤ n → World H → eqx h H (SB 62) → TrI H p (t + i) (trT p t i s) → PW l9 G mX8_tryTicks _ _ NT 2 [some (.ref 1), some (.int (nI p)), some (.int y), some (.int (nI i))] [] _ H) n (fun i ih H  hin hW he hI => ?_) 0 h (Nat.zero_le _) hW eqx.rf hi
  obtain ⟨o1, o2⟩ := trT_ok (p := p) hO i (by omega)
  refine r_iload_n dX8_tryTicks_2 rfl ?_
  refine r_iload_n dX8_tryTicks_3 rfl ?_
  refine r_icmp_ge 18 dX8_tryTicks_4 (by decide) (fun c_4 => ?_) (fun c_4 => ?_)
  · have hge : n = i := by
      have c9 := c_4
      rw [hy] at c9
      have := (nI_leI (by omega) (by omega)).mp c9
      omega
    subst hge
    refine r_vret dX8_tryTicks_18 rfl ⟨Nat.zero_le _, Nat.zero_le _⟩ ?_
    exact ⟨rfl, he, hI⟩
  · have hlt : i < n := by
      have c9 := c_4
      rw [hy] at c9
      exact (nI_ltI (by omega) (by omega)).mp (i_lt.mp c9)
    refine r_aload_n dX8_tryTicks_7 rfl ?_
    refine r_iload_n dX8_tryTicks_8 rfl ?_
    refine q_callV1 (cv_X8_tryTick ml_X8_356) hW kc_1 (by decide) rfl ⟨rfl, rfl⟩ rfl (Nat.le_of_ble_eq_true rfl) dX8_tryTicks_9 (c_X8_tryTick hW hp hI o1 (by omega) (by omega)) (fun v_9 h_9 q_9 => ?_)
    obtain ⟨rfl, e1, hI2⟩ := q_9
    have hW := e1.W hW
    have hI2' : TrI h_9 p (t + (i + 1)) (trT p t (i + 1) s) := by rw [trT_s]; exact hI2
    refine r_iinc (1) (by decide) (ls2 := [_, _, some _, _]) dX8_tryTicks_12 rfl (by decide) rfl ?_
    refine r_goto 2 dX8_tryTicks_15 (by decide) ?_
    rw [nI_1]
    exact ih hlt _ hlt hW (he.tr e1) hI2'

set_option maxRecDepth 100000 in
set_option maxHeartbeats 800000 in
theorem c_X8_tryCost {l9 : Launch} {G : GC} {h : AH} {p t n : Nat} {s : Tr} {x y : Int32} (hW : World h) (hp : p < 4) (hi : TrI h p t s) (hO : TrO t s) (hx : x = nI p) (hy : y = nI n) (hn : n ≤ 300) (ht : t < 2 ^ 27) (hE : qE s.1 < 2 ^ 28) : PM l9 G mX8_tryCost NT NT [.ref 1, .ref (62 + 1 + 6 + 12 * p), .int x, .int y] h (fun v h' => v = some (.long ((trT p t n s).2 2 - s.2 2)) ∧ eqx h h' (SB 62) ∧ TrI h' p (t + n) (trT p t n s)) noX := by
  refine PM.of (by decide +kernel) rfl rfl (Nat.le_of_ble_eq_true rfl) (fun hst _ => ?_)
  subst hx
  refine r_aload_n dX8_tryCost_0 rfl ?_
  refine q_getR fl_X8_208 hW (kd_dr hp) rfl (kl_3_2 hW (kd_dr hp)) (Nat.succ_ne_zero _) dX8_tryCost_1 ?_
  refine q_getJ fl_X8_250 hW (kk_3_2 (kd_dr hp)) rfl dX8_tryCost_4 ?_
  rw [show aJ h (62 + 1 + 6 + 12 * p + 8) 2 = s.2 2 from hi.tl (by decide)]
  refine r_lstore (ls2 := [_, _, _, some _, _, none, _]) dX8_tryCost_7 (by decide) rfl ?_
  refine r_iconst (0) dX8_tryCost_9 (by decide) ?_
  refine r_istore (ls2 := [_, _, _, _, _, none, _]) dX8_tryCost_10 (by decide) rfl ?_
  refine loopN (P := fun i => ∀ (H : AH), i ≤ n → World H → eqx h H (SB 62) → TrI H p (t + i) (trT p t i s) → PW l9 G mX8_tryCost _ _ NT 12 [some (.ref 1), some (.ref (62 + 1 + 6 + 12 * p)), some (.int (nI p)), some (.int y), some (.long (s.2 2)), none, some (.int (nI i))] [] _ H) n (fun i ih H  hin hW he hI => ?_) 0 h (Nat.zero_le _) hW eqx.rf hi
  obtain ⟨o1, o2⟩ := trT_ok (p := p) hO i (by omega)
  refine r_iload dX8_tryCost_12 rfl ?_
  refine r_iload_n dX8_tryCost_14 rfl ?_
  refine r_icmp_ge 29 dX8_tryCost_15 (by decide) (fun c_15 => ?_) (fun c_15 => ?_)
  · have hge : n = i := by
      have c9 := c_15
      rw [hy] at c9
      have := (nI_leI (by omega) (by omega)).mp c9
      omega
    subst hge
    refine r_aload_n dX8_tryCost_29 rfl ?_
    refine q_getR fl_X8_208 hW (kd_dr hp) rfl (kl_3_2 hW (kd_dr hp)) (Nat.succ_ne_zero _) dX8_tryCost_30 ?_
    refine q_getJ fl_X8_250 hW (kk_3_2 (kd_dr hp)) rfl dX8_tryCost_33 ?_
    rw [show aJ H (62 + 1 + 6 + 12 * p + 8) 2 = (trT p t n s).2 2 from hI.tl (by decide)]
    refine r_lload dX8_tryCost_36 rfl ?_
    refine r_lsub dX8_tryCost_38 ?_
    refine r_lret dX8_tryCost_39 rfl ⟨Nat.zero_le _, Nat.zero_le _⟩ ?_
    exact ⟨rfl, he, hI⟩
  · have hlt : i < n := by
      have c9 := c_15
      rw [hy] at c9
      exact (nI_ltI (by omega) (by omega)).mp (i_lt.mp c9)
    refine r_aload_n dX8_tryCost_18 rfl ?_
    refine r_iload_n dX8_tryCost_19 rfl ?_
    refine q_callV1 (cv_X8_tryTick ml_X8_356) hW kc_1 (by decide) rfl ⟨rfl, rfl⟩ rfl (Nat.le_of_ble_eq_true rfl) dX8_tryCost_20 (c_X8_tryTick hW hp hI o1 (by omega) (by omega)) (fun v_20 h_20 q_20 => ?_)
    obtain ⟨rfl, e1, hI2⟩ := q_20
    have hW := e1.W hW
    have hI2' : TrI h_20 p (t + (i + 1)) (trT p t (i + 1) s) := by rw [trT_s]; exact hI2
    refine r_iinc (1) (by decide) (ls2 := [_, _, _, _, _, none, _]) dX8_tryCost_23 rfl (by decide) rfl ?_
    refine r_goto 12 dX8_tryCost_26 (by decide) ?_
    rw [nI_1]
    exact ih hlt _ hlt hW (he.tr e1) hI2'
