-- the reference: questions of one pool
theorem bn0 {b : Bool} (h : bI (!b) = 0) : b = true := by cases b with | true => rfl | false => exact absurd h (by decide)
theorem bn1 {b : Bool} (h : ¬ bI (!b) = 0) : b = false := by cases b with | false => rfl | true => exact absurd rfl h
theorem cd1_n {a : Bool} (h : a = false) : ¬ cd1 a = 0 := by rw [h]; decide
theorem cd2_n1 {a b : Bool} (h : a = false) : ¬ cd2 a b = 0 := by rw [h]; exact (by decide : ¬ (1 : Nat) = 0)
theorem cd2_n2 {a b : Bool} (h : a = true) (h2 : b = false) : ¬ cd2 a b = 0 := by rw [h, h2]; exact (by decide : ¬ (2 : Nat) = 0)
theorem i_sub3 {a b t : Int32} : a - (t - b) = b + a - t := by
  rw [Int32.sub_eq_add_neg a, Int32.neg_sub, Int32.sub_eq_add_neg b, ← Int32.add_assoc, Int32.add_comm a b, ← Int32.sub_eq_add_neg]
set_option maxRecDepth 100000 in
set_option maxHeartbeats 4000000 in
theorem c_X9_measured {l9 : Launch} {G : GC} {h : AH} {w : Nat → Int32} {v9 : Nat → Int64} {p : Nat} {f : Nat → Int32} {g : Nat → Int64} {c u : Nat} {x : Int32} (hW : World h) (hm : PV h w v9 p f g) (hp : p < 4) (hO : PoOK f g c u) (hx : x = nI p) : PM l9 G mX9_measured NT NT [.ref 723, .int x] h (fun v h' => v = some (.int (mzF f c (w 1))) ∧ h' = h) noX := by
  refine PM.of (by decide +kernel) rfl rfl (Nat.le_of_ble_eq_true rfl) (fun hst _ => ?_)
  have yc := hO.2.2.2.2.1.2.1
  obtain ⟨y8, yw, yw0⟩ := wn_le (c := c) (hO.at 5)
  have ew : wn f c = 0 ↔ c = 0 := ⟨fun q => by omega, fun q => by omega⟩
  have ez : nI (wn f c) = 0 ↔ wn f c = 0 := nI_eq (b := 0) (by omega) (by decide)
  refine r_aload_n dX9_measured_0 rfl ?_
  refine r_iload_n dX9_measured_1 rfl ?_
  refine q_callV1 (cv_X9_windowOf ml_X9_111) hW kc_723 (by decide) rfl ⟨rfl, rfl⟩ rfl (Nat.le_of_ble_eq_true rfl) dX9_measured_2 (c_X9_windowOf hW hm hp hO hx) (fun v_2 h_2 q_2 => ?_)
  obtain ⟨rfl, z9⟩ := q_2
  replace z9 := z9.symm
  subst z9
  refine r_istore_n (ls2 := [_, some _, _, _]) dX9_measured_5 (by decide) rfl ?_
  refine r_iload_n dX9_measured_6 rfl ?_
  refine r_if_ne 12 dX9_measured_7 (by decide) (fun c_7 => ?_) (fun c_7 => ?_)
  · refine r_aload_n dX9_measured_12 rfl ?_
    refine r_iload_n dX9_measured_13 rfl ?_
    refine q_callV1 (cv_X9_power ml_X9_129) hW kc_723 (by decide) rfl ⟨rfl, rfl⟩ rfl (Nat.le_of_ble_eq_true rfl) dX9_measured_14 (c_X9_power hW hm hp hO hx) (fun v_14 h_14 q_14 => ?_)
    obtain ⟨rfl, z9⟩ := q_14
    replace z9 := z9.symm
    subst z9
    refine r_istore_n (ls2 := [_, _, some _, _]) dX9_measured_17 (by decide) rfl ?_
    refine r_iload_n dX9_measured_18 rfl ?_
    refine r_if_ne 28 dX9_measured_19 (by decide) (fun c_19 => ?_) (fun c_19 => ?_)
    · obtain ⟨P, P1, P2, P3⟩ := (pwF_rg (x := w 1) hO).nat
      have yP : P ≠ 0 := fun q => c_19 (by rw [P3, q]; rfl)
      have yW : wn f c ≠ 0 := fun q => c_7 (ez.mpr q)
      refine r_sipush (999) dX9_measured_28 (by decide) ?_
      refine r_bipush (100) dX9_measured_31 (by decide) ?_
      refine r_aload_n dX9_measured_33 rfl ?_
      refine r_iload_n dX9_measured_34 rfl ?_
      refine q_callV1 (cv_X9_windowSum ml_X9_117) hW kc_723 (by decide) rfl ⟨rfl, rfl⟩ rfl (Nat.le_of_ble_eq_true rfl) dX9_measured_35 (c_X9_windowSum hW hm hp hO hx) (fun v_35 h_35 q_35 => ?_)
      obtain ⟨rfl, z9⟩ := q_35
      replace z9 := z9.symm
      subst z9
      refine r_imul dX9_measured_38 ?_
      refine r_iload_n dX9_measured_39 rfl ?_
      refine r_iload_n dX9_measured_40 rfl ?_
      refine r_imul dX9_measured_41 ?_
      refine r_idiv dX9_measured_42 (by
  rw [P3, pk_mul]
  have q2 : wn f c * P ≤ 8 * 2000 := Nat.mul_le_mul y8 P2
  exact fun q => absurd ((nI_eq (b := 0) (by omega) (by decide)).mp q) (Nat.mul_ne_zero yW yP)) ?_
      refine q_min mm_X9_106 rfl (Nat.le_of_ble_eq_true rfl) dX9_measured_43 ?_
      refine r_iret dX9_measured_46 rfl ⟨Nat.zero_le _, Nat.zero_le _⟩ ?_
      refine ⟨some_int ?_, rfl⟩
      unfold mzF
      first
        | rw [if_pos (ew.mp (ez.mp c_7))]
        | rw [if_neg (fun q => c_7 (ez.mpr (ew.mpr q))), if_pos c_19]
        | rw [if_neg (fun q => c_7 (ez.mpr (ew.mpr q))), if_neg c_19]
    · refine r_sipush (999) dX9_measured_22 (by decide) ?_
      refine r_goto 46 dX9_measured_25 (by decide) ?_
      refine r_iret dX9_measured_46 rfl ⟨Nat.zero_le _, Nat.zero_le _⟩ ?_
      refine ⟨some_int ?_, rfl⟩
      unfold mzF
      first
        | rw [if_pos (ew.mp (ez.mp c_7))]
        | rw [if_neg (fun q => c_7 (ez.mpr (ew.mpr q))), if_pos c_19]
        | rw [if_neg (fun q => c_7 (ez.mpr (ew.mpr q))), if_neg c_19]
  · refine r_iconst (0) dX9_measured_10 (by decide) ?_
    refine r_iret dX9_measured_11 rfl ⟨Nat.zero_le _, Nat.zero_le _⟩ ?_
    refine ⟨some_int ?_, rfl⟩
    unfold mzF
    first
      | rw [if_pos (ew.mp (ez.mp c_7))]
      | rw [if_neg (fun q => c_7 (ez.mpr (ew.mpr q))), if_pos c_19]
      | rw [if_neg (fun q => c_7 (ez.mpr (ew.mpr q))), if_neg c_19]

set_option maxRecDepth 100000 in
set_option maxHeartbeats 4000000 in
theorem c_X9_knownDemands {l9 : Launch} {G : GC} {h : AH} {w : Nat → Int32} {v9 : Nat → Int64} {p : Nat} {f : Nat → Int32} {g : Nat → Int64} {c u : Nat} {x : Int32} (hW : World h) (hm : PV h w v9 p f g) (hp : p < 4) (hO : PoOK f g c u) (hx : x = nI p) : PM l9 G mX9_knownDemands NT NT [.ref 723, .int x] h (fun v h' => v = some (.int (nI (min 24 c))) ∧ h' = h) noX := by
  refine PM.of (by decide +kernel) rfl rfl (Nat.le_of_ble_eq_true rfl) (fun hst _ => ?_)
  have yc := hO.2.2.2.2.1.2.1
  refine r_bipush (24) dX9_knownDemands_0 (by decide) ?_
  refine r_aload_n dX9_knownDemands_2 rfl ?_
  refine r_iload_n dX9_knownDemands_3 rfl ?_
  refine r_bipush (29) dX9_knownDemands_4 (by decide) ?_
  refine q_callV2 (cv_X9_of ml_X9_81) hW kc_723 (by decide) rfl ⟨rfl, rfl⟩ rfl (Nat.le_of_ble_eq_true rfl) dX9_knownDemands_6 (c_X9_of hW hm hp hx kn_29 (by omega)) (fun v_6 h_6 q_6 => ?_)
  obtain ⟨rfl, z9⟩ := q_6
  replace z9 := z9.symm
  subst z9
  refine q_min mm_X9_106 rfl (Nat.le_of_ble_eq_true rfl) dX9_knownDemands_9 ?_
  rw [hO.2.2.2.2.1.1, show imn 24 (nI c) = nI (min 24 c) from imn_I (a := 24) (by decide) (by omega)]
  refine r_iret dX9_knownDemands_12 rfl ⟨Nat.zero_le _, Nat.zero_le _⟩ ?_
  exact ⟨rfl, rfl⟩

set_option maxRecDepth 100000 in
set_option maxHeartbeats 4000000 in
theorem c_X9_within {l9 : Launch} {G : GC} {h : AH} {w : Nat → Int32} {v9 : Nat → Int64} {p : Nat} {f : Nat → Int32} {g : Nat → Int64} {c u : Nat} {x y z : Int32} (hW : World h) (hm : PV h w v9 p f g) (hp : p < 4) (hO : PoOK f g c u) (hx : x = nI p) : PM l9 G mX9_within NT NT [.ref 723, .int x, .int y, .int z] h (fun v h' => v = some (.int (nI (cdN f c y z))) ∧ h' = h) noX := by
  refine PM.of (by decide +kernel) rfl rfl (Nat.le_of_ble_eq_true rfl) (fun hst _ => ?_)
  have yc := hO.2.2.2.2.1.2.1
  have y24 : min 24 c ≤ 24 := Nat.min_le_left _ _
  unfold cdN
  refine r_iconst (0) dX9_within_0 (by decide) ?_
  refine r_istore (ls2 := [_, _, _, some _, _, _]) dX9_within_1 (by decide) rfl ?_
  refine r_iconst (0) dX9_within_3 (by decide) ?_
  refine r_istore (ls2 := [_, _, _, _, some _, _]) dX9_within_4 (by decide) rfl ?_
  refine loopN (P := fun i => i ≤ min 24 c → PW l9 G mX9_within _ _ NT 6 [some (.ref 723), some (.int x), some (.int y), some (.int z), some (.int (nI (cn (cdB f c y z) i))), some (.int (nI i))] [] (0, 0) h) (min 24 c) (fun i ih hi => ?_) 0 (Nat.zero_le _)
  refine r_iload dX9_within_6 rfl ?_
  refine r_aload_n dX9_within_8 rfl ?_
  refine r_iload_n dX9_within_9 rfl ?_
  refine q_callV1 (cv_X9_knownDemands ml_X9_324) hW kc_723 (by decide) rfl ⟨rfl, rfl⟩ rfl (Nat.le_of_ble_eq_true rfl) dX9_within_10 (c_X9_knownDemands hW hm hp hO hx) (fun v_10 h_10 q_10 => ?_)
  obtain ⟨rfl, z9⟩ := q_10
  replace z9 := z9.symm
  subst z9
  refine r_icmp_ge 47 dX9_within_13 (by decide) (fun c_13 => ?_) (fun c_13 => ?_)
  · have hge : min 24 c = i := by have := (nI_leI (by omega) (by omega)).mp c_13; omega
    refine r_iload dX9_within_47 rfl ?_
    refine r_iret dX9_within_49 rfl ⟨Nat.zero_le _, Nat.zero_le _⟩ ?_
    rw [hge]; exact ⟨rfl, rfl⟩
  · have hlt : i < min 24 c := (nI_ltI (by omega) (by omega)).mp (i_lt.mp c_13)
    refine r_iload dX9_within_16 rfl ?_
    refine r_aload_n dX9_within_18 rfl ?_
    refine r_iload_n dX9_within_19 rfl ?_
    refine r_iload dX9_within_20 rfl ?_
    refine q_callV2 (cv_X9_back ml_X9_114) hW kc_723 (by decide) rfl ⟨rfl, rfl⟩ rfl (Nat.le_of_ble_eq_true rfl) dX9_within_22 (c_X9_back hW hm hp hO hx rfl (by omega)) (fun v_22 h_22 q_22 => ?_)
    obtain ⟨rfl, z9⟩ := q_22
    replace z9 := z9.symm
    subst z9
    refine r_iload_n dX9_within_25 rfl ?_
    refine r_iload_n dX9_within_26 rfl ?_
    refine q_callS3 (cs_X9_inRange ml_X9_167) ⟨rfl, rfl⟩ rfl (Nat.le_of_ble_eq_true rfl) dX9_within_27 c_X9_inRange (fun v_27 h_27 q_27 => ?_)
    obtain ⟨rfl, z9⟩ := q_27
    replace z9 := z9.symm
    subst z9
    refine r_if_eq 37 dX9_within_30 (by decide) (fun c_30 => ?_) (fun c_30 => ?_)
    · refine r_iconst (0) dX9_within_37 (by decide) ?_
      refine r_iadd dX9_within_38 ?_
      refine r_istore (ls2 := [_, _, _, some _, _, _]) dX9_within_39 (by decide) rfl ?_
      refine r_iinc (1) (by decide) (ls2 := [_, _, _, _, some _, _]) dX9_within_41 rfl (by decide) rfl ?_
      refine r_goto 6 dX9_within_44 (by decide) ?_
      simp only [nI_1]
      have hth := ih hlt hlt
      have hB : cdB f c y z i = decide (y ≤ bk f c i ∧ bk f c i ≤ z) := by
        unfold cdB
        by_cases q1 : y ≤ bk f c i <;> by_cases q2 : bk f c i ≤ z <;> simp [q1, q2]
      first
        | (rw [cn_f (P := cdB f c y z) (hB.trans (bI_0.mp c_30))] at hth; rw [Int32.add_zero]; exact hth)
        | (rw [cn_t (P := cdB f c y z) (hB.trans (bI_1.mp c_30))] at hth; exact hth)
    · refine r_iconst (1) dX9_within_33 (by decide) ?_
      refine r_goto 38 dX9_within_34 (by decide) ?_
      refine r_iadd dX9_within_38 ?_
      refine r_istore (ls2 := [_, _, _, some _, _, _]) dX9_within_39 (by decide) rfl ?_
      refine r_iinc (1) (by decide) (ls2 := [_, _, _, _, some _, _]) dX9_within_41 rfl (by decide) rfl ?_
      refine r_goto 6 dX9_within_44 (by decide) ?_
      simp only [nI_1]
      have hth := ih hlt hlt
      have hB : cdB f c y z i = decide (y ≤ bk f c i ∧ bk f c i ≤ z) := by
        unfold cdB
        by_cases q1 : y ≤ bk f c i <;> by_cases q2 : bk f c i ≤ z <;> simp [q1, q2]
      first
        | (rw [cn_f (P := cdB f c y z) (hB.trans (bI_0.mp c_30))] at hth; rw [Int32.add_zero]; exact hth)
        | (rw [cn_t (P := cdB f c y z) (hB.trans (bI_1.mp c_30))] at hth; exact hth)

set_option maxRecDepth 100000 in
set_option maxHeartbeats 4000000 in
theorem c_X9_apart {l9 : Launch} {G : GC} {h : AH} {w : Nat → Int32} {v9 : Nat → Int64} {p : Nat} {f : Nat → Int32} {g : Nat → Int64} {c u : Nat} {a : Nat} {x y : Int32} (hW : World h) (hm : PV h w v9 p f g) (hp : p < 4) (hO : PoOK f g c u) (hx : x = nI p) (hy : y = nI a) (ha : a < min 24 c) : PM l9 G mX9_apart NT NT [.ref 723, .int x, .int y] h (fun v h' => v = some (.double (mnD f c a)) ∧ h' = h) noX := by
  refine PM.of (by decide +kernel) rfl rfl (Nat.le_of_ble_eq_true rfl) (fun hst _ => ?_)
  have yc := hO.2.2.2.2.1.2.1
  have y24 : min 24 c ≤ 24 := Nat.min_le_left _ _
  refine r_iconst (0) dX9_apart_0 (by decide) ?_
  refine r_istore_n (ls2 := [_, _, some _, _, _, _, _]) dX9_apart_1 (by decide) rfl ?_
  refine r_aload_n dX9_apart_2 rfl ?_
  refine r_iload_n dX9_apart_3 rfl ?_
  refine q_callV1 (cv_X9_knownDemands ml_X9_324) hW kc_723 (by decide) rfl ⟨rfl, rfl⟩ rfl (Nat.le_of_ble_eq_true rfl) dX9_apart_4 (c_X9_knownDemands hW hm hp hO hx) (fun v_4 h_4 q_4 => ?_)
  obtain ⟨rfl, z9⟩ := q_4
  replace z9 := z9.symm
  subst z9
  refine r_iload_n dX9_apart_7 rfl ?_
  refine r_isub dX9_apart_8 ?_
  rw [show nI (min 24 c) - y = nI (min 24 c - a) from nsub rfl hy (by omega)]
  refine r_istore (ls2 := [_, _, _, some _, _, _, _]) dX9_apart_9 (by decide) rfl ?_
  refine r_iconst (0) dX9_apart_11 (by decide) ?_
  refine r_istore (ls2 := [_, _, _, _, some _, _, _]) dX9_apart_12 (by decide) rfl ?_
  refine loopN (P := fun i => ∀ z6 : Option Value, i ≤ min 24 c - a → PW l9 G mX9_apart _ _ NT 14 [some (.ref 723), some (.int x), some (.int y), some (.int (sdF f c a i)), some (.int (nI (min 24 c - a))), some (.int (nI i)), z6] [] (0, 0) h) (min 24 c - a) (fun i ih z6 hi => ?_) 0 none (Nat.zero_le _)
  refine r_iload dX9_apart_14 rfl ?_
  refine r_iload dX9_apart_16 rfl ?_
  refine r_icmp_ge 62 dX9_apart_18 (by decide) (fun c_18 => ?_) (fun c_18 => ?_)
  · have hge : min 24 c - a = i := by have := (nI_leI (by omega) (by omega)).mp c_18; omega
    refine r_iload_n dX9_apart_62 rfl ?_
    refine r_i2d dX9_apart_63 ?_
    refine r_iload dX9_apart_64 rfl ?_
    refine r_i2d dX9_apart_66 ?_
    refine r_ddiv dX9_apart_67 (n64_dii (fun q => absurd ((nI_eq (b := 0) (by omega) (by decide)).mp q) (by omega))) ?_
    refine r_dret dX9_apart_68 rfl ⟨Nat.zero_le _, Nat.zero_le _⟩ ?_
    rw [← hge]; exact ⟨rfl, rfl⟩
  · have hlt : i < min 24 c - a := (nI_ltI (by omega) (by omega)).mp (i_lt.mp c_18)
    refine r_aload_n dX9_apart_21 rfl ?_
    refine r_iload_n dX9_apart_22 rfl ?_
    refine r_iload dX9_apart_23 rfl ?_
    refine q_callV2 (cv_X9_back ml_X9_114) hW kc_723 (by decide) rfl ⟨rfl, rfl⟩ rfl (Nat.le_of_ble_eq_true rfl) dX9_apart_25 (c_X9_back hW hm hp hO hx rfl (by omega)) (fun v_25 h_25 q_25 => ?_)
    obtain ⟨rfl, z9⟩ := q_25
    replace z9 := z9.symm
    subst z9
    refine r_aload_n dX9_apart_28 rfl ?_
    refine r_iload_n dX9_apart_29 rfl ?_
    refine r_iload dX9_apart_30 rfl ?_
    refine r_iload_n dX9_apart_32 rfl ?_
    refine r_iadd dX9_apart_33 ?_
    refine q_callV2 (cv_X9_back ml_X9_114) hW kc_723 (by decide) rfl ⟨rfl, rfl⟩ rfl (Nat.le_of_ble_eq_true rfl) dX9_apart_34 (c_X9_back hW hm hp hO hx (nadd rfl hy) (by omega)) (fun v_34 h_34 q_34 => ?_)
    obtain ⟨rfl, z9⟩ := q_34
    replace z9 := z9.symm
    subst z9
    refine r_isub dX9_apart_37 ?_
    refine r_istore (ls2 := [_, _, _, _, _, some _, _]) dX9_apart_38 (by decide) rfl ?_
    refine r_iload_n dX9_apart_40 rfl ?_
    refine r_iload dX9_apart_41 rfl ?_
    refine r_if_ge 52 dX9_apart_43 (by decide) (fun c_43 => ?_) (fun c_43 => ?_)
    · refine r_iload dX9_apart_52 rfl ?_
      refine r_iadd dX9_apart_54 ?_
      refine r_istore_n (ls2 := [_, _, some _, _, _, _, _]) dX9_apart_55 (by decide) rfl ?_
      refine r_iinc (1) (by decide) (ls2 := [_, _, _, _, some _, _, _]) dX9_apart_56 rfl (by decide) rfl ?_
      refine r_goto 14 dX9_apart_59 (by decide) ?_
      simp only [nI_1]
      have hth := ih hlt (some (.int (bk f c i - bk f c (i + a)))) hlt
      rw [show sdF f c a (i + 1) = sdF f c a i + iab (bk f c i - bk f c (i + a)) from rfl] at hth
      first
        | (rw [show iab (bk f c i - bk f c (i + a)) = bk f c i - bk f c (i + a) from if_pos c_43] at hth; exact hth)
        | (rw [show iab (bk f c i - bk f c (i + a)) = 0 - (bk f c i - bk f c (i + a)) from if_neg c_43] at hth; first | exact hth | (rw [Int32.zero_sub] at hth; exact hth))
    · refine r_iload dX9_apart_46 rfl ?_
      refine r_ineg dX9_apart_48 ?_
      refine r_goto 54 dX9_apart_49 (by decide) ?_
      refine r_iadd dX9_apart_54 ?_
      refine r_istore_n (ls2 := [_, _, some _, _, _, _, _]) dX9_apart_55 (by decide) rfl ?_
      refine r_iinc (1) (by decide) (ls2 := [_, _, _, _, some _, _, _]) dX9_apart_56 rfl (by decide) rfl ?_
      refine r_goto 14 dX9_apart_59 (by decide) ?_
      simp only [nI_1]
      have hth := ih hlt (some (.int (bk f c i - bk f c (i + a)))) hlt
      rw [show sdF f c a (i + 1) = sdF f c a i + iab (bk f c i - bk f c (i + a)) from rfl] at hth
      first
        | (rw [show iab (bk f c i - bk f c (i + a)) = bk f c i - bk f c (i + a) from if_pos c_43] at hth; exact hth)
        | (rw [show iab (bk f c i - bk f c (i + a)) = 0 - (bk f c i - bk f c (i + a)) from if_neg c_43] at hth; first | exact hth | (rw [Int32.zero_sub] at hth; exact hth))

set_option maxRecDepth 100000 in
set_option maxHeartbeats 4000000 in
theorem c_X9_plannedAt {l9 : Launch} {G : GC} {h : AH} {w : Nat → Int32} {v9 : Nat → Int64} {p : Nat} {f : Nat → Int32} {g : Nat → Int64} {c u : Nat} {a : Nat} {x y : Int32} (hW : World h) (hm : PV h w v9 p f g) (hp : p < 4) (hO : PoOK f g c u) (hx : x = nI p) (hy : y = nI a) (ha : a ≤ 999) {t : Nat} (ht : w 1 = nI t) (ht2 : t < 2 ^ 30) : PM l9 G mX9_plannedAt NT NT [.ref 723, .int x, .int y] h (fun v h' => v = some (.int (dmA f t a)) ∧ h' = h) noX := by
  refine PM.of (by decide +kernel) rfl rfl (Nat.le_of_ble_eq_true rfl) (fun hst _ => ?_)
  have ez : y = 0 ↔ a = 0 := by rw [hy]; exact nI_eq (b := 0) (by omega) (by decide)
  refine r_aload_n dX9_plannedAt_0 rfl ?_
  refine r_iload_n dX9_plannedAt_1 rfl ?_
  refine r_aload_n dX9_plannedAt_2 rfl ?_
  refine q_getR fl_X9_7 hW kc_723 rfl (kl_9_0 hW) (by decide) dX9_plannedAt_3 ?_
  refine r_iconst (1) dX9_plannedAt_6 (by decide) ?_
  refine q_wldPV hW hm kn_1 (by omega) dX9_plannedAt_7 ?_
  refine r_iload_n dX9_plannedAt_8 rfl ?_
  refine r_iadd dX9_plannedAt_9 ?_
  refine q_callV2 (cv_X9_told ml_X9_126) hW kc_723 (by decide) rfl ⟨rfl, rfl⟩ rfl (Nat.le_of_ble_eq_true rfl) dX9_plannedAt_10 (c_X9_told hW hm hp hO hx (nadd ht hy) (by omega)) (fun v_10 h_10 q_10 => ?_)
  obtain ⟨rfl, z9⟩ := q_10
  replace z9 := z9.symm
  subst z9
  refine r_iload_n dX9_plannedAt_13 rfl ?_
  refine r_if_ne 27 dX9_plannedAt_14 (by decide) (fun c_14 => ?_) (fun c_14 => ?_)
  · refine r_iconst (0) dX9_plannedAt_27 (by decide) ?_
    refine r_iadd dX9_plannedAt_28 ?_
    refine r_iret dX9_plannedAt_29 rfl ⟨Nat.zero_le _, Nat.zero_le _⟩ ?_
    refine ⟨some_int ?_, rfl⟩
    unfold dmA
    first
      | rw [if_pos (ez.mp c_14)]
      | rw [if_neg (fun q => c_14 (ez.mpr q))]
  · refine r_aload_n dX9_plannedAt_17 rfl ?_
    refine r_iload_n dX9_plannedAt_18 rfl ?_
    refine r_bipush (20) dX9_plannedAt_19 (by decide) ?_
    refine q_callV2 (cv_X9_of ml_X9_81) hW kc_723 (by decide) rfl ⟨rfl, rfl⟩ rfl (Nat.le_of_ble_eq_true rfl) dX9_plannedAt_21 (c_X9_of hW hm hp hx kn_20 (by omega)) (fun v_21 h_21 q_21 => ?_)
    obtain ⟨rfl, z9⟩ := q_21
    replace z9 := z9.symm
    subst z9
    refine r_goto 28 dX9_plannedAt_24 (by decide) ?_
    refine r_iadd dX9_plannedAt_28 ?_
    refine r_iret dX9_plannedAt_29 rfl ⟨Nat.zero_le _, Nat.zero_le _⟩ ?_
    refine ⟨some_int ?_, rfl⟩
    unfold dmA
    first
      | rw [if_pos (ez.mp c_14)]
      | rw [if_neg (fun q => c_14 (ez.mpr q))]

set_option maxRecDepth 100000 in
set_option maxHeartbeats 4000000 in
theorem c_X9_measure {l9 : Launch} {G : GC} {h : AH} {r : Row} {m : Nat} {x : Int32} (hW : World h) (hm : MW h r) (hO : RoOK r.1 r.2 m) (hm28 : m < 2 ^ 28) : PM l9 G mX9_measure NT NT [.ref 723, .int x] h (fun v h' => h' = sI h 723 12 (nI (cd1 (okP r x))) ∧ (cd1 (okP r x) = 0 → v = some (.int (mzF (fP r x) (tP r) (r.1 1))))) noX := by
  refine PM.of (by decide +kernel) rfl rfl (Nat.le_of_ble_eq_true rfl) (fun hst _ => ?_)
  refine r_aload_n dX9_measure_0 rfl ?_
  refine r_iload_n dX9_measure_1 rfl ?_
  refine q_callV1 (cv_X9_noPool ml_X9_309) hW kc_723 (by decide) rfl ⟨rfl, rfl⟩ rfl (Nat.le_of_ble_eq_true rfl) dX9_measure_2 (c_X9_noPool hW hm hO) (fun v_2 h_2 q_2 => ?_)
  obtain ⟨rfl, z9⟩ := q_2
  subst z9
  have hW : World (sI h 723 12 (nI (cd1 (okP r x)))) := wsI hW
  replace hm := hm.s9 (k := 12) (x := nI (cd1 (okP r x)))
  refine r_if_eq 12 dX9_measure_5 (by decide) (fun c_5 => ?_) (fun c_5 => ?_)
  · have ko : okP r x = true := bn0 c_5
    obtain ⟨p, hp, pn, hx⟩ := okP_t hO ko
    have ex : nn x = p := by rw [hx]; exact nn_I (by omega)
    have hmw := hm
    have hOr := hO
    replace hO := hO.2 p pn
    replace hm := hm.pv p
    refine r_aload_n dX9_measure_12 rfl ?_
    refine r_iload_n dX9_measure_13 rfl ?_
    refine q_callV1 (cv_X9_measured ml_X9_330) hW kc_723 (by decide) rfl ⟨rfl, rfl⟩ rfl (Nat.le_of_ble_eq_true rfl) dX9_measure_14 (c_X9_measured hW hm hp hO hx) (fun v_14 h_14 q_14 => ?_)
    obtain ⟨rfl, z9⟩ := q_14
    replace z9 := z9.symm
    subst z9
    refine r_iret dX9_measure_17 rfl ⟨Nat.zero_le _, Nat.zero_le _⟩ ?_
    first
      | (have ko : okP r x = false := bn1 c_5
         exact ⟨rfl, fun q => absurd q (cd1_n ko)⟩)
      | (refine ⟨rfl, fun _ => ?_⟩
         try unfold fP
         try unfold gP
         try unfold tP
         rw [ex]
         all_goals rfl)
  · refine r_iconst (0) dX9_measure_8 (by decide) ?_
    refine r_goto 17 dX9_measure_9 (by decide) ?_
    refine r_iret dX9_measure_17 rfl ⟨Nat.zero_le _, Nat.zero_le _⟩ ?_
    first
      | (have ko : okP r x = false := bn1 c_5
         exact ⟨rfl, fun q => absurd q (cd1_n ko)⟩)
      | (refine ⟨rfl, fun _ => ?_⟩
         try unfold fP
         try unfold gP
         try unfold tP
         rw [ex]
         all_goals rfl)

set_option maxRecDepth 100000 in
set_option maxHeartbeats 4000000 in
theorem c_X9_forecast {l9 : Launch} {G : GC} {h : AH} {r : Row} {m : Nat} {x : Int32} (hW : World h) (hm : MW h r) (hO : RoOK r.1 r.2 m) (hm28 : m < 2 ^ 28) : PM l9 G mX9_forecast NT NT [.ref 723, .int x] h (fun v h' => h' = sI h 723 12 (nI (cd1 (okP r x))) ∧ (cd1 (okP r x) = 0 → v = some (.int ((fP r x) 18)))) noX := by
  refine PM.of (by decide +kernel) rfl rfl (Nat.le_of_ble_eq_true rfl) (fun hst _ => ?_)
  refine r_aload_n dX9_forecast_0 rfl ?_
  refine r_iload_n dX9_forecast_1 rfl ?_
  refine q_callV1 (cv_X9_noPool ml_X9_309) hW kc_723 (by decide) rfl ⟨rfl, rfl⟩ rfl (Nat.le_of_ble_eq_true rfl) dX9_forecast_2 (c_X9_noPool hW hm hO) (fun v_2 h_2 q_2 => ?_)
  obtain ⟨rfl, z9⟩ := q_2
  subst z9
  have hW : World (sI h 723 12 (nI (cd1 (okP r x)))) := wsI hW
  replace hm := hm.s9 (k := 12) (x := nI (cd1 (okP r x)))
  refine r_if_eq 12 dX9_forecast_5 (by decide) (fun c_5 => ?_) (fun c_5 => ?_)
  · have ko : okP r x = true := bn0 c_5
    obtain ⟨p, hp, pn, hx⟩ := okP_t hO ko
    have ex : nn x = p := by rw [hx]; exact nn_I (by omega)
    have hmw := hm
    have hOr := hO
    replace hO := hO.2 p pn
    replace hm := hm.pv p
    refine r_aload_n dX9_forecast_12 rfl ?_
    refine r_iload_n dX9_forecast_13 rfl ?_
    refine r_bipush (18) dX9_forecast_14 (by decide) ?_
    refine q_callV2 (cv_X9_of ml_X9_81) hW kc_723 (by decide) rfl ⟨rfl, rfl⟩ rfl (Nat.le_of_ble_eq_true rfl) dX9_forecast_16 (c_X9_of hW hm hp hx kn_18 (by omega)) (fun v_16 h_16 q_16 => ?_)
    obtain ⟨rfl, z9⟩ := q_16
    replace z9 := z9.symm
    subst z9
    refine r_iret dX9_forecast_19 rfl ⟨Nat.zero_le _, Nat.zero_le _⟩ ?_
    first
      | (have ko : okP r x = false := bn1 c_5
         exact ⟨rfl, fun q => absurd q (cd1_n ko)⟩)
      | (refine ⟨rfl, fun _ => ?_⟩
         try unfold fP
         try unfold gP
         try unfold tP
         rw [ex]
         all_goals rfl)
  · refine r_iconst (0) dX9_forecast_8 (by decide) ?_
    refine r_goto 19 dX9_forecast_9 (by decide) ?_
    refine r_iret dX9_forecast_19 rfl ⟨Nat.zero_le _, Nat.zero_le _⟩ ?_
    first
      | (have ko : okP r x = false := bn1 c_5
         exact ⟨rfl, fun q => absurd q (cd1_n ko)⟩)
      | (refine ⟨rfl, fun _ => ?_⟩
         try unfold fP
         try unfold gP
         try unfold tP
         rw [ex]
         all_goals rfl)

set_option maxRecDepth 100000 in
set_option maxHeartbeats 4000000 in
theorem c_X9_wanted {l9 : Launch} {G : GC} {h : AH} {r : Row} {m : Nat} {x : Int32} (hW : World h) (hm : MW h r) (hO : RoOK r.1 r.2 m) (hm28 : m < 2 ^ 28) : PM l9 G mX9_wanted NT NT [.ref 723, .int x] h (fun v h' => h' = sI h 723 12 (nI (cd1 (okP r x))) ∧ (cd1 (okP r x) = 0 → v = some (.int ((fP r x) 19)))) noX := by
  refine PM.of (by decide +kernel) rfl rfl (Nat.le_of_ble_eq_true rfl) (fun hst _ => ?_)
  refine r_aload_n dX9_wanted_0 rfl ?_
  refine r_iload_n dX9_wanted_1 rfl ?_
  refine q_callV1 (cv_X9_noPool ml_X9_309) hW kc_723 (by decide) rfl ⟨rfl, rfl⟩ rfl (Nat.le_of_ble_eq_true rfl) dX9_wanted_2 (c_X9_noPool hW hm hO) (fun v_2 h_2 q_2 => ?_)
  obtain ⟨rfl, z9⟩ := q_2
  subst z9
  have hW : World (sI h 723 12 (nI (cd1 (okP r x)))) := wsI hW
  replace hm := hm.s9 (k := 12) (x := nI (cd1 (okP r x)))
  refine r_if_eq 12 dX9_wanted_5 (by decide) (fun c_5 => ?_) (fun c_5 => ?_)
  · have ko : okP r x = true := bn0 c_5
    obtain ⟨p, hp, pn, hx⟩ := okP_t hO ko
    have ex : nn x = p := by rw [hx]; exact nn_I (by omega)
    have hmw := hm
    have hOr := hO
    replace hO := hO.2 p pn
    replace hm := hm.pv p
    refine r_aload_n dX9_wanted_12 rfl ?_
    refine r_iload_n dX9_wanted_13 rfl ?_
    refine r_bipush (19) dX9_wanted_14 (by decide) ?_
    refine q_callV2 (cv_X9_of ml_X9_81) hW kc_723 (by decide) rfl ⟨rfl, rfl⟩ rfl (Nat.le_of_ble_eq_true rfl) dX9_wanted_16 (c_X9_of hW hm hp hx kn_19 (by omega)) (fun v_16 h_16 q_16 => ?_)
    obtain ⟨rfl, z9⟩ := q_16
    replace z9 := z9.symm
    subst z9
    refine r_iret dX9_wanted_19 rfl ⟨Nat.zero_le _, Nat.zero_le _⟩ ?_
    first
      | (have ko : okP r x = false := bn1 c_5
         exact ⟨rfl, fun q => absurd q (cd1_n ko)⟩)
      | (refine ⟨rfl, fun _ => ?_⟩
         try unfold fP
         try unfold gP
         try unfold tP
         rw [ex]
         all_goals rfl)
  · refine r_iconst (0) dX9_wanted_8 (by decide) ?_
    refine r_goto 19 dX9_wanted_9 (by decide) ?_
    refine r_iret dX9_wanted_19 rfl ⟨Nat.zero_le _, Nat.zero_le _⟩ ?_
    first
      | (have ko : okP r x = false := bn1 c_5
         exact ⟨rfl, fun q => absurd q (cd1_n ko)⟩)
      | (refine ⟨rfl, fun _ => ?_⟩
         try unfold fP
         try unfold gP
         try unfold tP
         rw [ex]
         all_goals rfl)

set_option maxRecDepth 100000 in
set_option maxHeartbeats 4000000 in
theorem c_X9_peak {l9 : Launch} {G : GC} {h : AH} {r : Row} {m : Nat} {x : Int32} (hW : World h) (hm : MW h r) (hO : RoOK r.1 r.2 m) (hm28 : m < 2 ^ 28) : PM l9 G mX9_peak NT NT [.ref 723, .int x] h (fun v h' => h' = sI h 723 12 (nI (cd1 (okP r x))) ∧ (cd1 (okP r x) = 0 → v = some (.int ((fP r x) 25)))) noX := by
  refine PM.of (by decide +kernel) rfl rfl (Nat.le_of_ble_eq_true rfl) (fun hst _ => ?_)
  refine r_aload_n dX9_peak_0 rfl ?_
  refine r_iload_n dX9_peak_1 rfl ?_
  refine q_callV1 (cv_X9_noPool ml_X9_309) hW kc_723 (by decide) rfl ⟨rfl, rfl⟩ rfl (Nat.le_of_ble_eq_true rfl) dX9_peak_2 (c_X9_noPool hW hm hO) (fun v_2 h_2 q_2 => ?_)
  obtain ⟨rfl, z9⟩ := q_2
  subst z9
  have hW : World (sI h 723 12 (nI (cd1 (okP r x)))) := wsI hW
  replace hm := hm.s9 (k := 12) (x := nI (cd1 (okP r x)))
  refine r_if_eq 12 dX9_peak_5 (by decide) (fun c_5 => ?_) (fun c_5 => ?_)
  · have ko : okP r x = true := bn0 c_5
    obtain ⟨p, hp, pn, hx⟩ := okP_t hO ko
    have ex : nn x = p := by rw [hx]; exact nn_I (by omega)
    have hmw := hm
    have hOr := hO
    replace hO := hO.2 p pn
    replace hm := hm.pv p
    refine r_aload_n dX9_peak_12 rfl ?_
    refine r_iload_n dX9_peak_13 rfl ?_
    refine r_bipush (25) dX9_peak_14 (by decide) ?_
    refine q_callV2 (cv_X9_of ml_X9_81) hW kc_723 (by decide) rfl ⟨rfl, rfl⟩ rfl (Nat.le_of_ble_eq_true rfl) dX9_peak_16 (c_X9_of hW hm hp hx kn_25 (by omega)) (fun v_16 h_16 q_16 => ?_)
    obtain ⟨rfl, z9⟩ := q_16
    replace z9 := z9.symm
    subst z9
    refine r_iret dX9_peak_19 rfl ⟨Nat.zero_le _, Nat.zero_le _⟩ ?_
    first
      | (have ko : okP r x = false := bn1 c_5
         exact ⟨rfl, fun q => absurd q (cd1_n ko)⟩)
      | (refine ⟨rfl, fun _ => ?_⟩
         try unfold fP
         try unfold gP
         try unfold tP
         rw [ex]
         all_goals rfl)
  · refine r_iconst (0) dX9_peak_8 (by decide) ?_
    refine r_goto 19 dX9_peak_9 (by decide) ?_
    refine r_iret dX9_peak_19 rfl ⟨Nat.zero_le _, Nat.zero_le _⟩ ?_
    first
      | (have ko : okP r x = false := bn1 c_5
         exact ⟨rfl, fun q => absurd q (cd1_n ko)⟩)
      | (refine ⟨rfl, fun _ => ?_⟩
         try unfold fP
         try unfold gP
         try unfold tP
         rw [ex]
         all_goals rfl)

set_option maxRecDepth 100000 in
set_option maxHeartbeats 4000000 in
theorem c_X9_longestMiss {l9 : Launch} {G : GC} {h : AH} {r : Row} {m : Nat} {x : Int32} (hW : World h) (hm : MW h r) (hO : RoOK r.1 r.2 m) (hm28 : m < 2 ^ 28) : PM l9 G mX9_longestMiss NT NT [.ref 723, .int x] h (fun v h' => h' = sI h 723 12 (nI (cd1 (okP r x))) ∧ (cd1 (okP r x) = 0 → v = some (.int ((fP r x) 27)))) noX := by
  refine PM.of (by decide +kernel) rfl rfl (Nat.le_of_ble_eq_true rfl) (fun hst _ => ?_)
  refine r_aload_n dX9_longestMiss_0 rfl ?_
  refine r_iload_n dX9_longestMiss_1 rfl ?_
  refine q_callV1 (cv_X9_noPool ml_X9_309) hW kc_723 (by decide) rfl ⟨rfl, rfl⟩ rfl (Nat.le_of_ble_eq_true rfl) dX9_longestMiss_2 (c_X9_noPool hW hm hO) (fun v_2 h_2 q_2 => ?_)
  obtain ⟨rfl, z9⟩ := q_2
  subst z9
  have hW : World (sI h 723 12 (nI (cd1 (okP r x)))) := wsI hW
  replace hm := hm.s9 (k := 12) (x := nI (cd1 (okP r x)))
  refine r_if_eq 12 dX9_longestMiss_5 (by decide) (fun c_5 => ?_) (fun c_5 => ?_)
  · have ko : okP r x = true := bn0 c_5
    obtain ⟨p, hp, pn, hx⟩ := okP_t hO ko
    have ex : nn x = p := by rw [hx]; exact nn_I (by omega)
    have hmw := hm
    have hOr := hO
    replace hO := hO.2 p pn
    replace hm := hm.pv p
    refine r_aload_n dX9_longestMiss_12 rfl ?_
    refine r_iload_n dX9_longestMiss_13 rfl ?_
    refine r_bipush (27) dX9_longestMiss_14 (by decide) ?_
    refine q_callV2 (cv_X9_of ml_X9_81) hW kc_723 (by decide) rfl ⟨rfl, rfl⟩ rfl (Nat.le_of_ble_eq_true rfl) dX9_longestMiss_16 (c_X9_of hW hm hp hx kn_27 (by omega)) (fun v_16 h_16 q_16 => ?_)
    obtain ⟨rfl, z9⟩ := q_16
    replace z9 := z9.symm
    subst z9
    refine r_iret dX9_longestMiss_19 rfl ⟨Nat.zero_le _, Nat.zero_le _⟩ ?_
    first
      | (have ko : okP r x = false := bn1 c_5
         exact ⟨rfl, fun q => absurd q (cd1_n ko)⟩)
      | (refine ⟨rfl, fun _ => ?_⟩
         try unfold fP
         try unfold gP
         try unfold tP
         rw [ex]
         all_goals rfl)
  · refine r_iconst (0) dX9_longestMiss_8 (by decide) ?_
    refine r_goto 19 dX9_longestMiss_9 (by decide) ?_
    refine r_iret dX9_longestMiss_19 rfl ⟨Nat.zero_le _, Nat.zero_le _⟩ ?_
    first
      | (have ko : okP r x = false := bn1 c_5
         exact ⟨rfl, fun q => absurd q (cd1_n ko)⟩)
      | (refine ⟨rfl, fun _ => ?_⟩
         try unfold fP
         try unfold gP
         try unfold tP
         rw [ex]
         all_goals rfl)

set_option maxRecDepth 100000 in
set_option maxHeartbeats 4000000 in
theorem c_X9_served {l9 : Launch} {G : GC} {h : AH} {r : Row} {m : Nat} {x : Int32} (hW : World h) (hm : MW h r) (hO : RoOK r.1 r.2 m) (hm28 : m < 2 ^ 28) : PM l9 G mX9_served NT NT [.ref 723, .int x] h (fun v h' => h' = sI h 723 12 (nI (cd1 (okP r x))) ∧ (cd1 (okP r x) = 0 → v = some (.long ((gP r x) 0)))) noX := by
  refine PM.of (by decide +kernel) rfl rfl (Nat.le_of_ble_eq_true rfl) (fun hst _ => ?_)
  refine r_aload_n dX9_served_0 rfl ?_
  refine r_iload_n dX9_served_1 rfl ?_
  refine q_callV1 (cv_X9_noPool ml_X9_309) hW kc_723 (by decide) rfl ⟨rfl, rfl⟩ rfl (Nat.le_of_ble_eq_true rfl) dX9_served_2 (c_X9_noPool hW hm hO) (fun v_2 h_2 q_2 => ?_)
  obtain ⟨rfl, z9⟩ := q_2
  subst z9
  have hW : World (sI h 723 12 (nI (cd1 (okP r x)))) := wsI hW
  replace hm := hm.s9 (k := 12) (x := nI (cd1 (okP r x)))
  refine r_if_eq 12 dX9_served_5 (by decide) (fun c_5 => ?_) (fun c_5 => ?_)
  · have ko : okP r x = true := bn0 c_5
    obtain ⟨p, hp, pn, hx⟩ := okP_t hO ko
    have ex : nn x = p := by rw [hx]; exact nn_I (by omega)
    have hmw := hm
    have hOr := hO
    replace hO := hO.2 p pn
    replace hm := hm.pv p
    refine r_aload_n dX9_served_12 rfl ?_
    refine r_iload_n dX9_served_13 rfl ?_
    refine r_iconst (0) dX9_served_14 (by decide) ?_
    refine q_callV2 (cv_X9_sumOf ml_X9_333) hW kc_723 (by decide) rfl ⟨rfl, rfl⟩ rfl (Nat.le_of_ble_eq_true rfl) dX9_served_15 (c_X9_sumOf hW hmw hp hx kn_0 (by decide)) (fun v_15 h_15 q_15 => ?_)
    obtain ⟨rfl, z9⟩ := q_15
    replace z9 := z9.symm
    subst z9
    refine r_lret dX9_served_18 rfl ⟨Nat.zero_le _, Nat.zero_le _⟩ ?_
    first
      | (have ko : okP r x = false := bn1 c_5
         exact ⟨rfl, fun q => absurd q (cd1_n ko)⟩)
      | (refine ⟨rfl, fun _ => ?_⟩
         try unfold fP
         try unfold gP
         try unfold tP
         rw [ex]
         all_goals rfl)
  · refine r_lconst (0) dX9_served_8 (by decide) ?_
    refine r_goto 18 dX9_served_9 (by decide) ?_
    refine r_lret dX9_served_18 rfl ⟨Nat.zero_le _, Nat.zero_le _⟩ ?_
    first
      | (have ko : okP r x = false := bn1 c_5
         exact ⟨rfl, fun q => absurd q (cd1_n ko)⟩)
      | (refine ⟨rfl, fun _ => ?_⟩
         try unfold fP
         try unfold gP
         try unfold tP
         rw [ex]
         all_goals rfl)

set_option maxRecDepth 100000 in
set_option maxHeartbeats 4000000 in
theorem c_X9_missed {l9 : Launch} {G : GC} {h : AH} {r : Row} {m : Nat} {x : Int32} (hW : World h) (hm : MW h r) (hO : RoOK r.1 r.2 m) (hm28 : m < 2 ^ 28) : PM l9 G mX9_missed NT NT [.ref 723, .int x] h (fun v h' => h' = sI h 723 12 (nI (cd1 (okP r x))) ∧ (cd1 (okP r x) = 0 → v = some (.long ((gP r x) 1)))) noX := by
  refine PM.of (by decide +kernel) rfl rfl (Nat.le_of_ble_eq_true rfl) (fun hst _ => ?_)
  refine r_aload_n dX9_missed_0 rfl ?_
  refine r_iload_n dX9_missed_1 rfl ?_
  refine q_callV1 (cv_X9_noPool ml_X9_309) hW kc_723 (by decide) rfl ⟨rfl, rfl⟩ rfl (Nat.le_of_ble_eq_true rfl) dX9_missed_2 (c_X9_noPool hW hm hO) (fun v_2 h_2 q_2 => ?_)
  obtain ⟨rfl, z9⟩ := q_2
  subst z9
  have hW : World (sI h 723 12 (nI (cd1 (okP r x)))) := wsI hW
  replace hm := hm.s9 (k := 12) (x := nI (cd1 (okP r x)))
  refine r_if_eq 12 dX9_missed_5 (by decide) (fun c_5 => ?_) (fun c_5 => ?_)
  · have ko : okP r x = true := bn0 c_5
    obtain ⟨p, hp, pn, hx⟩ := okP_t hO ko
    have ex : nn x = p := by rw [hx]; exact nn_I (by omega)
    have hmw := hm
    have hOr := hO
    replace hO := hO.2 p pn
    replace hm := hm.pv p
    refine r_aload_n dX9_missed_12 rfl ?_
    refine r_iload_n dX9_missed_13 rfl ?_
    refine r_iconst (1) dX9_missed_14 (by decide) ?_
    refine q_callV2 (cv_X9_sumOf ml_X9_333) hW kc_723 (by decide) rfl ⟨rfl, rfl⟩ rfl (Nat.le_of_ble_eq_true rfl) dX9_missed_15 (c_X9_sumOf hW hmw hp hx kn_1 (by decide)) (fun v_15 h_15 q_15 => ?_)
    obtain ⟨rfl, z9⟩ := q_15
    replace z9 := z9.symm
    subst z9
    refine r_lret dX9_missed_18 rfl ⟨Nat.zero_le _, Nat.zero_le _⟩ ?_
    first
      | (have ko : okP r x = false := bn1 c_5
         exact ⟨rfl, fun q => absurd q (cd1_n ko)⟩)
      | (refine ⟨rfl, fun _ => ?_⟩
         try unfold fP
         try unfold gP
         try unfold tP
         rw [ex]
         all_goals rfl)
  · refine r_lconst (0) dX9_missed_8 (by decide) ?_
    refine r_goto 18 dX9_missed_9 (by decide) ?_
    refine r_lret dX9_missed_18 rfl ⟨Nat.zero_le _, Nat.zero_le _⟩ ?_
    first
      | (have ko : okP r x = false := bn1 c_5
         exact ⟨rfl, fun q => absurd q (cd1_n ko)⟩)
      | (refine ⟨rfl, fun _ => ?_⟩
         try unfold fP
         try unfold gP
         try unfold tP
         rw [ex]
         all_goals rfl)

set_option maxRecDepth 100000 in
set_option maxHeartbeats 4000000 in
theorem c_X9_cost {l9 : Launch} {G : GC} {h : AH} {r : Row} {m : Nat} {x : Int32} (hW : World h) (hm : MW h r) (hO : RoOK r.1 r.2 m) (hm28 : m < 2 ^ 28) : PM l9 G mX9_cost NT NT [.ref 723, .int x] h (fun v h' => h' = sI h 723 12 (nI (cd1 (okP r x))) ∧ (cd1 (okP r x) = 0 → v = some (.long ((gP r x) 2)))) noX := by
  refine PM.of (by decide +kernel) rfl rfl (Nat.le_of_ble_eq_true rfl) (fun hst _ => ?_)
  refine r_aload_n dX9_cost_0 rfl ?_
  refine r_iload_n dX9_cost_1 rfl ?_
  refine q_callV1 (cv_X9_noPool ml_X9_309) hW kc_723 (by decide) rfl ⟨rfl, rfl⟩ rfl (Nat.le_of_ble_eq_true rfl) dX9_cost_2 (c_X9_noPool hW hm hO) (fun v_2 h_2 q_2 => ?_)
  obtain ⟨rfl, z9⟩ := q_2
  subst z9
  have hW : World (sI h 723 12 (nI (cd1 (okP r x)))) := wsI hW
  replace hm := hm.s9 (k := 12) (x := nI (cd1 (okP r x)))
  refine r_if_eq 12 dX9_cost_5 (by decide) (fun c_5 => ?_) (fun c_5 => ?_)
  · have ko : okP r x = true := bn0 c_5
    obtain ⟨p, hp, pn, hx⟩ := okP_t hO ko
    have ex : nn x = p := by rw [hx]; exact nn_I (by omega)
    have hmw := hm
    have hOr := hO
    replace hO := hO.2 p pn
    replace hm := hm.pv p
    refine r_aload_n dX9_cost_12 rfl ?_
    refine r_iload_n dX9_cost_13 rfl ?_
    refine r_iconst (2) dX9_cost_14 (by decide) ?_
    refine q_callV2 (cv_X9_sumOf ml_X9_333) hW kc_723 (by decide) rfl ⟨rfl, rfl⟩ rfl (Nat.le_of_ble_eq_true rfl) dX9_cost_15 (c_X9_sumOf hW hmw hp hx kn_2 (by decide)) (fun v_15 h_15 q_15 => ?_)
    obtain ⟨rfl, z9⟩ := q_15
    replace z9 := z9.symm
    subst z9
    refine r_lret dX9_cost_18 rfl ⟨Nat.zero_le _, Nat.zero_le _⟩ ?_
    first
      | (have ko : okP r x = false := bn1 c_5
         exact ⟨rfl, fun q => absurd q (cd1_n ko)⟩)
      | (refine ⟨rfl, fun _ => ?_⟩
         try unfold fP
         try unfold gP
         try unfold tP
         rw [ex]
         all_goals rfl)
  · refine r_lconst (0) dX9_cost_8 (by decide) ?_
    refine r_goto 18 dX9_cost_9 (by decide) ?_
    refine r_lret dX9_cost_18 rfl ⟨Nat.zero_le _, Nat.zero_le _⟩ ?_
    first
      | (have ko : okP r x = false := bn1 c_5
         exact ⟨rfl, fun q => absurd q (cd1_n ko)⟩)
      | (refine ⟨rfl, fun _ => ?_⟩
         try unfold fP
         try unfold gP
         try unfold tP
         rw [ex]
         all_goals rfl)

set_option maxRecDepth 100000 in
set_option maxHeartbeats 4000000 in
theorem c_X9_meanError {l9 : Launch} {G : GC} {h : AH} {r : Row} {m : Nat} {x : Int32} (hW : World h) (hm : MW h r) (hO : RoOK r.1 r.2 m) (hm28 : m < 2 ^ 28) : PM l9 G mX9_meanError NT NT [.ref 723, .int x] h (fun v h' => h' = sI h 723 12 (nI (cd1 (okP r x))) ∧ (cd1 (okP r x) = 0 → v = some (.double (mErr (fP r x) (gP r x))))) noX := by
  refine PM.of (by decide +kernel) rfl rfl (Nat.le_of_ble_eq_true rfl) (fun hst _ => ?_)
  refine r_aload_n dX9_meanError_0 rfl ?_
  refine r_iload_n dX9_meanError_1 rfl ?_
  refine q_callV1 (cv_X9_noPool ml_X9_309) hW kc_723 (by decide) rfl ⟨rfl, rfl⟩ rfl (Nat.le_of_ble_eq_true rfl) dX9_meanError_2 (c_X9_noPool hW hm hO) (fun v_2 h_2 q_2 => ?_)
  obtain ⟨rfl, z9⟩ := q_2
  subst z9
  have hW : World (sI h 723 12 (nI (cd1 (okP r x)))) := wsI hW
  replace hm := hm.s9 (k := 12) (x := nI (cd1 (okP r x)))
  refine r_if_eq 10 dX9_meanError_5 (by decide) (fun c_5 => ?_) (fun c_5 => ?_)
  · have ko : okP r x = true := bn0 c_5
    obtain ⟨p, hp, pn, hx⟩ := okP_t hO ko
    have ex : nn x = p := by rw [hx]; exact nn_I (by omega)
    have hmw := hm
    have hOr := hO
    replace hO := hO.2 p pn
    replace hm := hm.pv p
    refine r_aload_n dX9_meanError_10 rfl ?_
    refine r_iload_n dX9_meanError_11 rfl ?_
    refine r_bipush (28) dX9_meanError_12 (by decide) ?_
    refine q_callV2 (cv_X9_of ml_X9_81) hW kc_723 (by decide) rfl ⟨rfl, rfl⟩ rfl (Nat.le_of_ble_eq_true rfl) dX9_meanError_14 (c_X9_of hW hm hp hx kn_28 (by omega)) (fun v_14 h_14 q_14 => ?_)
    obtain ⟨rfl, z9⟩ := q_14
    replace z9 := z9.symm
    subst z9
    refine r_if_ne 24 dX9_meanError_17 (by decide) (fun c_17 => ?_) (fun c_17 => ?_)
    · refine r_aload_n dX9_meanError_24 rfl ?_
      refine r_iload_n dX9_meanError_25 rfl ?_
      refine r_iconst (3) dX9_meanError_26 (by decide) ?_
      refine q_callV2 (cv_X9_sumOf ml_X9_333) hW kc_723 (by decide) rfl ⟨rfl, rfl⟩ rfl (Nat.le_of_ble_eq_true rfl) dX9_meanError_27 (c_X9_sumOf hW hmw hp hx kn_3 (by decide)) (fun v_27 h_27 q_27 => ?_)
      obtain ⟨rfl, z9⟩ := q_27
      replace z9 := z9.symm
      subst z9
      refine r_l2d dX9_meanError_30 ?_
      refine r_aload_n dX9_meanError_31 rfl ?_
      refine r_iload_n dX9_meanError_32 rfl ?_
      refine r_bipush (28) dX9_meanError_33 (by decide) ?_
      refine q_callV2 (cv_X9_of ml_X9_81) hW kc_723 (by decide) rfl ⟨rfl, rfl⟩ rfl (Nat.le_of_ble_eq_true rfl) dX9_meanError_35 (c_X9_of hW hm hp hx kn_28 (by omega)) (fun v_35 h_35 q_35 => ?_)
      obtain ⟨rfl, z9⟩ := q_35
      replace z9 := z9.symm
      subst z9
      refine r_i2d dX9_meanError_38 ?_
      refine r_ddiv dX9_meanError_39 (n64_dli c_17) ?_
      refine r_dret dX9_meanError_40 rfl ⟨Nat.zero_le _, Nat.zero_le _⟩ ?_
      first
        | (have ko : okP r x = false := bn1 c_5
           exact ⟨rfl, fun q => absurd q (cd1_n ko)⟩)
        | (refine ⟨rfl, fun _ => ?_⟩
           try unfold fP
           try unfold gP
           try unfold tP
           rw [ex]
           refine some_double ?_
           unfold mErr
           first
             | rw [if_pos c_17]
             | rw [if_neg c_17]
           all_goals rfl)
    · refine r_dconst0 dX9_meanError_20 ?_
      refine r_goto 40 dX9_meanError_21 (by decide) ?_
      refine r_dret dX9_meanError_40 rfl ⟨Nat.zero_le _, Nat.zero_le _⟩ ?_
      first
        | (have ko : okP r x = false := bn1 c_5
           exact ⟨rfl, fun q => absurd q (cd1_n ko)⟩)
        | (refine ⟨rfl, fun _ => ?_⟩
           try unfold fP
           try unfold gP
           try unfold tP
           rw [ex]
           refine some_double ?_
           unfold mErr
           first
             | rw [if_pos c_17]
             | rw [if_neg c_17]
           all_goals rfl)
  · refine r_dconst0 dX9_meanError_8 ?_
    refine r_dret dX9_meanError_9 rfl ⟨Nat.zero_le _, Nat.zero_le _⟩ ?_
    first
      | (have ko : okP r x = false := bn1 c_5
         exact ⟨rfl, fun q => absurd q (cd1_n ko)⟩)
      | (refine ⟨rfl, fun _ => ?_⟩
         try unfold fP
         try unfold gP
         try unfold tP
         rw [ex]
         refine some_double ?_
         unfold mErr
         first
           | rw [if_pos c_17]
           | rw [if_neg c_17]
         all_goals rfl)

set_option maxRecDepth 100000 in
set_option maxHeartbeats 4000000 in
theorem c_X9_nextDropped {l9 : Launch} {G : GC} {h : AH} {r : Row} {m : Nat} {x : Int32} (hW : World h) (hm : MW h r) (hO : RoOK r.1 r.2 m) (hm28 : m < 2 ^ 28) : PM l9 G mX9_nextDropped NT NT [.ref 723, .int x] h (fun v h' => h' = sI h 723 12 (nI (cd1 (okP r x))) ∧ (cd1 (okP r x) = 0 → v = some (.int (nxD (fP r x))))) noX := by
  refine PM.of (by decide +kernel) rfl rfl (Nat.le_of_ble_eq_true rfl) (fun hst _ => ?_)
  refine r_aload_n dX9_nextDropped_0 rfl ?_
  refine r_iload_n dX9_nextDropped_1 rfl ?_
  refine q_callV1 (cv_X9_noPool ml_X9_309) hW kc_723 (by decide) rfl ⟨rfl, rfl⟩ rfl (Nat.le_of_ble_eq_true rfl) dX9_nextDropped_2 (c_X9_noPool hW hm hO) (fun v_2 h_2 q_2 => ?_)
  obtain ⟨rfl, z9⟩ := q_2
  subst z9
  have hW : World (sI h 723 12 (nI (cd1 (okP r x)))) := wsI hW
  replace hm := hm.s9 (k := 12) (x := nI (cd1 (okP r x)))
  refine r_if_eq 10 dX9_nextDropped_5 (by decide) (fun c_5 => ?_) (fun c_5 => ?_)
  · have ko : okP r x = true := bn0 c_5
    obtain ⟨p, hp, pn, hx⟩ := okP_t hO ko
    have ex : nn x = p := by rw [hx]; exact nn_I (by omega)
    have hmw := hm
    have hOr := hO
    replace hO := hO.2 p pn
    replace hm := hm.pv p
    refine r_aload_n dX9_nextDropped_10 rfl ?_
    refine r_iload_n dX9_nextDropped_11 rfl ?_
    refine q_callV1 (cv_X9_dropped ml_X9_135) hW kc_723 (by decide) rfl ⟨rfl, rfl⟩ rfl (Nat.le_of_ble_eq_true rfl) dX9_nextDropped_12 (c_X9_dropped hW hm hp hO hx) (fun v_12 h_12 q_12 => ?_)
    obtain ⟨rfl, z9⟩ := q_12
    replace z9 := z9.symm
    subst z9
    refine r_istore_n (ls2 := [_, some _, _]) dX9_nextDropped_15 (by decide) rfl ?_
    refine r_iload_n dX9_nextDropped_16 rfl ?_
    refine r_iconst (-1) dX9_nextDropped_17 (by decide) ?_
    refine r_icmp_ne 25 dX9_nextDropped_18 (by decide) (fun c_18 => ?_) (fun c_18 => ?_)
    · obtain ⟨k, hk9⟩ : ∃ k, ng (mbs (getP r.1 p)) (getP r.1 p 9) (mbs (getP r.1 p)).length = some k := by
        cases hq : ng (mbs (getP r.1 p)) (getP r.1 p 9) (mbs (getP r.1 p)).length with
        | none => rw [hq] at c_18; exact absurd rfl c_18
        | some k => exact ⟨k, rfl⟩
      have hk8 := ng_lt hk9
      have y23 : nn (getP r.1 p 23) ≤ 20 := (hO.at 23).2.2
      have hl20 := mbs_len (getP r.1 p)
      rw [hk9]
      refine r_aload_n dX9_nextDropped_25 rfl ?_
      refine r_iload_n dX9_nextDropped_26 rfl ?_
      refine r_bipush (100) dX9_nextDropped_27 (by decide) ?_
      refine r_iconst (4) dX9_nextDropped_29 (by decide) ?_
      refine r_iload_n dX9_nextDropped_30 rfl ?_
      refine r_imul dX9_nextDropped_31 ?_
      refine r_iadd dX9_nextDropped_32 ?_
      refine q_callV2 (cv_X9_of ml_X9_81) hW kc_723 (by decide) rfl ⟨rfl, rfl⟩ rfl (Nat.le_of_ble_eq_true rfl) dX9_nextDropped_33 (c_X9_of hW hm hp hx (k := 100 + 4 * k) (nadd kn_100 (nmul kn_4 rfl)) (by omega)) (fun v_33 h_33 q_33 => ?_)
      obtain ⟨rfl, z9⟩ := q_33
      replace z9 := z9.symm
      subst z9
      refine r_iret dX9_nextDropped_36 rfl ⟨Nat.zero_le _, Nat.zero_le _⟩ ?_
      first
        | (have ko : okP r x = false := bn1 c_5
           exact ⟨rfl, fun q => absurd q (cd1_n ko)⟩)
        | (refine ⟨rfl, fun _ => ?_⟩
           try unfold fP
           try unfold gP
           try unfold tP
           rw [ex]
           refine some_int ?_
           unfold nxD
           first
             | rw [hk9]
             | (have hn9 : ng (mbs (getP r.1 p)) (getP r.1 p 9) (mbs (getP r.1 p)).length = none := (oI_m1 (fun k hk => by have := ng_lt hk; have := mbs_len (getP r.1 p); have : nn (getP r.1 p 23) ≤ 20 := (hO.at 23).2.2; omega)).mp (by first | exact c_18 | simpa using c_18)
                rw [hn9])
           all_goals rfl)
    · refine r_iconst (-1) dX9_nextDropped_21 (by decide) ?_
      refine r_goto 36 dX9_nextDropped_22 (by decide) ?_
      refine r_iret dX9_nextDropped_36 rfl ⟨Nat.zero_le _, Nat.zero_le _⟩ ?_
      first
        | (have ko : okP r x = false := bn1 c_5
           exact ⟨rfl, fun q => absurd q (cd1_n ko)⟩)
        | (refine ⟨rfl, fun _ => ?_⟩
           try unfold fP
           try unfold gP
           try unfold tP
           rw [ex]
           refine some_int ?_
           unfold nxD
           first
             | rw [hk9]
             | (have hn9 : ng (mbs (getP r.1 p)) (getP r.1 p 9) (mbs (getP r.1 p)).length = none := (oI_m1 (fun k hk => by have := ng_lt hk; have := mbs_len (getP r.1 p); have : nn (getP r.1 p 23) ≤ 20 := (hO.at 23).2.2; omega)).mp (by first | exact c_18 | simpa using c_18)
                rw [hn9])
           all_goals rfl)
  · refine r_iconst (0) dX9_nextDropped_8 (by decide) ?_
    refine r_iret dX9_nextDropped_9 rfl ⟨Nat.zero_le _, Nat.zero_le _⟩ ?_
    first
      | (have ko : okP r x = false := bn1 c_5
         exact ⟨rfl, fun q => absurd q (cd1_n ko)⟩)
      | (refine ⟨rfl, fun _ => ?_⟩
         try unfold fP
         try unfold gP
         try unfold tP
         rw [ex]
         refine some_int ?_
         unfold nxD
         first
           | rw [hk9]
           | (have hn9 : ng (mbs (getP r.1 p)) (getP r.1 p 9) (mbs (getP r.1 p)).length = none := (oI_m1 (fun k hk => by have := ng_lt hk; have := mbs_len (getP r.1 p); have : nn (getP r.1 p 23) ≤ 20 := (hO.at 23).2.2; omega)).mp (by first | exact c_18 | simpa using c_18)
              rw [hn9])
         all_goals rfl)

set_option maxRecDepth 100000 in
set_option maxHeartbeats 4000000 in
theorem c_X9_coolLeft {l9 : Launch} {G : GC} {h : AH} {r : Row} {m : Nat} {x : Int32} {z : Int32} (hW : World h) (hm : MW h r) (hO : RoOK r.1 r.2 m) (hm28 : m < 2 ^ 28) : PM l9 G mX9_coolLeft NT NT [.ref 723, .int x, .int z] h (fun v h' => h' = sI h 723 12 (nI (cd1 (okP r x))) ∧ (cd1 (okP r x) = 0 → v = some (.int (clL (fP r x) (r.1 1) z)))) noX := by
  refine PM.of (by decide +kernel) rfl rfl (Nat.le_of_ble_eq_true rfl) (fun hst _ => ?_)
  refine r_aload_n dX9_coolLeft_0 rfl ?_
  refine r_iload_n dX9_coolLeft_1 rfl ?_
  refine q_callV1 (cv_X9_noPool ml_X9_309) hW kc_723 (by decide) rfl ⟨rfl, rfl⟩ rfl (Nat.le_of_ble_eq_true rfl) dX9_coolLeft_2 (c_X9_noPool hW hm hO) (fun v_2 h_2 q_2 => ?_)
  obtain ⟨rfl, z9⟩ := q_2
  subst z9
  have hW : World (sI h 723 12 (nI (cd1 (okP r x)))) := wsI hW
  replace hm := hm.s9 (k := 12) (x := nI (cd1 (okP r x)))
  refine r_if_eq 10 dX9_coolLeft_5 (by decide) (fun c_5 => ?_) (fun c_5 => ?_)
  · have ko : okP r x = true := bn0 c_5
    obtain ⟨p, hp, pn, hx⟩ := okP_t hO ko
    have ex : nn x = p := by rw [hx]; exact nn_I (by omega)
    have hmw := hm
    have hOr := hO
    replace hO := hO.2 p pn
    replace hm := hm.pv p
    refine r_iload_n dX9_coolLeft_10 rfl ?_
    refine r_if_eq 24 dX9_coolLeft_11 (by decide) (fun c_11 => ?_) (fun c_11 => ?_)
    · refine r_aload_n dX9_coolLeft_24 rfl ?_
      refine r_iload_n dX9_coolLeft_25 rfl ?_
      refine r_bipush (13) dX9_coolLeft_26 (by decide) ?_
      refine q_callV2 (cv_X9_of ml_X9_81) hW kc_723 (by decide) rfl ⟨rfl, rfl⟩ rfl (Nat.le_of_ble_eq_true rfl) dX9_coolLeft_28 (c_X9_of hW hm hp hx kn_13 (by omega)) (fun v_28 h_28 q_28 => ?_)
      obtain ⟨rfl, z9⟩ := q_28
      replace z9 := z9.symm
      subst z9
      refine r_istore_n (ls2 := [_, _, some _, _, _]) dX9_coolLeft_31 (by decide) rfl ?_
      refine r_aload_n dX9_coolLeft_32 rfl ?_
      refine q_getR fl_X9_7 hW kc_723 rfl (kl_9_0 hW) (by decide) dX9_coolLeft_33 ?_
      refine r_iconst (1) dX9_coolLeft_36 (by decide) ?_
      refine q_wldPV hW hm kn_1 (by omega) dX9_coolLeft_37 ?_
      refine r_aload_n dX9_coolLeft_38 rfl ?_
      refine r_iload_n dX9_coolLeft_39 rfl ?_
      refine r_iload_n dX9_coolLeft_40 rfl ?_
      refine r_if_eq 49 dX9_coolLeft_41 (by decide) (fun c_41 => ?_) (fun c_41 => ?_)
      · refine r_bipush (22) dX9_coolLeft_49 (by decide) ?_
        refine q_callV2 (cv_X9_of ml_X9_81) hW kc_723 (by decide) rfl ⟨rfl, rfl⟩ rfl (Nat.le_of_ble_eq_true rfl) dX9_coolLeft_51 (c_X9_of hW hm hp hx kn_22 (by omega)) (fun v_51 h_51 q_51 => ?_)
        obtain ⟨rfl, z9⟩ := q_51
        replace z9 := z9.symm
        subst z9
        refine r_isub dX9_coolLeft_54 ?_
        refine r_istore (ls2 := [_, _, _, some _, _]) dX9_coolLeft_55 (by decide) rfl ?_
        refine r_iconst (0) dX9_coolLeft_57 (by decide) ?_
        refine r_iload_n dX9_coolLeft_58 rfl ?_
        refine r_iload dX9_coolLeft_59 rfl ?_
        refine r_isub dX9_coolLeft_61 ?_
        refine q_max mm_X9_123 rfl (Nat.le_of_ble_eq_true rfl) dX9_coolLeft_62 ?_
        refine r_iret dX9_coolLeft_65 rfl ⟨Nat.zero_le _, Nat.zero_le _⟩ ?_
        first
          | (have ko : okP r x = false := bn1 c_5
             exact ⟨rfl, fun q => absurd q (cd1_n ko)⟩)
          | (refine ⟨rfl, fun _ => ?_⟩
             try unfold fP
             try unfold gP
             try unfold tP
             rw [ex]
             refine some_int ?_
             unfold clL
             rw [i_sub3]
             first
               | exact absurd c_11 c_41
               | exact absurd c_41 c_11
               | rw [if_pos c_11]
               | rw [if_neg c_11]
             all_goals rfl)
      · refine r_bipush (21) dX9_coolLeft_44 (by decide) ?_
        refine r_goto 51 dX9_coolLeft_46 (by decide) ?_
        refine q_callV2 (cv_X9_of ml_X9_81) hW kc_723 (by decide) rfl ⟨rfl, rfl⟩ rfl (Nat.le_of_ble_eq_true rfl) dX9_coolLeft_51 (c_X9_of hW hm hp hx kn_21 (by omega)) (fun v_51 h_51 q_51 => ?_)
        obtain ⟨rfl, z9⟩ := q_51
        replace z9 := z9.symm
        subst z9
        refine r_isub dX9_coolLeft_54 ?_
        refine r_istore (ls2 := [_, _, _, some _, _]) dX9_coolLeft_55 (by decide) rfl ?_
        refine r_iconst (0) dX9_coolLeft_57 (by decide) ?_
        refine r_iload_n dX9_coolLeft_58 rfl ?_
        refine r_iload dX9_coolLeft_59 rfl ?_
        refine r_isub dX9_coolLeft_61 ?_
        refine q_max mm_X9_123 rfl (Nat.le_of_ble_eq_true rfl) dX9_coolLeft_62 ?_
        refine r_iret dX9_coolLeft_65 rfl ⟨Nat.zero_le _, Nat.zero_le _⟩ ?_
        first
          | (have ko : okP r x = false := bn1 c_5
             exact ⟨rfl, fun q => absurd q (cd1_n ko)⟩)
          | (refine ⟨rfl, fun _ => ?_⟩
             try unfold fP
             try unfold gP
             try unfold tP
             rw [ex]
             refine some_int ?_
             unfold clL
             rw [i_sub3]
             first
               | exact absurd c_11 c_41
               | exact absurd c_41 c_11
               | rw [if_pos c_11]
               | rw [if_neg c_11]
             all_goals rfl)
    · refine r_aload_n dX9_coolLeft_14 rfl ?_
      refine r_iload_n dX9_coolLeft_15 rfl ?_
      refine r_bipush (12) dX9_coolLeft_16 (by decide) ?_
      refine q_callV2 (cv_X9_of ml_X9_81) hW kc_723 (by decide) rfl ⟨rfl, rfl⟩ rfl (Nat.le_of_ble_eq_true rfl) dX9_coolLeft_18 (c_X9_of hW hm hp hx kn_12 (by omega)) (fun v_18 h_18 q_18 => ?_)
      obtain ⟨rfl, z9⟩ := q_18
      replace z9 := z9.symm
      subst z9
      refine r_goto 31 dX9_coolLeft_21 (by decide) ?_
      refine r_istore_n (ls2 := [_, _, some _, _, _]) dX9_coolLeft_31 (by decide) rfl ?_
      refine r_aload_n dX9_coolLeft_32 rfl ?_
      refine q_getR fl_X9_7 hW kc_723 rfl (kl_9_0 hW) (by decide) dX9_coolLeft_33 ?_
      refine r_iconst (1) dX9_coolLeft_36 (by decide) ?_
      refine q_wldPV hW hm kn_1 (by omega) dX9_coolLeft_37 ?_
      refine r_aload_n dX9_coolLeft_38 rfl ?_
      refine r_iload_n dX9_coolLeft_39 rfl ?_
      refine r_iload_n dX9_coolLeft_40 rfl ?_
      refine r_if_eq 49 dX9_coolLeft_41 (by decide) (fun c_41 => ?_) (fun c_41 => ?_)
      · refine r_bipush (22) dX9_coolLeft_49 (by decide) ?_
        refine q_callV2 (cv_X9_of ml_X9_81) hW kc_723 (by decide) rfl ⟨rfl, rfl⟩ rfl (Nat.le_of_ble_eq_true rfl) dX9_coolLeft_51 (c_X9_of hW hm hp hx kn_22 (by omega)) (fun v_51 h_51 q_51 => ?_)
        obtain ⟨rfl, z9⟩ := q_51
        replace z9 := z9.symm
        subst z9
        refine r_isub dX9_coolLeft_54 ?_
        refine r_istore (ls2 := [_, _, _, some _, _]) dX9_coolLeft_55 (by decide) rfl ?_
        refine r_iconst (0) dX9_coolLeft_57 (by decide) ?_
        refine r_iload_n dX9_coolLeft_58 rfl ?_
        refine r_iload dX9_coolLeft_59 rfl ?_
        refine r_isub dX9_coolLeft_61 ?_
        refine q_max mm_X9_123 rfl (Nat.le_of_ble_eq_true rfl) dX9_coolLeft_62 ?_
        refine r_iret dX9_coolLeft_65 rfl ⟨Nat.zero_le _, Nat.zero_le _⟩ ?_
        first
          | (have ko : okP r x = false := bn1 c_5
             exact ⟨rfl, fun q => absurd q (cd1_n ko)⟩)
          | (refine ⟨rfl, fun _ => ?_⟩
             try unfold fP
             try unfold gP
             try unfold tP
             rw [ex]
             refine some_int ?_
             unfold clL
             rw [i_sub3]
             first
               | exact absurd c_11 c_41
               | exact absurd c_41 c_11
               | rw [if_pos c_11]
               | rw [if_neg c_11]
             all_goals rfl)
      · refine r_bipush (21) dX9_coolLeft_44 (by decide) ?_
        refine r_goto 51 dX9_coolLeft_46 (by decide) ?_
        refine q_callV2 (cv_X9_of ml_X9_81) hW kc_723 (by decide) rfl ⟨rfl, rfl⟩ rfl (Nat.le_of_ble_eq_true rfl) dX9_coolLeft_51 (c_X9_of hW hm hp hx kn_21 (by omega)) (fun v_51 h_51 q_51 => ?_)
        obtain ⟨rfl, z9⟩ := q_51
        replace z9 := z9.symm
        subst z9
        refine r_isub dX9_coolLeft_54 ?_
        refine r_istore (ls2 := [_, _, _, some _, _]) dX9_coolLeft_55 (by decide) rfl ?_
        refine r_iconst (0) dX9_coolLeft_57 (by decide) ?_
        refine r_iload_n dX9_coolLeft_58 rfl ?_
        refine r_iload dX9_coolLeft_59 rfl ?_
        refine r_isub dX9_coolLeft_61 ?_
        refine q_max mm_X9_123 rfl (Nat.le_of_ble_eq_true rfl) dX9_coolLeft_62 ?_
        refine r_iret dX9_coolLeft_65 rfl ⟨Nat.zero_le _, Nat.zero_le _⟩ ?_
        first
          | (have ko : okP r x = false := bn1 c_5
             exact ⟨rfl, fun q => absurd q (cd1_n ko)⟩)
          | (refine ⟨rfl, fun _ => ?_⟩
             try unfold fP
             try unfold gP
             try unfold tP
             rw [ex]
             refine some_int ?_
             unfold clL
             rw [i_sub3]
             first
               | exact absurd c_11 c_41
               | exact absurd c_41 c_11
               | rw [if_pos c_11]
               | rw [if_neg c_11]
             all_goals rfl)
  · refine r_iconst (0) dX9_coolLeft_8 (by decide) ?_
    refine r_iret dX9_coolLeft_9 rfl ⟨Nat.zero_le _, Nat.zero_le _⟩ ?_
    first
      | (have ko : okP r x = false := bn1 c_5
         exact ⟨rfl, fun q => absurd q (cd1_n ko)⟩)
      | (refine ⟨rfl, fun _ => ?_⟩
         try unfold fP
         try unfold gP
         try unfold tP
         rw [ex]
         refine some_int ?_
         unfold clL
         rw [i_sub3]
         first
           | exact absurd c_11 c_41
           | exact absurd c_41 c_11
           | rw [if_pos c_11]
           | rw [if_neg c_11]
         all_goals rfl)

set_option maxRecDepth 100000 in
set_option maxHeartbeats 4000000 in
theorem c_X9_missedShare {l9 : Launch} {G : GC} {h : AH} {r : Row} {m : Nat} {x : Int32} (hW : World h) (hm : MW h r) (hO : RoOK r.1 r.2 m) (hm28 : m < 2 ^ 28) : PM l9 G mX9_missedShare NT NT [.ref 723, .int x] h (fun v h' => h' = sI h 723 12 (nI (cd1 (okP r x))) ∧ (cd1 (okP r x) = 0 → v = some (.float (msS (gP r x))))) noX := by
  refine PM.of (by decide +kernel) rfl rfl (Nat.le_of_ble_eq_true rfl) (fun hst _ => ?_)
  refine r_aload_n dX9_missedShare_0 rfl ?_
  refine r_iload_n dX9_missedShare_1 rfl ?_
  refine q_callV1 (cv_X9_noPool ml_X9_309) hW kc_723 (by decide) rfl ⟨rfl, rfl⟩ rfl (Nat.le_of_ble_eq_true rfl) dX9_missedShare_2 (c_X9_noPool hW hm hO) (fun v_2 h_2 q_2 => ?_)
  obtain ⟨rfl, z9⟩ := q_2
  subst z9
  have hW : World (sI h 723 12 (nI (cd1 (okP r x)))) := wsI hW
  replace hm := hm.s9 (k := 12) (x := nI (cd1 (okP r x)))
  refine r_if_eq 10 dX9_missedShare_5 (by decide) (fun c_5 => ?_) (fun c_5 => ?_)
  · have ko : okP r x = true := bn0 c_5
    obtain ⟨p, hp, pn, hx⟩ := okP_t hO ko
    have ex : nn x = p := by rw [hx]; exact nn_I (by omega)
    have hmw := hm
    have hOr := hO
    replace hO := hO.2 p pn
    replace hm := hm.pv p
    have hg4 : getG r.2 p 4 = getG r.2 p 0 + getG r.2 p 1 := hO.2.2.2.2.2.2.2
    refine r_aload_n dX9_missedShare_10 rfl ?_
    refine r_iload_n dX9_missedShare_11 rfl ?_
    refine r_iconst (4) dX9_missedShare_12 (by decide) ?_
    refine q_callV2 (cv_X9_sumOf ml_X9_333) hW kc_723 (by decide) rfl ⟨rfl, rfl⟩ rfl (Nat.le_of_ble_eq_true rfl) dX9_missedShare_13 (c_X9_sumOf hW hmw hp hx kn_4 (by decide)) (fun v_13 h_13 q_13 => ?_)
    obtain ⟨rfl, z9⟩ := q_13
    replace z9 := z9.symm
    subst z9
    rw [hg4]
    refine r_lconst (0) dX9_missedShare_16 (by decide) ?_
    refine r_lcmp dX9_missedShare_17 ?_
    have e9 := lcmp0 (x := getG r.2 p 0 + getG r.2 p 1)
    refine r_if_ne 25 dX9_missedShare_18 (by decide) (fun c_18 => ?_) (fun c_18 => ?_)
    · refine r_aload_n dX9_missedShare_25 rfl ?_
      refine r_iload_n dX9_missedShare_26 rfl ?_
      refine r_iconst (1) dX9_missedShare_27 (by decide) ?_
      refine q_callV2 (cv_X9_sumOf ml_X9_333) hW kc_723 (by decide) rfl ⟨rfl, rfl⟩ rfl (Nat.le_of_ble_eq_true rfl) dX9_missedShare_28 (c_X9_sumOf hW hmw hp hx kn_1 (by decide)) (fun v_28 h_28 q_28 => ?_)
      obtain ⟨rfl, z9⟩ := q_28
      replace z9 := z9.symm
      subst z9
      refine r_l2f dX9_missedShare_31 ?_
      refine r_aload_n dX9_missedShare_32 rfl ?_
      refine r_iload_n dX9_missedShare_33 rfl ?_
      refine r_iconst (4) dX9_missedShare_34 (by decide) ?_
      refine q_callV2 (cv_X9_sumOf ml_X9_333) hW kc_723 (by decide) rfl ⟨rfl, rfl⟩ rfl (Nat.le_of_ble_eq_true rfl) dX9_missedShare_35 (c_X9_sumOf hW hmw hp hx kn_4 (by decide)) (fun v_35 h_35 q_35 => ?_)
      obtain ⟨rfl, z9⟩ := q_35
      replace z9 := z9.symm
      subst z9
      rw [hg4]
      refine r_l2f dX9_missedShare_38 ?_
      refine r_fdiv dX9_missedShare_39 (n32_fll (fun q => c_18 (e9.mpr q))) ?_
      refine r_fret dX9_missedShare_40 rfl ⟨Nat.zero_le _, Nat.zero_le _⟩ ?_
      first
        | (have ko : okP r x = false := bn1 c_5
           exact ⟨rfl, fun q => absurd q (cd1_n ko)⟩)
        | (refine ⟨rfl, fun _ => ?_⟩
           try unfold fP
           try unfold gP
           try unfold tP
           rw [ex]
           refine some_float ?_
           unfold msS
           first
             | rw [if_pos (e9.mp c_18)]
             | rw [if_neg (fun q => c_18 (e9.mpr q))]
           all_goals rfl)
    · refine r_fconst0 dX9_missedShare_21 ?_
      refine r_goto 40 dX9_missedShare_22 (by decide) ?_
      refine r_fret dX9_missedShare_40 rfl ⟨Nat.zero_le _, Nat.zero_le _⟩ ?_
      first
        | (have ko : okP r x = false := bn1 c_5
           exact ⟨rfl, fun q => absurd q (cd1_n ko)⟩)
        | (refine ⟨rfl, fun _ => ?_⟩
           try unfold fP
           try unfold gP
           try unfold tP
           rw [ex]
           refine some_float ?_
           unfold msS
           first
             | rw [if_pos (e9.mp c_18)]
             | rw [if_neg (fun q => c_18 (e9.mpr q))]
           all_goals rfl)
  · refine r_fconst0 dX9_missedShare_8 ?_
    refine r_fret dX9_missedShare_9 rfl ⟨Nat.zero_le _, Nat.zero_le _⟩ ?_
    first
      | (have ko : okP r x = false := bn1 c_5
         exact ⟨rfl, fun q => absurd q (cd1_n ko)⟩)
      | (refine ⟨rfl, fun _ => ?_⟩
         try unfold fP
         try unfold gP
         try unfold tP
         rw [ex]
         refine some_float ?_
         unfold msS
         first
           | rw [if_pos (e9.mp c_18)]
           | rw [if_neg (fun q => c_18 (e9.mpr q))]
         all_goals rfl)

set_option maxRecDepth 100000 in
set_option maxHeartbeats 4000000 in
theorem c_X9_used {l9 : Launch} {G : GC} {h : AH} {r : Row} {m : Nat} {x : Int32} (hW : World h) (hm : MW h r) (hO : RoOK r.1 r.2 m) (hm28 : m < 2 ^ 28) : PM l9 G mX9_used NT NT [.ref 723, .int x] h (fun v h' => h' = sI h 723 12 (nI (cd1 (okP r x))) ∧ (cd1 (okP r x) = 0 → v = some (.double (usD (gP r x))))) noX := by
  refine PM.of (by decide +kernel) rfl rfl (Nat.le_of_ble_eq_true rfl) (fun hst _ => ?_)
  refine r_aload_n dX9_used_0 rfl ?_
  refine r_iload_n dX9_used_1 rfl ?_
  refine q_callV1 (cv_X9_noPool ml_X9_309) hW kc_723 (by decide) rfl ⟨rfl, rfl⟩ rfl (Nat.le_of_ble_eq_true rfl) dX9_used_2 (c_X9_noPool hW hm hO) (fun v_2 h_2 q_2 => ?_)
  obtain ⟨rfl, z9⟩ := q_2
  subst z9
  have hW : World (sI h 723 12 (nI (cd1 (okP r x)))) := wsI hW
  replace hm := hm.s9 (k := 12) (x := nI (cd1 (okP r x)))
  refine r_if_eq 10 dX9_used_5 (by decide) (fun c_5 => ?_) (fun c_5 => ?_)
  · have ko : okP r x = true := bn0 c_5
    obtain ⟨p, hp, pn, hx⟩ := okP_t hO ko
    have ex : nn x = p := by rw [hx]; exact nn_I (by omega)
    have hmw := hm
    have hOr := hO
    replace hO := hO.2 p pn
    replace hm := hm.pv p
    refine r_aload_n dX9_used_10 rfl ?_
    refine r_iload_n dX9_used_11 rfl ?_
    refine r_iconst (5) dX9_used_12 (by decide) ?_
    refine q_callV2 (cv_X9_sumOf ml_X9_333) hW kc_723 (by decide) rfl ⟨rfl, rfl⟩ rfl (Nat.le_of_ble_eq_true rfl) dX9_used_13 (c_X9_sumOf hW hmw hp hx kn_5 (by decide)) (fun v_13 h_13 q_13 => ?_)
    obtain ⟨rfl, z9⟩ := q_13
    replace z9 := z9.symm
    subst z9
    refine r_lconst (0) dX9_used_16 (by decide) ?_
    refine r_lcmp dX9_used_17 ?_
    have e9 := lcmp0 (x := getG r.2 p 5)
    refine r_if_ne 25 dX9_used_18 (by decide) (fun c_18 => ?_) (fun c_18 => ?_)
    · refine r_aload_n dX9_used_25 rfl ?_
      refine r_iload_n dX9_used_26 rfl ?_
      refine r_iconst (0) dX9_used_27 (by decide) ?_
      refine q_callV2 (cv_X9_sumOf ml_X9_333) hW kc_723 (by decide) rfl ⟨rfl, rfl⟩ rfl (Nat.le_of_ble_eq_true rfl) dX9_used_28 (c_X9_sumOf hW hmw hp hx kn_0 (by decide)) (fun v_28 h_28 q_28 => ?_)
      obtain ⟨rfl, z9⟩ := q_28
      replace z9 := z9.symm
      subst z9
      refine r_l2d dX9_used_31 ?_
      refine r_aload_n dX9_used_32 rfl ?_
      refine r_iload_n dX9_used_33 rfl ?_
      refine r_iconst (5) dX9_used_34 (by decide) ?_
      refine q_callV2 (cv_X9_sumOf ml_X9_333) hW kc_723 (by decide) rfl ⟨rfl, rfl⟩ rfl (Nat.le_of_ble_eq_true rfl) dX9_used_35 (c_X9_sumOf hW hmw hp hx kn_5 (by decide)) (fun v_35 h_35 q_35 => ?_)
      obtain ⟨rfl, z9⟩ := q_35
      replace z9 := z9.symm
      subst z9
      refine r_l2d dX9_used_38 ?_
      refine r_ddiv dX9_used_39 (n64_dll (fun q => c_18 (e9.mpr q))) ?_
      refine r_dret dX9_used_40 rfl ⟨Nat.zero_le _, Nat.zero_le _⟩ ?_
      first
        | (have ko : okP r x = false := bn1 c_5
           exact ⟨rfl, fun q => absurd q (cd1_n ko)⟩)
        | (refine ⟨rfl, fun _ => ?_⟩
           try unfold fP
           try unfold gP
           try unfold tP
           rw [ex]
           refine some_double ?_
           unfold usD
           first
             | rw [if_pos (e9.mp c_18)]
             | rw [if_neg (fun q => c_18 (e9.mpr q))]
           all_goals rfl)
    · refine r_dconst0 dX9_used_21 ?_
      refine r_goto 40 dX9_used_22 (by decide) ?_
      refine r_dret dX9_used_40 rfl ⟨Nat.zero_le _, Nat.zero_le _⟩ ?_
      first
        | (have ko : okP r x = false := bn1 c_5
           exact ⟨rfl, fun q => absurd q (cd1_n ko)⟩)
        | (refine ⟨rfl, fun _ => ?_⟩
           try unfold fP
           try unfold gP
           try unfold tP
           rw [ex]
           refine some_double ?_
           unfold usD
           first
             | rw [if_pos (e9.mp c_18)]
             | rw [if_neg (fun q => c_18 (e9.mpr q))]
           all_goals rfl)
  · refine r_dconst0 dX9_used_8 ?_
    refine r_dret dX9_used_9 rfl ⟨Nat.zero_le _, Nat.zero_le _⟩ ?_
    first
      | (have ko : okP r x = false := bn1 c_5
         exact ⟨rfl, fun q => absurd q (cd1_n ko)⟩)
      | (refine ⟨rfl, fun _ => ?_⟩
         try unfold fP
         try unfold gP
         try unfold tP
         rw [ex]
         refine some_double ?_
         unfold usD
         first
           | rw [if_pos (e9.mp c_18)]
           | rw [if_neg (fun q => c_18 (e9.mpr q))]
         all_goals rfl)

set_option maxRecDepth 100000 in
set_option maxHeartbeats 4000000 in
theorem c_X9_headroom {l9 : Launch} {G : GC} {h : AH} {r : Row} {m : Nat} {x : Int32} (hW : World h) (hm : MW h r) (hO : RoOK r.1 r.2 m) (hm28 : m < 2 ^ 28) : PM l9 G mX9_headroom NT NT [.ref 723, .int x] h (fun v h' => h' = sI h 723 12 (nI (cd1 (okP r x))) ∧ (cd1 (okP r x) = 0 → v = some (.int (pwF (fP r x) (r.1 1) - bkz (fP r x) (tP r) 0)))) noX := by
  refine PM.of (by decide +kernel) rfl rfl (Nat.le_of_ble_eq_true rfl) (fun hst _ => ?_)
  refine r_aload_n dX9_headroom_0 rfl ?_
  refine r_iload_n dX9_headroom_1 rfl ?_
  refine q_callV1 (cv_X9_noPool ml_X9_309) hW kc_723 (by decide) rfl ⟨rfl, rfl⟩ rfl (Nat.le_of_ble_eq_true rfl) dX9_headroom_2 (c_X9_noPool hW hm hO) (fun v_2 h_2 q_2 => ?_)
  obtain ⟨rfl, z9⟩ := q_2
  subst z9
  have hW : World (sI h 723 12 (nI (cd1 (okP r x)))) := wsI hW
  replace hm := hm.s9 (k := 12) (x := nI (cd1 (okP r x)))
  refine r_if_eq 10 dX9_headroom_5 (by decide) (fun c_5 => ?_) (fun c_5 => ?_)
  · have ko : okP r x = true := bn0 c_5
    obtain ⟨p, hp, pn, hx⟩ := okP_t hO ko
    have ex : nn x = p := by rw [hx]; exact nn_I (by omega)
    have hmw := hm
    have hOr := hO
    replace hO := hO.2 p pn
    replace hm := hm.pv p
    have yc := hO.2.2.2.2.1.2.1
    have e29 := hO.2.2.2.2.1.1
    have ez : getP r.1 p 29 = 0 ↔ nn (r.1 1) = 0 := by rw [e29]; exact nI_eq (b := 0) (by omega) (by decide)
    refine r_aload_n dX9_headroom_10 rfl ?_
    refine r_iload_n dX9_headroom_11 rfl ?_
    refine q_callV1 (cv_X9_power ml_X9_129) hW kc_723 (by decide) rfl ⟨rfl, rfl⟩ rfl (Nat.le_of_ble_eq_true rfl) dX9_headroom_12 (c_X9_power hW hm hp hO hx) (fun v_12 h_12 q_12 => ?_)
    obtain ⟨rfl, z9⟩ := q_12
    replace z9 := z9.symm
    subst z9
    refine r_aload_n dX9_headroom_15 rfl ?_
    refine r_iload_n dX9_headroom_16 rfl ?_
    refine r_bipush (29) dX9_headroom_17 (by decide) ?_
    refine q_callV2 (cv_X9_of ml_X9_81) hW kc_723 (by decide) rfl ⟨rfl, rfl⟩ rfl (Nat.le_of_ble_eq_true rfl) dX9_headroom_19 (c_X9_of hW hm hp hx kn_29 (by omega)) (fun v_19 h_19 q_19 => ?_)
    obtain ⟨rfl, z9⟩ := q_19
    replace z9 := z9.symm
    subst z9
    refine r_if_ne 29 dX9_headroom_22 (by decide) (fun c_22 => ?_) (fun c_22 => ?_)
    · have hc0 : nn (r.1 1) ≠ 0 := fun q => c_22 (ez.mpr q)
      refine r_aload_n dX9_headroom_29 rfl ?_
      refine r_iload_n dX9_headroom_30 rfl ?_
      refine r_iconst (0) dX9_headroom_31 (by decide) ?_
      refine q_callV2 (cv_X9_back ml_X9_114) hW kc_723 (by decide) rfl ⟨rfl, rfl⟩ rfl (Nat.le_of_ble_eq_true rfl) dX9_headroom_32 (c_X9_back hW hm hp hO hx kn_0 (by omega)) (fun v_32 h_32 q_32 => ?_)
      obtain ⟨rfl, z9⟩ := q_32
      replace z9 := z9.symm
      subst z9
      refine r_isub dX9_headroom_35 ?_
      refine r_iret dX9_headroom_36 rfl ⟨Nat.zero_le _, Nat.zero_le _⟩ ?_
      first
        | (have ko : okP r x = false := bn1 c_5
           exact ⟨rfl, fun q => absurd q (cd1_n ko)⟩)
        | (refine ⟨rfl, fun _ => ?_⟩
           try unfold fP
           try unfold gP
           try unfold tP
           rw [ex]
           refine some_int ?_
           unfold bkz
           first
             | rw [if_neg (fun q => by have := ez.mp c_22; omega)]
             | rw [if_pos ⟨by omega, by decide⟩]
           all_goals rfl)
    · refine r_iconst (0) dX9_headroom_25 (by decide) ?_
      refine r_goto 35 dX9_headroom_26 (by decide) ?_
      refine r_isub dX9_headroom_35 ?_
      refine r_iret dX9_headroom_36 rfl ⟨Nat.zero_le _, Nat.zero_le _⟩ ?_
      first
        | (have ko : okP r x = false := bn1 c_5
           exact ⟨rfl, fun q => absurd q (cd1_n ko)⟩)
        | (refine ⟨rfl, fun _ => ?_⟩
           try unfold fP
           try unfold gP
           try unfold tP
           rw [ex]
           refine some_int ?_
           unfold bkz
           first
             | rw [if_neg (fun q => by have := ez.mp c_22; omega)]
             | rw [if_pos ⟨by omega, by decide⟩]
           all_goals rfl)
  · refine r_iconst (0) dX9_headroom_8 (by decide) ?_
    refine r_iret dX9_headroom_9 rfl ⟨Nat.zero_le _, Nat.zero_le _⟩ ?_
    first
      | (have ko : okP r x = false := bn1 c_5
         exact ⟨rfl, fun q => absurd q (cd1_n ko)⟩)
      | (refine ⟨rfl, fun _ => ?_⟩
         try unfold fP
         try unfold gP
         try unfold tP
         rw [ex]
         refine some_int ?_
         unfold bkz
         first
           | rw [if_neg (fun q => by have := ez.mp c_22; omega)]
           | rw [if_pos ⟨by omega, by decide⟩]
         all_goals rfl)

set_option maxRecDepth 100000 in
set_option maxHeartbeats 4000000 in
theorem c_X9_demandsWithin {l9 : Launch} {G : GC} {h : AH} {r : Row} {m : Nat} {x : Int32} {y z : Int32} (hW : World h) (hm : MW h r) (hO : RoOK r.1 r.2 m) (hm28 : m < 2 ^ 28) : PM l9 G mX9_demandsWithin NT NT [.ref 723, .int x, .int y, .int z] h (fun v h' => h' = sI h 723 12 (nI (cd1 (okP r x))) ∧ (cd1 (okP r x) = 0 → v = some (.int (nI (cdN (fP r x) (tP r) y z))))) noX := by
  refine PM.of (by decide +kernel) rfl rfl (Nat.le_of_ble_eq_true rfl) (fun hst _ => ?_)
  refine r_aload_n dX9_demandsWithin_0 rfl ?_
  refine r_iload_n dX9_demandsWithin_1 rfl ?_
  refine q_callV1 (cv_X9_noPool ml_X9_309) hW kc_723 (by decide) rfl ⟨rfl, rfl⟩ rfl (Nat.le_of_ble_eq_true rfl) dX9_demandsWithin_2 (c_X9_noPool hW hm hO) (fun v_2 h_2 q_2 => ?_)
  obtain ⟨rfl, z9⟩ := q_2
  subst z9
  have hW : World (sI h 723 12 (nI (cd1 (okP r x)))) := wsI hW
  replace hm := hm.s9 (k := 12) (x := nI (cd1 (okP r x)))
  refine r_if_eq 12 dX9_demandsWithin_5 (by decide) (fun c_5 => ?_) (fun c_5 => ?_)
  · have ko : okP r x = true := bn0 c_5
    obtain ⟨p, hp, pn, hx⟩ := okP_t hO ko
    have ex : nn x = p := by rw [hx]; exact nn_I (by omega)
    have hmw := hm
    have hOr := hO
    replace hO := hO.2 p pn
    replace hm := hm.pv p
    refine r_aload_n dX9_demandsWithin_12 rfl ?_
    refine r_iload_n dX9_demandsWithin_13 rfl ?_
    refine r_iload_n dX9_demandsWithin_14 rfl ?_
    refine r_iload_n dX9_demandsWithin_15 rfl ?_
    refine q_callV3 (cv_X9_within ml_X9_376) hW kc_723 (by decide) rfl ⟨rfl, rfl⟩ rfl (Nat.le_of_ble_eq_true rfl) dX9_demandsWithin_16 (c_X9_within hW hm hp hO hx) (fun v_16 h_16 q_16 => ?_)
    obtain ⟨rfl, z9⟩ := q_16
    replace z9 := z9.symm
    subst z9
    refine r_iret dX9_demandsWithin_19 rfl ⟨Nat.zero_le _, Nat.zero_le _⟩ ?_
    first
      | (have ko : okP r x = false := bn1 c_5
         exact ⟨rfl, fun q => absurd q (cd1_n ko)⟩)
      | (refine ⟨rfl, fun _ => ?_⟩
         try unfold fP
         try unfold gP
         try unfold tP
         rw [ex]
         all_goals rfl)
  · refine r_iconst (0) dX9_demandsWithin_8 (by decide) ?_
    refine r_goto 19 dX9_demandsWithin_9 (by decide) ?_
    refine r_iret dX9_demandsWithin_19 rfl ⟨Nat.zero_le _, Nat.zero_le _⟩ ?_
    first
      | (have ko : okP r x = false := bn1 c_5
         exact ⟨rfl, fun q => absurd q (cd1_n ko)⟩)
      | (refine ⟨rfl, fun _ => ?_⟩
         try unfold fP
         try unfold gP
         try unfold tP
         rw [ex]
         all_goals rfl)

set_option maxRecDepth 100000 in
set_option maxHeartbeats 4000000 in
theorem c_X9_planned {l9 : Launch} {G : GC} {h : AH} {r : Row} {m : Nat} {x y : Int32} (hW : World h) (hm : MW h r) (hO : RoOK r.1 r.2 m) (hm28 : m < 2 ^ 28) : PM l9 G mX9_planned NT NT [.ref 723, .int x, .int y] h (fun v h' => h' = sI h 723 12 (nI (cd2 (okP r x) (rgB 0 999 y))) ∧ (cd2 (okP r x) (rgB 0 999 y) = 0 → v = some (.int (dmA (fP r x) (tP r) (nn y))))) noX := by
  refine PM.of (by decide +kernel) rfl rfl (Nat.le_of_ble_eq_true rfl) (fun hst _ => ?_)
  refine r_aload_n dX9_planned_0 rfl ?_
  refine r_iload_n dX9_planned_1 rfl ?_
  refine q_callV1 (cv_X9_noPool ml_X9_309) hW kc_723 (by decide) rfl ⟨rfl, rfl⟩ rfl (Nat.le_of_ble_eq_true rfl) dX9_planned_2 (c_X9_noPool hW hm hO) (fun v_2 h_2 q_2 => ?_)
  obtain ⟨rfl, z9⟩ := q_2
  subst z9
  have hW : World (sI h 723 12 (nI (cd1 (okP r x)))) := wsI hW
  replace hm := hm.s9 (k := 12) (x := nI (cd1 (okP r x)))
  refine r_if_ne 32 dX9_planned_5 (by decide) (fun c_5 => ?_) (fun c_5 => ?_)
  · refine r_iconst (0) dX9_planned_32 (by decide) ?_
    refine r_goto 42 dX9_planned_33 (by decide) ?_
    refine r_iret dX9_planned_42 rfl ⟨Nat.zero_le _, Nat.zero_le _⟩ ?_
    first
      | (have ko : okP r x = false := bn1 c_5
         exact ⟨by rw [ko]; rfl, fun q => absurd q (cd2_n1 ko)⟩)
      | (have kr : rgB 0 999 y = false := bI_0.mp c_17
         exact ⟨by rw [ko, kr]; exact sI_2, fun q => absurd q (cd2_n2 ko kr)⟩)
      | (refine ⟨by rw [ko, kr]; rfl, fun _ => ?_⟩
         try unfold fP
         try unfold gP
         try unfold tP
         rw [ex]
         rw [ekn]
         all_goals rfl)
  · have ko : okP r x = true := bn0 c_5
    refine r_aload_n dX9_planned_8 rfl ?_
    refine r_iload_n dX9_planned_9 rfl ?_
    refine r_iconst (0) dX9_planned_10 (by decide) ?_
    refine r_sipush (999) dX9_planned_11 (by decide) ?_
    refine q_callS3 (cs_X9_inRange ml_X9_167) ⟨rfl, rfl⟩ rfl (Nat.le_of_ble_eq_true rfl) dX9_planned_14 c_X9_inRange (fun v_14 h_14 q_14 => ?_)
    obtain ⟨rfl, z9⟩ := q_14
    replace z9 := z9.symm
    subst z9
    refine r_if_ne 24 dX9_planned_17 (by decide) (fun c_17 => ?_) (fun c_17 => ?_)
    · refine r_iconst (0) dX9_planned_24 (by decide) ?_
      refine r_iconst (2) dX9_planned_25 (by decide) ?_
      refine q_callV2 (cv_X9_fails ml_X9_302) hW kc_723 (by decide) rfl ⟨rfl, rfl⟩ rfl (Nat.le_of_ble_eq_true rfl) dX9_planned_26 (c_X9_fails0 hW) (fun v_26 h_26 q_26 => ?_)
      obtain ⟨rfl, z9⟩ := q_26
      replace z9 := z9.symm
      subst z9
      refine r_if_eq 36 dX9_planned_29 (by decide) (fun c_29 => ?_) (fun c_29 => ?_)
      · have kr : rgB 0 999 y = true := bI_1.mp c_17
        obtain ⟨p, hp, pn, hx⟩ := okP_t hO ko
        have ex : nn x = p := by rw [hx]; exact nn_I (by omega)
        have hmw := hm
        have hOr := hO
        replace hO := hO.2 p pn
        replace hm := hm.pv p
        obtain ⟨k, k1, k2, ek⟩ := rgB_t (a := 0) (b := 999) kr (by decide) (by decide)
        have ekn : nn y = k := by rw [ek]; exact nn_I (by omega)
        have e1 := hOr.1.2.1.1
        have e2 := hOr.1.2.1.2.2
        refine r_aload_n dX9_planned_36 rfl ?_
        refine r_iload_n dX9_planned_37 rfl ?_
        refine r_iload_n dX9_planned_38 rfl ?_
        refine q_callV2 (cv_X9_plannedAt ml_X9_327) hW kc_723 (by decide) rfl ⟨rfl, rfl⟩ rfl (Nat.le_of_ble_eq_true rfl) dX9_planned_39 (c_X9_plannedAt hW hm hp hO hx ek (by omega) (t := nn (r.1 1)) e1 (by omega)) (fun v_39 h_39 q_39 => ?_)
        obtain ⟨rfl, z9⟩ := q_39
        replace z9 := z9.symm
        subst z9
        refine r_iret dX9_planned_42 rfl ⟨Nat.zero_le _, Nat.zero_le _⟩ ?_
        first
          | (have ko : okP r x = false := bn1 c_5
             exact ⟨by rw [ko]; rfl, fun q => absurd q (cd2_n1 ko)⟩)
          | (have kr : rgB 0 999 y = false := bI_0.mp c_17
             exact ⟨by rw [ko, kr]; exact sI_2, fun q => absurd q (cd2_n2 ko kr)⟩)
          | (refine ⟨by rw [ko, kr]; rfl, fun _ => ?_⟩
             try unfold fP
             try unfold gP
             try unfold tP
             rw [ex]
             rw [ekn]
             all_goals rfl)
      · first | exact absurd c_29 (by decide) | exact absurd (by decide) c_29
    · refine r_iconst (1) dX9_planned_20 (by decide) ?_
      refine r_goto 25 dX9_planned_21 (by decide) ?_
      refine r_iconst (2) dX9_planned_25 (by decide) ?_
      refine q_callV2 (cv_X9_fails ml_X9_302) hW kc_723 (by decide) rfl ⟨rfl, rfl⟩ rfl (Nat.le_of_ble_eq_true rfl) dX9_planned_26 (c_X9_fails1 hW) (fun v_26 h_26 q_26 => ?_)
      obtain ⟨rfl, z9⟩ := q_26
      replace z9 := z9.symm
      subst z9
      replace hm := hm.s9 (k := 12) (x := 2)
      refine r_if_eq 36 dX9_planned_29 (by decide) (fun c_29 => ?_) (fun c_29 => ?_)
      · first | exact absurd c_29 (by decide) | exact absurd (by decide) c_29
      · refine r_iconst (0) dX9_planned_32 (by decide) ?_
        refine r_goto 42 dX9_planned_33 (by decide) ?_
        refine r_iret dX9_planned_42 rfl ⟨Nat.zero_le _, Nat.zero_le _⟩ ?_
        first
          | (have ko : okP r x = false := bn1 c_5
             exact ⟨by rw [ko]; rfl, fun q => absurd q (cd2_n1 ko)⟩)
          | (have kr : rgB 0 999 y = false := bI_0.mp c_17
             exact ⟨by rw [ko, kr]; exact sI_2, fun q => absurd q (cd2_n2 ko kr)⟩)
          | (refine ⟨by rw [ko, kr]; rfl, fun _ => ?_⟩
             try unfold fP
             try unfold gP
             try unfold tP
             rw [ex]
             rw [ekn]
             all_goals rfl)

set_option maxRecDepth 100000 in
set_option maxHeartbeats 4000000 in
theorem c_X9_decisions {l9 : Launch} {G : GC} {h : AH} {r : Row} {m : Nat} {x y : Int32} (hW : World h) (hm : MW h r) (hO : RoOK r.1 r.2 m) (hm28 : m < 2 ^ 28) : PM l9 G mX9_decisions NT NT [.ref 723, .int x, .int y] h (fun v h' => h' = sI h 723 12 (nI (cd2 (okP r x) (rgB 0 5 y))) ∧ (cd2 (okP r x) (rgB 0 5 y) = 0 → v = some (.int ((fP r x) (30 + nn y))))) noX := by
  refine PM.of (by decide +kernel) rfl rfl (Nat.le_of_ble_eq_true rfl) (fun hst _ => ?_)
  refine r_aload_n dX9_decisions_0 rfl ?_
  refine r_iload_n dX9_decisions_1 rfl ?_
  refine q_callV1 (cv_X9_noPool ml_X9_309) hW kc_723 (by decide) rfl ⟨rfl, rfl⟩ rfl (Nat.le_of_ble_eq_true rfl) dX9_decisions_2 (c_X9_noPool hW hm hO) (fun v_2 h_2 q_2 => ?_)
  obtain ⟨rfl, z9⟩ := q_2
  subst z9
  have hW : World (sI h 723 12 (nI (cd1 (okP r x)))) := wsI hW
  replace hm := hm.s9 (k := 12) (x := nI (cd1 (okP r x)))
  refine r_if_ne 30 dX9_decisions_5 (by decide) (fun c_5 => ?_) (fun c_5 => ?_)
  · refine r_iconst (0) dX9_decisions_30 (by decide) ?_
    refine r_goto 43 dX9_decisions_31 (by decide) ?_
    refine r_iret dX9_decisions_43 rfl ⟨Nat.zero_le _, Nat.zero_le _⟩ ?_
    first
      | (have ko : okP r x = false := bn1 c_5
         exact ⟨by rw [ko]; rfl, fun q => absurd q (cd2_n1 ko)⟩)
      | (have kr : rgB 0 5 y = false := bI_0.mp c_15
         exact ⟨by rw [ko, kr]; exact sI_2, fun q => absurd q (cd2_n2 ko kr)⟩)
      | (refine ⟨by rw [ko, kr]; rfl, fun _ => ?_⟩
         try unfold fP
         try unfold gP
         try unfold tP
         rw [ex]
         rw [ekn]
         all_goals rfl)
  · have ko : okP r x = true := bn0 c_5
    refine r_aload_n dX9_decisions_8 rfl ?_
    refine r_iload_n dX9_decisions_9 rfl ?_
    refine r_iconst (0) dX9_decisions_10 (by decide) ?_
    refine r_iconst (5) dX9_decisions_11 (by decide) ?_
    refine q_callS3 (cs_X9_inRange ml_X9_167) ⟨rfl, rfl⟩ rfl (Nat.le_of_ble_eq_true rfl) dX9_decisions_12 c_X9_inRange (fun v_12 h_12 q_12 => ?_)
    obtain ⟨rfl, z9⟩ := q_12
    replace z9 := z9.symm
    subst z9
    refine r_if_ne 22 dX9_decisions_15 (by decide) (fun c_15 => ?_) (fun c_15 => ?_)
    · refine r_iconst (0) dX9_decisions_22 (by decide) ?_
      refine r_iconst (2) dX9_decisions_23 (by decide) ?_
      refine q_callV2 (cv_X9_fails ml_X9_302) hW kc_723 (by decide) rfl ⟨rfl, rfl⟩ rfl (Nat.le_of_ble_eq_true rfl) dX9_decisions_24 (c_X9_fails0 hW) (fun v_24 h_24 q_24 => ?_)
      obtain ⟨rfl, z9⟩ := q_24
      replace z9 := z9.symm
      subst z9
      refine r_if_eq 34 dX9_decisions_27 (by decide) (fun c_27 => ?_) (fun c_27 => ?_)
      · have kr : rgB 0 5 y = true := bI_1.mp c_15
        obtain ⟨p, hp, pn, hx⟩ := okP_t hO ko
        have ex : nn x = p := by rw [hx]; exact nn_I (by omega)
        have hmw := hm
        have hOr := hO
        replace hO := hO.2 p pn
        replace hm := hm.pv p
        obtain ⟨k, k1, k2, ek⟩ := rgB_t (a := 0) (b := 5) kr (by decide) (by decide)
        have ekn : nn y = k := by rw [ek]; exact nn_I (by omega)
        refine r_aload_n dX9_decisions_34 rfl ?_
        refine r_iload_n dX9_decisions_35 rfl ?_
        refine r_bipush (30) dX9_decisions_36 (by decide) ?_
        refine r_iload_n dX9_decisions_38 rfl ?_
        refine r_iadd dX9_decisions_39 ?_
        refine q_callV2 (cv_X9_of ml_X9_81) hW kc_723 (by decide) rfl ⟨rfl, rfl⟩ rfl (Nat.le_of_ble_eq_true rfl) dX9_decisions_40 (c_X9_of hW hm hp hx (nadd kn_30 ek) (by omega)) (fun v_40 h_40 q_40 => ?_)
        obtain ⟨rfl, z9⟩ := q_40
        replace z9 := z9.symm
        subst z9
        refine r_iret dX9_decisions_43 rfl ⟨Nat.zero_le _, Nat.zero_le _⟩ ?_
        first
          | (have ko : okP r x = false := bn1 c_5
             exact ⟨by rw [ko]; rfl, fun q => absurd q (cd2_n1 ko)⟩)
          | (have kr : rgB 0 5 y = false := bI_0.mp c_15
             exact ⟨by rw [ko, kr]; exact sI_2, fun q => absurd q (cd2_n2 ko kr)⟩)
          | (refine ⟨by rw [ko, kr]; rfl, fun _ => ?_⟩
             try unfold fP
             try unfold gP
             try unfold tP
             rw [ex]
             rw [ekn]
             all_goals rfl)
      · first | exact absurd c_27 (by decide) | exact absurd (by decide) c_27
    · refine r_iconst (1) dX9_decisions_18 (by decide) ?_
      refine r_goto 23 dX9_decisions_19 (by decide) ?_
      refine r_iconst (2) dX9_decisions_23 (by decide) ?_
      refine q_callV2 (cv_X9_fails ml_X9_302) hW kc_723 (by decide) rfl ⟨rfl, rfl⟩ rfl (Nat.le_of_ble_eq_true rfl) dX9_decisions_24 (c_X9_fails1 hW) (fun v_24 h_24 q_24 => ?_)
      obtain ⟨rfl, z9⟩ := q_24
      replace z9 := z9.symm
      subst z9
      replace hm := hm.s9 (k := 12) (x := 2)
      refine r_if_eq 34 dX9_decisions_27 (by decide) (fun c_27 => ?_) (fun c_27 => ?_)
      · first | exact absurd c_27 (by decide) | exact absurd (by decide) c_27
      · refine r_iconst (0) dX9_decisions_30 (by decide) ?_
        refine r_goto 43 dX9_decisions_31 (by decide) ?_
        refine r_iret dX9_decisions_43 rfl ⟨Nat.zero_le _, Nat.zero_le _⟩ ?_
        first
          | (have ko : okP r x = false := bn1 c_5
             exact ⟨by rw [ko]; rfl, fun q => absurd q (cd2_n1 ko)⟩)
          | (have kr : rgB 0 5 y = false := bI_0.mp c_15
             exact ⟨by rw [ko, kr]; exact sI_2, fun q => absurd q (cd2_n2 ko kr)⟩)
          | (refine ⟨by rw [ko, kr]; rfl, fun _ => ?_⟩
             try unfold fP
             try unfold gP
             try unfold tP
             rw [ex]
             rw [ekn]
             all_goals rfl)
