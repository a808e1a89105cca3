-- the class: what is found in a State; events; the output
def smS (w : Nat → Int32) : Nat → Nat
  | 0 => 0
  | n + 1 => smS w n + nn (getP w n 23)
def plS (w : Nat → Int32) (x : Int32) (p : Nat) : Option Nat := fi (fun k => decide (getP w p (100 + 4 * k) = x)) (nn (getP w p 23))
def hmS (w : Nat → Int32) (x : Int32) (n : Nat) : Option Nat := fi (fun p => (plS w x p).isSome) n
theorem StR.sz {h : AH} {b p m : Nat} {w : Nat → Int32} {v : Nat → Int64} (hs : StR h b w v) (hO : RoOK w v m) (hp : p < nn (w 0)) : aI h (b + 7 + 12 * p + 3) 4 = nI (nn (getP w p 23)) ∧ nn (getP w p 23) ≤ 20 ∧ getP w p 23 = nI (nn (getP w p 23)) := by
  have h1 := (hs.po hp).2.1.1
  rw [mbs_len] at h1
  exact ⟨h1, ((hO.2 p hp).at 23).2.2, ((hO.2 p hp).at 23).1⟩
theorem StR.plc {h : AH} {b p m : Nat} {w : Nat → Int32} {v : Nat → Int64} {x : Int32} (hs : StR h b w v) (hO : RoOK w v m) (hp : p < nn (w 0)) : fi (fun k => decide (aI h (b + 7 + 12 * p + 3 + 1) k = x)) (nn (getP w p 23)) = plS w x p := by
  unfold plS
  refine fi_cg (fun k hk => ?_)
  have h1 := (hs.po hp).2.1.2.2 k (by rw [mbs_len]; exact hk)
  rw [h1.1, mbs_num hk]
theorem plS_lt {w : Nat → Int32} {x : Int32} {p k : Nat} (h : plS w x p = some k) : k < nn (getP w p 23) := (fi_lt h).1
theorem RoOK.np {w : Nat → Int32} {v : Nat → Int64} {m : Nat} (hO : RoOK w v m) : ∃ n, n ≤ 4 ∧ w 0 = nI n ∧ nn (w 0) = n := by
  obtain ⟨n, n1, n2, n3⟩ := hO.1.1.nat
  exact ⟨n, n2, n3, by rw [n3]; exact nn_I (by omega)⟩
theorem smS_le {w : Nat → Int32} {v : Nat → Int64} {m : Nat} (hO : RoOK w v m) : ∀ n, n ≤ nn (w 0) → smS w n ≤ 20 * n
  | 0, _ => Nat.le_refl _
  | n + 1, hn => by
    have := smS_le hO n (by omega)
    have h2 : nn (getP w n 23) ≤ 20 := ((hO.2 n (by omega)).at 23).2.2
    show smS w n + nn (getP w n 23) ≤ _
    omega
set_option maxRecDepth 100000 in
set_option maxHeartbeats 4000000 in
theorem c_X6_countMembers {l9 : Launch} {G : GC} {h : AH} {b : Nat} {w : Nat → Int32} {v9 : Nat → Int64} {m : Nat} (hW : World h) (hk : kd b 6) (hs : StR h b w v9) (hO : RoOK w v9 m) : PM l9 G mX6_countMembers NT NT [.ref b] h (fun v h' => v = some (.int (nI (smS w (nn (w 0))))) ∧ h' = h) noX := by
  refine PM.of (by decide +kernel) rfl rfl (Nat.le_of_ble_eq_true rfl) (fun hst _ => ?_)
  obtain ⟨np, n2, n3, en⟩ := hO.np
  rw [en]
  refine r_iconst (0) dX6_countMembers_0 (by decide) ?_
  refine r_istore_n (ls2 := [some _, _, _]) dX6_countMembers_1 (by decide) rfl ?_
  refine r_iconst (0) dX6_countMembers_2 (by decide) ?_
  refine r_istore_n (ls2 := [_, some _, _]) dX6_countMembers_3 (by decide) rfl ?_
  refine loopN (P := fun i => i ≤ np → PW l9 G mX6_countMembers _ _ NT 4 [some (.ref b), some (.int (nI (smS w i))), some (.int (nI i))] [] (0, 0) h) np (fun i ih hi => ?_) 0 (Nat.zero_le _)
  refine r_iload_n dX6_countMembers_4 rfl ?_
  refine r_aload_n dX6_countMembers_5 rfl ?_
  refine q_getI fl_X6_25 hW hk rfl dX6_countMembers_6 ?_
  rw [hs.1, n3]
  refine r_icmp_ge 33 dX6_countMembers_9 (by decide) (fun c_9 => ?_) (fun c_9 => ?_)
  · have hge : np = i := by have := (nI_leI (by omega) (by omega)).mp c_9; omega
    subst hge
    refine r_iload_n dX6_countMembers_33 rfl ?_
    refine r_iret dX6_countMembers_34 rfl ⟨Nat.zero_le _, Nat.zero_le _⟩ ?_
    exact ⟨rfl, rfl⟩
  · have hlt : i < np := (nI_ltI (by omega) (by omega)).mp (i_lt.mp c_9)
    have hi4 : i < 4 := by omega
    obtain ⟨z1, z2, z3⟩ := hs.sz hO (p := i) (by omega)
    refine r_iload_n dX6_countMembers_12 rfl ?_
    refine r_aload_n dX6_countMembers_13 rfl ?_
    refine q_getR fl_X6_11 hW hk rfl (kl_6_0 hW hk) (Nat.succ_ne_zero _) dX6_countMembers_14 ?_
    refine r_iload_n dX6_countMembers_17 rfl ?_
    refine q_pald hW (kk_6_0 hk) rfl hi4 dX6_countMembers_18 ?_
    refine q_getR fl_X6_49 hW (kk_14 (kk_6_0 hk).1 hi4) rfl (kl_3_1 hW (kk_14 (kk_6_0 hk).1 hi4)) (Nat.succ_ne_zero _) dX6_countMembers_19 ?_
    refine q_getI fl_X6_58 hW (kk_3_1 (kk_14 (kk_6_0 hk).1 hi4)) rfl dX6_countMembers_22 ?_
    rw [show aI h (b + 1 + 6 + 12 * i + 3) 4 = nI (nn (getP w i 23)) from z1]
    refine r_iadd dX6_countMembers_25 ?_
    rw [nI_add]
    refine r_istore_n (ls2 := [some _, _, _]) dX6_countMembers_26 (by decide) rfl ?_
    refine r_iinc (1) (by decide) (ls2 := [_, some _, _]) dX6_countMembers_27 rfl (by decide) rfl ?_
    refine r_goto 4 dX6_countMembers_30 (by decide) ?_
    rw [nI_1]
    exact ih hlt hlt

set_option maxRecDepth 100000 in
set_option maxHeartbeats 4000000 in
theorem c_X6_homeOf {l9 : Launch} {G : GC} {h : AH} {b : Nat} {w : Nat → Int32} {v9 : Nat → Int64} {m : Nat} {x : Int32} (hW : World h) (hk : kd b 6) (hs : StR h b w v9) (hO : RoOK w v9 m) : PM l9 G mX6_homeOf NT NT [.ref b, .int x] h (fun v h' => v = some (.int (oI (hmS w x (nn (w 0))))) ∧ h' = h) noX := by
  refine PM.of (by decide +kernel) rfl rfl (Nat.le_of_ble_eq_true rfl) (fun hst _ => ?_)
  obtain ⟨np, n2, n3, en⟩ := hO.np
  rw [en]
  refine r_iconst (0) dX6_homeOf_0 (by decide) ?_
  refine r_istore_n (ls2 := [_, some _, _]) dX6_homeOf_1 (by decide) rfl ?_
  refine loopN (P := fun i => i ≤ np → hmS w x i = none → PW l9 G mX6_homeOf _ _ NT 2 [some (.ref b), some (.int x), some (.int (nI i))] [] (0, 0) h) np (fun i ih hi hf => ?_) 0 (Nat.zero_le _) rfl
  refine r_iload_n dX6_homeOf_2 rfl ?_
  refine r_aload_n dX6_homeOf_3 rfl ?_
  refine q_getI fl_X6_25 hW hk rfl dX6_homeOf_4 ?_
  rw [hs.1, n3]
  refine r_icmp_ge 34 dX6_homeOf_7 (by decide) (fun c_7 => ?_) (fun c_7 => ?_)
  · have hge : np = i := by have := (nI_leI (by omega) (by omega)).mp c_7; omega
    subst hge
    refine r_iconst (-1) dX6_homeOf_34 (by decide) ?_
    refine r_iret dX6_homeOf_35 rfl ⟨Nat.zero_le _, Nat.zero_le _⟩ ?_
    rw [hf]; exact ⟨rfl, rfl⟩
  · have hlt : i < np := (nI_ltI (by omega) (by omega)).mp (i_lt.mp c_7)
    have hi4 : i < 4 := by omega
    obtain ⟨z1, z2, z3⟩ := hs.sz hO (p := i) (by omega)
    have zp := hs.plc (x := x) hO (p := i) (by omega)
    refine r_aload_n dX6_homeOf_10 rfl ?_
    refine q_getR fl_X6_11 hW hk rfl (kl_6_0 hW hk) (Nat.succ_ne_zero _) dX6_homeOf_11 ?_
    refine r_iload_n dX6_homeOf_14 rfl ?_
    refine q_pald hW (kk_6_0 hk) rfl hi4 dX6_homeOf_15 ?_
    refine q_getR fl_X6_49 hW (kk_14 (kk_6_0 hk).1 hi4) rfl (kl_3_1 hW (kk_14 (kk_6_0 hk).1 hi4)) (Nat.succ_ne_zero _) dX6_homeOf_16 ?_
    refine r_iload_n dX6_homeOf_19 rfl ?_
    refine q_callV1 (cv_X1_placeOf ml_X6_61) hW (kk_3_1 (kk_14 (kk_6_0 hk).1 hi4)) (by decide) rfl ⟨rfl, rfl⟩ rfl (Nat.le_of_ble_eq_true rfl) dX6_homeOf_20 (c_X1_placeOf hW (kk_3_1 (kk_14 (kk_6_0 hk).1 hi4)) z1 z2) (fun v_20 h_20 q_20 => ?_)
    obtain ⟨rfl, z9⟩ := q_20
    replace z9 := z9.symm
    subst z9
    rw [show fi (fun k => decide (aI h (b + 1 + 6 + 12 * i + 3 + 1) k = x)) (nn (getP w i 23)) = plS w x i from zp]
    refine r_if_lt 28 dX6_homeOf_23 (by decide) (fun c_23 => ?_) (fun c_23 => ?_)
    · have hy : (plS w x i).isSome = false := by
        cases hq : plS w x i with
        | none => rfl
        | some k =>
          rw [hq] at c_23
          have := plS_lt hq
          exact absurd c_23 (fun z => absurd z (nI_pos (n := k) (by omega)))
      refine r_iinc (1) (by decide) (ls2 := [_, some _, _]) dX6_homeOf_28 rfl (by decide) rfl ?_
      refine r_goto 2 dX6_homeOf_31 (by decide) ?_
      rw [nI_1]
      exact ih hlt hlt (fi_pass hf hy)
    · have hy : (plS w x i).isSome = true := by
        cases hq : plS w x i with
        | none => rw [hq] at c_23; exact absurd (show (-1 : Int32) < 0 by decide) c_23
        | some k => rfl
      refine r_iload_n dX6_homeOf_26 rfl ?_
      refine r_iret dX6_homeOf_27 rfl ⟨Nat.zero_le _, Nat.zero_le _⟩ ?_
      exact ⟨some_int (by unfold hmS; rw [fi_hit (P := fun p => (plS w x p).isSome) hf hy hlt]; rfl), rfl⟩

set_option maxRecDepth 100000 in
set_option maxHeartbeats 4000000 in
theorem c_X6_placeIn {l9 : Launch} {G : GC} {h : AH} {b : Nat} {w : Nat → Int32} {v9 : Nat → Int64} {m : Nat} {x : Int32} {o9 : Option Nat} (hW : World h) (hk : kd b 6) (hs : StR h b w v9) (hO : RoOK w v9 m) (ho : ∀ p, o9 = some p → p < nn (w 0)) : PM l9 G mX6_placeIn NT NT [.ref b, .int (oI o9), .int x] h (fun v h' => v = some (.int (oI (o9.bind (plS w x)))) ∧ h' = h) noX := by
  refine PM.of (by decide +kernel) rfl rfl (Nat.le_of_ble_eq_true rfl) (fun hst _ => ?_)
  cases o9 with
  | none =>
    show PW _ _ _ _ _ _ _ [some (.ref b), some (.int (-1)), some (.int x)] [] _ _
    refine r_iload_n dX6_placeIn_0 rfl ?_
    refine r_if_lt 12 dX6_placeIn_1 (by decide) (fun c_1 => ?_) (fun c_1 => ?_)
    · refine r_iconst (-1) dX6_placeIn_12 (by decide) ?_
      refine r_goto 29 dX6_placeIn_13 (by decide) ?_
      refine r_iret dX6_placeIn_29 rfl ⟨Nat.zero_le _, Nat.zero_le _⟩ ?_
      exact ⟨rfl, rfl⟩
    · exact absurd (show (-1 : Int32) < 0 by decide) c_1
  | some p =>
    obtain ⟨np, n2, n3, en⟩ := hO.np
    have hlt := ho p rfl
    have hi4 : p < 4 := by omega
    obtain ⟨z1, z2, z3⟩ := hs.sz hO (p := p) hlt
    have zp := hs.plc (x := x) hO (p := p) hlt
    show PW _ _ _ _ _ _ _ [some (.ref b), some (.int (nI p)), some (.int x)] [] _ _
    refine r_iload_n dX6_placeIn_0 rfl ?_
    refine r_if_lt 12 dX6_placeIn_1 (by decide) (fun c_1 => ?_) (fun c_1 => ?_)
    · exact absurd c_1 (nI_pos (by omega))
    · refine r_iload_n dX6_placeIn_4 rfl ?_
      refine r_aload_n dX6_placeIn_5 rfl ?_
      refine q_getI fl_X6_25 hW hk rfl dX6_placeIn_6 ?_
      rw [hs.1, n3]
      refine r_icmp_lt 16 dX6_placeIn_9 (by decide) (fun c_9 => ?_) (fun c_9 => ?_)
      · refine r_aload_n dX6_placeIn_16 rfl ?_
        refine q_getR fl_X6_11 hW hk rfl (kl_6_0 hW hk) (Nat.succ_ne_zero _) dX6_placeIn_17 ?_
        refine r_iload_n dX6_placeIn_20 rfl ?_
        refine q_pald hW (kk_6_0 hk) rfl hi4 dX6_placeIn_21 ?_
        refine q_getR fl_X6_49 hW (kk_14 (kk_6_0 hk).1 hi4) rfl (kl_3_1 hW (kk_14 (kk_6_0 hk).1 hi4)) (Nat.succ_ne_zero _) dX6_placeIn_22 ?_
        refine r_iload_n dX6_placeIn_25 rfl ?_
        refine q_callV1 (cv_X1_placeOf ml_X6_61) hW (kk_3_1 (kk_14 (kk_6_0 hk).1 hi4)) (by decide) rfl ⟨rfl, rfl⟩ rfl (Nat.le_of_ble_eq_true rfl) dX6_placeIn_26 (c_X1_placeOf hW (kk_3_1 (kk_14 (kk_6_0 hk).1 hi4)) z1 z2) (fun v_26 h_26 q_26 => ?_)
        obtain ⟨rfl, z9⟩ := q_26
        replace z9 := z9.symm
        subst z9
        refine r_iret dX6_placeIn_29 rfl ⟨Nat.zero_le _, Nat.zero_le _⟩ ?_
        exact ⟨some_int (congrArg oI zp), rfl⟩
      · exact absurd ((nI_ltI (by omega) (by omega)).mpr (by omega)) c_9

set_option maxRecDepth 100000 in
set_option maxHeartbeats 4000000 in
theorem c_X0_keptN {l9 : Launch} {G : GC} {h : AH} {o n : Nat} {w : Nat → Int32} (hW : World h) (hk : kd o 0) (hm : EvW h o w n) (hn : n < 2 ^ 31) : PM l9 G mX0_kept NT NT [.ref o] h (fun v h' => v = some (.int (nI (min 60 n))) ∧ h' = h) noX := by
  refine PM.of (by decide +kernel) rfl rfl (Nat.le_of_ble_eq_true rfl) (fun hst _ => ?_)
  refine r_bipush (60) dX0_kept_0 (by decide) ?_
  refine r_aload_n dX0_kept_2 rfl ?_
  refine q_getI fl_X0_30 hW hk rfl dX0_kept_3 ?_
  rw [hm.1]
  refine q_min mm_X0_40 rfl (Nat.le_of_ble_eq_true rfl) dX0_kept_6 ?_
  rw [show imn 60 (nI n) = nI (min 60 n) from imn_I (a := 60) (by decide) hn]
  refine r_iret dX0_kept_9 rfl ⟨Nat.zero_le _, Nat.zero_le _⟩ ?_
  exact ⟨rfl, rfl⟩

set_option maxRecDepth 100000 in
set_option maxHeartbeats 4000000 in
theorem c_X0_part {l9 : Launch} {G : GC} {h : AH} {o n bk9 k : Nat} {w : Nat → Int32} (hW : World h) (hk : kd o 0) (hm : EvW h o w n) (hn : n < 2 ^ 30) (hb : bk9 < n) (hb6 : bk9 < 60) (hk4 : k < 4) : PM l9 G mX0_part NT NT [.ref o, .int (nI bk9), .int (nI k)] h (fun v h' => v = some (.int (w (4 + 4 * ((n - 1 - bk9) % 60) + k))) ∧ h' = h) noX := by
  refine PM.of (by decide +kernel) rfl rfl (Nat.le_of_ble_eq_true rfl) (fun hst _ => ?_)
  have hev : aI h (o + 1) ((n - 1 - bk9) % 60) = w (4 + 4 * ((n - 1 - bk9) % 60)) ∧ aI h (o + 2) ((n - 1 - bk9) % 60) = w (5 + 4 * ((n - 1 - bk9) % 60)) ∧ aI h (o + 3) ((n - 1 - bk9) % 60) = w (6 + 4 * ((n - 1 - bk9) % 60)) ∧ aI h (o + 4) ((n - 1 - bk9) % 60) = w (7 + 4 * ((n - 1 - bk9) % 60)) := hm.2 _ (Nat.mod_lt _ (by decide)) (by have := Nat.mod_lt (n - 1 - bk9) (show 0 < 60 by decide); have := Nat.mod_le (n - 1 - bk9) 60; omega)
  rw [show 5 + 4 * ((n - 1 - bk9) % 60) = 4 + 4 * ((n - 1 - bk9) % 60) + 1 from by omega, show 6 + 4 * ((n - 1 - bk9) % 60) = 4 + 4 * ((n - 1 - bk9) % 60) + 2 from by omega, show 7 + 4 * ((n - 1 - bk9) % 60) = 4 + 4 * ((n - 1 - bk9) % 60) + 3 from by omega] at hev
  have hk9 : k = 0 ∨ k = 1 ∨ k = 2 ∨ k = 3 := by omega
  rcases hk9 with hk0 | hk0 | hk0 | hk0
  · subst hk0
    refine r_aload_n dX0_part_0 rfl ?_
    refine q_getI fl_X0_30 hW hk rfl dX0_part_1 ?_
    rw [hm.1]
    refine r_iconst (1) dX0_part_4 (by decide) ?_
    refine r_isub dX0_part_5 ?_
    refine r_iload_n dX0_part_6 rfl ?_
    refine r_isub dX0_part_7 ?_
    rw [show nI n - 1 - nI bk9 = nI (n - 1 - bk9) from by rw [nI_s1 (by omega), pk_sub (by omega)]]
    refine r_bipush (60) dX0_part_8 (by decide) ?_
    have ym := Nat.mod_lt (n - 1 - bk9) (show 0 < 60 by decide)
    obtain ⟨r1, r2, r3, r4⟩ := hev
    refine q_callS2 (cs_J9_floorMod_7cf53 ml_X0_34) ⟨rfl, rfl⟩ rfl (Nat.le_of_ble_eq_true rfl) dX0_part_10 (c_floorMod (b := 60) (by omega) (by decide) (by decide)) (fun v_10 h_10 q_10 => ?_)
    obtain ⟨rfl, z9⟩ := q_10
    replace z9 := z9.symm
    subst z9
    refine r_istore_n (ls2 := [_, _, some _, _]) dX0_part_13 (by decide) rfl ?_
    refine r_iload_n dX0_part_14 rfl ?_
    refine r_tabIn 40 dX0_part_15 (by decide) (by decide) rfl (by decide) ?_
    refine r_aload_n dX0_part_40 rfl ?_
    refine q_getR fl_X0_9 hW hk rfl (kl_0_0 hW hk) (Nat.succ_ne_zero _) dX0_part_41 ?_
    refine r_iload_n dX0_part_44 rfl ?_
    refine q_iald hW (kk_0_0 hk) (k := (n - 1 - bk9) % 60) rfl ym (by decide) dX0_part_45 ?_
    refine r_iret dX0_part_46 rfl ⟨Nat.zero_le _, Nat.zero_le _⟩ ?_
    exact ⟨some_int r1, rfl⟩
  · subst hk0
    refine r_aload_n dX0_part_0 rfl ?_
    refine q_getI fl_X0_30 hW hk rfl dX0_part_1 ?_
    rw [hm.1]
    refine r_iconst (1) dX0_part_4 (by decide) ?_
    refine r_isub dX0_part_5 ?_
    refine r_iload_n dX0_part_6 rfl ?_
    refine r_isub dX0_part_7 ?_
    rw [show nI n - 1 - nI bk9 = nI (n - 1 - bk9) from by rw [nI_s1 (by omega), pk_sub (by omega)]]
    refine r_bipush (60) dX0_part_8 (by decide) ?_
    have ym := Nat.mod_lt (n - 1 - bk9) (show 0 < 60 by decide)
    obtain ⟨r1, r2, r3, r4⟩ := hev
    refine q_callS2 (cs_J9_floorMod_7cf53 ml_X0_34) ⟨rfl, rfl⟩ rfl (Nat.le_of_ble_eq_true rfl) dX0_part_10 (c_floorMod (b := 60) (by omega) (by decide) (by decide)) (fun v_10 h_10 q_10 => ?_)
    obtain ⟨rfl, z9⟩ := q_10
    replace z9 := z9.symm
    subst z9
    refine r_istore_n (ls2 := [_, _, some _, _]) dX0_part_13 (by decide) rfl ?_
    refine r_iload_n dX0_part_14 rfl ?_
    refine r_tabIn 47 dX0_part_15 (by decide) (by decide) rfl (by decide) ?_
    refine r_aload_n dX0_part_47 rfl ?_
    refine q_getR fl_X0_15 hW hk rfl (kl_0_1 hW hk) (Nat.succ_ne_zero _) dX0_part_48 ?_
    refine r_iload_n dX0_part_51 rfl ?_
    refine q_iald hW (kk_0_1 hk) (k := (n - 1 - bk9) % 60) rfl ym (by decide) dX0_part_52 ?_
    refine r_iret dX0_part_53 rfl ⟨Nat.zero_le _, Nat.zero_le _⟩ ?_
    exact ⟨some_int r2, rfl⟩
  · subst hk0
    refine r_aload_n dX0_part_0 rfl ?_
    refine q_getI fl_X0_30 hW hk rfl dX0_part_1 ?_
    rw [hm.1]
    refine r_iconst (1) dX0_part_4 (by decide) ?_
    refine r_isub dX0_part_5 ?_
    refine r_iload_n dX0_part_6 rfl ?_
    refine r_isub dX0_part_7 ?_
    rw [show nI n - 1 - nI bk9 = nI (n - 1 - bk9) from by rw [nI_s1 (by omega), pk_sub (by omega)]]
    refine r_bipush (60) dX0_part_8 (by decide) ?_
    have ym := Nat.mod_lt (n - 1 - bk9) (show 0 < 60 by decide)
    obtain ⟨r1, r2, r3, r4⟩ := hev
    refine q_callS2 (cs_J9_floorMod_7cf53 ml_X0_34) ⟨rfl, rfl⟩ rfl (Nat.le_of_ble_eq_true rfl) dX0_part_10 (c_floorMod (b := 60) (by omega) (by decide) (by decide)) (fun v_10 h_10 q_10 => ?_)
    obtain ⟨rfl, z9⟩ := q_10
    replace z9 := z9.symm
    subst z9
    refine r_istore_n (ls2 := [_, _, some _, _]) dX0_part_13 (by decide) rfl ?_
    refine r_iload_n dX0_part_14 rfl ?_
    refine r_tabIn 54 dX0_part_15 (by decide) (by decide) rfl (by decide) ?_
    refine r_aload_n dX0_part_54 rfl ?_
    refine q_getR fl_X0_18 hW hk rfl (kl_0_2 hW hk) (Nat.succ_ne_zero _) dX0_part_55 ?_
    refine r_iload_n dX0_part_58 rfl ?_
    refine q_iald hW (kk_0_2 hk) (k := (n - 1 - bk9) % 60) rfl ym (by decide) dX0_part_59 ?_
    refine r_iret dX0_part_60 rfl ⟨Nat.zero_le _, Nat.zero_le _⟩ ?_
    exact ⟨some_int r3, rfl⟩
  · subst hk0
    refine r_aload_n dX0_part_0 rfl ?_
    refine q_getI fl_X0_30 hW hk rfl dX0_part_1 ?_
    rw [hm.1]
    refine r_iconst (1) dX0_part_4 (by decide) ?_
    refine r_isub dX0_part_5 ?_
    refine r_iload_n dX0_part_6 rfl ?_
    refine r_isub dX0_part_7 ?_
    rw [show nI n - 1 - nI bk9 = nI (n - 1 - bk9) from by rw [nI_s1 (by omega), pk_sub (by omega)]]
    refine r_bipush (60) dX0_part_8 (by decide) ?_
    have ym := Nat.mod_lt (n - 1 - bk9) (show 0 < 60 by decide)
    obtain ⟨r1, r2, r3, r4⟩ := hev
    refine q_callS2 (cs_J9_floorMod_7cf53 ml_X0_34) ⟨rfl, rfl⟩ rfl (Nat.le_of_ble_eq_true rfl) dX0_part_10 (c_floorMod (b := 60) (by omega) (by decide) (by decide)) (fun v_10 h_10 q_10 => ?_)
    obtain ⟨rfl, z9⟩ := q_10
    replace z9 := z9.symm
    subst z9
    refine r_istore_n (ls2 := [_, _, some _, _]) dX0_part_13 (by decide) rfl ?_
    refine r_iload_n dX0_part_14 rfl ?_
    refine r_tabOut 61 dX0_part_15 (by decide) (by decide) ?_
    refine r_aload_n dX0_part_61 rfl ?_
    refine q_getR fl_X0_21 hW hk rfl (kl_0_3 hW hk) (Nat.succ_ne_zero _) dX0_part_62 ?_
    refine r_iload_n dX0_part_65 rfl ?_
    refine q_iald hW (kk_0_3 hk) (k := (n - 1 - bk9) % 60) rfl ym (by decide) dX0_part_66 ?_
    refine r_iret dX0_part_67 rfl ⟨Nat.zero_le _, Nat.zero_le _⟩ ?_
    exact ⟨some_int r4, rfl⟩

/-- the output: its bytes and their number -/
def OuC (h : AH) (ob : Nat → Int32) (n : Nat) : Prop := aI h 5 1 = nI n ∧ n ≤ 300 ∧ ∀ i, i < n → aI h 6 i = ob i
def obA (ob : Nat → Int32) (n : Nat) (x : Int32) : Nat → Int32 := upd ob n x
/-- decimal digits -/
def dgt (x k : Nat) : Nat := 48 + x / 10 ^ k % 10
/-- the greatest power of ten that is not above it; 0 at least -/
def lgT (x : Nat) : Nat → Nat
  | 0 => 0
  | k + 1 => if 10 ^ (k + 1) ≤ x then k + 1 else lgT x k
def lg9 (x : Nat) : Nat := lgT x 9
def wrN (ob : Nat → Int32) (n x : Nat) : Nat → Nat → Int32
  | 0 => ob
  | k + 1 => upd (wrN ob n x k) (n + k) (nI (dgt x (lg9 x - k)))
theorem lgT_le (x : Nat) : ∀ k, lgT x k ≤ k ∧ (lgT x k = 0 ∨ 10 ^ (lgT x k) ≤ x) ∧ ∀ j, lgT x k < j → j ≤ k → x < 10 ^ j
  | 0 => ⟨Nat.le_refl _, Or.inl rfl, fun j h1 h2 => absurd h2 (by have : lgT x 0 = 0 := rfl; omega)⟩
  | k + 1 => by
    obtain ⟨i1, i2, i3⟩ := lgT_le x k
    show (if 10 ^ (k + 1) ≤ x then k + 1 else lgT x k) ≤ k + 1 ∧ ((if 10 ^ (k + 1) ≤ x then k + 1 else lgT x k) = 0 ∨ 10 ^ (if 10 ^ (k + 1) ≤ x then k + 1 else lgT x k) ≤ x) ∧ ∀ j, (if 10 ^ (k + 1) ≤ x then k + 1 else lgT x k) < j → j ≤ k + 1 → x < 10 ^ j
    by_cases q : 10 ^ (k + 1) ≤ x
    · rw [if_pos q]
      exact ⟨Nat.le_refl _, Or.inr q, fun j h1 h2 => absurd h2 (by omega)⟩
    · rw [if_neg q]
      refine ⟨by omega, i2, fun j h1 h2 => ?_⟩
      rcases Nat.lt_or_ge j (k + 1) with z | z
      · exact i3 j h1 (by omega)
      · rw [show j = k + 1 from by omega]; omega
theorem div10 (x k : Nat) : 10 ≤ x / 10 ^ k ↔ 10 ^ (k + 1) ≤ x := by
  rw [Nat.le_div_iff_mul_le (Nat.pow_pos (by decide)), Nat.pow_succ, Nat.mul_comm]
set_option maxRecDepth 100000 in
set_option maxHeartbeats 4000000 in
theorem c_X2_addByte {l9 : Launch} {G : GC} {h : AH} {ob : Nat → Int32} {n : Nat} {x : Int32} (hW : World h) (ho : OuC h ob n) (hn : n < 300) (hx : vp_nar .byte x.toInt8.toInt32 = x) : PM l9 G mX2_addByte NT NT [.ref 5, .int x] h (fun v h' => v = none ∧ eqx h h' (fun i => i = 5 ∨ i = 6) ∧ OuC h' (upd ob n x) (n + 1)) noX := by
  refine PM.of (by decide +kernel) rfl rfl (Nat.le_of_ble_eq_true rfl) (fun hst _ => ?_)
  refine r_aload_n dX2_addByte_0 rfl ?_
  refine q_getI fl_X2_15 hW kc_5 rfl dX2_addByte_1 ?_
  rw [ho.1]
  refine r_sipush (300) dX2_addByte_4 (by decide) ?_
  refine r_icmp_ge 31 dX2_addByte_7 (by decide) (fun c_7 => ?_) (fun c_7 => ?_)
  · exact absurd ((nI_leI (a := 300) (by decide) (by omega)).mp c_7) (by omega)
  · refine r_aload_n dX2_addByte_10 rfl ?_
    refine q_getR fl_X2_9 hW kc_5 rfl (kl_2_0 hW) (by decide) dX2_addByte_11 ?_
    refine r_aload_n dX2_addByte_14 rfl ?_
    refine q_getI fl_X2_15 hW kc_5 rfl dX2_addByte_15 ?_
    rw [ho.1]
    refine r_iload_n dX2_addByte_18 rfl ?_
    refine r_i2b dX2_addByte_19 ?_
    refine q_bast hW kc_6 (k := n) rfl (by omega) (by decide) dX2_addByte_20 ?_
    refine r_aload_n dX2_addByte_21 rfl ?_
    refine r_dup dX2_addByte_22 rfl ?_
    refine q_getI fl_X2_15 hW kc_5 rfl dX2_addByte_23 ?_
    rw [show aI (sI h 6 n (vp_nar .byte x.toInt8.toInt32)) 5 1 = nI n from by rw [sI_o (by decide)]; exact ho.1]
    refine r_iconst (1) dX2_addByte_26 (by decide) ?_
    refine r_iadd dX2_addByte_27 ?_
    rw [nI_1]
    refine q_putI fl_X2_15 hW kc_5 rfl rfl dX2_addByte_28 ?_
    refine r_vret dX2_addByte_31 rfl ⟨Nat.zero_le _, Nat.zero_le _⟩ ?_
    refine ⟨rfl, (eqx.rf.sI (Or.inr rfl)).sI (Or.inl rfl), sI_s, by omega, fun i hi => ?_⟩
    rw [sI_o (by decide), sI_r, hx]
    by_cases e : i = n
    · rw [e, pk_us, pk_us]
    · rw [pk_un e, pk_un e]; exact ho.2.2 i (by omega)
