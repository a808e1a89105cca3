-- the law's wrappers
theorem wl_13 : Cond.classLink RL 13 eA ∈ tblG := (tgI 798 (by decide +kernel) rfl)
theorem wl_19 : Cond.classLink RL 19 eB ∈ tblG := (tgI 878 (by decide +kernel) rfl)
theorem wl_24 : Cond.classLink RL 24 eN ∈ tblG := (tgI 919 (by decide +kernel) rfl)
theorem wl_94 : Cond.classLink RL 94 eS ∈ tblG := (tgI 1232 (by decide +kernel) rfl)
set_option maxRecDepth 100000 in
set_option maxHeartbeats 4000000 in
theorem c_L_count {l9 : Launch} {G : GC} {h : AH} {x1 : Int32} {cd : Nat} {a : Int32} {Q : AH → Prop} (hG : GOK G) (hW : World h) (hcd : cd ≤ 1) (hM : PM l9 G mX8_count NT NT [.ref 1, .int x1] h (fun v h' => cd = 0 ∧ v = some (.int a) ∧ Q h') (fun E h' => thr [eA] cd E ∧ h' = h)) (hQ : ∀ h', Q h' → World h') : PMh l9 G mL_count NT NT [.ref 1, .int x1, .ref 737] h (fun v h' => v = some (.int (nI cd)) ∧ (cd ≠ 0 → h' = h) ∧ (cd = 0 → ∃ h1, Q h1 ∧ h' = sJ h1 737 0 a.toInt64)) := by
  refine PMh.of (by decide +kernel) rfl (Nat.le_of_ble_eq_true rfl) (fun hst _ => ?_)
  refine r_aload_n dL_count_0 rfl ?_
  refine r_iconst (0) dL_count_1 (by decide) ?_
  refine r_aload_n dL_count_2 rfl ?_
  refine r_iload_n dL_count_3 rfl ?_
  refine q_callX1 (cv_X8_count ml_L_7) hW kc_1 (by decide) rfl rfl (Nat.le_of_ble_eq_true rfl) dL_count_4 hM (fun v1 h1 q1 => ?_) (fun E1 h1 q1 => ?_)
  · obtain ⟨e1, rfl, q1⟩ := q1
    have hW1 := hQ _ q1
    refine r_i2l dL_count_7 ?_
    refine q_last (k := 0) hW1 kc_737 kn_0 (by decide) (by decide) dL_count_8 ?_
    refine r_goto 15 dL_count_9 (by decide) ?_
    refine r_iconst (0) dL_count_15 (by decide) ?_
    refine r_iret dL_count_16 rfl ⟨Nat.le_of_ble_eq_true rfl, Nat.le_of_ble_eq_true rfl⟩ ?_
    exact ⟨by rw [e1]; rfl, fun q => absurd e1 q, fun _ => ⟨_, q1, rfl⟩⟩
  · obtain ⟨⟨t1, t2⟩, rfl⟩ := q1
    obtain rfl : cd = 1 := by omega
    · have t3 : E1 = eA := t2.symm
      subst t3
      refine PX.catch (n0 := 0) hG (0, 9, 12, 13) rfl ⟨by decide, by decide⟩ (by decide) wl_13 ⟨rfl, by decide +kernel⟩ (fun z hz => absurd hz List.not_mem_nil) (fun a9 => ?_)
      refine r_astore_n (ls2 := [some _, some _, some _, some _]) dL_count_12 (by decide) rfl ?_
      refine r_iconst (1) dL_count_13 (by decide) ?_
      refine r_iret dL_count_14 rfl ⟨Nat.le_of_ble_eq_true rfl, Nat.le_of_ble_eq_true rfl⟩ ?_
      exact ⟨rfl, fun _ => rfl, fun q => absurd q (by decide)⟩
set_option maxRecDepth 100000 in
set_option maxHeartbeats 4000000 in
theorem c_L_pool {l9 : Launch} {G : GC} {h : AH} {x1 x2 : Int32} {cd : Nat} {a : Int32} {Q : AH → Prop} (hG : GOK G) (hW : World h) (hcd : cd ≤ 2) (hM : PM l9 G mX8_pool NT NT [.ref 1, .int x1, .int x2] h (fun v h' => cd = 0 ∧ v = some (.int a) ∧ Q h') (fun E h' => thr [eB, eA] cd E ∧ h' = h)) (hQ : ∀ h', Q h' → World h') : PMh l9 G mL_pool NT NT [.ref 1, .int x1, .int x2, .ref 737] h (fun v h' => v = some (.int (nI cd)) ∧ (cd ≠ 0 → h' = h) ∧ (cd = 0 → ∃ h1, Q h1 ∧ h' = sJ h1 737 0 a.toInt64)) := by
  refine PMh.of (by decide +kernel) rfl (Nat.le_of_ble_eq_true rfl) (fun hst _ => ?_)
  refine r_aload_n dL_pool_0 rfl ?_
  refine r_iconst (0) dL_pool_1 (by decide) ?_
  refine r_aload_n dL_pool_2 rfl ?_
  refine r_iload_n dL_pool_3 rfl ?_
  refine r_iload_n dL_pool_4 rfl ?_
  refine q_callX2 (cv_X8_pool ml_L_15) hW kc_1 (by decide) rfl rfl (Nat.le_of_ble_eq_true rfl) dL_pool_5 hM (fun v1 h1 q1 => ?_) (fun E1 h1 q1 => ?_)
  · obtain ⟨e1, rfl, q1⟩ := q1
    have hW1 := hQ _ q1
    refine r_i2l dL_pool_8 ?_
    refine q_last (k := 0) hW1 kc_737 kn_0 (by decide) (by decide) dL_pool_9 ?_
    refine r_goto 21 dL_pool_10 (by decide) ?_
    refine r_iconst (0) dL_pool_21 (by decide) ?_
    refine r_iret dL_pool_22 rfl ⟨Nat.le_of_ble_eq_true rfl, Nat.le_of_ble_eq_true rfl⟩ ?_
    exact ⟨by rw [e1]; rfl, fun q => absurd e1 q, fun _ => ⟨_, q1, rfl⟩⟩
  · obtain ⟨⟨t1, t2⟩, rfl⟩ := q1
    obtain rfl | rfl : cd = 1 ∨ cd = 2 := by omega
    · have t3 : E1 = eB := t2.symm
      subst t3
      refine PX.catch (n0 := 0) hG (0, 10, 13, 19) rfl ⟨by decide, by decide⟩ (by decide) wl_19 ⟨rfl, by decide +kernel⟩ (fun z hz => absurd hz List.not_mem_nil) (fun a9 => ?_)
      refine r_astore (ls2 := [some _, some _, some _, some _, some _]) dL_pool_13 (by decide) rfl ?_
      refine r_iconst (1) dL_pool_15 (by decide) ?_
      refine r_iret dL_pool_16 rfl ⟨Nat.le_of_ble_eq_true rfl, Nat.le_of_ble_eq_true rfl⟩ ?_
      exact ⟨rfl, fun _ => rfl, fun q => absurd q (by decide)⟩
    · have t3 : E1 = eA := t2.symm
      subst t3
      refine PX.catch (n0 := 1) hG (0, 10, 17, 13) rfl ⟨by decide, by decide⟩ (by decide) wl_13 ⟨rfl, by decide +kernel⟩ (by show ∀ z ∈ [((0, 10, 13, 19) : Nat × Nat × Nat × Nat)], _; exact List.forall_mem_cons.mpr ⟨⟨by decide, eB, wl_19, by decide +kernel⟩, fun _ h9 => absurd h9 List.not_mem_nil⟩) (fun a9 => ?_)
      refine r_astore (ls2 := [some _, some _, some _, some _, some _]) dL_pool_17 (by decide) rfl ?_
      refine r_iconst (2) dL_pool_19 (by decide) ?_
      refine r_iret dL_pool_20 rfl ⟨Nat.le_of_ble_eq_true rfl, Nat.le_of_ble_eq_true rfl⟩ ?_
      exact ⟨rfl, fun _ => rfl, fun q => absurd q (by decide)⟩
set_option maxRecDepth 100000 in
set_option maxHeartbeats 4000000 in
theorem c_L_member {l9 : Launch} {G : GC} {h : AH} {x1 x2 : Int32} {cd : Nat} {a : Int32} {Q : AH → Prop} (hG : GOK G) (hW : World h) (hcd : cd ≤ 2) (hM : PM l9 G mX8_member NT NT [.ref 1, .int x1, .int x2] h (fun v h' => cd = 0 ∧ v = some (.int a) ∧ Q h') (fun E h' => thr [eA, eN] cd E ∧ h' = h)) (hQ : ∀ h', Q h' → World h') : PMh l9 G mL_member NT NT [.ref 1, .int x1, .int x2, .ref 737] h (fun v h' => v = some (.int (nI cd)) ∧ (cd ≠ 0 → h' = h) ∧ (cd = 0 → ∃ h1, Q h1 ∧ h' = sJ h1 737 0 a.toInt64)) := by
  refine PMh.of (by decide +kernel) rfl (Nat.le_of_ble_eq_true rfl) (fun hst _ => ?_)
  refine r_aload_n dL_member_0 rfl ?_
  refine r_iconst (0) dL_member_1 (by decide) ?_
  refine r_aload_n dL_member_2 rfl ?_
  refine r_iload_n dL_member_3 rfl ?_
  refine r_iload_n dL_member_4 rfl ?_
  refine q_callX2 (cv_X8_member ml_L_21) hW kc_1 (by decide) rfl rfl (Nat.le_of_ble_eq_true rfl) dL_member_5 hM (fun v1 h1 q1 => ?_) (fun E1 h1 q1 => ?_)
  · obtain ⟨e1, rfl, q1⟩ := q1
    have hW1 := hQ _ q1
    refine r_i2l dL_member_8 ?_
    refine q_last (k := 0) hW1 kc_737 kn_0 (by decide) (by decide) dL_member_9 ?_
    refine r_goto 21 dL_member_10 (by decide) ?_
    refine r_iconst (0) dL_member_21 (by decide) ?_
    refine r_iret dL_member_22 rfl ⟨Nat.le_of_ble_eq_true rfl, Nat.le_of_ble_eq_true rfl⟩ ?_
    exact ⟨by rw [e1]; rfl, fun q => absurd e1 q, fun _ => ⟨_, q1, rfl⟩⟩
  · obtain ⟨⟨t1, t2⟩, rfl⟩ := q1
    obtain rfl | rfl : cd = 1 ∨ cd = 2 := by omega
    · have t3 : E1 = eA := t2.symm
      subst t3
      refine PX.catch (n0 := 0) hG (0, 10, 13, 13) rfl ⟨by decide, by decide⟩ (by decide) wl_13 ⟨rfl, by decide +kernel⟩ (fun z hz => absurd hz List.not_mem_nil) (fun a9 => ?_)
      refine r_astore (ls2 := [some _, some _, some _, some _, some _]) dL_member_13 (by decide) rfl ?_
      refine r_iconst (1) dL_member_15 (by decide) ?_
      refine r_iret dL_member_16 rfl ⟨Nat.le_of_ble_eq_true rfl, Nat.le_of_ble_eq_true rfl⟩ ?_
      exact ⟨rfl, fun _ => rfl, fun q => absurd q (by decide)⟩
    · have t3 : E1 = eN := t2.symm
      subst t3
      refine PX.catch (n0 := 1) hG (0, 10, 17, 24) rfl ⟨by decide, by decide⟩ (by decide) wl_24 ⟨rfl, by decide +kernel⟩ (by show ∀ z ∈ [((0, 10, 13, 13) : Nat × Nat × Nat × Nat)], _; exact List.forall_mem_cons.mpr ⟨⟨by decide, eA, wl_13, by decide +kernel⟩, fun _ h9 => absurd h9 List.not_mem_nil⟩) (fun a9 => ?_)
      refine r_astore (ls2 := [some _, some _, some _, some _, some _]) dL_member_17 (by decide) rfl ?_
      refine r_iconst (2) dL_member_19 (by decide) ?_
      refine r_iret dL_member_20 rfl ⟨Nat.le_of_ble_eq_true rfl, Nat.le_of_ble_eq_true rfl⟩ ?_
      exact ⟨rfl, fun _ => rfl, fun q => absurd q (by decide)⟩
set_option maxRecDepth 100000 in
set_option maxHeartbeats 4000000 in
theorem c_L_memberAt {l9 : Launch} {G : GC} {h : AH} {x1 x2 : Int32} {cd : Nat} {a : Int32} {Q : AH → Prop} (hG : GOK G) (hW : World h) (hcd : cd ≤ 2) (hM : PM l9 G mX8_memberAt NT NT [.ref 1, .int x1, .int x2] h (fun v h' => cd = 0 ∧ v = some (.int a) ∧ Q h') (fun E h' => thr [eB, eN] cd E ∧ h' = h)) (hQ : ∀ h', Q h' → World h') : PMh l9 G mL_memberAt NT NT [.ref 1, .int x1, .int x2, .ref 737] h (fun v h' => v = some (.int (nI cd)) ∧ (cd ≠ 0 → h' = h) ∧ (cd = 0 → ∃ h1, Q h1 ∧ h' = sJ h1 737 0 a.toInt64)) := by
  refine PMh.of (by decide +kernel) rfl (Nat.le_of_ble_eq_true rfl) (fun hst _ => ?_)
  refine r_aload_n dL_memberAt_0 rfl ?_
  refine r_iconst (0) dL_memberAt_1 (by decide) ?_
  refine r_aload_n dL_memberAt_2 rfl ?_
  refine r_iload_n dL_memberAt_3 rfl ?_
  refine r_iload_n dL_memberAt_4 rfl ?_
  refine q_callX2 (cv_X8_memberAt ml_L_26) hW kc_1 (by decide) rfl rfl (Nat.le_of_ble_eq_true rfl) dL_memberAt_5 hM (fun v1 h1 q1 => ?_) (fun E1 h1 q1 => ?_)
  · obtain ⟨e1, rfl, q1⟩ := q1
    have hW1 := hQ _ q1
    refine r_i2l dL_memberAt_8 ?_
    refine q_last (k := 0) hW1 kc_737 kn_0 (by decide) (by decide) dL_memberAt_9 ?_
    refine r_goto 21 dL_memberAt_10 (by decide) ?_
    refine r_iconst (0) dL_memberAt_21 (by decide) ?_
    refine r_iret dL_memberAt_22 rfl ⟨Nat.le_of_ble_eq_true rfl, Nat.le_of_ble_eq_true rfl⟩ ?_
    exact ⟨by rw [e1]; rfl, fun q => absurd e1 q, fun _ => ⟨_, q1, rfl⟩⟩
  · obtain ⟨⟨t1, t2⟩, rfl⟩ := q1
    obtain rfl | rfl : cd = 1 ∨ cd = 2 := by omega
    · have t3 : E1 = eB := t2.symm
      subst t3
      refine PX.catch (n0 := 0) hG (0, 10, 13, 19) rfl ⟨by decide, by decide⟩ (by decide) wl_19 ⟨rfl, by decide +kernel⟩ (fun z hz => absurd hz List.not_mem_nil) (fun a9 => ?_)
      refine r_astore (ls2 := [some _, some _, some _, some _, some _]) dL_memberAt_13 (by decide) rfl ?_
      refine r_iconst (1) dL_memberAt_15 (by decide) ?_
      refine r_iret dL_memberAt_16 rfl ⟨Nat.le_of_ble_eq_true rfl, Nat.le_of_ble_eq_true rfl⟩ ?_
      exact ⟨rfl, fun _ => rfl, fun q => absurd q (by decide)⟩
    · have t3 : E1 = eN := t2.symm
      subst t3
      refine PX.catch (n0 := 1) hG (0, 10, 17, 24) rfl ⟨by decide, by decide⟩ (by decide) wl_24 ⟨rfl, by decide +kernel⟩ (by show ∀ z ∈ [((0, 10, 13, 19) : Nat × Nat × Nat × Nat)], _; exact List.forall_mem_cons.mpr ⟨⟨by decide, eB, wl_19, by decide +kernel⟩, fun _ h9 => absurd h9 List.not_mem_nil⟩) (fun a9 => ?_)
      refine r_astore (ls2 := [some _, some _, some _, some _, some _]) dL_memberAt_17 (by decide) rfl ?_
      refine r_iconst (2) dL_memberAt_19 (by decide) ?_
      refine r_iret dL_memberAt_20 rfl ⟨Nat.le_of_ble_eq_true rfl, Nat.le_of_ble_eq_true rfl⟩ ?_
      exact ⟨rfl, fun _ => rfl, fun q => absurd q (by decide)⟩
set_option maxRecDepth 100000 in
set_option maxHeartbeats 4000000 in
theorem c_L_demand {l9 : Launch} {G : GC} {h : AH} {x1 x2 : Int32} {cd : Nat} {a : Int32} {Q : AH → Prop} (hG : GOK G) (hW : World h) (hcd : cd ≤ 2) (hM : PM l9 G mX8_demand NT NT [.ref 1, .int x1, .int x2] h (fun v h' => cd = 0 ∧ v = some (.int a) ∧ Q h') (fun E h' => thr [eB, eN] cd E ∧ h' = h)) (hQ : ∀ h', Q h' → World h') : PMh l9 G mL_demand NT NT [.ref 1, .int x1, .int x2, .ref 737] h (fun v h' => v = some (.int (nI cd)) ∧ (cd ≠ 0 → h' = h) ∧ (cd = 0 → ∃ h1, Q h1 ∧ h' = sJ h1 737 0 a.toInt64)) := by
  refine PMh.of (by decide +kernel) rfl (Nat.le_of_ble_eq_true rfl) (fun hst _ => ?_)
  refine r_aload_n dL_demand_0 rfl ?_
  refine r_iconst (0) dL_demand_1 (by decide) ?_
  refine r_aload_n dL_demand_2 rfl ?_
  refine r_iload_n dL_demand_3 rfl ?_
  refine r_iload_n dL_demand_4 rfl ?_
  refine q_callX2 (cv_X8_demand ml_L_29) hW kc_1 (by decide) rfl rfl (Nat.le_of_ble_eq_true rfl) dL_demand_5 hM (fun v1 h1 q1 => ?_) (fun E1 h1 q1 => ?_)
  · obtain ⟨e1, rfl, q1⟩ := q1
    have hW1 := hQ _ q1
    refine r_i2l dL_demand_8 ?_
    refine q_last (k := 0) hW1 kc_737 kn_0 (by decide) (by decide) dL_demand_9 ?_
    refine r_goto 21 dL_demand_10 (by decide) ?_
    refine r_iconst (0) dL_demand_21 (by decide) ?_
    refine r_iret dL_demand_22 rfl ⟨Nat.le_of_ble_eq_true rfl, Nat.le_of_ble_eq_true rfl⟩ ?_
    exact ⟨by rw [e1]; rfl, fun q => absurd e1 q, fun _ => ⟨_, q1, rfl⟩⟩
  · obtain ⟨⟨t1, t2⟩, rfl⟩ := q1
    obtain rfl | rfl : cd = 1 ∨ cd = 2 := by omega
    · have t3 : E1 = eB := t2.symm
      subst t3
      refine PX.catch (n0 := 0) hG (0, 10, 13, 19) rfl ⟨by decide, by decide⟩ (by decide) wl_19 ⟨rfl, by decide +kernel⟩ (fun z hz => absurd hz List.not_mem_nil) (fun a9 => ?_)
      refine r_astore (ls2 := [some _, some _, some _, some _, some _]) dL_demand_13 (by decide) rfl ?_
      refine r_iconst (1) dL_demand_15 (by decide) ?_
      refine r_iret dL_demand_16 rfl ⟨Nat.le_of_ble_eq_true rfl, Nat.le_of_ble_eq_true rfl⟩ ?_
      exact ⟨rfl, fun _ => rfl, fun q => absurd q (by decide)⟩
    · have t3 : E1 = eN := t2.symm
      subst t3
      refine PX.catch (n0 := 1) hG (0, 10, 17, 24) rfl ⟨by decide, by decide⟩ (by decide) wl_24 ⟨rfl, by decide +kernel⟩ (by show ∀ z ∈ [((0, 10, 13, 19) : Nat × Nat × Nat × Nat)], _; exact List.forall_mem_cons.mpr ⟨⟨by decide, eB, wl_19, by decide +kernel⟩, fun _ h9 => absurd h9 List.not_mem_nil⟩) (fun a9 => ?_)
      refine r_astore (ls2 := [some _, some _, some _, some _, some _]) dL_demand_17 (by decide) rfl ?_
      refine r_iconst (2) dL_demand_19 (by decide) ?_
      refine r_iret dL_demand_20 rfl ⟨Nat.le_of_ble_eq_true rfl, Nat.le_of_ble_eq_true rfl⟩ ?_
      exact ⟨rfl, fun _ => rfl, fun q => absurd q (by decide)⟩
set_option maxRecDepth 100000 in
set_option maxHeartbeats 4000000 in
theorem c_L_planned {l9 : Launch} {G : GC} {h : AH} {x1 x2 : Int32} {cd : Nat} {a : Int32} {Q : AH → Prop} (hG : GOK G) (hW : World h) (hcd : cd ≤ 2) (hM : PM l9 G mX8_planned NT NT [.ref 1, .int x1, .int x2] h (fun v h' => cd = 0 ∧ v = some (.int a) ∧ Q h') (fun E h' => thr [eB, eA] cd E ∧ h' = h)) (hQ : ∀ h', Q h' → World h') : PMh l9 G mL_planned NT NT [.ref 1, .int x1, .int x2, .ref 737] h (fun v h' => v = some (.int (nI cd)) ∧ (cd ≠ 0 → h' = h) ∧ (cd = 0 → ∃ h1, Q h1 ∧ h' = sJ h1 737 0 a.toInt64)) := by
  refine PMh.of (by decide +kernel) rfl (Nat.le_of_ble_eq_true rfl) (fun hst _ => ?_)
  refine r_aload_n dL_planned_0 rfl ?_
  refine r_iconst (0) dL_planned_1 (by decide) ?_
  refine r_aload_n dL_planned_2 rfl ?_
  refine r_iload_n dL_planned_3 rfl ?_
  refine r_iload_n dL_planned_4 rfl ?_
  refine q_callX2 (cv_X8_planned ml_L_32) hW kc_1 (by decide) rfl rfl (Nat.le_of_ble_eq_true rfl) dL_planned_5 hM (fun v1 h1 q1 => ?_) (fun E1 h1 q1 => ?_)
  · obtain ⟨e1, rfl, q1⟩ := q1
    have hW1 := hQ _ q1
    refine r_i2l dL_planned_8 ?_
    refine q_last (k := 0) hW1 kc_737 kn_0 (by decide) (by decide) dL_planned_9 ?_
    refine r_goto 21 dL_planned_10 (by decide) ?_
    refine r_iconst (0) dL_planned_21 (by decide) ?_
    refine r_iret dL_planned_22 rfl ⟨Nat.le_of_ble_eq_true rfl, Nat.le_of_ble_eq_true rfl⟩ ?_
    exact ⟨by rw [e1]; rfl, fun q => absurd e1 q, fun _ => ⟨_, q1, rfl⟩⟩
  · obtain ⟨⟨t1, t2⟩, rfl⟩ := q1
    obtain rfl | rfl : cd = 1 ∨ cd = 2 := by omega
    · have t3 : E1 = eB := t2.symm
      subst t3
      refine PX.catch (n0 := 0) hG (0, 10, 13, 19) rfl ⟨by decide, by decide⟩ (by decide) wl_19 ⟨rfl, by decide +kernel⟩ (fun z hz => absurd hz List.not_mem_nil) (fun a9 => ?_)
      refine r_astore (ls2 := [some _, some _, some _, some _, some _]) dL_planned_13 (by decide) rfl ?_
      refine r_iconst (1) dL_planned_15 (by decide) ?_
      refine r_iret dL_planned_16 rfl ⟨Nat.le_of_ble_eq_true rfl, Nat.le_of_ble_eq_true rfl⟩ ?_
      exact ⟨rfl, fun _ => rfl, fun q => absurd q (by decide)⟩
    · have t3 : E1 = eA := t2.symm
      subst t3
      refine PX.catch (n0 := 1) hG (0, 10, 17, 13) rfl ⟨by decide, by decide⟩ (by decide) wl_13 ⟨rfl, by decide +kernel⟩ (by show ∀ z ∈ [((0, 10, 13, 19) : Nat × Nat × Nat × Nat)], _; exact List.forall_mem_cons.mpr ⟨⟨by decide, eB, wl_19, by decide +kernel⟩, fun _ h9 => absurd h9 List.not_mem_nil⟩) (fun a9 => ?_)
      refine r_astore (ls2 := [some _, some _, some _, some _, some _]) dL_planned_17 (by decide) rfl ?_
      refine r_iconst (2) dL_planned_19 (by decide) ?_
      refine r_iret dL_planned_20 rfl ⟨Nat.le_of_ble_eq_true rfl, Nat.le_of_ble_eq_true rfl⟩ ?_
      exact ⟨rfl, fun _ => rfl, fun q => absurd q (by decide)⟩
set_option maxRecDepth 100000 in
set_option maxHeartbeats 4000000 in
theorem c_L_measure {l9 : Launch} {G : GC} {h : AH} {x1 : Int32} {cd : Nat} {a : Int32} {Q : AH → Prop} (hG : GOK G) (hW : World h) (hcd : cd ≤ 1) (hM : PM l9 G mX8_measure NT NT [.ref 1, .int x1] h (fun v h' => cd = 0 ∧ v = some (.int a) ∧ Q h') (fun E h' => thr [eB] cd E ∧ h' = h)) (hQ : ∀ h', Q h' → World h') : PMh l9 G mL_measure NT NT [.ref 1, .int x1, .ref 737] h (fun v h' => v = some (.int (nI cd)) ∧ (cd ≠ 0 → h' = h) ∧ (cd = 0 → ∃ h1, Q h1 ∧ h' = sJ h1 737 0 a.toInt64)) := by
  refine PMh.of (by decide +kernel) rfl (Nat.le_of_ble_eq_true rfl) (fun hst _ => ?_)
  refine r_aload_n dL_measure_0 rfl ?_
  refine r_iconst (0) dL_measure_1 (by decide) ?_
  refine r_aload_n dL_measure_2 rfl ?_
  refine r_iload_n dL_measure_3 rfl ?_
  refine q_callX1 (cv_X8_measure ml_L_35) hW kc_1 (by decide) rfl rfl (Nat.le_of_ble_eq_true rfl) dL_measure_4 hM (fun v1 h1 q1 => ?_) (fun E1 h1 q1 => ?_)
  · obtain ⟨e1, rfl, q1⟩ := q1
    have hW1 := hQ _ q1
    refine r_i2l dL_measure_7 ?_
    refine q_last (k := 0) hW1 kc_737 kn_0 (by decide) (by decide) dL_measure_8 ?_
    refine r_goto 15 dL_measure_9 (by decide) ?_
    refine r_iconst (0) dL_measure_15 (by decide) ?_
    refine r_iret dL_measure_16 rfl ⟨Nat.le_of_ble_eq_true rfl, Nat.le_of_ble_eq_true rfl⟩ ?_
    exact ⟨by rw [e1]; rfl, fun q => absurd e1 q, fun _ => ⟨_, q1, rfl⟩⟩
  · obtain ⟨⟨t1, t2⟩, rfl⟩ := q1
    obtain rfl : cd = 1 := by omega
    · have t3 : E1 = eB := t2.symm
      subst t3
      refine PX.catch (n0 := 0) hG (0, 9, 12, 19) rfl ⟨by decide, by decide⟩ (by decide) wl_19 ⟨rfl, by decide +kernel⟩ (fun z hz => absurd hz List.not_mem_nil) (fun a9 => ?_)
      refine r_astore_n (ls2 := [some _, some _, some _, some _]) dL_measure_12 (by decide) rfl ?_
      refine r_iconst (1) dL_measure_13 (by decide) ?_
      refine r_iret dL_measure_14 rfl ⟨Nat.le_of_ble_eq_true rfl, Nat.le_of_ble_eq_true rfl⟩ ?_
      exact ⟨rfl, fun _ => rfl, fun q => absurd q (by decide)⟩
set_option maxRecDepth 100000 in
set_option maxHeartbeats 4000000 in
theorem c_L_forecast {l9 : Launch} {G : GC} {h : AH} {x1 : Int32} {cd : Nat} {a : Int32} {Q : AH → Prop} (hG : GOK G) (hW : World h) (hcd : cd ≤ 1) (hM : PM l9 G mX8_forecast NT NT [.ref 1, .int x1] h (fun v h' => cd = 0 ∧ v = some (.int a) ∧ Q h') (fun E h' => thr [eB] cd E ∧ h' = h)) (hQ : ∀ h', Q h' → World h') : PMh l9 G mL_forecast NT NT [.ref 1, .int x1, .ref 737] h (fun v h' => v = some (.int (nI cd)) ∧ (cd ≠ 0 → h' = h) ∧ (cd = 0 → ∃ h1, Q h1 ∧ h' = sJ h1 737 0 a.toInt64)) := by
  refine PMh.of (by decide +kernel) rfl (Nat.le_of_ble_eq_true rfl) (fun hst _ => ?_)
  refine r_aload_n dL_forecast_0 rfl ?_
  refine r_iconst (0) dL_forecast_1 (by decide) ?_
  refine r_aload_n dL_forecast_2 rfl ?_
  refine r_iload_n dL_forecast_3 rfl ?_
  refine q_callX1 (cv_X8_forecast ml_L_38) hW kc_1 (by decide) rfl rfl (Nat.le_of_ble_eq_true rfl) dL_forecast_4 hM (fun v1 h1 q1 => ?_) (fun E1 h1 q1 => ?_)
  · obtain ⟨e1, rfl, q1⟩ := q1
    have hW1 := hQ _ q1
    refine r_i2l dL_forecast_7 ?_
    refine q_last (k := 0) hW1 kc_737 kn_0 (by decide) (by decide) dL_forecast_8 ?_
    refine r_goto 15 dL_forecast_9 (by decide) ?_
    refine r_iconst (0) dL_forecast_15 (by decide) ?_
    refine r_iret dL_forecast_16 rfl ⟨Nat.le_of_ble_eq_true rfl, Nat.le_of_ble_eq_true rfl⟩ ?_
    exact ⟨by rw [e1]; rfl, fun q => absurd e1 q, fun _ => ⟨_, q1, rfl⟩⟩
  · obtain ⟨⟨t1, t2⟩, rfl⟩ := q1
    obtain rfl : cd = 1 := by omega
    · have t3 : E1 = eB := t2.symm
      subst t3
      refine PX.catch (n0 := 0) hG (0, 9, 12, 19) rfl ⟨by decide, by decide⟩ (by decide) wl_19 ⟨rfl, by decide +kernel⟩ (fun z hz => absurd hz List.not_mem_nil) (fun a9 => ?_)
      refine r_astore_n (ls2 := [some _, some _, some _, some _]) dL_forecast_12 (by decide) rfl ?_
      refine r_iconst (1) dL_forecast_13 (by decide) ?_
      refine r_iret dL_forecast_14 rfl ⟨Nat.le_of_ble_eq_true rfl, Nat.le_of_ble_eq_true rfl⟩ ?_
      exact ⟨rfl, fun _ => rfl, fun q => absurd q (by decide)⟩
set_option maxRecDepth 100000 in
set_option maxHeartbeats 4000000 in
theorem c_L_wanted {l9 : Launch} {G : GC} {h : AH} {x1 : Int32} {cd : Nat} {a : Int32} {Q : AH → Prop} (hG : GOK G) (hW : World h) (hcd : cd ≤ 1) (hM : PM l9 G mX8_wanted NT NT [.ref 1, .int x1] h (fun v h' => cd = 0 ∧ v = some (.int a) ∧ Q h') (fun E h' => thr [eB] cd E ∧ h' = h)) (hQ : ∀ h', Q h' → World h') : PMh l9 G mL_wanted NT NT [.ref 1, .int x1, .ref 737] h (fun v h' => v = some (.int (nI cd)) ∧ (cd ≠ 0 → h' = h) ∧ (cd = 0 → ∃ h1, Q h1 ∧ h' = sJ h1 737 0 a.toInt64)) := by
  refine PMh.of (by decide +kernel) rfl (Nat.le_of_ble_eq_true rfl) (fun hst _ => ?_)
  refine r_aload_n dL_wanted_0 rfl ?_
  refine r_iconst (0) dL_wanted_1 (by decide) ?_
  refine r_aload_n dL_wanted_2 rfl ?_
  refine r_iload_n dL_wanted_3 rfl ?_
  refine q_callX1 (cv_X8_wanted ml_L_41) hW kc_1 (by decide) rfl rfl (Nat.le_of_ble_eq_true rfl) dL_wanted_4 hM (fun v1 h1 q1 => ?_) (fun E1 h1 q1 => ?_)
  · obtain ⟨e1, rfl, q1⟩ := q1
    have hW1 := hQ _ q1
    refine r_i2l dL_wanted_7 ?_
    refine q_last (k := 0) hW1 kc_737 kn_0 (by decide) (by decide) dL_wanted_8 ?_
    refine r_goto 15 dL_wanted_9 (by decide) ?_
    refine r_iconst (0) dL_wanted_15 (by decide) ?_
    refine r_iret dL_wanted_16 rfl ⟨Nat.le_of_ble_eq_true rfl, Nat.le_of_ble_eq_true rfl⟩ ?_
    exact ⟨by rw [e1]; rfl, fun q => absurd e1 q, fun _ => ⟨_, q1, rfl⟩⟩
  · obtain ⟨⟨t1, t2⟩, rfl⟩ := q1
    obtain rfl : cd = 1 := by omega
    · have t3 : E1 = eB := t2.symm
      subst t3
      refine PX.catch (n0 := 0) hG (0, 9, 12, 19) rfl ⟨by decide, by decide⟩ (by decide) wl_19 ⟨rfl, by decide +kernel⟩ (fun z hz => absurd hz List.not_mem_nil) (fun a9 => ?_)
      refine r_astore_n (ls2 := [some _, some _, some _, some _]) dL_wanted_12 (by decide) rfl ?_
      refine r_iconst (1) dL_wanted_13 (by decide) ?_
      refine r_iret dL_wanted_14 rfl ⟨Nat.le_of_ble_eq_true rfl, Nat.le_of_ble_eq_true rfl⟩ ?_
      exact ⟨rfl, fun _ => rfl, fun q => absurd q (by decide)⟩
set_option maxRecDepth 100000 in
set_option maxHeartbeats 4000000 in
theorem c_L_meanError {l9 : Launch} {G : GC} {h : AH} {x1 : Int32} {cd : Nat} {a : UInt64} {Q : AH → Prop} (hG : GOK G) (hW : World h) (hcd : cd ≤ 1) (hM : PM l9 G mX8_meanError NT NT [.ref 1, .int x1] h (fun v h' => cd = 0 ∧ v = some (.double a) ∧ Q h') (fun E h' => thr [eB] cd E ∧ h' = h)) (hQ : ∀ h', Q h' → World h') : PMh l9 G mL_meanError NT NT [.ref 1, .int x1, .ref 738] h (fun v h' => v = some (.int (nI cd)) ∧ (cd ≠ 0 → h' = h) ∧ (cd = 0 → ∃ h1, Q h1 ∧ h' = sD h1 738 0 a)) := by
  refine PMh.of (by decide +kernel) rfl (Nat.le_of_ble_eq_true rfl) (fun hst _ => ?_)
  refine r_aload_n dL_meanError_0 rfl ?_
  refine r_iconst (0) dL_meanError_1 (by decide) ?_
  refine r_aload_n dL_meanError_2 rfl ?_
  refine r_iload_n dL_meanError_3 rfl ?_
  refine q_callX1 (cv_X8_meanError ml_L_44) hW kc_1 (by decide) rfl rfl (Nat.le_of_ble_eq_true rfl) dL_meanError_4 hM (fun v1 h1 q1 => ?_) (fun E1 h1 q1 => ?_)
  · obtain ⟨e1, rfl, q1⟩ := q1
    have hW1 := hQ _ q1
    refine q_dast (k := 0) hW1 kc_738 kn_0 (by decide) (by decide) dL_meanError_7 ?_
    refine r_goto 14 dL_meanError_8 (by decide) ?_
    refine r_iconst (0) dL_meanError_14 (by decide) ?_
    refine r_iret dL_meanError_15 rfl ⟨Nat.le_of_ble_eq_true rfl, Nat.le_of_ble_eq_true rfl⟩ ?_
    exact ⟨by rw [e1]; rfl, fun q => absurd e1 q, fun _ => ⟨_, q1, rfl⟩⟩
  · obtain ⟨⟨t1, t2⟩, rfl⟩ := q1
    obtain rfl : cd = 1 := by omega
    · have t3 : E1 = eB := t2.symm
      subst t3
      refine PX.catch (n0 := 0) hG (0, 8, 11, 19) rfl ⟨by decide, by decide⟩ (by decide) wl_19 ⟨rfl, by decide +kernel⟩ (fun z hz => absurd hz List.not_mem_nil) (fun a9 => ?_)
      refine r_astore_n (ls2 := [some _, some _, some _, some _]) dL_meanError_11 (by decide) rfl ?_
      refine r_iconst (1) dL_meanError_12 (by decide) ?_
      refine r_iret dL_meanError_13 rfl ⟨Nat.le_of_ble_eq_true rfl, Nat.le_of_ble_eq_true rfl⟩ ?_
      exact ⟨rfl, fun _ => rfl, fun q => absurd q (by decide)⟩
set_option maxRecDepth 100000 in
set_option maxHeartbeats 4000000 in
theorem c_L_nextDropped {l9 : Launch} {G : GC} {h : AH} {x1 : Int32} {cd : Nat} {a : Int32} {Q : AH → Prop} (hG : GOK G) (hW : World h) (hcd : cd ≤ 1) (hM : PM l9 G mX8_nextDropped NT NT [.ref 1, .int x1] h (fun v h' => cd = 0 ∧ v = some (.int a) ∧ Q h') (fun E h' => thr [eB] cd E ∧ h' = h)) (hQ : ∀ h', Q h' → World h') : PMh l9 G mL_nextDropped NT NT [.ref 1, .int x1, .ref 737] h (fun v h' => v = some (.int (nI cd)) ∧ (cd ≠ 0 → h' = h) ∧ (cd = 0 → ∃ h1, Q h1 ∧ h' = sJ h1 737 0 a.toInt64)) := by
  refine PMh.of (by decide +kernel) rfl (Nat.le_of_ble_eq_true rfl) (fun hst _ => ?_)
  refine r_aload_n dL_nextDropped_0 rfl ?_
  refine r_iconst (0) dL_nextDropped_1 (by decide) ?_
  refine r_aload_n dL_nextDropped_2 rfl ?_
  refine r_iload_n dL_nextDropped_3 rfl ?_
  refine q_callX1 (cv_X8_nextDropped ml_L_48) hW kc_1 (by decide) rfl rfl (Nat.le_of_ble_eq_true rfl) dL_nextDropped_4 hM (fun v1 h1 q1 => ?_) (fun E1 h1 q1 => ?_)
  · obtain ⟨e1, rfl, q1⟩ := q1
    have hW1 := hQ _ q1
    refine r_i2l dL_nextDropped_7 ?_
    refine q_last (k := 0) hW1 kc_737 kn_0 (by decide) (by decide) dL_nextDropped_8 ?_
    refine r_goto 15 dL_nextDropped_9 (by decide) ?_
    refine r_iconst (0) dL_nextDropped_15 (by decide) ?_
    refine r_iret dL_nextDropped_16 rfl ⟨Nat.le_of_ble_eq_true rfl, Nat.le_of_ble_eq_true rfl⟩ ?_
    exact ⟨by rw [e1]; rfl, fun q => absurd e1 q, fun _ => ⟨_, q1, rfl⟩⟩
  · obtain ⟨⟨t1, t2⟩, rfl⟩ := q1
    obtain rfl : cd = 1 := by omega
    · have t3 : E1 = eB := t2.symm
      subst t3
      refine PX.catch (n0 := 0) hG (0, 9, 12, 19) rfl ⟨by decide, by decide⟩ (by decide) wl_19 ⟨rfl, by decide +kernel⟩ (fun z hz => absurd hz List.not_mem_nil) (fun a9 => ?_)
      refine r_astore_n (ls2 := [some _, some _, some _, some _]) dL_nextDropped_12 (by decide) rfl ?_
      refine r_iconst (1) dL_nextDropped_13 (by decide) ?_
      refine r_iret dL_nextDropped_14 rfl ⟨Nat.le_of_ble_eq_true rfl, Nat.le_of_ble_eq_true rfl⟩ ?_
      exact ⟨rfl, fun _ => rfl, fun q => absurd q (by decide)⟩
set_option maxRecDepth 100000 in
set_option maxHeartbeats 4000000 in
theorem c_L_coolLeft {l9 : Launch} {G : GC} {h : AH} {x1 x2 : Int32} {cd : Nat} {a : Int32} {Q : AH → Prop} (hG : GOK G) (hW : World h) (hcd : cd ≤ 1) (hM : PM l9 G mX8_coolLeft NT NT [.ref 1, .int x1, .int x2] h (fun v h' => cd = 0 ∧ v = some (.int a) ∧ Q h') (fun E h' => thr [eB] cd E ∧ h' = h)) (hQ : ∀ h', Q h' → World h') : PMh l9 G mL_coolLeft NT NT [.ref 1, .int x1, .int x2, .ref 737] h (fun v h' => v = some (.int (nI cd)) ∧ (cd ≠ 0 → h' = h) ∧ (cd = 0 → ∃ h1, Q h1 ∧ h' = sJ h1 737 0 a.toInt64)) := by
  refine PMh.of (by decide +kernel) rfl (Nat.le_of_ble_eq_true rfl) (fun hst _ => ?_)
  refine r_aload_n dL_coolLeft_0 rfl ?_
  refine r_iconst (0) dL_coolLeft_1 (by decide) ?_
  refine r_aload_n dL_coolLeft_2 rfl ?_
  refine r_iload_n dL_coolLeft_3 rfl ?_
  refine r_iload_n dL_coolLeft_4 rfl ?_
  refine q_callX2 (cv_X8_coolLeft ml_L_51) hW kc_1 (by decide) rfl rfl (Nat.le_of_ble_eq_true rfl) dL_coolLeft_5 hM (fun v1 h1 q1 => ?_) (fun E1 h1 q1 => ?_)
  · obtain ⟨e1, rfl, q1⟩ := q1
    have hW1 := hQ _ q1
    refine r_i2l dL_coolLeft_8 ?_
    refine q_last (k := 0) hW1 kc_737 kn_0 (by decide) (by decide) dL_coolLeft_9 ?_
    refine r_goto 17 dL_coolLeft_10 (by decide) ?_
    refine r_iconst (0) dL_coolLeft_17 (by decide) ?_
    refine r_iret dL_coolLeft_18 rfl ⟨Nat.le_of_ble_eq_true rfl, Nat.le_of_ble_eq_true rfl⟩ ?_
    exact ⟨by rw [e1]; rfl, fun q => absurd e1 q, fun _ => ⟨_, q1, rfl⟩⟩
  · obtain ⟨⟨t1, t2⟩, rfl⟩ := q1
    obtain rfl : cd = 1 := by omega
    · have t3 : E1 = eB := t2.symm
      subst t3
      refine PX.catch (n0 := 0) hG (0, 10, 13, 19) rfl ⟨by decide, by decide⟩ (by decide) wl_19 ⟨rfl, by decide +kernel⟩ (fun z hz => absurd hz List.not_mem_nil) (fun a9 => ?_)
      refine r_astore (ls2 := [some _, some _, some _, some _, some _]) dL_coolLeft_13 (by decide) rfl ?_
      refine r_iconst (1) dL_coolLeft_15 (by decide) ?_
      refine r_iret dL_coolLeft_16 rfl ⟨Nat.le_of_ble_eq_true rfl, Nat.le_of_ble_eq_true rfl⟩ ?_
      exact ⟨rfl, fun _ => rfl, fun q => absurd q (by decide)⟩
set_option maxRecDepth 100000 in
set_option maxHeartbeats 4000000 in
theorem c_L_served {l9 : Launch} {G : GC} {h : AH} {x1 : Int32} {cd : Nat} {a : Int64} {Q : AH → Prop} (hG : GOK G) (hW : World h) (hcd : cd ≤ 1) (hM : PM l9 G mX8_served NT NT [.ref 1, .int x1] h (fun v h' => cd = 0 ∧ v = some (.long a) ∧ Q h') (fun E h' => thr [eB] cd E ∧ h' = h)) (hQ : ∀ h', Q h' → World h') : PMh l9 G mL_served NT NT [.ref 1, .int x1, .ref 737] h (fun v h' => v = some (.int (nI cd)) ∧ (cd ≠ 0 → h' = h) ∧ (cd = 0 → ∃ h1, Q h1 ∧ h' = sJ h1 737 0 a)) := by
  refine PMh.of (by decide +kernel) rfl (Nat.le_of_ble_eq_true rfl) (fun hst _ => ?_)
  refine r_aload_n dL_served_0 rfl ?_
  refine r_iconst (0) dL_served_1 (by decide) ?_
  refine r_aload_n dL_served_2 rfl ?_
  refine r_iload_n dL_served_3 rfl ?_
  refine q_callX1 (cv_X8_served ml_L_55) hW kc_1 (by decide) rfl rfl (Nat.le_of_ble_eq_true rfl) dL_served_4 hM (fun v1 h1 q1 => ?_) (fun E1 h1 q1 => ?_)
  · obtain ⟨e1, rfl, q1⟩ := q1
    have hW1 := hQ _ q1
    refine q_last (k := 0) hW1 kc_737 kn_0 (by decide) (by decide) dL_served_7 ?_
    refine r_goto 14 dL_served_8 (by decide) ?_
    refine r_iconst (0) dL_served_14 (by decide) ?_
    refine r_iret dL_served_15 rfl ⟨Nat.le_of_ble_eq_true rfl, Nat.le_of_ble_eq_true rfl⟩ ?_
    exact ⟨by rw [e1]; rfl, fun q => absurd e1 q, fun _ => ⟨_, q1, rfl⟩⟩
  · obtain ⟨⟨t1, t2⟩, rfl⟩ := q1
    obtain rfl : cd = 1 := by omega
    · have t3 : E1 = eB := t2.symm
      subst t3
      refine PX.catch (n0 := 0) hG (0, 8, 11, 19) rfl ⟨by decide, by decide⟩ (by decide) wl_19 ⟨rfl, by decide +kernel⟩ (fun z hz => absurd hz List.not_mem_nil) (fun a9 => ?_)
      refine r_astore_n (ls2 := [some _, some _, some _, some _]) dL_served_11 (by decide) rfl ?_
      refine r_iconst (1) dL_served_12 (by decide) ?_
      refine r_iret dL_served_13 rfl ⟨Nat.le_of_ble_eq_true rfl, Nat.le_of_ble_eq_true rfl⟩ ?_
      exact ⟨rfl, fun _ => rfl, fun q => absurd q (by decide)⟩
set_option maxRecDepth 100000 in
set_option maxHeartbeats 4000000 in
theorem c_L_missed {l9 : Launch} {G : GC} {h : AH} {x1 : Int32} {cd : Nat} {a : Int64} {Q : AH → Prop} (hG : GOK G) (hW : World h) (hcd : cd ≤ 1) (hM : PM l9 G mX8_missed NT NT [.ref 1, .int x1] h (fun v h' => cd = 0 ∧ v = some (.long a) ∧ Q h') (fun E h' => thr [eB] cd E ∧ h' = h)) (hQ : ∀ h', Q h' → World h') : PMh l9 G mL_missed NT NT [.ref 1, .int x1, .ref 737] h (fun v h' => v = some (.int (nI cd)) ∧ (cd ≠ 0 → h' = h) ∧ (cd = 0 → ∃ h1, Q h1 ∧ h' = sJ h1 737 0 a)) := by
  refine PMh.of (by decide +kernel) rfl (Nat.le_of_ble_eq_true rfl) (fun hst _ => ?_)
  refine r_aload_n dL_missed_0 rfl ?_
  refine r_iconst (0) dL_missed_1 (by decide) ?_
  refine r_aload_n dL_missed_2 rfl ?_
  refine r_iload_n dL_missed_3 rfl ?_
  refine q_callX1 (cv_X8_missed ml_L_59) hW kc_1 (by decide) rfl rfl (Nat.le_of_ble_eq_true rfl) dL_missed_4 hM (fun v1 h1 q1 => ?_) (fun E1 h1 q1 => ?_)
  · obtain ⟨e1, rfl, q1⟩ := q1
    have hW1 := hQ _ q1
    refine q_last (k := 0) hW1 kc_737 kn_0 (by decide) (by decide) dL_missed_7 ?_
    refine r_goto 14 dL_missed_8 (by decide) ?_
    refine r_iconst (0) dL_missed_14 (by decide) ?_
    refine r_iret dL_missed_15 rfl ⟨Nat.le_of_ble_eq_true rfl, Nat.le_of_ble_eq_true rfl⟩ ?_
    exact ⟨by rw [e1]; rfl, fun q => absurd e1 q, fun _ => ⟨_, q1, rfl⟩⟩
  · obtain ⟨⟨t1, t2⟩, rfl⟩ := q1
    obtain rfl : cd = 1 := by omega
    · have t3 : E1 = eB := t2.symm
      subst t3
      refine PX.catch (n0 := 0) hG (0, 8, 11, 19) rfl ⟨by decide, by decide⟩ (by decide) wl_19 ⟨rfl, by decide +kernel⟩ (fun z hz => absurd hz List.not_mem_nil) (fun a9 => ?_)
      refine r_astore_n (ls2 := [some _, some _, some _, some _]) dL_missed_11 (by decide) rfl ?_
      refine r_iconst (1) dL_missed_12 (by decide) ?_
      refine r_iret dL_missed_13 rfl ⟨Nat.le_of_ble_eq_true rfl, Nat.le_of_ble_eq_true rfl⟩ ?_
      exact ⟨rfl, fun _ => rfl, fun q => absurd q (by decide)⟩
set_option maxRecDepth 100000 in
set_option maxHeartbeats 4000000 in
theorem c_L_cost {l9 : Launch} {G : GC} {h : AH} {x1 : Int32} {cd : Nat} {a : Int64} {Q : AH → Prop} (hG : GOK G) (hW : World h) (hcd : cd ≤ 1) (hM : PM l9 G mX8_cost NT NT [.ref 1, .int x1] h (fun v h' => cd = 0 ∧ v = some (.long a) ∧ Q h') (fun E h' => thr [eB] cd E ∧ h' = h)) (hQ : ∀ h', Q h' → World h') : PMh l9 G mL_cost NT NT [.ref 1, .int x1, .ref 737] h (fun v h' => v = some (.int (nI cd)) ∧ (cd ≠ 0 → h' = h) ∧ (cd = 0 → ∃ h1, Q h1 ∧ h' = sJ h1 737 0 a)) := by
  refine PMh.of (by decide +kernel) rfl (Nat.le_of_ble_eq_true rfl) (fun hst _ => ?_)
  refine r_aload_n dL_cost_0 rfl ?_
  refine r_iconst (0) dL_cost_1 (by decide) ?_
  refine r_aload_n dL_cost_2 rfl ?_
  refine r_iload_n dL_cost_3 rfl ?_
  refine q_callX1 (cv_X8_cost ml_L_62) hW kc_1 (by decide) rfl rfl (Nat.le_of_ble_eq_true rfl) dL_cost_4 hM (fun v1 h1 q1 => ?_) (fun E1 h1 q1 => ?_)
  · obtain ⟨e1, rfl, q1⟩ := q1
    have hW1 := hQ _ q1
    refine q_last (k := 0) hW1 kc_737 kn_0 (by decide) (by decide) dL_cost_7 ?_
    refine r_goto 14 dL_cost_8 (by decide) ?_
    refine r_iconst (0) dL_cost_14 (by decide) ?_
    refine r_iret dL_cost_15 rfl ⟨Nat.le_of_ble_eq_true rfl, Nat.le_of_ble_eq_true rfl⟩ ?_
    exact ⟨by rw [e1]; rfl, fun q => absurd e1 q, fun _ => ⟨_, q1, rfl⟩⟩
  · obtain ⟨⟨t1, t2⟩, rfl⟩ := q1
    obtain rfl : cd = 1 := by omega
    · have t3 : E1 = eB := t2.symm
      subst t3
      refine PX.catch (n0 := 0) hG (0, 8, 11, 19) rfl ⟨by decide, by decide⟩ (by decide) wl_19 ⟨rfl, by decide +kernel⟩ (fun z hz => absurd hz List.not_mem_nil) (fun a9 => ?_)
      refine r_astore_n (ls2 := [some _, some _, some _, some _]) dL_cost_11 (by decide) rfl ?_
      refine r_iconst (1) dL_cost_12 (by decide) ?_
      refine r_iret dL_cost_13 rfl ⟨Nat.le_of_ble_eq_true rfl, Nat.le_of_ble_eq_true rfl⟩ ?_
      exact ⟨rfl, fun _ => rfl, fun q => absurd q (by decide)⟩
set_option maxRecDepth 100000 in
set_option maxHeartbeats 4000000 in
theorem c_L_missedShare {l9 : Launch} {G : GC} {h : AH} {x1 : Int32} {cd : Nat} {a : UInt32} {Q : AH → Prop} (hne : vf_n64 (FP.f2d a)) (hG : GOK G) (hW : World h) (hcd : cd ≤ 1) (hM : PM l9 G mX8_missedShare NT NT [.ref 1, .int x1] h (fun v h' => cd = 0 ∧ v = some (.float a) ∧ Q h') (fun E h' => thr [eB] cd E ∧ h' = h)) (hQ : ∀ h', Q h' → World h') : PMh l9 G mL_missedShare NT NT [.ref 1, .int x1, .ref 738] h (fun v h' => v = some (.int (nI cd)) ∧ (cd ≠ 0 → h' = h) ∧ (cd = 0 → ∃ h1, Q h1 ∧ h' = sD h1 738 0 (FP.f2d a))) := by
  refine PMh.of (by decide +kernel) rfl (Nat.le_of_ble_eq_true rfl) (fun hst _ => ?_)
  refine r_aload_n dL_missedShare_0 rfl ?_
  refine r_iconst (0) dL_missedShare_1 (by decide) ?_
  refine r_aload_n dL_missedShare_2 rfl ?_
  refine r_iload_n dL_missedShare_3 rfl ?_
  refine q_callX1 (cv_X8_missedShare ml_L_65) hW kc_1 (by decide) rfl rfl (Nat.le_of_ble_eq_true rfl) dL_missedShare_4 hM (fun v1 h1 q1 => ?_) (fun E1 h1 q1 => ?_)
  · obtain ⟨e1, rfl, q1⟩ := q1
    have hW1 := hQ _ q1
    refine r_f2d dL_missedShare_7 hne ?_
    refine q_dast (k := 0) hW1 kc_738 kn_0 (by decide) (by decide) dL_missedShare_8 ?_
    refine r_goto 15 dL_missedShare_9 (by decide) ?_
    refine r_iconst (0) dL_missedShare_15 (by decide) ?_
    refine r_iret dL_missedShare_16 rfl ⟨Nat.le_of_ble_eq_true rfl, Nat.le_of_ble_eq_true rfl⟩ ?_
    exact ⟨by rw [e1]; rfl, fun q => absurd e1 q, fun _ => ⟨_, q1, rfl⟩⟩
  · obtain ⟨⟨t1, t2⟩, rfl⟩ := q1
    obtain rfl : cd = 1 := by omega
    · have t3 : E1 = eB := t2.symm
      subst t3
      refine PX.catch (n0 := 0) hG (0, 9, 12, 19) rfl ⟨by decide, by decide⟩ (by decide) wl_19 ⟨rfl, by decide +kernel⟩ (fun z hz => absurd hz List.not_mem_nil) (fun a9 => ?_)
      refine r_astore_n (ls2 := [some _, some _, some _, some _]) dL_missedShare_12 (by decide) rfl ?_
      refine r_iconst (1) dL_missedShare_13 (by decide) ?_
      refine r_iret dL_missedShare_14 rfl ⟨Nat.le_of_ble_eq_true rfl, Nat.le_of_ble_eq_true rfl⟩ ?_
      exact ⟨rfl, fun _ => rfl, fun q => absurd q (by decide)⟩
set_option maxRecDepth 100000 in
set_option maxHeartbeats 4000000 in
theorem c_L_used {l9 : Launch} {G : GC} {h : AH} {x1 : Int32} {cd : Nat} {a : UInt64} {Q : AH → Prop} (hG : GOK G) (hW : World h) (hcd : cd ≤ 1) (hM : PM l9 G mX8_used NT NT [.ref 1, .int x1] h (fun v h' => cd = 0 ∧ v = some (.double a) ∧ Q h') (fun E h' => thr [eB] cd E ∧ h' = h)) (hQ : ∀ h', Q h' → World h') : PMh l9 G mL_used NT NT [.ref 1, .int x1, .ref 738] h (fun v h' => v = some (.int (nI cd)) ∧ (cd ≠ 0 → h' = h) ∧ (cd = 0 → ∃ h1, Q h1 ∧ h' = sD h1 738 0 a)) := by
  refine PMh.of (by decide +kernel) rfl (Nat.le_of_ble_eq_true rfl) (fun hst _ => ?_)
  refine r_aload_n dL_used_0 rfl ?_
  refine r_iconst (0) dL_used_1 (by decide) ?_
  refine r_aload_n dL_used_2 rfl ?_
  refine r_iload_n dL_used_3 rfl ?_
  refine q_callX1 (cv_X8_used ml_L_69) hW kc_1 (by decide) rfl rfl (Nat.le_of_ble_eq_true rfl) dL_used_4 hM (fun v1 h1 q1 => ?_) (fun E1 h1 q1 => ?_)
  · obtain ⟨e1, rfl, q1⟩ := q1
    have hW1 := hQ _ q1
    refine q_dast (k := 0) hW1 kc_738 kn_0 (by decide) (by decide) dL_used_7 ?_
    refine r_goto 14 dL_used_8 (by decide) ?_
    refine r_iconst (0) dL_used_14 (by decide) ?_
    refine r_iret dL_used_15 rfl ⟨Nat.le_of_ble_eq_true rfl, Nat.le_of_ble_eq_true rfl⟩ ?_
    exact ⟨by rw [e1]; rfl, fun q => absurd e1 q, fun _ => ⟨_, q1, rfl⟩⟩
  · obtain ⟨⟨t1, t2⟩, rfl⟩ := q1
    obtain rfl : cd = 1 := by omega
    · have t3 : E1 = eB := t2.symm
      subst t3
      refine PX.catch (n0 := 0) hG (0, 8, 11, 19) rfl ⟨by decide, by decide⟩ (by decide) wl_19 ⟨rfl, by decide +kernel⟩ (fun z hz => absurd hz List.not_mem_nil) (fun a9 => ?_)
      refine r_astore_n (ls2 := [some _, some _, some _, some _]) dL_used_11 (by decide) rfl ?_
      refine r_iconst (1) dL_used_12 (by decide) ?_
      refine r_iret dL_used_13 rfl ⟨Nat.le_of_ble_eq_true rfl, Nat.le_of_ble_eq_true rfl⟩ ?_
      exact ⟨rfl, fun _ => rfl, fun q => absurd q (by decide)⟩
set_option maxRecDepth 100000 in
set_option maxHeartbeats 4000000 in
theorem c_L_peak {l9 : Launch} {G : GC} {h : AH} {x1 : Int32} {cd : Nat} {a : Int32} {Q : AH → Prop} (hG : GOK G) (hW : World h) (hcd : cd ≤ 1) (hM : PM l9 G mX8_peak NT NT [.ref 1, .int x1] h (fun v h' => cd = 0 ∧ v = some (.int a) ∧ Q h') (fun E h' => thr [eB] cd E ∧ h' = h)) (hQ : ∀ h', Q h' → World h') : PMh l9 G mL_peak NT NT [.ref 1, .int x1, .ref 737] h (fun v h' => v = some (.int (nI cd)) ∧ (cd ≠ 0 → h' = h) ∧ (cd = 0 → ∃ h1, Q h1 ∧ h' = sJ h1 737 0 a.toInt64)) := by
  refine PMh.of (by decide +kernel) rfl (Nat.le_of_ble_eq_true rfl) (fun hst _ => ?_)
  refine r_aload_n dL_peak_0 rfl ?_
  refine r_iconst (0) dL_peak_1 (by decide) ?_
  refine r_aload_n dL_peak_2 rfl ?_
  refine r_iload_n dL_peak_3 rfl ?_
  refine q_callX1 (cv_X8_peak ml_L_72) hW kc_1 (by decide) rfl rfl (Nat.le_of_ble_eq_true rfl) dL_peak_4 hM (fun v1 h1 q1 => ?_) (fun E1 h1 q1 => ?_)
  · obtain ⟨e1, rfl, q1⟩ := q1
    have hW1 := hQ _ q1
    refine r_i2l dL_peak_7 ?_
    refine q_last (k := 0) hW1 kc_737 kn_0 (by decide) (by decide) dL_peak_8 ?_
    refine r_goto 15 dL_peak_9 (by decide) ?_
    refine r_iconst (0) dL_peak_15 (by decide) ?_
    refine r_iret dL_peak_16 rfl ⟨Nat.le_of_ble_eq_true rfl, Nat.le_of_ble_eq_true rfl⟩ ?_
    exact ⟨by rw [e1]; rfl, fun q => absurd e1 q, fun _ => ⟨_, q1, rfl⟩⟩
  · obtain ⟨⟨t1, t2⟩, rfl⟩ := q1
    obtain rfl : cd = 1 := by omega
    · have t3 : E1 = eB := t2.symm
      subst t3
      refine PX.catch (n0 := 0) hG (0, 9, 12, 19) rfl ⟨by decide, by decide⟩ (by decide) wl_19 ⟨rfl, by decide +kernel⟩ (fun z hz => absurd hz List.not_mem_nil) (fun a9 => ?_)
      refine r_astore_n (ls2 := [some _, some _, some _, some _]) dL_peak_12 (by decide) rfl ?_
      refine r_iconst (1) dL_peak_13 (by decide) ?_
      refine r_iret dL_peak_14 rfl ⟨Nat.le_of_ble_eq_true rfl, Nat.le_of_ble_eq_true rfl⟩ ?_
      exact ⟨rfl, fun _ => rfl, fun q => absurd q (by decide)⟩
set_option maxRecDepth 100000 in
set_option maxHeartbeats 4000000 in
theorem c_L_decisions {l9 : Launch} {G : GC} {h : AH} {x1 x2 : Int32} {cd : Nat} {a : Int32} {Q : AH → Prop} (hG : GOK G) (hW : World h) (hcd : cd ≤ 2) (hM : PM l9 G mX8_decisions NT NT [.ref 1, .int x1, .int x2] h (fun v h' => cd = 0 ∧ v = some (.int a) ∧ Q h') (fun E h' => thr [eB, eA] cd E ∧ h' = h)) (hQ : ∀ h', Q h' → World h') : PMh l9 G mL_decisions NT NT [.ref 1, .int x1, .int x2, .ref 737] h (fun v h' => v = some (.int (nI cd)) ∧ (cd ≠ 0 → h' = h) ∧ (cd = 0 → ∃ h1, Q h1 ∧ h' = sJ h1 737 0 a.toInt64)) := by
  refine PMh.of (by decide +kernel) rfl (Nat.le_of_ble_eq_true rfl) (fun hst _ => ?_)
  refine r_aload_n dL_decisions_0 rfl ?_
  refine r_iconst (0) dL_decisions_1 (by decide) ?_
  refine r_aload_n dL_decisions_2 rfl ?_
  refine r_iload_n dL_decisions_3 rfl ?_
  refine r_iload_n dL_decisions_4 rfl ?_
  refine q_callX2 (cv_X8_decisions ml_L_75) hW kc_1 (by decide) rfl rfl (Nat.le_of_ble_eq_true rfl) dL_decisions_5 hM (fun v1 h1 q1 => ?_) (fun E1 h1 q1 => ?_)
  · obtain ⟨e1, rfl, q1⟩ := q1
    have hW1 := hQ _ q1
    refine r_i2l dL_decisions_8 ?_
    refine q_last (k := 0) hW1 kc_737 kn_0 (by decide) (by decide) dL_decisions_9 ?_
    refine r_goto 21 dL_decisions_10 (by decide) ?_
    refine r_iconst (0) dL_decisions_21 (by decide) ?_
    refine r_iret dL_decisions_22 rfl ⟨Nat.le_of_ble_eq_true rfl, Nat.le_of_ble_eq_true rfl⟩ ?_
    exact ⟨by rw [e1]; rfl, fun q => absurd e1 q, fun _ => ⟨_, q1, rfl⟩⟩
  · obtain ⟨⟨t1, t2⟩, rfl⟩ := q1
    obtain rfl | rfl : cd = 1 ∨ cd = 2 := by omega
    · have t3 : E1 = eB := t2.symm
      subst t3
      refine PX.catch (n0 := 0) hG (0, 10, 13, 19) rfl ⟨by decide, by decide⟩ (by decide) wl_19 ⟨rfl, by decide +kernel⟩ (fun z hz => absurd hz List.not_mem_nil) (fun a9 => ?_)
      refine r_astore (ls2 := [some _, some _, some _, some _, some _]) dL_decisions_13 (by decide) rfl ?_
      refine r_iconst (1) dL_decisions_15 (by decide) ?_
      refine r_iret dL_decisions_16 rfl ⟨Nat.le_of_ble_eq_true rfl, Nat.le_of_ble_eq_true rfl⟩ ?_
      exact ⟨rfl, fun _ => rfl, fun q => absurd q (by decide)⟩
    · have t3 : E1 = eA := t2.symm
      subst t3
      refine PX.catch (n0 := 1) hG (0, 10, 17, 13) rfl ⟨by decide, by decide⟩ (by decide) wl_13 ⟨rfl, by decide +kernel⟩ (by show ∀ z ∈ [((0, 10, 13, 19) : Nat × Nat × Nat × Nat)], _; exact List.forall_mem_cons.mpr ⟨⟨by decide, eB, wl_19, by decide +kernel⟩, fun _ h9 => absurd h9 List.not_mem_nil⟩) (fun a9 => ?_)
      refine r_astore (ls2 := [some _, some _, some _, some _, some _]) dL_decisions_17 (by decide) rfl ?_
      refine r_iconst (2) dL_decisions_19 (by decide) ?_
      refine r_iret dL_decisions_20 rfl ⟨Nat.le_of_ble_eq_true rfl, Nat.le_of_ble_eq_true rfl⟩ ?_
      exact ⟨rfl, fun _ => rfl, fun q => absurd q (by decide)⟩
set_option maxRecDepth 100000 in
set_option maxHeartbeats 4000000 in
theorem c_L_event {l9 : Launch} {G : GC} {h : AH} {x1 x2 : Int32} {cd : Nat} {a : Int32} {Q : AH → Prop} (hG : GOK G) (hW : World h) (hcd : cd ≤ 2) (hM : PM l9 G mX8_event NT NT [.ref 1, .int x1, .int x2] h (fun v h' => cd = 0 ∧ v = some (.int a) ∧ Q h') (fun E h' => thr [eA, eN] cd E ∧ h' = h)) (hQ : ∀ h', Q h' → World h') : PMh l9 G mL_event NT NT [.ref 1, .int x1, .int x2, .ref 737] h (fun v h' => v = some (.int (nI cd)) ∧ (cd ≠ 0 → h' = h) ∧ (cd = 0 → ∃ h1, Q h1 ∧ h' = sJ h1 737 0 a.toInt64)) := by
  refine PMh.of (by decide +kernel) rfl (Nat.le_of_ble_eq_true rfl) (fun hst _ => ?_)
  refine r_aload_n dL_event_0 rfl ?_
  refine r_iconst (0) dL_event_1 (by decide) ?_
  refine r_aload_n dL_event_2 rfl ?_
  refine r_iload_n dL_event_3 rfl ?_
  refine r_iload_n dL_event_4 rfl ?_
  refine q_callX2 (cv_X8_event ml_L_78) hW kc_1 (by decide) rfl rfl (Nat.le_of_ble_eq_true rfl) dL_event_5 hM (fun v1 h1 q1 => ?_) (fun E1 h1 q1 => ?_)
  · obtain ⟨e1, rfl, q1⟩ := q1
    have hW1 := hQ _ q1
    refine r_i2l dL_event_8 ?_
    refine q_last (k := 0) hW1 kc_737 kn_0 (by decide) (by decide) dL_event_9 ?_
    refine r_goto 21 dL_event_10 (by decide) ?_
    refine r_iconst (0) dL_event_21 (by decide) ?_
    refine r_iret dL_event_22 rfl ⟨Nat.le_of_ble_eq_true rfl, Nat.le_of_ble_eq_true rfl⟩ ?_
    exact ⟨by rw [e1]; rfl, fun q => absurd e1 q, fun _ => ⟨_, q1, rfl⟩⟩
  · obtain ⟨⟨t1, t2⟩, rfl⟩ := q1
    obtain rfl | rfl : cd = 1 ∨ cd = 2 := by omega
    · have t3 : E1 = eA := t2.symm
      subst t3
      refine PX.catch (n0 := 0) hG (0, 10, 13, 13) rfl ⟨by decide, by decide⟩ (by decide) wl_13 ⟨rfl, by decide +kernel⟩ (fun z hz => absurd hz List.not_mem_nil) (fun a9 => ?_)
      refine r_astore (ls2 := [some _, some _, some _, some _, some _]) dL_event_13 (by decide) rfl ?_
      refine r_iconst (1) dL_event_15 (by decide) ?_
      refine r_iret dL_event_16 rfl ⟨Nat.le_of_ble_eq_true rfl, Nat.le_of_ble_eq_true rfl⟩ ?_
      exact ⟨rfl, fun _ => rfl, fun q => absurd q (by decide)⟩
    · have t3 : E1 = eN := t2.symm
      subst t3
      refine PX.catch (n0 := 1) hG (0, 10, 17, 24) rfl ⟨by decide, by decide⟩ (by decide) wl_24 ⟨rfl, by decide +kernel⟩ (by show ∀ z ∈ [((0, 10, 13, 13) : Nat × Nat × Nat × Nat)], _; exact List.forall_mem_cons.mpr ⟨⟨by decide, eA, wl_13, by decide +kernel⟩, fun _ h9 => absurd h9 List.not_mem_nil⟩) (fun a9 => ?_)
      refine r_astore (ls2 := [some _, some _, some _, some _, some _]) dL_event_17 (by decide) rfl ?_
      refine r_iconst (2) dL_event_19 (by decide) ?_
      refine r_iret dL_event_20 rfl ⟨Nat.le_of_ble_eq_true rfl, Nat.le_of_ble_eq_true rfl⟩ ?_
      exact ⟨rfl, fun _ => rfl, fun q => absurd q (by decide)⟩
set_option maxRecDepth 100000 in
set_option maxHeartbeats 4000000 in
theorem c_L_run {l9 : Launch} {G : GC} {h : AH} {x1 : Int32} {cd : Nat} {a : Int32} {Q : AH → Prop} (hG : GOK G) (hW : World h) (hcd : cd ≤ 1) (hM : PM l9 G mX8_run NT NT [.ref 1, .int x1] h (fun v h' => cd = 0 ∧ v = some (.int a) ∧ Q h') (fun E h' => thr [eA] cd E ∧ h' = h)) (hQ : ∀ h', Q h' → World h') : PMh l9 G mL_run NT NT [.ref 1, .int x1, .ref 737] h (fun v h' => v = some (.int (nI cd)) ∧ (cd ≠ 0 → h' = h) ∧ (cd = 0 → ∃ h1, Q h1 ∧ h' = sJ h1 737 0 a.toInt64)) := by
  refine PMh.of (by decide +kernel) rfl (Nat.le_of_ble_eq_true rfl) (fun hst _ => ?_)
  refine r_aload_n dL_run_0 rfl ?_
  refine r_iconst (0) dL_run_1 (by decide) ?_
  refine r_aload_n dL_run_2 rfl ?_
  refine r_iload_n dL_run_3 rfl ?_
  refine q_callX1 (cv_X8_run ml_L_81) hW kc_1 (by decide) rfl rfl (Nat.le_of_ble_eq_true rfl) dL_run_4 hM (fun v1 h1 q1 => ?_) (fun E1 h1 q1 => ?_)
  · obtain ⟨e1, rfl, q1⟩ := q1
    have hW1 := hQ _ q1
    refine r_i2l dL_run_7 ?_
    refine q_last (k := 0) hW1 kc_737 kn_0 (by decide) (by decide) dL_run_8 ?_
    refine r_goto 15 dL_run_9 (by decide) ?_
    refine r_iconst (0) dL_run_15 (by decide) ?_
    refine r_iret dL_run_16 rfl ⟨Nat.le_of_ble_eq_true rfl, Nat.le_of_ble_eq_true rfl⟩ ?_
    exact ⟨by rw [e1]; rfl, fun q => absurd e1 q, fun _ => ⟨_, q1, rfl⟩⟩
  · obtain ⟨⟨t1, t2⟩, rfl⟩ := q1
    obtain rfl : cd = 1 := by omega
    · have t3 : E1 = eA := t2.symm
      subst t3
      refine PX.catch (n0 := 0) hG (0, 9, 12, 13) rfl ⟨by decide, by decide⟩ (by decide) wl_13 ⟨rfl, by decide +kernel⟩ (fun z hz => absurd hz List.not_mem_nil) (fun a9 => ?_)
      refine r_astore_n (ls2 := [some _, some _, some _, some _]) dL_run_12 (by decide) rfl ?_
      refine r_iconst (1) dL_run_13 (by decide) ?_
      refine r_iret dL_run_14 rfl ⟨Nat.le_of_ble_eq_true rfl, Nat.le_of_ble_eq_true rfl⟩ ?_
      exact ⟨rfl, fun _ => rfl, fun q => absurd q (by decide)⟩
set_option maxRecDepth 100000 in
set_option maxHeartbeats 4000000 in
theorem c_L_push {l9 : Launch} {G : GC} {h : AH} {x1 x2 : Int32} {cd : Nat} {a : Int32} {Q : AH → Prop} (hG : GOK G) (hW : World h) (hcd : cd ≤ 2) (hM : PM l9 G mX8_push NT NT [.ref 1, .int x1, .int x2] h (fun v h' => cd = 0 ∧ v = some (.int a) ∧ Q h') (fun E h' => thr [eB, eA] cd E ∧ h' = h)) (hQ : ∀ h', Q h' → World h') : PMh l9 G mL_push NT NT [.ref 1, .int x1, .int x2, .ref 737] h (fun v h' => v = some (.int (nI cd)) ∧ (cd ≠ 0 → h' = h) ∧ (cd = 0 → ∃ h1, Q h1 ∧ h' = sJ h1 737 0 a.toInt64)) := by
  refine PMh.of (by decide +kernel) rfl (Nat.le_of_ble_eq_true rfl) (fun hst _ => ?_)
  refine r_aload_n dL_push_0 rfl ?_
  refine r_iconst (0) dL_push_1 (by decide) ?_
  refine r_aload_n dL_push_2 rfl ?_
  refine r_iload_n dL_push_3 rfl ?_
  refine r_iload_n dL_push_4 rfl ?_
  refine q_callX2 (cv_X8_push ml_L_84) hW kc_1 (by decide) rfl rfl (Nat.le_of_ble_eq_true rfl) dL_push_5 hM (fun v1 h1 q1 => ?_) (fun E1 h1 q1 => ?_)
  · obtain ⟨e1, rfl, q1⟩ := q1
    have hW1 := hQ _ q1
    refine r_i2l dL_push_8 ?_
    refine q_last (k := 0) hW1 kc_737 kn_0 (by decide) (by decide) dL_push_9 ?_
    refine r_goto 21 dL_push_10 (by decide) ?_
    refine r_iconst (0) dL_push_21 (by decide) ?_
    refine r_iret dL_push_22 rfl ⟨Nat.le_of_ble_eq_true rfl, Nat.le_of_ble_eq_true rfl⟩ ?_
    exact ⟨by rw [e1]; rfl, fun q => absurd e1 q, fun _ => ⟨_, q1, rfl⟩⟩
  · obtain ⟨⟨t1, t2⟩, rfl⟩ := q1
    obtain rfl | rfl : cd = 1 ∨ cd = 2 := by omega
    · have t3 : E1 = eB := t2.symm
      subst t3
      refine PX.catch (n0 := 0) hG (0, 10, 13, 19) rfl ⟨by decide, by decide⟩ (by decide) wl_19 ⟨rfl, by decide +kernel⟩ (fun z hz => absurd hz List.not_mem_nil) (fun a9 => ?_)
      refine r_astore (ls2 := [some _, some _, some _, some _, some _]) dL_push_13 (by decide) rfl ?_
      refine r_iconst (1) dL_push_15 (by decide) ?_
      refine r_iret dL_push_16 rfl ⟨Nat.le_of_ble_eq_true rfl, Nat.le_of_ble_eq_true rfl⟩ ?_
      exact ⟨rfl, fun _ => rfl, fun q => absurd q (by decide)⟩
    · have t3 : E1 = eA := t2.symm
      subst t3
      refine PX.catch (n0 := 1) hG (0, 10, 17, 13) rfl ⟨by decide, by decide⟩ (by decide) wl_13 ⟨rfl, by decide +kernel⟩ (by show ∀ z ∈ [((0, 10, 13, 19) : Nat × Nat × Nat × Nat)], _; exact List.forall_mem_cons.mpr ⟨⟨by decide, eB, wl_19, by decide +kernel⟩, fun _ h9 => absurd h9 List.not_mem_nil⟩) (fun a9 => ?_)
      refine r_astore (ls2 := [some _, some _, some _, some _, some _]) dL_push_17 (by decide) rfl ?_
      refine r_iconst (2) dL_push_19 (by decide) ?_
      refine r_iret dL_push_20 rfl ⟨Nat.le_of_ble_eq_true rfl, Nat.le_of_ble_eq_true rfl⟩ ?_
      exact ⟨rfl, fun _ => rfl, fun q => absurd q (by decide)⟩
set_option maxRecDepth 100000 in
set_option maxHeartbeats 4000000 in
theorem c_L_protect {l9 : Launch} {G : GC} {h : AH} {x1 x2 : Int32} {cd : Nat} {a : Int32} {Q : AH → Prop} (hG : GOK G) (hW : World h) (hcd : cd ≤ 1) (hM : PM l9 G mX8_protect NT NT [.ref 1, .int x1, .int x2] h (fun v h' => cd = 0 ∧ v = some (.int a) ∧ Q h') (fun E h' => thr [eN] cd E ∧ h' = h)) (hQ : ∀ h', Q h' → World h') : PMh l9 G mL_protect NT NT [.ref 1, .int x1, .int x2, .ref 737] h (fun v h' => v = some (.int (nI cd)) ∧ (cd ≠ 0 → h' = h) ∧ (cd = 0 → ∃ h1, Q h1 ∧ h' = sJ h1 737 0 (if a = 0 then 0 else 1))) := by
  refine PMh.of (by decide +kernel) rfl (Nat.le_of_ble_eq_true rfl) (fun hst _ => ?_)
  refine r_aload_n dL_protect_0 rfl ?_
  refine r_iconst (0) dL_protect_1 (by decide) ?_
  refine r_aload_n dL_protect_2 rfl ?_
  refine r_iload_n dL_protect_3 rfl ?_
  refine r_iload_n dL_protect_4 rfl ?_
  refine q_callX2 (cv_X8_protect ml_L_87) hW kc_1 (by decide) rfl rfl (Nat.le_of_ble_eq_true rfl) dL_protect_5 hM (fun v1 h1 q1 => ?_) (fun E1 h1 q1 => ?_)
  · obtain ⟨e1, rfl, q1⟩ := q1
    have hW1 := hQ _ q1
    refine r_if_eq 15 dL_protect_8 (by decide) (fun c0 => ?_) (fun c0 => ?_)
    · skip
      refine r_lconst (0) dL_protect_15 (by decide) ?_
      refine q_last (k := 0) hW1 kc_737 kn_0 (by decide) (by decide) dL_protect_16 ?_
      refine r_goto 24 dL_protect_17 (by decide) ?_
      refine r_iconst (0) dL_protect_24 (by decide) ?_
      refine r_iret dL_protect_25 rfl ⟨Nat.le_of_ble_eq_true rfl, Nat.le_of_ble_eq_true rfl⟩ ?_
      exact ⟨by rw [e1]; rfl, fun q => absurd e1 q, fun _ => ⟨_, q1, by rw [if_pos c0]⟩⟩
    · skip
      refine r_lconst (1) dL_protect_11 (by decide) ?_
      refine r_goto 16 dL_protect_12 (by decide) ?_
      refine q_last (k := 0) hW1 kc_737 kn_0 (by decide) (by decide) dL_protect_16 ?_
      refine r_goto 24 dL_protect_17 (by decide) ?_
      refine r_iconst (0) dL_protect_24 (by decide) ?_
      refine r_iret dL_protect_25 rfl ⟨Nat.le_of_ble_eq_true rfl, Nat.le_of_ble_eq_true rfl⟩ ?_
      exact ⟨by rw [e1]; rfl, fun q => absurd e1 q, fun _ => ⟨_, q1, by rw [if_neg c0]⟩⟩
  · obtain ⟨⟨t1, t2⟩, rfl⟩ := q1
    obtain rfl : cd = 1 := by omega
    · have t3 : E1 = eN := t2.symm
      subst t3
      refine PX.catch (n0 := 0) hG (0, 17, 20, 24) rfl ⟨by decide, by decide⟩ (by decide) wl_24 ⟨rfl, by decide +kernel⟩ (fun z hz => absurd hz List.not_mem_nil) (fun a9 => ?_)
      refine r_astore (ls2 := [some _, some _, some _, some _, some _]) dL_protect_20 (by decide) rfl ?_
      refine r_iconst (1) dL_protect_22 (by decide) ?_
      refine r_iret dL_protect_23 rfl ⟨Nat.le_of_ble_eq_true rfl, Nat.le_of_ble_eq_true rfl⟩ ?_
      exact ⟨rfl, fun _ => rfl, fun q => absurd q (by decide)⟩
set_option maxRecDepth 100000 in
set_option maxHeartbeats 4000000 in
theorem c_L_grow {l9 : Launch} {G : GC} {h : AH} {x1 x2 : Int32} {cd : Nat} {a : Int32} {Q : AH → Prop} (hG : GOK G) (hW : World h) (hcd : cd ≤ 3) (hM : PM l9 G mX8_grow NT NT [.ref 1, .int x1, .int x2] h (fun v h' => cd = 0 ∧ v = some (.int a) ∧ Q h') (fun E h' => thr [eB, eA, eS] cd E ∧ h' = h)) (hQ : ∀ h', Q h' → World h') : PMh l9 G mL_grow NT NT [.ref 1, .int x1, .int x2, .ref 737] h (fun v h' => v = some (.int (nI cd)) ∧ (cd ≠ 0 → h' = h) ∧ (cd = 0 → ∃ h1, Q h1 ∧ h' = sJ h1 737 0 a.toInt64)) := by
  refine PMh.of (by decide +kernel) rfl (Nat.le_of_ble_eq_true rfl) (fun hst _ => ?_)
  refine r_aload_n dL_grow_0 rfl ?_
  refine r_iconst (0) dL_grow_1 (by decide) ?_
  refine r_aload_n dL_grow_2 rfl ?_
  refine r_iload_n dL_grow_3 rfl ?_
  refine r_iload_n dL_grow_4 rfl ?_
  refine q_callX2 (cv_X8_grow ml_L_91) hW kc_1 (by decide) rfl rfl (Nat.le_of_ble_eq_true rfl) dL_grow_5 hM (fun v1 h1 q1 => ?_) (fun E1 h1 q1 => ?_)
  · obtain ⟨e1, rfl, q1⟩ := q1
    have hW1 := hQ _ q1
    refine r_i2l dL_grow_8 ?_
    refine q_last (k := 0) hW1 kc_737 kn_0 (by decide) (by decide) dL_grow_9 ?_
    refine r_goto 25 dL_grow_10 (by decide) ?_
    refine r_iconst (0) dL_grow_25 (by decide) ?_
    refine r_iret dL_grow_26 rfl ⟨Nat.le_of_ble_eq_true rfl, Nat.le_of_ble_eq_true rfl⟩ ?_
    exact ⟨by rw [e1]; rfl, fun q => absurd e1 q, fun _ => ⟨_, q1, rfl⟩⟩
  · obtain ⟨⟨t1, t2⟩, rfl⟩ := q1
    obtain rfl | rfl | rfl : cd = 1 ∨ cd = 2 ∨ cd = 3 := by omega
    · have t3 : E1 = eB := t2.symm
      subst t3
      refine PX.catch (n0 := 0) hG (0, 10, 13, 19) rfl ⟨by decide, by decide⟩ (by decide) wl_19 ⟨rfl, by decide +kernel⟩ (fun z hz => absurd hz List.not_mem_nil) (fun a9 => ?_)
      refine r_astore (ls2 := [some _, some _, some _, some _, some _]) dL_grow_13 (by decide) rfl ?_
      refine r_iconst (1) dL_grow_15 (by decide) ?_
      refine r_iret dL_grow_16 rfl ⟨Nat.le_of_ble_eq_true rfl, Nat.le_of_ble_eq_true rfl⟩ ?_
      exact ⟨rfl, fun _ => rfl, fun q => absurd q (by decide)⟩
    · have t3 : E1 = eA := t2.symm
      subst t3
      refine PX.catch (n0 := 1) hG (0, 10, 17, 13) rfl ⟨by decide, by decide⟩ (by decide) wl_13 ⟨rfl, by decide +kernel⟩ (by show ∀ z ∈ [((0, 10, 13, 19) : Nat × Nat × Nat × Nat)], _; exact List.forall_mem_cons.mpr ⟨⟨by decide, eB, wl_19, by decide +kernel⟩, fun _ h9 => absurd h9 List.not_mem_nil⟩) (fun a9 => ?_)
      refine r_astore (ls2 := [some _, some _, some _, some _, some _]) dL_grow_17 (by decide) rfl ?_
      refine r_iconst (2) dL_grow_19 (by decide) ?_
      refine r_iret dL_grow_20 rfl ⟨Nat.le_of_ble_eq_true rfl, Nat.le_of_ble_eq_true rfl⟩ ?_
      exact ⟨rfl, fun _ => rfl, fun q => absurd q (by decide)⟩
    · have t3 : E1 = eS := t2.symm
      subst t3
      refine PX.catch (n0 := 2) hG (0, 10, 21, 94) rfl ⟨by decide, by decide⟩ (by decide) wl_94 ⟨rfl, by decide +kernel⟩ (by show ∀ z ∈ [((0, 10, 13, 19) : Nat × Nat × Nat × Nat), ((0, 10, 17, 13) : Nat × Nat × Nat × Nat)], _; exact List.forall_mem_cons.mpr ⟨⟨by decide, eB, wl_19, by decide +kernel⟩, List.forall_mem_cons.mpr ⟨⟨by decide, eA, wl_13, by decide +kernel⟩, fun _ h9 => absurd h9 List.not_mem_nil⟩⟩) (fun a9 => ?_)
      refine r_astore (ls2 := [some _, some _, some _, some _, some _]) dL_grow_21 (by decide) rfl ?_
      refine r_iconst (3) dL_grow_23 (by decide) ?_
      refine r_iret dL_grow_24 rfl ⟨Nat.le_of_ble_eq_true rfl, Nat.le_of_ble_eq_true rfl⟩ ?_
      exact ⟨rfl, fun _ => rfl, fun q => absurd q (by decide)⟩
set_option maxRecDepth 100000 in
set_option maxHeartbeats 4000000 in
theorem c_L_drop {l9 : Launch} {G : GC} {h : AH} {x1 : Int32} {cd : Nat} {a : Int32} {Q : AH → Prop} (hG : GOK G) (hW : World h) (hcd : cd ≤ 2) (hM : PM l9 G mX8_drop NT NT [.ref 1, .int x1] h (fun v h' => cd = 0 ∧ v = some (.int a) ∧ Q h') (fun E h' => thr [eS, eN] cd E ∧ h' = h)) (hQ : ∀ h', Q h' → World h') : PMh l9 G mL_drop NT NT [.ref 1, .int x1, .ref 737] h (fun v h' => v = some (.int (nI cd)) ∧ (cd ≠ 0 → h' = h) ∧ (cd = 0 → ∃ h1, Q h1 ∧ h' = sJ h1 737 0 a.toInt64)) := by
  refine PMh.of (by decide +kernel) rfl (Nat.le_of_ble_eq_true rfl) (fun hst _ => ?_)
  refine r_aload_n dL_drop_0 rfl ?_
  refine r_iconst (0) dL_drop_1 (by decide) ?_
  refine r_aload_n dL_drop_2 rfl ?_
  refine r_iload_n dL_drop_3 rfl ?_
  refine q_callX1 (cv_X8_drop ml_L_96) hW kc_1 (by decide) rfl rfl (Nat.le_of_ble_eq_true rfl) dL_drop_4 hM (fun v1 h1 q1 => ?_) (fun E1 h1 q1 => ?_)
  · obtain ⟨e1, rfl, q1⟩ := q1
    have hW1 := hQ _ q1
    refine r_i2l dL_drop_7 ?_
    refine q_last (k := 0) hW1 kc_737 kn_0 (by decide) (by decide) dL_drop_8 ?_
    refine r_goto 18 dL_drop_9 (by decide) ?_
    refine r_iconst (0) dL_drop_18 (by decide) ?_
    refine r_iret dL_drop_19 rfl ⟨Nat.le_of_ble_eq_true rfl, Nat.le_of_ble_eq_true rfl⟩ ?_
    exact ⟨by rw [e1]; rfl, fun q => absurd e1 q, fun _ => ⟨_, q1, rfl⟩⟩
  · obtain ⟨⟨t1, t2⟩, rfl⟩ := q1
    obtain rfl | rfl : cd = 1 ∨ cd = 2 := by omega
    · have t3 : E1 = eS := t2.symm
      subst t3
      refine PX.catch (n0 := 0) hG (0, 9, 12, 94) rfl ⟨by decide, by decide⟩ (by decide) wl_94 ⟨rfl, by decide +kernel⟩ (fun z hz => absurd hz List.not_mem_nil) (fun a9 => ?_)
      refine r_astore_n (ls2 := [some _, some _, some _, some _]) dL_drop_12 (by decide) rfl ?_
      refine r_iconst (1) dL_drop_13 (by decide) ?_
      refine r_iret dL_drop_14 rfl ⟨Nat.le_of_ble_eq_true rfl, Nat.le_of_ble_eq_true rfl⟩ ?_
      exact ⟨rfl, fun _ => rfl, fun q => absurd q (by decide)⟩
    · have t3 : E1 = eN := t2.symm
      subst t3
      refine PX.catch (n0 := 1) hG (0, 9, 15, 24) rfl ⟨by decide, by decide⟩ (by decide) wl_24 ⟨rfl, by decide +kernel⟩ (by show ∀ z ∈ [((0, 9, 12, 94) : Nat × Nat × Nat × Nat)], _; exact List.forall_mem_cons.mpr ⟨⟨by decide, eS, wl_94, by decide +kernel⟩, fun _ h9 => absurd h9 List.not_mem_nil⟩) (fun a9 => ?_)
      refine r_astore_n (ls2 := [some _, some _, some _, some _]) dL_drop_15 (by decide) rfl ?_
      refine r_iconst (2) dL_drop_16 (by decide) ?_
      refine r_iret dL_drop_17 rfl ⟨Nat.le_of_ble_eq_true rfl, Nat.le_of_ble_eq_true rfl⟩ ?_
      exact ⟨rfl, fun _ => rfl, fun q => absurd q (by decide)⟩
set_option maxRecDepth 100000 in
set_option maxHeartbeats 4000000 in
theorem c_L_pause {l9 : Launch} {G : GC} {h : AH} {x1 x2 : Int32} {cd : Nat} {a : Int32} {Q : AH → Prop} (hG : GOK G) (hW : World h) (hcd : cd ≤ 1) (hM : PM l9 G mX8_pause NT NT [.ref 1, .int x1, .int x2] h (fun v h' => cd = 0 ∧ v = some (.int a) ∧ Q h') (fun E h' => thr [eB] cd E ∧ h' = h)) (hQ : ∀ h', Q h' → World h') : PMh l9 G mL_pause NT NT [.ref 1, .int x1, .int x2, .ref 737] h (fun v h' => v = some (.int (nI cd)) ∧ (cd ≠ 0 → h' = h) ∧ (cd = 0 → ∃ h1, Q h1 ∧ h' = sJ h1 737 0 (if a = 0 then 0 else 1))) := by
  refine PMh.of (by decide +kernel) rfl (Nat.le_of_ble_eq_true rfl) (fun hst _ => ?_)
  refine r_aload_n dL_pause_0 rfl ?_
  refine r_iconst (0) dL_pause_1 (by decide) ?_
  refine r_aload_n dL_pause_2 rfl ?_
  refine r_iload_n dL_pause_3 rfl ?_
  refine r_iload_n dL_pause_4 rfl ?_
  refine q_callX2 (cv_X8_pause ml_L_99) hW kc_1 (by decide) rfl rfl (Nat.le_of_ble_eq_true rfl) dL_pause_5 hM (fun v1 h1 q1 => ?_) (fun E1 h1 q1 => ?_)
  · obtain ⟨e1, rfl, q1⟩ := q1
    have hW1 := hQ _ q1
    refine r_if_eq 15 dL_pause_8 (by decide) (fun c0 => ?_) (fun c0 => ?_)
    · skip
      refine r_lconst (0) dL_pause_15 (by decide) ?_
      refine q_last (k := 0) hW1 kc_737 kn_0 (by decide) (by decide) dL_pause_16 ?_
      refine r_goto 24 dL_pause_17 (by decide) ?_
      refine r_iconst (0) dL_pause_24 (by decide) ?_
      refine r_iret dL_pause_25 rfl ⟨Nat.le_of_ble_eq_true rfl, Nat.le_of_ble_eq_true rfl⟩ ?_
      exact ⟨by rw [e1]; rfl, fun q => absurd e1 q, fun _ => ⟨_, q1, by rw [if_pos c0]⟩⟩
    · skip
      refine r_lconst (1) dL_pause_11 (by decide) ?_
      refine r_goto 16 dL_pause_12 (by decide) ?_
      refine q_last (k := 0) hW1 kc_737 kn_0 (by decide) (by decide) dL_pause_16 ?_
      refine r_goto 24 dL_pause_17 (by decide) ?_
      refine r_iconst (0) dL_pause_24 (by decide) ?_
      refine r_iret dL_pause_25 rfl ⟨Nat.le_of_ble_eq_true rfl, Nat.le_of_ble_eq_true rfl⟩ ?_
      exact ⟨by rw [e1]; rfl, fun q => absurd e1 q, fun _ => ⟨_, q1, by rw [if_neg c0]⟩⟩
  · obtain ⟨⟨t1, t2⟩, rfl⟩ := q1
    obtain rfl : cd = 1 := by omega
    · have t3 : E1 = eB := t2.symm
      subst t3
      refine PX.catch (n0 := 0) hG (0, 17, 20, 19) rfl ⟨by decide, by decide⟩ (by decide) wl_19 ⟨rfl, by decide +kernel⟩ (fun z hz => absurd hz List.not_mem_nil) (fun a9 => ?_)
      refine r_astore (ls2 := [some _, some _, some _, some _, some _]) dL_pause_20 (by decide) rfl ?_
      refine r_iconst (1) dL_pause_22 (by decide) ?_
      refine r_iret dL_pause_23 rfl ⟨Nat.le_of_ble_eq_true rfl, Nat.le_of_ble_eq_true rfl⟩ ?_
      exact ⟨rfl, fun _ => rfl, fun q => absurd q (by decide)⟩
set_option maxRecDepth 100000 in
set_option maxHeartbeats 4000000 in
theorem c_L_setPolicy {l9 : Launch} {G : GC} {h : AH} {x1 x2 x3 : Int32} {cd : Nat} {a : Int32} {Q : AH → Prop} (hG : GOK G) (hW : World h) (hcd : cd ≤ 2) (hM : PM l9 G mX8_setPolicy NT NT [.ref 1, .int x1, .int x2, .int x3] h (fun v h' => cd = 0 ∧ v = some (.int a) ∧ Q h') (fun E h' => thr [eB, eA] cd E ∧ h' = h)) (hQ : ∀ h', Q h' → World h') : PMh l9 G mL_setPolicy NT NT [.ref 1, .int x1, .int x2, .int x3, .ref 737] h (fun v h' => v = some (.int (nI cd)) ∧ (cd ≠ 0 → h' = h) ∧ (cd = 0 → ∃ h1, Q h1 ∧ h' = sJ h1 737 0 a.toInt64)) := by
  refine PMh.of (by decide +kernel) rfl (Nat.le_of_ble_eq_true rfl) (fun hst _ => ?_)
  refine r_aload dL_setPolicy_0 rfl ?_
  refine r_iconst (0) dL_setPolicy_2 (by decide) ?_
  refine r_aload_n dL_setPolicy_3 rfl ?_
  refine r_iload_n dL_setPolicy_4 rfl ?_
  refine r_iload_n dL_setPolicy_5 rfl ?_
  refine r_iload_n dL_setPolicy_6 rfl ?_
  refine q_callX3 (cv_X8_setPolicy ml_L_102) hW kc_1 (by decide) rfl rfl (Nat.le_of_ble_eq_true rfl) dL_setPolicy_7 hM (fun v1 h1 q1 => ?_) (fun E1 h1 q1 => ?_)
  · obtain ⟨e1, rfl, q1⟩ := q1
    have hW1 := hQ _ q1
    refine r_i2l dL_setPolicy_10 ?_
    refine q_last (k := 0) hW1 kc_737 kn_0 (by decide) (by decide) dL_setPolicy_11 ?_
    refine r_goto 23 dL_setPolicy_12 (by decide) ?_
    refine r_iconst (0) dL_setPolicy_23 (by decide) ?_
    refine r_iret dL_setPolicy_24 rfl ⟨Nat.le_of_ble_eq_true rfl, Nat.le_of_ble_eq_true rfl⟩ ?_
    exact ⟨by rw [e1]; rfl, fun q => absurd e1 q, fun _ => ⟨_, q1, rfl⟩⟩
  · obtain ⟨⟨t1, t2⟩, rfl⟩ := q1
    obtain rfl | rfl : cd = 1 ∨ cd = 2 := by omega
    · have t3 : E1 = eB := t2.symm
      subst t3
      refine PX.catch (n0 := 0) hG (0, 12, 15, 19) rfl ⟨by decide, by decide⟩ (by decide) wl_19 ⟨rfl, by decide +kernel⟩ (fun z hz => absurd hz List.not_mem_nil) (fun a9 => ?_)
      refine r_astore (ls2 := [some _, some _, some _, some _, some _, some _]) dL_setPolicy_15 (by decide) rfl ?_
      refine r_iconst (1) dL_setPolicy_17 (by decide) ?_
      refine r_iret dL_setPolicy_18 rfl ⟨Nat.le_of_ble_eq_true rfl, Nat.le_of_ble_eq_true rfl⟩ ?_
      exact ⟨rfl, fun _ => rfl, fun q => absurd q (by decide)⟩
    · have t3 : E1 = eA := t2.symm
      subst t3
      refine PX.catch (n0 := 1) hG (0, 12, 19, 13) rfl ⟨by decide, by decide⟩ (by decide) wl_13 ⟨rfl, by decide +kernel⟩ (by show ∀ z ∈ [((0, 12, 15, 19) : Nat × Nat × Nat × Nat)], _; exact List.forall_mem_cons.mpr ⟨⟨by decide, eB, wl_19, by decide +kernel⟩, fun _ h9 => absurd h9 List.not_mem_nil⟩) (fun a9 => ?_)
      refine r_astore (ls2 := [some _, some _, some _, some _, some _, some _]) dL_setPolicy_19 (by decide) rfl ?_
      refine r_iconst (2) dL_setPolicy_21 (by decide) ?_
      refine r_iret dL_setPolicy_22 rfl ⟨Nat.le_of_ble_eq_true rfl, Nat.le_of_ble_eq_true rfl⟩ ?_
      exact ⟨rfl, fun _ => rfl, fun q => absurd q (by decide)⟩
set_option maxRecDepth 100000 in
set_option maxHeartbeats 4000000 in
theorem c_L_setTarget {l9 : Launch} {G : GC} {h : AH} {x1 x2 : Int32} {cd : Nat} {a : Int32} {Q : AH → Prop} (hG : GOK G) (hW : World h) (hcd : cd ≤ 2) (hM : PM l9 G mX8_setTarget NT NT [.ref 1, .int x1, .int x2] h (fun v h' => cd = 0 ∧ v = some (.int a) ∧ Q h') (fun E h' => thr [eB, eA] cd E ∧ h' = h)) (hQ : ∀ h', Q h' → World h') : PMh l9 G mL_setTarget NT NT [.ref 1, .int x1, .int x2, .ref 737] h (fun v h' => v = some (.int (nI cd)) ∧ (cd ≠ 0 → h' = h) ∧ (cd = 0 → ∃ h1, Q h1 ∧ h' = sJ h1 737 0 a.toInt64)) := by
  refine PMh.of (by decide +kernel) rfl (Nat.le_of_ble_eq_true rfl) (fun hst _ => ?_)
  refine r_aload_n dL_setTarget_0 rfl ?_
  refine r_iconst (0) dL_setTarget_1 (by decide) ?_
  refine r_aload_n dL_setTarget_2 rfl ?_
  refine r_iload_n dL_setTarget_3 rfl ?_
  refine r_iload_n dL_setTarget_4 rfl ?_
  refine q_callX2 (cv_X8_setTarget ml_L_106) hW kc_1 (by decide) rfl rfl (Nat.le_of_ble_eq_true rfl) dL_setTarget_5 hM (fun v1 h1 q1 => ?_) (fun E1 h1 q1 => ?_)
  · obtain ⟨e1, rfl, q1⟩ := q1
    have hW1 := hQ _ q1
    refine r_i2l dL_setTarget_8 ?_
    refine q_last (k := 0) hW1 kc_737 kn_0 (by decide) (by decide) dL_setTarget_9 ?_
    refine r_goto 21 dL_setTarget_10 (by decide) ?_
    refine r_iconst (0) dL_setTarget_21 (by decide) ?_
    refine r_iret dL_setTarget_22 rfl ⟨Nat.le_of_ble_eq_true rfl, Nat.le_of_ble_eq_true rfl⟩ ?_
    exact ⟨by rw [e1]; rfl, fun q => absurd e1 q, fun _ => ⟨_, q1, rfl⟩⟩
  · obtain ⟨⟨t1, t2⟩, rfl⟩ := q1
    obtain rfl | rfl : cd = 1 ∨ cd = 2 := by omega
    · have t3 : E1 = eB := t2.symm
      subst t3
      refine PX.catch (n0 := 0) hG (0, 10, 13, 19) rfl ⟨by decide, by decide⟩ (by decide) wl_19 ⟨rfl, by decide +kernel⟩ (fun z hz => absurd hz List.not_mem_nil) (fun a9 => ?_)
      refine r_astore (ls2 := [some _, some _, some _, some _, some _]) dL_setTarget_13 (by decide) rfl ?_
      refine r_iconst (1) dL_setTarget_15 (by decide) ?_
      refine r_iret dL_setTarget_16 rfl ⟨Nat.le_of_ble_eq_true rfl, Nat.le_of_ble_eq_true rfl⟩ ?_
      exact ⟨rfl, fun _ => rfl, fun q => absurd q (by decide)⟩
    · have t3 : E1 = eA := t2.symm
      subst t3
      refine PX.catch (n0 := 1) hG (0, 10, 17, 13) rfl ⟨by decide, by decide⟩ (by decide) wl_13 ⟨rfl, by decide +kernel⟩ (by show ∀ z ∈ [((0, 10, 13, 19) : Nat × Nat × Nat × Nat)], _; exact List.forall_mem_cons.mpr ⟨⟨by decide, eB, wl_19, by decide +kernel⟩, fun _ h9 => absurd h9 List.not_mem_nil⟩) (fun a9 => ?_)
      refine r_astore (ls2 := [some _, some _, some _, some _, some _]) dL_setTarget_17 (by decide) rfl ?_
      refine r_iconst (2) dL_setTarget_19 (by decide) ?_
      refine r_iret dL_setTarget_20 rfl ⟨Nat.le_of_ble_eq_true rfl, Nat.le_of_ble_eq_true rfl⟩ ?_
      exact ⟨rfl, fun _ => rfl, fun q => absurd q (by decide)⟩
set_option maxRecDepth 100000 in
set_option maxHeartbeats 4000000 in
theorem c_L_setCool {l9 : Launch} {G : GC} {h : AH} {x1 x2 x3 : Int32} {cd : Nat} {a : Int32} {Q : AH → Prop} (hG : GOK G) (hW : World h) (hcd : cd ≤ 2) (hM : PM l9 G mX8_setCool NT NT [.ref 1, .int x1, .int x2, .int x3] h (fun v h' => cd = 0 ∧ v = some (.int a) ∧ Q h') (fun E h' => thr [eB, eA] cd E ∧ h' = h)) (hQ : ∀ h', Q h' → World h') : PMh l9 G mL_setCool NT NT [.ref 1, .int x1, .int x2, .int x3, .ref 737] h (fun v h' => v = some (.int (nI cd)) ∧ (cd ≠ 0 → h' = h) ∧ (cd = 0 → ∃ h1, Q h1 ∧ h' = sJ h1 737 0 a.toInt64)) := by
  refine PMh.of (by decide +kernel) rfl (Nat.le_of_ble_eq_true rfl) (fun hst _ => ?_)
  refine r_aload dL_setCool_0 rfl ?_
  refine r_iconst (0) dL_setCool_2 (by decide) ?_
  refine r_aload_n dL_setCool_3 rfl ?_
  refine r_iload_n dL_setCool_4 rfl ?_
  refine r_iload_n dL_setCool_5 rfl ?_
  refine r_iload_n dL_setCool_6 rfl ?_
  refine q_callX3 (cv_X8_setCool ml_L_109) hW kc_1 (by decide) rfl rfl (Nat.le_of_ble_eq_true rfl) dL_setCool_7 hM (fun v1 h1 q1 => ?_) (fun E1 h1 q1 => ?_)
  · obtain ⟨e1, rfl, q1⟩ := q1
    have hW1 := hQ _ q1
    refine r_i2l dL_setCool_10 ?_
    refine q_last (k := 0) hW1 kc_737 kn_0 (by decide) (by decide) dL_setCool_11 ?_
    refine r_goto 23 dL_setCool_12 (by decide) ?_
    refine r_iconst (0) dL_setCool_23 (by decide) ?_
    refine r_iret dL_setCool_24 rfl ⟨Nat.le_of_ble_eq_true rfl, Nat.le_of_ble_eq_true rfl⟩ ?_
    exact ⟨by rw [e1]; rfl, fun q => absurd e1 q, fun _ => ⟨_, q1, rfl⟩⟩
  · obtain ⟨⟨t1, t2⟩, rfl⟩ := q1
    obtain rfl | rfl : cd = 1 ∨ cd = 2 := by omega
    · have t3 : E1 = eB := t2.symm
      subst t3
      refine PX.catch (n0 := 0) hG (0, 12, 15, 19) rfl ⟨by decide, by decide⟩ (by decide) wl_19 ⟨rfl, by decide +kernel⟩ (fun z hz => absurd hz List.not_mem_nil) (fun a9 => ?_)
      refine r_astore (ls2 := [some _, some _, some _, some _, some _, some _]) dL_setCool_15 (by decide) rfl ?_
      refine r_iconst (1) dL_setCool_17 (by decide) ?_
      refine r_iret dL_setCool_18 rfl ⟨Nat.le_of_ble_eq_true rfl, Nat.le_of_ble_eq_true rfl⟩ ?_
      exact ⟨rfl, fun _ => rfl, fun q => absurd q (by decide)⟩
    · have t3 : E1 = eA := t2.symm
      subst t3
      refine PX.catch (n0 := 1) hG (0, 12, 19, 13) rfl ⟨by decide, by decide⟩ (by decide) wl_13 ⟨rfl, by decide +kernel⟩ (by show ∀ z ∈ [((0, 12, 15, 19) : Nat × Nat × Nat × Nat)], _; exact List.forall_mem_cons.mpr ⟨⟨by decide, eB, wl_19, by decide +kernel⟩, fun _ h9 => absurd h9 List.not_mem_nil⟩) (fun a9 => ?_)
      refine r_astore (ls2 := [some _, some _, some _, some _, some _, some _]) dL_setCool_19 (by decide) rfl ?_
      refine r_iconst (2) dL_setCool_21 (by decide) ?_
      refine r_iret dL_setCool_22 rfl ⟨Nat.le_of_ble_eq_true rfl, Nat.le_of_ble_eq_true rfl⟩ ?_
      exact ⟨rfl, fun _ => rfl, fun q => absurd q (by decide)⟩
set_option maxRecDepth 100000 in
set_option maxHeartbeats 4000000 in
theorem c_L_setBounds {l9 : Launch} {G : GC} {h : AH} {x1 x2 x3 : Int32} {cd : Nat} {a : Int32} {Q : AH → Prop} (hG : GOK G) (hW : World h) (hcd : cd ≤ 2) (hM : PM l9 G mX8_setBounds NT NT [.ref 1, .int x1, .int x2, .int x3] h (fun v h' => cd = 0 ∧ v = some (.int a) ∧ Q h') (fun E h' => thr [eB, eA] cd E ∧ h' = h)) (hQ : ∀ h', Q h' → World h') : PMh l9 G mL_setBounds NT NT [.ref 1, .int x1, .int x2, .int x3, .ref 737] h (fun v h' => v = some (.int (nI cd)) ∧ (cd ≠ 0 → h' = h) ∧ (cd = 0 → ∃ h1, Q h1 ∧ h' = sJ h1 737 0 a.toInt64)) := by
  refine PMh.of (by decide +kernel) rfl (Nat.le_of_ble_eq_true rfl) (fun hst _ => ?_)
  refine r_aload dL_setBounds_0 rfl ?_
  refine r_iconst (0) dL_setBounds_2 (by decide) ?_
  refine r_aload_n dL_setBounds_3 rfl ?_
  refine r_iload_n dL_setBounds_4 rfl ?_
  refine r_iload_n dL_setBounds_5 rfl ?_
  refine r_iload_n dL_setBounds_6 rfl ?_
  refine q_callX3 (cv_X8_setBounds ml_L_112) hW kc_1 (by decide) rfl rfl (Nat.le_of_ble_eq_true rfl) dL_setBounds_7 hM (fun v1 h1 q1 => ?_) (fun E1 h1 q1 => ?_)
  · obtain ⟨e1, rfl, q1⟩ := q1
    have hW1 := hQ _ q1
    refine r_i2l dL_setBounds_10 ?_
    refine q_last (k := 0) hW1 kc_737 kn_0 (by decide) (by decide) dL_setBounds_11 ?_
    refine r_goto 23 dL_setBounds_12 (by decide) ?_
    refine r_iconst (0) dL_setBounds_23 (by decide) ?_
    refine r_iret dL_setBounds_24 rfl ⟨Nat.le_of_ble_eq_true rfl, Nat.le_of_ble_eq_true rfl⟩ ?_
    exact ⟨by rw [e1]; rfl, fun q => absurd e1 q, fun _ => ⟨_, q1, rfl⟩⟩
  · obtain ⟨⟨t1, t2⟩, rfl⟩ := q1
    obtain rfl | rfl : cd = 1 ∨ cd = 2 := by omega
    · have t3 : E1 = eB := t2.symm
      subst t3
      refine PX.catch (n0 := 0) hG (0, 12, 15, 19) rfl ⟨by decide, by decide⟩ (by decide) wl_19 ⟨rfl, by decide +kernel⟩ (fun z hz => absurd hz List.not_mem_nil) (fun a9 => ?_)
      refine r_astore (ls2 := [some _, some _, some _, some _, some _, some _]) dL_setBounds_15 (by decide) rfl ?_
      refine r_iconst (1) dL_setBounds_17 (by decide) ?_
      refine r_iret dL_setBounds_18 rfl ⟨Nat.le_of_ble_eq_true rfl, Nat.le_of_ble_eq_true rfl⟩ ?_
      exact ⟨rfl, fun _ => rfl, fun q => absurd q (by decide)⟩
    · have t3 : E1 = eA := t2.symm
      subst t3
      refine PX.catch (n0 := 1) hG (0, 12, 19, 13) rfl ⟨by decide, by decide⟩ (by decide) wl_13 ⟨rfl, by decide +kernel⟩ (by show ∀ z ∈ [((0, 12, 15, 19) : Nat × Nat × Nat × Nat)], _; exact List.forall_mem_cons.mpr ⟨⟨by decide, eB, wl_19, by decide +kernel⟩, fun _ h9 => absurd h9 List.not_mem_nil⟩) (fun a9 => ?_)
      refine r_astore (ls2 := [some _, some _, some _, some _, some _, some _]) dL_setBounds_19 (by decide) rfl ?_
      refine r_iconst (2) dL_setBounds_21 (by decide) ?_
      refine r_iret dL_setBounds_22 rfl ⟨Nat.le_of_ble_eq_true rfl, Nat.le_of_ble_eq_true rfl⟩ ?_
      exact ⟨rfl, fun _ => rfl, fun q => absurd q (by decide)⟩
set_option maxRecDepth 100000 in
set_option maxHeartbeats 4000000 in
theorem c_L_sizeIn {l9 : Launch} {G : GC} {h : AH} {x1 x2 : Int32} {cd : Nat} {a : Int32} {Q : AH → Prop} (hG : GOK G) (hW : World h) (hcd : cd ≤ 2) (hM : PM l9 G mX8_sizeIn NT NT [.ref 1, .int x1, .int x2] h (fun v h' => cd = 0 ∧ v = some (.int a) ∧ Q h') (fun E h' => thr [eB, eA] cd E ∧ h' = h)) (hQ : ∀ h', Q h' → World h') : PMh l9 G mL_sizeIn NT NT [.ref 1, .int x1, .int x2, .ref 737] h (fun v h' => v = some (.int (nI cd)) ∧ (cd ≠ 0 → h' = h) ∧ (cd = 0 → ∃ h1, Q h1 ∧ h' = sJ h1 737 0 a.toInt64)) := by
  refine PMh.of (by decide +kernel) rfl (Nat.le_of_ble_eq_true rfl) (fun hst _ => ?_)
  refine r_aload_n dL_sizeIn_0 rfl ?_
  refine r_iconst (0) dL_sizeIn_1 (by decide) ?_
  refine r_aload_n dL_sizeIn_2 rfl ?_
  refine r_iload_n dL_sizeIn_3 rfl ?_
  refine r_iload_n dL_sizeIn_4 rfl ?_
  refine q_callX2 (cv_X8_sizeIn ml_L_115) hW kc_1 (by decide) rfl rfl (Nat.le_of_ble_eq_true rfl) dL_sizeIn_5 hM (fun v1 h1 q1 => ?_) (fun E1 h1 q1 => ?_)
  · obtain ⟨e1, rfl, q1⟩ := q1
    have hW1 := hQ _ q1
    refine r_i2l dL_sizeIn_8 ?_
    refine q_last (k := 0) hW1 kc_737 kn_0 (by decide) (by decide) dL_sizeIn_9 ?_
    refine r_goto 21 dL_sizeIn_10 (by decide) ?_
    refine r_iconst (0) dL_sizeIn_21 (by decide) ?_
    refine r_iret dL_sizeIn_22 rfl ⟨Nat.le_of_ble_eq_true rfl, Nat.le_of_ble_eq_true rfl⟩ ?_
    exact ⟨by rw [e1]; rfl, fun q => absurd e1 q, fun _ => ⟨_, q1, rfl⟩⟩
  · obtain ⟨⟨t1, t2⟩, rfl⟩ := q1
    obtain rfl | rfl : cd = 1 ∨ cd = 2 := by omega
    · have t3 : E1 = eB := t2.symm
      subst t3
      refine PX.catch (n0 := 0) hG (0, 10, 13, 19) rfl ⟨by decide, by decide⟩ (by decide) wl_19 ⟨rfl, by decide +kernel⟩ (fun z hz => absurd hz List.not_mem_nil) (fun a9 => ?_)
      refine r_astore (ls2 := [some _, some _, some _, some _, some _]) dL_sizeIn_13 (by decide) rfl ?_
      refine r_iconst (1) dL_sizeIn_15 (by decide) ?_
      refine r_iret dL_sizeIn_16 rfl ⟨Nat.le_of_ble_eq_true rfl, Nat.le_of_ble_eq_true rfl⟩ ?_
      exact ⟨rfl, fun _ => rfl, fun q => absurd q (by decide)⟩
    · have t3 : E1 = eA := t2.symm
      subst t3
      refine PX.catch (n0 := 1) hG (0, 10, 17, 13) rfl ⟨by decide, by decide⟩ (by decide) wl_13 ⟨rfl, by decide +kernel⟩ (by show ∀ z ∈ [((0, 10, 13, 19) : Nat × Nat × Nat × Nat)], _; exact List.forall_mem_cons.mpr ⟨⟨by decide, eB, wl_19, by decide +kernel⟩, fun _ h9 => absurd h9 List.not_mem_nil⟩) (fun a9 => ?_)
      refine r_astore (ls2 := [some _, some _, some _, some _, some _]) dL_sizeIn_17 (by decide) rfl ?_
      refine r_iconst (2) dL_sizeIn_19 (by decide) ?_
      refine r_iret dL_sizeIn_20 rfl ⟨Nat.le_of_ble_eq_true rfl, Nat.le_of_ble_eq_true rfl⟩ ?_
      exact ⟨rfl, fun _ => rfl, fun q => absurd q (by decide)⟩
set_option maxRecDepth 100000 in
set_option maxHeartbeats 4000000 in
theorem c_L_missedIn {l9 : Launch} {G : GC} {h : AH} {x1 x2 : Int32} {cd : Nat} {a : Int64} {Q : AH → Prop} (hG : GOK G) (hW : World h) (hcd : cd ≤ 2) (hM : PM l9 G mX8_missedIn NT NT [.ref 1, .int x1, .int x2] h (fun v h' => cd = 0 ∧ v = some (.long a) ∧ Q h') (fun E h' => thr [eB, eA] cd E ∧ h' = h)) (hQ : ∀ h', Q h' → World h') : PMh l9 G mL_missedIn NT NT [.ref 1, .int x1, .int x2, .ref 737] h (fun v h' => v = some (.int (nI cd)) ∧ (cd ≠ 0 → h' = h) ∧ (cd = 0 → ∃ h1, Q h1 ∧ h' = sJ h1 737 0 a)) := by
  refine PMh.of (by decide +kernel) rfl (Nat.le_of_ble_eq_true rfl) (fun hst _ => ?_)
  refine r_aload_n dL_missedIn_0 rfl ?_
  refine r_iconst (0) dL_missedIn_1 (by decide) ?_
  refine r_aload_n dL_missedIn_2 rfl ?_
  refine r_iload_n dL_missedIn_3 rfl ?_
  refine r_iload_n dL_missedIn_4 rfl ?_
  refine q_callX2 (cv_X8_missedIn ml_L_118) hW kc_1 (by decide) rfl rfl (Nat.le_of_ble_eq_true rfl) dL_missedIn_5 hM (fun v1 h1 q1 => ?_) (fun E1 h1 q1 => ?_)
  · obtain ⟨e1, rfl, q1⟩ := q1
    have hW1 := hQ _ q1
    refine q_last (k := 0) hW1 kc_737 kn_0 (by decide) (by decide) dL_missedIn_8 ?_
    refine r_goto 20 dL_missedIn_9 (by decide) ?_
    refine r_iconst (0) dL_missedIn_20 (by decide) ?_
    refine r_iret dL_missedIn_21 rfl ⟨Nat.le_of_ble_eq_true rfl, Nat.le_of_ble_eq_true rfl⟩ ?_
    exact ⟨by rw [e1]; rfl, fun q => absurd e1 q, fun _ => ⟨_, q1, rfl⟩⟩
  · obtain ⟨⟨t1, t2⟩, rfl⟩ := q1
    obtain rfl | rfl : cd = 1 ∨ cd = 2 := by omega
    · have t3 : E1 = eB := t2.symm
      subst t3
      refine PX.catch (n0 := 0) hG (0, 9, 12, 19) rfl ⟨by decide, by decide⟩ (by decide) wl_19 ⟨rfl, by decide +kernel⟩ (fun z hz => absurd hz List.not_mem_nil) (fun a9 => ?_)
      refine r_astore (ls2 := [some _, some _, some _, some _, some _]) dL_missedIn_12 (by decide) rfl ?_
      refine r_iconst (1) dL_missedIn_14 (by decide) ?_
      refine r_iret dL_missedIn_15 rfl ⟨Nat.le_of_ble_eq_true rfl, Nat.le_of_ble_eq_true rfl⟩ ?_
      exact ⟨rfl, fun _ => rfl, fun q => absurd q (by decide)⟩
    · have t3 : E1 = eA := t2.symm
      subst t3
      refine PX.catch (n0 := 1) hG (0, 9, 16, 13) rfl ⟨by decide, by decide⟩ (by decide) wl_13 ⟨rfl, by decide +kernel⟩ (by show ∀ z ∈ [((0, 9, 12, 19) : Nat × Nat × Nat × Nat)], _; exact List.forall_mem_cons.mpr ⟨⟨by decide, eB, wl_19, by decide +kernel⟩, fun _ h9 => absurd h9 List.not_mem_nil⟩) (fun a9 => ?_)
      refine r_astore (ls2 := [some _, some _, some _, some _, some _]) dL_missedIn_16 (by decide) rfl ?_
      refine r_iconst (2) dL_missedIn_18 (by decide) ?_
      refine r_iret dL_missedIn_19 rfl ⟨Nat.le_of_ble_eq_true rfl, Nat.le_of_ble_eq_true rfl⟩ ?_
      exact ⟨rfl, fun _ => rfl, fun q => absurd q (by decide)⟩
set_option maxRecDepth 100000 in
set_option maxHeartbeats 4000000 in
theorem c_L_costIn {l9 : Launch} {G : GC} {h : AH} {x1 x2 : Int32} {cd : Nat} {a : Int64} {Q : AH → Prop} (hG : GOK G) (hW : World h) (hcd : cd ≤ 2) (hM : PM l9 G mX8_costIn NT NT [.ref 1, .int x1, .int x2] h (fun v h' => cd = 0 ∧ v = some (.long a) ∧ Q h') (fun E h' => thr [eB, eA] cd E ∧ h' = h)) (hQ : ∀ h', Q h' → World h') : PMh l9 G mL_costIn NT NT [.ref 1, .int x1, .int x2, .ref 737] h (fun v h' => v = some (.int (nI cd)) ∧ (cd ≠ 0 → h' = h) ∧ (cd = 0 → ∃ h1, Q h1 ∧ h' = sJ h1 737 0 a)) := by
  refine PMh.of (by decide +kernel) rfl (Nat.le_of_ble_eq_true rfl) (fun hst _ => ?_)
  refine r_aload_n dL_costIn_0 rfl ?_
  refine r_iconst (0) dL_costIn_1 (by decide) ?_
  refine r_aload_n dL_costIn_2 rfl ?_
  refine r_iload_n dL_costIn_3 rfl ?_
  refine r_iload_n dL_costIn_4 rfl ?_
  refine q_callX2 (cv_X8_costIn ml_L_122) hW kc_1 (by decide) rfl rfl (Nat.le_of_ble_eq_true rfl) dL_costIn_5 hM (fun v1 h1 q1 => ?_) (fun E1 h1 q1 => ?_)
  · obtain ⟨e1, rfl, q1⟩ := q1
    have hW1 := hQ _ q1
    refine q_last (k := 0) hW1 kc_737 kn_0 (by decide) (by decide) dL_costIn_8 ?_
    refine r_goto 20 dL_costIn_9 (by decide) ?_
    refine r_iconst (0) dL_costIn_20 (by decide) ?_
    refine r_iret dL_costIn_21 rfl ⟨Nat.le_of_ble_eq_true rfl, Nat.le_of_ble_eq_true rfl⟩ ?_
    exact ⟨by rw [e1]; rfl, fun q => absurd e1 q, fun _ => ⟨_, q1, rfl⟩⟩
  · obtain ⟨⟨t1, t2⟩, rfl⟩ := q1
    obtain rfl | rfl : cd = 1 ∨ cd = 2 := by omega
    · have t3 : E1 = eB := t2.symm
      subst t3
      refine PX.catch (n0 := 0) hG (0, 9, 12, 19) rfl ⟨by decide, by decide⟩ (by decide) wl_19 ⟨rfl, by decide +kernel⟩ (fun z hz => absurd hz List.not_mem_nil) (fun a9 => ?_)
      refine r_astore (ls2 := [some _, some _, some _, some _, some _]) dL_costIn_12 (by decide) rfl ?_
      refine r_iconst (1) dL_costIn_14 (by decide) ?_
      refine r_iret dL_costIn_15 rfl ⟨Nat.le_of_ble_eq_true rfl, Nat.le_of_ble_eq_true rfl⟩ ?_
      exact ⟨rfl, fun _ => rfl, fun q => absurd q (by decide)⟩
    · have t3 : E1 = eA := t2.symm
      subst t3
      refine PX.catch (n0 := 1) hG (0, 9, 16, 13) rfl ⟨by decide, by decide⟩ (by decide) wl_13 ⟨rfl, by decide +kernel⟩ (by show ∀ z ∈ [((0, 9, 12, 19) : Nat × Nat × Nat × Nat)], _; exact List.forall_mem_cons.mpr ⟨⟨by decide, eB, wl_19, by decide +kernel⟩, fun _ h9 => absurd h9 List.not_mem_nil⟩) (fun a9 => ?_)
      refine r_astore (ls2 := [some _, some _, some _, some _, some _]) dL_costIn_16 (by decide) rfl ?_
      refine r_iconst (2) dL_costIn_18 (by decide) ?_
      refine r_iret dL_costIn_19 rfl ⟨Nat.le_of_ble_eq_true rfl, Nat.le_of_ble_eq_true rfl⟩ ?_
      exact ⟨rfl, fun _ => rfl, fun q => absurd q (by decide)⟩
set_option maxRecDepth 100000 in
set_option maxHeartbeats 4000000 in
theorem c_L_missesIn {l9 : Launch} {G : GC} {h : AH} {x1 x2 : Int32} {cd : Nat} {a : Int32} {Q : AH → Prop} (hG : GOK G) (hW : World h) (hcd : cd ≤ 2) (hM : PM l9 G mX8_missesIn NT NT [.ref 1, .int x1, .int x2] h (fun v h' => cd = 0 ∧ v = some (.int a) ∧ Q h') (fun E h' => thr [eB, eA] cd E ∧ h' = h)) (hQ : ∀ h', Q h' → World h') : PMh l9 G mL_missesIn NT NT [.ref 1, .int x1, .int x2, .ref 737] h (fun v h' => v = some (.int (nI cd)) ∧ (cd ≠ 0 → h' = h) ∧ (cd = 0 → ∃ h1, Q h1 ∧ h' = sJ h1 737 0 a.toInt64)) := by
  refine PMh.of (by decide +kernel) rfl (Nat.le_of_ble_eq_true rfl) (fun hst _ => ?_)
  refine r_aload_n dL_missesIn_0 rfl ?_
  refine r_iconst (0) dL_missesIn_1 (by decide) ?_
  refine r_aload_n dL_missesIn_2 rfl ?_
  refine r_iload_n dL_missesIn_3 rfl ?_
  refine r_iload_n dL_missesIn_4 rfl ?_
  refine q_callX2 (cv_X8_missesIn ml_L_125) hW kc_1 (by decide) rfl rfl (Nat.le_of_ble_eq_true rfl) dL_missesIn_5 hM (fun v1 h1 q1 => ?_) (fun E1 h1 q1 => ?_)
  · obtain ⟨e1, rfl, q1⟩ := q1
    have hW1 := hQ _ q1
    refine r_i2l dL_missesIn_8 ?_
    refine q_last (k := 0) hW1 kc_737 kn_0 (by decide) (by decide) dL_missesIn_9 ?_
    refine r_goto 21 dL_missesIn_10 (by decide) ?_
    refine r_iconst (0) dL_missesIn_21 (by decide) ?_
    refine r_iret dL_missesIn_22 rfl ⟨Nat.le_of_ble_eq_true rfl, Nat.le_of_ble_eq_true rfl⟩ ?_
    exact ⟨by rw [e1]; rfl, fun q => absurd e1 q, fun _ => ⟨_, q1, rfl⟩⟩
  · obtain ⟨⟨t1, t2⟩, rfl⟩ := q1
    obtain rfl | rfl : cd = 1 ∨ cd = 2 := by omega
    · have t3 : E1 = eB := t2.symm
      subst t3
      refine PX.catch (n0 := 0) hG (0, 10, 13, 19) rfl ⟨by decide, by decide⟩ (by decide) wl_19 ⟨rfl, by decide +kernel⟩ (fun z hz => absurd hz List.not_mem_nil) (fun a9 => ?_)
      refine r_astore (ls2 := [some _, some _, some _, some _, some _]) dL_missesIn_13 (by decide) rfl ?_
      refine r_iconst (1) dL_missesIn_15 (by decide) ?_
      refine r_iret dL_missesIn_16 rfl ⟨Nat.le_of_ble_eq_true rfl, Nat.le_of_ble_eq_true rfl⟩ ?_
      exact ⟨rfl, fun _ => rfl, fun q => absurd q (by decide)⟩
    · have t3 : E1 = eA := t2.symm
      subst t3
      refine PX.catch (n0 := 1) hG (0, 10, 17, 13) rfl ⟨by decide, by decide⟩ (by decide) wl_13 ⟨rfl, by decide +kernel⟩ (by show ∀ z ∈ [((0, 10, 13, 19) : Nat × Nat × Nat × Nat)], _; exact List.forall_mem_cons.mpr ⟨⟨by decide, eB, wl_19, by decide +kernel⟩, fun _ h9 => absurd h9 List.not_mem_nil⟩) (fun a9 => ?_)
      refine r_astore (ls2 := [some _, some _, some _, some _, some _]) dL_missesIn_17 (by decide) rfl ?_
      refine r_iconst (2) dL_missesIn_19 (by decide) ?_
      refine r_iret dL_missesIn_20 rfl ⟨Nat.le_of_ble_eq_true rfl, Nat.le_of_ble_eq_true rfl⟩ ?_
      exact ⟨rfl, fun _ => rfl, fun q => absurd q (by decide)⟩
set_option maxRecDepth 100000 in
set_option maxHeartbeats 4000000 in
theorem c_L_bestPolicy {l9 : Launch} {G : GC} {h : AH} {x1 x2 : Int32} {cd : Nat} {a : Int32} {Q : AH → Prop} (hG : GOK G) (hW : World h) (hcd : cd ≤ 2) (hM : PM l9 G mX8_bestPolicy NT NT [.ref 1, .int x1, .int x2] h (fun v h' => cd = 0 ∧ v = some (.int a) ∧ Q h') (fun E h' => thr [eB, eA] cd E ∧ h' = h)) (hQ : ∀ h', Q h' → World h') : PMh l9 G mL_bestPolicy NT NT [.ref 1, .int x1, .int x2, .ref 737] h (fun v h' => v = some (.int (nI cd)) ∧ (cd ≠ 0 → h' = h) ∧ (cd = 0 → ∃ h1, Q h1 ∧ h' = sJ h1 737 0 a.toInt64)) := by
  refine PMh.of (by decide +kernel) rfl (Nat.le_of_ble_eq_true rfl) (fun hst _ => ?_)
  refine r_aload_n dL_bestPolicy_0 rfl ?_
  refine r_iconst (0) dL_bestPolicy_1 (by decide) ?_
  refine r_aload_n dL_bestPolicy_2 rfl ?_
  refine r_iload_n dL_bestPolicy_3 rfl ?_
  refine r_iload_n dL_bestPolicy_4 rfl ?_
  refine q_callX2 (cv_X8_bestPolicy ml_L_128) hW kc_1 (by decide) rfl rfl (Nat.le_of_ble_eq_true rfl) dL_bestPolicy_5 hM (fun v1 h1 q1 => ?_) (fun E1 h1 q1 => ?_)
  · obtain ⟨e1, rfl, q1⟩ := q1
    have hW1 := hQ _ q1
    refine r_i2l dL_bestPolicy_8 ?_
    refine q_last (k := 0) hW1 kc_737 kn_0 (by decide) (by decide) dL_bestPolicy_9 ?_
    refine r_goto 21 dL_bestPolicy_10 (by decide) ?_
    refine r_iconst (0) dL_bestPolicy_21 (by decide) ?_
    refine r_iret dL_bestPolicy_22 rfl ⟨Nat.le_of_ble_eq_true rfl, Nat.le_of_ble_eq_true rfl⟩ ?_
    exact ⟨by rw [e1]; rfl, fun q => absurd e1 q, fun _ => ⟨_, q1, rfl⟩⟩
  · obtain ⟨⟨t1, t2⟩, rfl⟩ := q1
    obtain rfl | rfl : cd = 1 ∨ cd = 2 := by omega
    · have t3 : E1 = eB := t2.symm
      subst t3
      refine PX.catch (n0 := 0) hG (0, 10, 13, 19) rfl ⟨by decide, by decide⟩ (by decide) wl_19 ⟨rfl, by decide +kernel⟩ (fun z hz => absurd hz List.not_mem_nil) (fun a9 => ?_)
      refine r_astore (ls2 := [some _, some _, some _, some _, some _]) dL_bestPolicy_13 (by decide) rfl ?_
      refine r_iconst (1) dL_bestPolicy_15 (by decide) ?_
      refine r_iret dL_bestPolicy_16 rfl ⟨Nat.le_of_ble_eq_true rfl, Nat.le_of_ble_eq_true rfl⟩ ?_
      exact ⟨rfl, fun _ => rfl, fun q => absurd q (by decide)⟩
    · have t3 : E1 = eA := t2.symm
      subst t3
      refine PX.catch (n0 := 1) hG (0, 10, 17, 13) rfl ⟨by decide, by decide⟩ (by decide) wl_13 ⟨rfl, by decide +kernel⟩ (by show ∀ z ∈ [((0, 10, 13, 19) : Nat × Nat × Nat × Nat)], _; exact List.forall_mem_cons.mpr ⟨⟨by decide, eB, wl_19, by decide +kernel⟩, fun _ h9 => absurd h9 List.not_mem_nil⟩) (fun a9 => ?_)
      refine r_astore (ls2 := [some _, some _, some _, some _, some _]) dL_bestPolicy_17 (by decide) rfl ?_
      refine r_iconst (2) dL_bestPolicy_19 (by decide) ?_
      refine r_iret dL_bestPolicy_20 rfl ⟨Nat.le_of_ble_eq_true rfl, Nat.le_of_ble_eq_true rfl⟩ ?_
      exact ⟨rfl, fun _ => rfl, fun q => absurd q (by decide)⟩
set_option maxRecDepth 100000 in
set_option maxHeartbeats 4000000 in
theorem c_L_bestTarget {l9 : Launch} {G : GC} {h : AH} {x1 x2 : Int32} {cd : Nat} {a : Int32} {Q : AH → Prop} (hG : GOK G) (hW : World h) (hcd : cd ≤ 2) (hM : PM l9 G mX8_bestTarget NT NT [.ref 1, .int x1, .int x2] h (fun v h' => cd = 0 ∧ v = some (.int a) ∧ Q h') (fun E h' => thr [eB, eA] cd E ∧ h' = h)) (hQ : ∀ h', Q h' → World h') : PMh l9 G mL_bestTarget NT NT [.ref 1, .int x1, .int x2, .ref 737] h (fun v h' => v = some (.int (nI cd)) ∧ (cd ≠ 0 → h' = h) ∧ (cd = 0 → ∃ h1, Q h1 ∧ h' = sJ h1 737 0 a.toInt64)) := by
  refine PMh.of (by decide +kernel) rfl (Nat.le_of_ble_eq_true rfl) (fun hst _ => ?_)
  refine r_aload_n dL_bestTarget_0 rfl ?_
  refine r_iconst (0) dL_bestTarget_1 (by decide) ?_
  refine r_aload_n dL_bestTarget_2 rfl ?_
  refine r_iload_n dL_bestTarget_3 rfl ?_
  refine r_iload_n dL_bestTarget_4 rfl ?_
  refine q_callX2 (cv_X8_bestTarget ml_L_131) hW kc_1 (by decide) rfl rfl (Nat.le_of_ble_eq_true rfl) dL_bestTarget_5 hM (fun v1 h1 q1 => ?_) (fun E1 h1 q1 => ?_)
  · obtain ⟨e1, rfl, q1⟩ := q1
    have hW1 := hQ _ q1
    refine r_i2l dL_bestTarget_8 ?_
    refine q_last (k := 0) hW1 kc_737 kn_0 (by decide) (by decide) dL_bestTarget_9 ?_
    refine r_goto 21 dL_bestTarget_10 (by decide) ?_
    refine r_iconst (0) dL_bestTarget_21 (by decide) ?_
    refine r_iret dL_bestTarget_22 rfl ⟨Nat.le_of_ble_eq_true rfl, Nat.le_of_ble_eq_true rfl⟩ ?_
    exact ⟨by rw [e1]; rfl, fun q => absurd e1 q, fun _ => ⟨_, q1, rfl⟩⟩
  · obtain ⟨⟨t1, t2⟩, rfl⟩ := q1
    obtain rfl | rfl : cd = 1 ∨ cd = 2 := by omega
    · have t3 : E1 = eB := t2.symm
      subst t3
      refine PX.catch (n0 := 0) hG (0, 10, 13, 19) rfl ⟨by decide, by decide⟩ (by decide) wl_19 ⟨rfl, by decide +kernel⟩ (fun z hz => absurd hz List.not_mem_nil) (fun a9 => ?_)
      refine r_astore (ls2 := [some _, some _, some _, some _, some _]) dL_bestTarget_13 (by decide) rfl ?_
      refine r_iconst (1) dL_bestTarget_15 (by decide) ?_
      refine r_iret dL_bestTarget_16 rfl ⟨Nat.le_of_ble_eq_true rfl, Nat.le_of_ble_eq_true rfl⟩ ?_
      exact ⟨rfl, fun _ => rfl, fun q => absurd q (by decide)⟩
    · have t3 : E1 = eA := t2.symm
      subst t3
      refine PX.catch (n0 := 1) hG (0, 10, 17, 13) rfl ⟨by decide, by decide⟩ (by decide) wl_13 ⟨rfl, by decide +kernel⟩ (by show ∀ z ∈ [((0, 10, 13, 19) : Nat × Nat × Nat × Nat)], _; exact List.forall_mem_cons.mpr ⟨⟨by decide, eB, wl_19, by decide +kernel⟩, fun _ h9 => absurd h9 List.not_mem_nil⟩) (fun a9 => ?_)
      refine r_astore (ls2 := [some _, some _, some _, some _, some _]) dL_bestTarget_17 (by decide) rfl ?_
      refine r_iconst (2) dL_bestTarget_19 (by decide) ?_
      refine r_iret dL_bestTarget_20 rfl ⟨Nat.le_of_ble_eq_true rfl, Nat.le_of_ble_eq_true rfl⟩ ?_
      exact ⟨rfl, fun _ => rfl, fun q => absurd q (by decide)⟩
set_option maxRecDepth 100000 in
set_option maxHeartbeats 4000000 in
theorem c_L_bestPeriod {l9 : Launch} {G : GC} {h : AH} {x1 : Int32} {cd : Nat} {a : Int32} {Q : AH → Prop} (hG : GOK G) (hW : World h) (hcd : cd ≤ 1) (hM : PM l9 G mX8_bestPeriod NT NT [.ref 1, .int x1] h (fun v h' => cd = 0 ∧ v = some (.int a) ∧ Q h') (fun E h' => thr [eB] cd E ∧ h' = h)) (hQ : ∀ h', Q h' → World h') : PMh l9 G mL_bestPeriod NT NT [.ref 1, .int x1, .ref 737] h (fun v h' => v = some (.int (nI cd)) ∧ (cd ≠ 0 → h' = h) ∧ (cd = 0 → ∃ h1, Q h1 ∧ h' = sJ h1 737 0 a.toInt64)) := by
  refine PMh.of (by decide +kernel) rfl (Nat.le_of_ble_eq_true rfl) (fun hst _ => ?_)
  refine r_aload_n dL_bestPeriod_0 rfl ?_
  refine r_iconst (0) dL_bestPeriod_1 (by decide) ?_
  refine r_aload_n dL_bestPeriod_2 rfl ?_
  refine r_iload_n dL_bestPeriod_3 rfl ?_
  refine q_callX1 (cv_X8_bestPeriod ml_L_134) hW kc_1 (by decide) rfl rfl (Nat.le_of_ble_eq_true rfl) dL_bestPeriod_4 hM (fun v1 h1 q1 => ?_) (fun E1 h1 q1 => ?_)
  · obtain ⟨e1, rfl, q1⟩ := q1
    have hW1 := hQ _ q1
    refine r_i2l dL_bestPeriod_7 ?_
    refine q_last (k := 0) hW1 kc_737 kn_0 (by decide) (by decide) dL_bestPeriod_8 ?_
    refine r_goto 15 dL_bestPeriod_9 (by decide) ?_
    refine r_iconst (0) dL_bestPeriod_15 (by decide) ?_
    refine r_iret dL_bestPeriod_16 rfl ⟨Nat.le_of_ble_eq_true rfl, Nat.le_of_ble_eq_true rfl⟩ ?_
    exact ⟨by rw [e1]; rfl, fun q => absurd e1 q, fun _ => ⟨_, q1, rfl⟩⟩
  · obtain ⟨⟨t1, t2⟩, rfl⟩ := q1
    obtain rfl : cd = 1 := by omega
    · have t3 : E1 = eB := t2.symm
      subst t3
      refine PX.catch (n0 := 0) hG (0, 9, 12, 19) rfl ⟨by decide, by decide⟩ (by decide) wl_19 ⟨rfl, by decide +kernel⟩ (fun z hz => absurd hz List.not_mem_nil) (fun a9 => ?_)
      refine r_astore_n (ls2 := [some _, some _, some _, some _]) dL_bestPeriod_12 (by decide) rfl ?_
      refine r_iconst (1) dL_bestPeriod_13 (by decide) ?_
      refine r_iret dL_bestPeriod_14 rfl ⟨Nat.le_of_ble_eq_true rfl, Nat.le_of_ble_eq_true rfl⟩ ?_
      exact ⟨rfl, fun _ => rfl, fun q => absurd q (by decide)⟩
set_option maxRecDepth 100000 in
set_option maxHeartbeats 4000000 in
theorem c_L_needed {l9 : Launch} {G : GC} {h : AH} {x1 x2 : Int32} {cd : Nat} {a : Int32} {Q : AH → Prop} (hG : GOK G) (hW : World h) (hcd : cd ≤ 2) (hM : PM l9 G mX8_needed NT NT [.ref 1, .int x1, .int x2] h (fun v h' => cd = 0 ∧ v = some (.int a) ∧ Q h') (fun E h' => thr [eB, eA] cd E ∧ h' = h)) (hQ : ∀ h', Q h' → World h') : PMh l9 G mL_needed NT NT [.ref 1, .int x1, .int x2, .ref 737] h (fun v h' => v = some (.int (nI cd)) ∧ (cd ≠ 0 → h' = h) ∧ (cd = 0 → ∃ h1, Q h1 ∧ h' = sJ h1 737 0 a.toInt64)) := by
  refine PMh.of (by decide +kernel) rfl (Nat.le_of_ble_eq_true rfl) (fun hst _ => ?_)
  refine r_aload_n dL_needed_0 rfl ?_
  refine r_iconst (0) dL_needed_1 (by decide) ?_
  refine r_aload_n dL_needed_2 rfl ?_
  refine r_iload_n dL_needed_3 rfl ?_
  refine r_iload_n dL_needed_4 rfl ?_
  refine q_callX2 (cv_X8_needed ml_L_137) hW kc_1 (by decide) rfl rfl (Nat.le_of_ble_eq_true rfl) dL_needed_5 hM (fun v1 h1 q1 => ?_) (fun E1 h1 q1 => ?_)
  · obtain ⟨e1, rfl, q1⟩ := q1
    have hW1 := hQ _ q1
    refine r_i2l dL_needed_8 ?_
    refine q_last (k := 0) hW1 kc_737 kn_0 (by decide) (by decide) dL_needed_9 ?_
    refine r_goto 21 dL_needed_10 (by decide) ?_
    refine r_iconst (0) dL_needed_21 (by decide) ?_
    refine r_iret dL_needed_22 rfl ⟨Nat.le_of_ble_eq_true rfl, Nat.le_of_ble_eq_true rfl⟩ ?_
    exact ⟨by rw [e1]; rfl, fun q => absurd e1 q, fun _ => ⟨_, q1, rfl⟩⟩
  · obtain ⟨⟨t1, t2⟩, rfl⟩ := q1
    obtain rfl | rfl : cd = 1 ∨ cd = 2 := by omega
    · have t3 : E1 = eB := t2.symm
      subst t3
      refine PX.catch (n0 := 0) hG (0, 10, 13, 19) rfl ⟨by decide, by decide⟩ (by decide) wl_19 ⟨rfl, by decide +kernel⟩ (fun z hz => absurd hz List.not_mem_nil) (fun a9 => ?_)
      refine r_astore (ls2 := [some _, some _, some _, some _, some _]) dL_needed_13 (by decide) rfl ?_
      refine r_iconst (1) dL_needed_15 (by decide) ?_
      refine r_iret dL_needed_16 rfl ⟨Nat.le_of_ble_eq_true rfl, Nat.le_of_ble_eq_true rfl⟩ ?_
      exact ⟨rfl, fun _ => rfl, fun q => absurd q (by decide)⟩
    · have t3 : E1 = eA := t2.symm
      subst t3
      refine PX.catch (n0 := 1) hG (0, 10, 17, 13) rfl ⟨by decide, by decide⟩ (by decide) wl_13 ⟨rfl, by decide +kernel⟩ (by show ∀ z ∈ [((0, 10, 13, 19) : Nat × Nat × Nat × Nat)], _; exact List.forall_mem_cons.mpr ⟨⟨by decide, eB, wl_19, by decide +kernel⟩, fun _ h9 => absurd h9 List.not_mem_nil⟩) (fun a9 => ?_)
      refine r_astore (ls2 := [some _, some _, some _, some _, some _]) dL_needed_17 (by decide) rfl ?_
      refine r_iconst (2) dL_needed_19 (by decide) ?_
      refine r_iret dL_needed_20 rfl ⟨Nat.le_of_ble_eq_true rfl, Nat.le_of_ble_eq_true rfl⟩ ?_
      exact ⟨rfl, fun _ => rfl, fun q => absurd q (by decide)⟩
set_option maxRecDepth 100000 in
set_option maxHeartbeats 4000000 in
theorem c_L_transfer {l9 : Launch} {G : GC} {h : AH} {x1 x2 : Int32} {cd : Nat} {a : Int32} {Q : AH → Prop} (hG : GOK G) (hW : World h) (hcd : cd ≤ 4) (hM : PM l9 G mX8_transfer NT NT [.ref 1, .int x1, .int x2] h (fun v h' => cd = 0 ∧ v = some (.int a) ∧ Q h') (fun E h' => thr [eB, eA, eS, eN] cd E ∧ h' = h)) (hQ : ∀ h', Q h' → World h') : PMh l9 G mL_transfer NT NT [.ref 1, .int x1, .int x2, .ref 737] h (fun v h' => v = some (.int (nI cd)) ∧ (cd ≠ 0 → h' = h) ∧ (cd = 0 → ∃ h1, Q h1 ∧ h' = sJ h1 737 0 a.toInt64)) := by
  refine PMh.of (by decide +kernel) rfl (Nat.le_of_ble_eq_true rfl) (fun hst _ => ?_)
  refine r_aload_n dL_transfer_0 rfl ?_
  refine r_iconst (0) dL_transfer_1 (by decide) ?_
  refine r_aload_n dL_transfer_2 rfl ?_
  refine r_iload_n dL_transfer_3 rfl ?_
  refine r_iload_n dL_transfer_4 rfl ?_
  refine q_callX2 (cv_X8_transfer ml_L_140) hW kc_1 (by decide) rfl rfl (Nat.le_of_ble_eq_true rfl) dL_transfer_5 hM (fun v1 h1 q1 => ?_) (fun E1 h1 q1 => ?_)
  · obtain ⟨e1, rfl, q1⟩ := q1
    have hW1 := hQ _ q1
    refine r_i2l dL_transfer_8 ?_
    refine q_last (k := 0) hW1 kc_737 kn_0 (by decide) (by decide) dL_transfer_9 ?_
    refine r_goto 29 dL_transfer_10 (by decide) ?_
    refine r_iconst (0) dL_transfer_29 (by decide) ?_
    refine r_iret dL_transfer_30 rfl ⟨Nat.le_of_ble_eq_true rfl, Nat.le_of_ble_eq_true rfl⟩ ?_
    exact ⟨by rw [e1]; rfl, fun q => absurd e1 q, fun _ => ⟨_, q1, rfl⟩⟩
  · obtain ⟨⟨t1, t2⟩, rfl⟩ := q1
    obtain rfl | rfl | rfl | rfl : cd = 1 ∨ cd = 2 ∨ cd = 3 ∨ cd = 4 := by omega
    · have t3 : E1 = eB := t2.symm
      subst t3
      refine PX.catch (n0 := 0) hG (0, 10, 13, 19) rfl ⟨by decide, by decide⟩ (by decide) wl_19 ⟨rfl, by decide +kernel⟩ (fun z hz => absurd hz List.not_mem_nil) (fun a9 => ?_)
      refine r_astore (ls2 := [some _, some _, some _, some _, some _]) dL_transfer_13 (by decide) rfl ?_
      refine r_iconst (1) dL_transfer_15 (by decide) ?_
      refine r_iret dL_transfer_16 rfl ⟨Nat.le_of_ble_eq_true rfl, Nat.le_of_ble_eq_true rfl⟩ ?_
      exact ⟨rfl, fun _ => rfl, fun q => absurd q (by decide)⟩
    · have t3 : E1 = eA := t2.symm
      subst t3
      refine PX.catch (n0 := 1) hG (0, 10, 17, 13) rfl ⟨by decide, by decide⟩ (by decide) wl_13 ⟨rfl, by decide +kernel⟩ (by show ∀ z ∈ [((0, 10, 13, 19) : Nat × Nat × Nat × Nat)], _; exact List.forall_mem_cons.mpr ⟨⟨by decide, eB, wl_19, by decide +kernel⟩, fun _ h9 => absurd h9 List.not_mem_nil⟩) (fun a9 => ?_)
      refine r_astore (ls2 := [some _, some _, some _, some _, some _]) dL_transfer_17 (by decide) rfl ?_
      refine r_iconst (2) dL_transfer_19 (by decide) ?_
      refine r_iret dL_transfer_20 rfl ⟨Nat.le_of_ble_eq_true rfl, Nat.le_of_ble_eq_true rfl⟩ ?_
      exact ⟨rfl, fun _ => rfl, fun q => absurd q (by decide)⟩
    · have t3 : E1 = eS := t2.symm
      subst t3
      refine PX.catch (n0 := 2) hG (0, 10, 21, 94) rfl ⟨by decide, by decide⟩ (by decide) wl_94 ⟨rfl, by decide +kernel⟩ (by show ∀ z ∈ [((0, 10, 13, 19) : Nat × Nat × Nat × Nat), ((0, 10, 17, 13) : Nat × Nat × Nat × Nat)], _; exact List.forall_mem_cons.mpr ⟨⟨by decide, eB, wl_19, by decide +kernel⟩, List.forall_mem_cons.mpr ⟨⟨by decide, eA, wl_13, by decide +kernel⟩, fun _ h9 => absurd h9 List.not_mem_nil⟩⟩) (fun a9 => ?_)
      refine r_astore (ls2 := [some _, some _, some _, some _, some _]) dL_transfer_21 (by decide) rfl ?_
      refine r_iconst (3) dL_transfer_23 (by decide) ?_
      refine r_iret dL_transfer_24 rfl ⟨Nat.le_of_ble_eq_true rfl, Nat.le_of_ble_eq_true rfl⟩ ?_
      exact ⟨rfl, fun _ => rfl, fun q => absurd q (by decide)⟩
    · have t3 : E1 = eN := t2.symm
      subst t3
      refine PX.catch (n0 := 3) hG (0, 10, 25, 24) rfl ⟨by decide, by decide⟩ (by decide) wl_24 ⟨rfl, by decide +kernel⟩ (by show ∀ z ∈ [((0, 10, 13, 19) : Nat × Nat × Nat × Nat), ((0, 10, 17, 13) : Nat × Nat × Nat × Nat), ((0, 10, 21, 94) : Nat × Nat × Nat × Nat)], _; exact List.forall_mem_cons.mpr ⟨⟨by decide, eB, wl_19, by decide +kernel⟩, List.forall_mem_cons.mpr ⟨⟨by decide, eA, wl_13, by decide +kernel⟩, List.forall_mem_cons.mpr ⟨⟨by decide, eS, wl_94, by decide +kernel⟩, fun _ h9 => absurd h9 List.not_mem_nil⟩⟩⟩) (fun a9 => ?_)
      refine r_astore (ls2 := [some _, some _, some _, some _, some _]) dL_transfer_25 (by decide) rfl ?_
      refine r_iconst (4) dL_transfer_27 (by decide) ?_
      refine r_iret dL_transfer_28 rfl ⟨Nat.le_of_ble_eq_true rfl, Nat.le_of_ble_eq_true rfl⟩ ?_
      exact ⟨rfl, fun _ => rfl, fun q => absurd q (by decide)⟩
set_option maxRecDepth 100000 in
set_option maxHeartbeats 4000000 in
theorem c_L_setLoad {l9 : Launch} {G : GC} {h : AH} {x1 x2 x3 : Int32} {cd : Nat} {a : Int32} {Q : AH → Prop} (hG : GOK G) (hW : World h) (hcd : cd ≤ 3) (hM : PM l9 G mX8_setLoad NT NT [.ref 1, .int x1, .int x2, .int x3] h (fun v h' => cd = 0 ∧ v = some (.int a) ∧ Q h') (fun E h' => thr [eB, eA, eN] cd E ∧ h' = h)) (hQ : ∀ h', Q h' → World h') : PMh l9 G mL_setLoad NT NT [.ref 1, .int x1, .int x2, .int x3, .ref 737] h (fun v h' => v = some (.int (nI cd)) ∧ (cd ≠ 0 → h' = h) ∧ (cd = 0 → ∃ h1, Q h1 ∧ h' = sJ h1 737 0 a.toInt64)) := by
  refine PMh.of (by decide +kernel) rfl (Nat.le_of_ble_eq_true rfl) (fun hst _ => ?_)
  refine r_aload dL_setLoad_0 rfl ?_
  refine r_iconst (0) dL_setLoad_2 (by decide) ?_
  refine r_aload_n dL_setLoad_3 rfl ?_
  refine r_iload_n dL_setLoad_4 rfl ?_
  refine r_iload_n dL_setLoad_5 rfl ?_
  refine r_iload_n dL_setLoad_6 rfl ?_
  refine q_callX3 (cv_X8_setLoad ml_L_143) hW kc_1 (by decide) rfl rfl (Nat.le_of_ble_eq_true rfl) dL_setLoad_7 hM (fun v1 h1 q1 => ?_) (fun E1 h1 q1 => ?_)
  · obtain ⟨e1, rfl, q1⟩ := q1
    have hW1 := hQ _ q1
    refine r_i2l dL_setLoad_10 ?_
    refine q_last (k := 0) hW1 kc_737 kn_0 (by decide) (by decide) dL_setLoad_11 ?_
    refine r_goto 27 dL_setLoad_12 (by decide) ?_
    refine r_iconst (0) dL_setLoad_27 (by decide) ?_
    refine r_iret dL_setLoad_28 rfl ⟨Nat.le_of_ble_eq_true rfl, Nat.le_of_ble_eq_true rfl⟩ ?_
    exact ⟨by rw [e1]; rfl, fun q => absurd e1 q, fun _ => ⟨_, q1, rfl⟩⟩
  · obtain ⟨⟨t1, t2⟩, rfl⟩ := q1
    obtain rfl | rfl | rfl : cd = 1 ∨ cd = 2 ∨ cd = 3 := by omega
    · have t3 : E1 = eB := t2.symm
      subst t3
      refine PX.catch (n0 := 0) hG (0, 12, 15, 19) rfl ⟨by decide, by decide⟩ (by decide) wl_19 ⟨rfl, by decide +kernel⟩ (fun z hz => absurd hz List.not_mem_nil) (fun a9 => ?_)
      refine r_astore (ls2 := [some _, some _, some _, some _, some _, some _]) dL_setLoad_15 (by decide) rfl ?_
      refine r_iconst (1) dL_setLoad_17 (by decide) ?_
      refine r_iret dL_setLoad_18 rfl ⟨Nat.le_of_ble_eq_true rfl, Nat.le_of_ble_eq_true rfl⟩ ?_
      exact ⟨rfl, fun _ => rfl, fun q => absurd q (by decide)⟩
    · have t3 : E1 = eA := t2.symm
      subst t3
      refine PX.catch (n0 := 1) hG (0, 12, 19, 13) rfl ⟨by decide, by decide⟩ (by decide) wl_13 ⟨rfl, by decide +kernel⟩ (by show ∀ z ∈ [((0, 12, 15, 19) : Nat × Nat × Nat × Nat)], _; exact List.forall_mem_cons.mpr ⟨⟨by decide, eB, wl_19, by decide +kernel⟩, fun _ h9 => absurd h9 List.not_mem_nil⟩) (fun a9 => ?_)
      refine r_astore (ls2 := [some _, some _, some _, some _, some _, some _]) dL_setLoad_19 (by decide) rfl ?_
      refine r_iconst (2) dL_setLoad_21 (by decide) ?_
      refine r_iret dL_setLoad_22 rfl ⟨Nat.le_of_ble_eq_true rfl, Nat.le_of_ble_eq_true rfl⟩ ?_
      exact ⟨rfl, fun _ => rfl, fun q => absurd q (by decide)⟩
    · have t3 : E1 = eN := t2.symm
      subst t3
      refine PX.catch (n0 := 2) hG (0, 12, 23, 24) rfl ⟨by decide, by decide⟩ (by decide) wl_24 ⟨rfl, by decide +kernel⟩ (by show ∀ z ∈ [((0, 12, 15, 19) : Nat × Nat × Nat × Nat), ((0, 12, 19, 13) : Nat × Nat × Nat × Nat)], _; exact List.forall_mem_cons.mpr ⟨⟨by decide, eB, wl_19, by decide +kernel⟩, List.forall_mem_cons.mpr ⟨⟨by decide, eA, wl_13, by decide +kernel⟩, fun _ h9 => absurd h9 List.not_mem_nil⟩⟩) (fun a9 => ?_)
      refine r_astore (ls2 := [some _, some _, some _, some _, some _, some _]) dL_setLoad_23 (by decide) rfl ?_
      refine r_iconst (3) dL_setLoad_25 (by decide) ?_
      refine r_iret dL_setLoad_26 rfl ⟨Nat.le_of_ble_eq_true rfl, Nat.le_of_ble_eq_true rfl⟩ ?_
      exact ⟨rfl, fun _ => rfl, fun q => absurd q (by decide)⟩
set_option maxRecDepth 100000 in
set_option maxHeartbeats 4000000 in
theorem c_L_longestMiss {l9 : Launch} {G : GC} {h : AH} {x1 : Int32} {cd : Nat} {a : Int32} {Q : AH → Prop} (hG : GOK G) (hW : World h) (hcd : cd ≤ 1) (hM : PM l9 G mX8_longestMiss NT NT [.ref 1, .int x1] h (fun v h' => cd = 0 ∧ v = some (.int a) ∧ Q h') (fun E h' => thr [eB] cd E ∧ h' = h)) (hQ : ∀ h', Q h' → World h') : PMh l9 G mL_longestMiss NT NT [.ref 1, .int x1, .ref 737] h (fun v h' => v = some (.int (nI cd)) ∧ (cd ≠ 0 → h' = h) ∧ (cd = 0 → ∃ h1, Q h1 ∧ h' = sJ h1 737 0 a.toInt64)) := by
  refine PMh.of (by decide +kernel) rfl (Nat.le_of_ble_eq_true rfl) (fun hst _ => ?_)
  refine r_aload_n dL_longestMiss_0 rfl ?_
  refine r_iconst (0) dL_longestMiss_1 (by decide) ?_
  refine r_aload_n dL_longestMiss_2 rfl ?_
  refine r_iload_n dL_longestMiss_3 rfl ?_
  refine q_callX1 (cv_X8_longestMiss ml_L_146) hW kc_1 (by decide) rfl rfl (Nat.le_of_ble_eq_true rfl) dL_longestMiss_4 hM (fun v1 h1 q1 => ?_) (fun E1 h1 q1 => ?_)
  · obtain ⟨e1, rfl, q1⟩ := q1
    have hW1 := hQ _ q1
    refine r_i2l dL_longestMiss_7 ?_
    refine q_last (k := 0) hW1 kc_737 kn_0 (by decide) (by decide) dL_longestMiss_8 ?_
    refine r_goto 15 dL_longestMiss_9 (by decide) ?_
    refine r_iconst (0) dL_longestMiss_15 (by decide) ?_
    refine r_iret dL_longestMiss_16 rfl ⟨Nat.le_of_ble_eq_true rfl, Nat.le_of_ble_eq_true rfl⟩ ?_
    exact ⟨by rw [e1]; rfl, fun q => absurd e1 q, fun _ => ⟨_, q1, rfl⟩⟩
  · obtain ⟨⟨t1, t2⟩, rfl⟩ := q1
    obtain rfl : cd = 1 := by omega
    · have t3 : E1 = eB := t2.symm
      subst t3
      refine PX.catch (n0 := 0) hG (0, 9, 12, 19) rfl ⟨by decide, by decide⟩ (by decide) wl_19 ⟨rfl, by decide +kernel⟩ (fun z hz => absurd hz List.not_mem_nil) (fun a9 => ?_)
      refine r_astore_n (ls2 := [some _, some _, some _, some _]) dL_longestMiss_12 (by decide) rfl ?_
      refine r_iconst (1) dL_longestMiss_13 (by decide) ?_
      refine r_iret dL_longestMiss_14 rfl ⟨Nat.le_of_ble_eq_true rfl, Nat.le_of_ble_eq_true rfl⟩ ?_
      exact ⟨rfl, fun _ => rfl, fun q => absurd q (by decide)⟩
set_option maxRecDepth 100000 in
set_option maxHeartbeats 4000000 in
theorem c_L_headroom {l9 : Launch} {G : GC} {h : AH} {x1 : Int32} {cd : Nat} {a : Int32} {Q : AH → Prop} (hG : GOK G) (hW : World h) (hcd : cd ≤ 1) (hM : PM l9 G mX8_headroom NT NT [.ref 1, .int x1] h (fun v h' => cd = 0 ∧ v = some (.int a) ∧ Q h') (fun E h' => thr [eB] cd E ∧ h' = h)) (hQ : ∀ h', Q h' → World h') : PMh l9 G mL_headroom NT NT [.ref 1, .int x1, .ref 737] h (fun v h' => v = some (.int (nI cd)) ∧ (cd ≠ 0 → h' = h) ∧ (cd = 0 → ∃ h1, Q h1 ∧ h' = sJ h1 737 0 a.toInt64)) := by
  refine PMh.of (by decide +kernel) rfl (Nat.le_of_ble_eq_true rfl) (fun hst _ => ?_)
  refine r_aload_n dL_headroom_0 rfl ?_
  refine r_iconst (0) dL_headroom_1 (by decide) ?_
  refine r_aload_n dL_headroom_2 rfl ?_
  refine r_iload_n dL_headroom_3 rfl ?_
  refine q_callX1 (cv_X8_headroom ml_L_149) hW kc_1 (by decide) rfl rfl (Nat.le_of_ble_eq_true rfl) dL_headroom_4 hM (fun v1 h1 q1 => ?_) (fun E1 h1 q1 => ?_)
  · obtain ⟨e1, rfl, q1⟩ := q1
    have hW1 := hQ _ q1
    refine r_i2l dL_headroom_7 ?_
    refine q_last (k := 0) hW1 kc_737 kn_0 (by decide) (by decide) dL_headroom_8 ?_
    refine r_goto 15 dL_headroom_9 (by decide) ?_
    refine r_iconst (0) dL_headroom_15 (by decide) ?_
    refine r_iret dL_headroom_16 rfl ⟨Nat.le_of_ble_eq_true rfl, Nat.le_of_ble_eq_true rfl⟩ ?_
    exact ⟨by rw [e1]; rfl, fun q => absurd e1 q, fun _ => ⟨_, q1, rfl⟩⟩
  · obtain ⟨⟨t1, t2⟩, rfl⟩ := q1
    obtain rfl : cd = 1 := by omega
    · have t3 : E1 = eB := t2.symm
      subst t3
      refine PX.catch (n0 := 0) hG (0, 9, 12, 19) rfl ⟨by decide, by decide⟩ (by decide) wl_19 ⟨rfl, by decide +kernel⟩ (fun z hz => absurd hz List.not_mem_nil) (fun a9 => ?_)
      refine r_astore_n (ls2 := [some _, some _, some _, some _]) dL_headroom_12 (by decide) rfl ?_
      refine r_iconst (1) dL_headroom_13 (by decide) ?_
      refine r_iret dL_headroom_14 rfl ⟨Nat.le_of_ble_eq_true rfl, Nat.le_of_ble_eq_true rfl⟩ ?_
      exact ⟨rfl, fun _ => rfl, fun q => absurd q (by decide)⟩
set_option maxRecDepth 100000 in
set_option maxHeartbeats 4000000 in
theorem c_L_changesIn {l9 : Launch} {G : GC} {h : AH} {x1 x2 : Int32} {cd : Nat} {a : Int32} {Q : AH → Prop} (hG : GOK G) (hW : World h) (hcd : cd ≤ 2) (hM : PM l9 G mX8_changesIn NT NT [.ref 1, .int x1, .int x2] h (fun v h' => cd = 0 ∧ v = some (.int a) ∧ Q h') (fun E h' => thr [eB, eA] cd E ∧ h' = h)) (hQ : ∀ h', Q h' → World h') : PMh l9 G mL_changesIn NT NT [.ref 1, .int x1, .int x2, .ref 737] h (fun v h' => v = some (.int (nI cd)) ∧ (cd ≠ 0 → h' = h) ∧ (cd = 0 → ∃ h1, Q h1 ∧ h' = sJ h1 737 0 a.toInt64)) := by
  refine PMh.of (by decide +kernel) rfl (Nat.le_of_ble_eq_true rfl) (fun hst _ => ?_)
  refine r_aload_n dL_changesIn_0 rfl ?_
  refine r_iconst (0) dL_changesIn_1 (by decide) ?_
  refine r_aload_n dL_changesIn_2 rfl ?_
  refine r_iload_n dL_changesIn_3 rfl ?_
  refine r_iload_n dL_changesIn_4 rfl ?_
  refine q_callX2 (cv_X8_changesIn ml_L_152) hW kc_1 (by decide) rfl rfl (Nat.le_of_ble_eq_true rfl) dL_changesIn_5 hM (fun v1 h1 q1 => ?_) (fun E1 h1 q1 => ?_)
  · obtain ⟨e1, rfl, q1⟩ := q1
    have hW1 := hQ _ q1
    refine r_i2l dL_changesIn_8 ?_
    refine q_last (k := 0) hW1 kc_737 kn_0 (by decide) (by decide) dL_changesIn_9 ?_
    refine r_goto 21 dL_changesIn_10 (by decide) ?_
    refine r_iconst (0) dL_changesIn_21 (by decide) ?_
    refine r_iret dL_changesIn_22 rfl ⟨Nat.le_of_ble_eq_true rfl, Nat.le_of_ble_eq_true rfl⟩ ?_
    exact ⟨by rw [e1]; rfl, fun q => absurd e1 q, fun _ => ⟨_, q1, rfl⟩⟩
  · obtain ⟨⟨t1, t2⟩, rfl⟩ := q1
    obtain rfl | rfl : cd = 1 ∨ cd = 2 := by omega
    · have t3 : E1 = eB := t2.symm
      subst t3
      refine PX.catch (n0 := 0) hG (0, 10, 13, 19) rfl ⟨by decide, by decide⟩ (by decide) wl_19 ⟨rfl, by decide +kernel⟩ (fun z hz => absurd hz List.not_mem_nil) (fun a9 => ?_)
      refine r_astore (ls2 := [some _, some _, some _, some _, some _]) dL_changesIn_13 (by decide) rfl ?_
      refine r_iconst (1) dL_changesIn_15 (by decide) ?_
      refine r_iret dL_changesIn_16 rfl ⟨Nat.le_of_ble_eq_true rfl, Nat.le_of_ble_eq_true rfl⟩ ?_
      exact ⟨rfl, fun _ => rfl, fun q => absurd q (by decide)⟩
    · have t3 : E1 = eA := t2.symm
      subst t3
      refine PX.catch (n0 := 1) hG (0, 10, 17, 13) rfl ⟨by decide, by decide⟩ (by decide) wl_13 ⟨rfl, by decide +kernel⟩ (by show ∀ z ∈ [((0, 10, 13, 19) : Nat × Nat × Nat × Nat)], _; exact List.forall_mem_cons.mpr ⟨⟨by decide, eB, wl_19, by decide +kernel⟩, fun _ h9 => absurd h9 List.not_mem_nil⟩) (fun a9 => ?_)
      refine r_astore (ls2 := [some _, some _, some _, some _, some _]) dL_changesIn_17 (by decide) rfl ?_
      refine r_iconst (2) dL_changesIn_19 (by decide) ?_
      refine r_iret dL_changesIn_20 rfl ⟨Nat.le_of_ble_eq_true rfl, Nat.le_of_ble_eq_true rfl⟩ ?_
      exact ⟨rfl, fun _ => rfl, fun q => absurd q (by decide)⟩
set_option maxRecDepth 100000 in
set_option maxHeartbeats 4000000 in
theorem c_L_settlesIn {l9 : Launch} {G : GC} {h : AH} {x1 x2 : Int32} {cd : Nat} {a : Int32} {Q : AH → Prop} (hG : GOK G) (hW : World h) (hcd : cd ≤ 2) (hM : PM l9 G mX8_settlesIn NT NT [.ref 1, .int x1, .int x2] h (fun v h' => cd = 0 ∧ v = some (.int a) ∧ Q h') (fun E h' => thr [eB, eA] cd E ∧ h' = h)) (hQ : ∀ h', Q h' → World h') : PMh l9 G mL_settlesIn NT NT [.ref 1, .int x1, .int x2, .ref 737] h (fun v h' => v = some (.int (nI cd)) ∧ (cd ≠ 0 → h' = h) ∧ (cd = 0 → ∃ h1, Q h1 ∧ h' = sJ h1 737 0 a.toInt64)) := by
  refine PMh.of (by decide +kernel) rfl (Nat.le_of_ble_eq_true rfl) (fun hst _ => ?_)
  refine r_aload_n dL_settlesIn_0 rfl ?_
  refine r_iconst (0) dL_settlesIn_1 (by decide) ?_
  refine r_aload_n dL_settlesIn_2 rfl ?_
  refine r_iload_n dL_settlesIn_3 rfl ?_
  refine r_iload_n dL_settlesIn_4 rfl ?_
  refine q_callX2 (cv_X8_settlesIn ml_L_155) hW kc_1 (by decide) rfl rfl (Nat.le_of_ble_eq_true rfl) dL_settlesIn_5 hM (fun v1 h1 q1 => ?_) (fun E1 h1 q1 => ?_)
  · obtain ⟨e1, rfl, q1⟩ := q1
    have hW1 := hQ _ q1
    refine r_i2l dL_settlesIn_8 ?_
    refine q_last (k := 0) hW1 kc_737 kn_0 (by decide) (by decide) dL_settlesIn_9 ?_
    refine r_goto 21 dL_settlesIn_10 (by decide) ?_
    refine r_iconst (0) dL_settlesIn_21 (by decide) ?_
    refine r_iret dL_settlesIn_22 rfl ⟨Nat.le_of_ble_eq_true rfl, Nat.le_of_ble_eq_true rfl⟩ ?_
    exact ⟨by rw [e1]; rfl, fun q => absurd e1 q, fun _ => ⟨_, q1, rfl⟩⟩
  · obtain ⟨⟨t1, t2⟩, rfl⟩ := q1
    obtain rfl | rfl : cd = 1 ∨ cd = 2 := by omega
    · have t3 : E1 = eB := t2.symm
      subst t3
      refine PX.catch (n0 := 0) hG (0, 10, 13, 19) rfl ⟨by decide, by decide⟩ (by decide) wl_19 ⟨rfl, by decide +kernel⟩ (fun z hz => absurd hz List.not_mem_nil) (fun a9 => ?_)
      refine r_astore (ls2 := [some _, some _, some _, some _, some _]) dL_settlesIn_13 (by decide) rfl ?_
      refine r_iconst (1) dL_settlesIn_15 (by decide) ?_
      refine r_iret dL_settlesIn_16 rfl ⟨Nat.le_of_ble_eq_true rfl, Nat.le_of_ble_eq_true rfl⟩ ?_
      exact ⟨rfl, fun _ => rfl, fun q => absurd q (by decide)⟩
    · have t3 : E1 = eA := t2.symm
      subst t3
      refine PX.catch (n0 := 1) hG (0, 10, 17, 13) rfl ⟨by decide, by decide⟩ (by decide) wl_13 ⟨rfl, by decide +kernel⟩ (by show ∀ z ∈ [((0, 10, 13, 19) : Nat × Nat × Nat × Nat)], _; exact List.forall_mem_cons.mpr ⟨⟨by decide, eB, wl_19, by decide +kernel⟩, fun _ h9 => absurd h9 List.not_mem_nil⟩) (fun a9 => ?_)
      refine r_astore (ls2 := [some _, some _, some _, some _, some _]) dL_settlesIn_17 (by decide) rfl ?_
      refine r_iconst (2) dL_settlesIn_19 (by decide) ?_
      refine r_iret dL_settlesIn_20 rfl ⟨Nat.le_of_ble_eq_true rfl, Nat.le_of_ble_eq_true rfl⟩ ?_
      exact ⟨rfl, fun _ => rfl, fun q => absurd q (by decide)⟩
set_option maxRecDepth 100000 in
set_option maxHeartbeats 4000000 in
theorem c_L_bestCool {l9 : Launch} {G : GC} {h : AH} {x1 x2 : Int32} {cd : Nat} {a : Int32} {Q : AH → Prop} (hG : GOK G) (hW : World h) (hcd : cd ≤ 2) (hM : PM l9 G mX8_bestCool NT NT [.ref 1, .int x1, .int x2] h (fun v h' => cd = 0 ∧ v = some (.int a) ∧ Q h') (fun E h' => thr [eB, eA] cd E ∧ h' = h)) (hQ : ∀ h', Q h' → World h') : PMh l9 G mL_bestCool NT NT [.ref 1, .int x1, .int x2, .ref 737] h (fun v h' => v = some (.int (nI cd)) ∧ (cd ≠ 0 → h' = h) ∧ (cd = 0 → ∃ h1, Q h1 ∧ h' = sJ h1 737 0 a.toInt64)) := by
  refine PMh.of (by decide +kernel) rfl (Nat.le_of_ble_eq_true rfl) (fun hst _ => ?_)
  refine r_aload_n dL_bestCool_0 rfl ?_
  refine r_iconst (0) dL_bestCool_1 (by decide) ?_
  refine r_aload_n dL_bestCool_2 rfl ?_
  refine r_iload_n dL_bestCool_3 rfl ?_
  refine r_iload_n dL_bestCool_4 rfl ?_
  refine q_callX2 (cv_X8_bestCool ml_L_158) hW kc_1 (by decide) rfl rfl (Nat.le_of_ble_eq_true rfl) dL_bestCool_5 hM (fun v1 h1 q1 => ?_) (fun E1 h1 q1 => ?_)
  · obtain ⟨e1, rfl, q1⟩ := q1
    have hW1 := hQ _ q1
    refine r_i2l dL_bestCool_8 ?_
    refine q_last (k := 0) hW1 kc_737 kn_0 (by decide) (by decide) dL_bestCool_9 ?_
    refine r_goto 21 dL_bestCool_10 (by decide) ?_
    refine r_iconst (0) dL_bestCool_21 (by decide) ?_
    refine r_iret dL_bestCool_22 rfl ⟨Nat.le_of_ble_eq_true rfl, Nat.le_of_ble_eq_true rfl⟩ ?_
    exact ⟨by rw [e1]; rfl, fun q => absurd e1 q, fun _ => ⟨_, q1, rfl⟩⟩
  · obtain ⟨⟨t1, t2⟩, rfl⟩ := q1
    obtain rfl | rfl : cd = 1 ∨ cd = 2 := by omega
    · have t3 : E1 = eB := t2.symm
      subst t3
      refine PX.catch (n0 := 0) hG (0, 10, 13, 19) rfl ⟨by decide, by decide⟩ (by decide) wl_19 ⟨rfl, by decide +kernel⟩ (fun z hz => absurd hz List.not_mem_nil) (fun a9 => ?_)
      refine r_astore (ls2 := [some _, some _, some _, some _, some _]) dL_bestCool_13 (by decide) rfl ?_
      refine r_iconst (1) dL_bestCool_15 (by decide) ?_
      refine r_iret dL_bestCool_16 rfl ⟨Nat.le_of_ble_eq_true rfl, Nat.le_of_ble_eq_true rfl⟩ ?_
      exact ⟨rfl, fun _ => rfl, fun q => absurd q (by decide)⟩
    · have t3 : E1 = eA := t2.symm
      subst t3
      refine PX.catch (n0 := 1) hG (0, 10, 17, 13) rfl ⟨by decide, by decide⟩ (by decide) wl_13 ⟨rfl, by decide +kernel⟩ (by show ∀ z ∈ [((0, 10, 13, 19) : Nat × Nat × Nat × Nat)], _; exact List.forall_mem_cons.mpr ⟨⟨by decide, eB, wl_19, by decide +kernel⟩, fun _ h9 => absurd h9 List.not_mem_nil⟩) (fun a9 => ?_)
      refine r_astore (ls2 := [some _, some _, some _, some _, some _]) dL_bestCool_17 (by decide) rfl ?_
      refine r_iconst (2) dL_bestCool_19 (by decide) ?_
      refine r_iret dL_bestCool_20 rfl ⟨Nat.le_of_ble_eq_true rfl, Nat.le_of_ble_eq_true rfl⟩ ?_
      exact ⟨rfl, fun _ => rfl, fun q => absurd q (by decide)⟩
set_option maxRecDepth 100000 in
set_option maxHeartbeats 4000000 in
theorem c_L_meanAge {l9 : Launch} {G : GC} {h : AH} {x1 : Int32} {cd : Nat} {a : UInt64} {Q : AH → Prop} (hG : GOK G) (hW : World h) (hcd : cd ≤ 1) (hM : PM l9 G mX8_meanAge NT NT [.ref 1, .int x1] h (fun v h' => cd = 0 ∧ v = some (.double a) ∧ Q h') (fun E h' => thr [eB] cd E ∧ h' = h)) (hQ : ∀ h', Q h' → World h') : PMh l9 G mL_meanAge NT NT [.ref 1, .int x1, .ref 738] h (fun v h' => v = some (.int (nI cd)) ∧ (cd ≠ 0 → h' = h) ∧ (cd = 0 → ∃ h1, Q h1 ∧ h' = sD h1 738 0 a)) := by
  refine PMh.of (by decide +kernel) rfl (Nat.le_of_ble_eq_true rfl) (fun hst _ => ?_)
  refine r_aload_n dL_meanAge_0 rfl ?_
  refine r_iconst (0) dL_meanAge_1 (by decide) ?_
  refine r_aload_n dL_meanAge_2 rfl ?_
  refine r_iload_n dL_meanAge_3 rfl ?_
  refine q_callX1 (cv_X8_meanAge ml_L_161) hW kc_1 (by decide) rfl rfl (Nat.le_of_ble_eq_true rfl) dL_meanAge_4 hM (fun v1 h1 q1 => ?_) (fun E1 h1 q1 => ?_)
  · obtain ⟨e1, rfl, q1⟩ := q1
    have hW1 := hQ _ q1
    refine q_dast (k := 0) hW1 kc_738 kn_0 (by decide) (by decide) dL_meanAge_7 ?_
    refine r_goto 14 dL_meanAge_8 (by decide) ?_
    refine r_iconst (0) dL_meanAge_14 (by decide) ?_
    refine r_iret dL_meanAge_15 rfl ⟨Nat.le_of_ble_eq_true rfl, Nat.le_of_ble_eq_true rfl⟩ ?_
    exact ⟨by rw [e1]; rfl, fun q => absurd e1 q, fun _ => ⟨_, q1, rfl⟩⟩
  · obtain ⟨⟨t1, t2⟩, rfl⟩ := q1
    obtain rfl : cd = 1 := by omega
    · have t3 : E1 = eB := t2.symm
      subst t3
      refine PX.catch (n0 := 0) hG (0, 8, 11, 19) rfl ⟨by decide, by decide⟩ (by decide) wl_19 ⟨rfl, by decide +kernel⟩ (fun z hz => absurd hz List.not_mem_nil) (fun a9 => ?_)
      refine r_astore_n (ls2 := [some _, some _, some _, some _]) dL_meanAge_11 (by decide) rfl ?_
      refine r_iconst (1) dL_meanAge_12 (by decide) ?_
      refine r_iret dL_meanAge_13 rfl ⟨Nat.le_of_ble_eq_true rfl, Nat.le_of_ble_eq_true rfl⟩ ?_
      exact ⟨rfl, fun _ => rfl, fun q => absurd q (by decide)⟩
set_option maxRecDepth 100000 in
set_option maxHeartbeats 4000000 in
theorem c_L_dropCold {l9 : Launch} {G : GC} {h : AH} {x1 : Int32} {cd : Nat} {a : Int32} {Q : AH → Prop} (hG : GOK G) (hW : World h) (hcd : cd ≤ 1) (hM : PM l9 G mX8_dropCold NT NT [.ref 1, .int x1] h (fun v h' => cd = 0 ∧ v = some (.int a) ∧ Q h') (fun E h' => thr [eB] cd E ∧ h' = h)) (hQ : ∀ h', Q h' → World h') : PMh l9 G mL_dropCold NT NT [.ref 1, .int x1, .ref 737] h (fun v h' => v = some (.int (nI cd)) ∧ (cd ≠ 0 → h' = h) ∧ (cd = 0 → ∃ h1, Q h1 ∧ h' = sJ h1 737 0 a.toInt64)) := by
  refine PMh.of (by decide +kernel) rfl (Nat.le_of_ble_eq_true rfl) (fun hst _ => ?_)
  refine r_aload_n dL_dropCold_0 rfl ?_
  refine r_iconst (0) dL_dropCold_1 (by decide) ?_
  refine r_aload_n dL_dropCold_2 rfl ?_
  refine r_iload_n dL_dropCold_3 rfl ?_
  refine q_callX1 (cv_X8_dropCold ml_L_164) hW kc_1 (by decide) rfl rfl (Nat.le_of_ble_eq_true rfl) dL_dropCold_4 hM (fun v1 h1 q1 => ?_) (fun E1 h1 q1 => ?_)
  · obtain ⟨e1, rfl, q1⟩ := q1
    have hW1 := hQ _ q1
    refine r_i2l dL_dropCold_7 ?_
    refine q_last (k := 0) hW1 kc_737 kn_0 (by decide) (by decide) dL_dropCold_8 ?_
    refine r_goto 15 dL_dropCold_9 (by decide) ?_
    refine r_iconst (0) dL_dropCold_15 (by decide) ?_
    refine r_iret dL_dropCold_16 rfl ⟨Nat.le_of_ble_eq_true rfl, Nat.le_of_ble_eq_true rfl⟩ ?_
    exact ⟨by rw [e1]; rfl, fun q => absurd e1 q, fun _ => ⟨_, q1, rfl⟩⟩
  · obtain ⟨⟨t1, t2⟩, rfl⟩ := q1
    obtain rfl : cd = 1 := by omega
    · have t3 : E1 = eB := t2.symm
      subst t3
      refine PX.catch (n0 := 0) hG (0, 9, 12, 19) rfl ⟨by decide, by decide⟩ (by decide) wl_19 ⟨rfl, by decide +kernel⟩ (fun z hz => absurd hz List.not_mem_nil) (fun a9 => ?_)
      refine r_astore_n (ls2 := [some _, some _, some _, some _]) dL_dropCold_12 (by decide) rfl ?_
      refine r_iconst (1) dL_dropCold_13 (by decide) ?_
      refine r_iret dL_dropCold_14 rfl ⟨Nat.le_of_ble_eq_true rfl, Nat.le_of_ble_eq_true rfl⟩ ?_
      exact ⟨rfl, fun _ => rfl, fun q => absurd q (by decide)⟩
set_option maxRecDepth 100000 in
set_option maxHeartbeats 4000000 in
theorem c_L_hurry {l9 : Launch} {G : GC} {h : AH} {x1 : Int32} {cd : Nat} {a : Int32} {Q : AH → Prop} (hG : GOK G) (hW : World h) (hcd : cd ≤ 1) (hM : PM l9 G mX8_hurry NT NT [.ref 1, .int x1] h (fun v h' => cd = 0 ∧ v = some (.int a) ∧ Q h') (fun E h' => thr [eB] cd E ∧ h' = h)) (hQ : ∀ h', Q h' → World h') : PMh l9 G mL_hurry NT NT [.ref 1, .int x1, .ref 737] h (fun v h' => v = some (.int (nI cd)) ∧ (cd ≠ 0 → h' = h) ∧ (cd = 0 → ∃ h1, Q h1 ∧ h' = sJ h1 737 0 a.toInt64)) := by
  refine PMh.of (by decide +kernel) rfl (Nat.le_of_ble_eq_true rfl) (fun hst _ => ?_)
  refine r_aload_n dL_hurry_0 rfl ?_
  refine r_iconst (0) dL_hurry_1 (by decide) ?_
  refine r_aload_n dL_hurry_2 rfl ?_
  refine r_iload_n dL_hurry_3 rfl ?_
  refine q_callX1 (cv_X8_hurry ml_L_167) hW kc_1 (by decide) rfl rfl (Nat.le_of_ble_eq_true rfl) dL_hurry_4 hM (fun v1 h1 q1 => ?_) (fun E1 h1 q1 => ?_)
  · obtain ⟨e1, rfl, q1⟩ := q1
    have hW1 := hQ _ q1
    refine r_i2l dL_hurry_7 ?_
    refine q_last (k := 0) hW1 kc_737 kn_0 (by decide) (by decide) dL_hurry_8 ?_
    refine r_goto 15 dL_hurry_9 (by decide) ?_
    refine r_iconst (0) dL_hurry_15 (by decide) ?_
    refine r_iret dL_hurry_16 rfl ⟨Nat.le_of_ble_eq_true rfl, Nat.le_of_ble_eq_true rfl⟩ ?_
    exact ⟨by rw [e1]; rfl, fun q => absurd e1 q, fun _ => ⟨_, q1, rfl⟩⟩
  · obtain ⟨⟨t1, t2⟩, rfl⟩ := q1
    obtain rfl : cd = 1 := by omega
    · have t3 : E1 = eB := t2.symm
      subst t3
      refine PX.catch (n0 := 0) hG (0, 9, 12, 19) rfl ⟨by decide, by decide⟩ (by decide) wl_19 ⟨rfl, by decide +kernel⟩ (fun z hz => absurd hz List.not_mem_nil) (fun a9 => ?_)
      refine r_astore_n (ls2 := [some _, some _, some _, some _]) dL_hurry_12 (by decide) rfl ?_
      refine r_iconst (1) dL_hurry_13 (by decide) ?_
      refine r_iret dL_hurry_14 rfl ⟨Nat.le_of_ble_eq_true rfl, Nat.le_of_ble_eq_true rfl⟩ ?_
      exact ⟨rfl, fun _ => rfl, fun q => absurd q (by decide)⟩
set_option maxRecDepth 100000 in
set_option maxHeartbeats 4000000 in
theorem c_L_greatestIn {l9 : Launch} {G : GC} {h : AH} {x1 x2 : Int32} {cd : Nat} {a : Int32} {Q : AH → Prop} (hG : GOK G) (hW : World h) (hcd : cd ≤ 2) (hM : PM l9 G mX8_greatestIn NT NT [.ref 1, .int x1, .int x2] h (fun v h' => cd = 0 ∧ v = some (.int a) ∧ Q h') (fun E h' => thr [eB, eA] cd E ∧ h' = h)) (hQ : ∀ h', Q h' → World h') : PMh l9 G mL_greatestIn NT NT [.ref 1, .int x1, .int x2, .ref 737] h (fun v h' => v = some (.int (nI cd)) ∧ (cd ≠ 0 → h' = h) ∧ (cd = 0 → ∃ h1, Q h1 ∧ h' = sJ h1 737 0 a.toInt64)) := by
  refine PMh.of (by decide +kernel) rfl (Nat.le_of_ble_eq_true rfl) (fun hst _ => ?_)
  refine r_aload_n dL_greatestIn_0 rfl ?_
  refine r_iconst (0) dL_greatestIn_1 (by decide) ?_
  refine r_aload_n dL_greatestIn_2 rfl ?_
  refine r_iload_n dL_greatestIn_3 rfl ?_
  refine r_iload_n dL_greatestIn_4 rfl ?_
  refine q_callX2 (cv_X8_greatestIn ml_L_170) hW kc_1 (by decide) rfl rfl (Nat.le_of_ble_eq_true rfl) dL_greatestIn_5 hM (fun v1 h1 q1 => ?_) (fun E1 h1 q1 => ?_)
  · obtain ⟨e1, rfl, q1⟩ := q1
    have hW1 := hQ _ q1
    refine r_i2l dL_greatestIn_8 ?_
    refine q_last (k := 0) hW1 kc_737 kn_0 (by decide) (by decide) dL_greatestIn_9 ?_
    refine r_goto 21 dL_greatestIn_10 (by decide) ?_
    refine r_iconst (0) dL_greatestIn_21 (by decide) ?_
    refine r_iret dL_greatestIn_22 rfl ⟨Nat.le_of_ble_eq_true rfl, Nat.le_of_ble_eq_true rfl⟩ ?_
    exact ⟨by rw [e1]; rfl, fun q => absurd e1 q, fun _ => ⟨_, q1, rfl⟩⟩
  · obtain ⟨⟨t1, t2⟩, rfl⟩ := q1
    obtain rfl | rfl : cd = 1 ∨ cd = 2 := by omega
    · have t3 : E1 = eB := t2.symm
      subst t3
      refine PX.catch (n0 := 0) hG (0, 10, 13, 19) rfl ⟨by decide, by decide⟩ (by decide) wl_19 ⟨rfl, by decide +kernel⟩ (fun z hz => absurd hz List.not_mem_nil) (fun a9 => ?_)
      refine r_astore (ls2 := [some _, some _, some _, some _, some _]) dL_greatestIn_13 (by decide) rfl ?_
      refine r_iconst (1) dL_greatestIn_15 (by decide) ?_
      refine r_iret dL_greatestIn_16 rfl ⟨Nat.le_of_ble_eq_true rfl, Nat.le_of_ble_eq_true rfl⟩ ?_
      exact ⟨rfl, fun _ => rfl, fun q => absurd q (by decide)⟩
    · have t3 : E1 = eA := t2.symm
      subst t3
      refine PX.catch (n0 := 1) hG (0, 10, 17, 13) rfl ⟨by decide, by decide⟩ (by decide) wl_13 ⟨rfl, by decide +kernel⟩ (by show ∀ z ∈ [((0, 10, 13, 19) : Nat × Nat × Nat × Nat)], _; exact List.forall_mem_cons.mpr ⟨⟨by decide, eB, wl_19, by decide +kernel⟩, fun _ h9 => absurd h9 List.not_mem_nil⟩) (fun a9 => ?_)
      refine r_astore (ls2 := [some _, some _, some _, some _, some _]) dL_greatestIn_17 (by decide) rfl ?_
      refine r_iconst (2) dL_greatestIn_19 (by decide) ?_
      refine r_iret dL_greatestIn_20 rfl ⟨Nat.le_of_ble_eq_true rfl, Nat.le_of_ble_eq_true rfl⟩ ?_
      exact ⟨rfl, fun _ => rfl, fun q => absurd q (by decide)⟩
set_option maxRecDepth 100000 in
set_option maxHeartbeats 4000000 in
theorem c_L_errorsWith {l9 : Launch} {G : GC} {h : AH} {x1 x2 x3 : Int32} {cd : Nat} {a : Int64} {Q : AH → Prop} (hG : GOK G) (hW : World h) (hcd : cd ≤ 2) (hM : PM l9 G mX8_errorsWith NT NT [.ref 1, .int x1, .int x2, .int x3] h (fun v h' => cd = 0 ∧ v = some (.long a) ∧ Q h') (fun E h' => thr [eB, eA] cd E ∧ h' = h)) (hQ : ∀ h', Q h' → World h') : PMh l9 G mL_errorsWith NT NT [.ref 1, .int x1, .int x2, .int x3, .ref 737] h (fun v h' => v = some (.int (nI cd)) ∧ (cd ≠ 0 → h' = h) ∧ (cd = 0 → ∃ h1, Q h1 ∧ h' = sJ h1 737 0 a)) := by
  refine PMh.of (by decide +kernel) rfl (Nat.le_of_ble_eq_true rfl) (fun hst _ => ?_)
  refine r_aload dL_errorsWith_0 rfl ?_
  refine r_iconst (0) dL_errorsWith_2 (by decide) ?_
  refine r_aload_n dL_errorsWith_3 rfl ?_
  refine r_iload_n dL_errorsWith_4 rfl ?_
  refine r_iload_n dL_errorsWith_5 rfl ?_
  refine r_iload_n dL_errorsWith_6 rfl ?_
  refine q_callX3 (cv_X8_errorsWith ml_L_173) hW kc_1 (by decide) rfl rfl (Nat.le_of_ble_eq_true rfl) dL_errorsWith_7 hM (fun v1 h1 q1 => ?_) (fun E1 h1 q1 => ?_)
  · obtain ⟨e1, rfl, q1⟩ := q1
    have hW1 := hQ _ q1
    refine q_last (k := 0) hW1 kc_737 kn_0 (by decide) (by decide) dL_errorsWith_10 ?_
    refine r_goto 22 dL_errorsWith_11 (by decide) ?_
    refine r_iconst (0) dL_errorsWith_22 (by decide) ?_
    refine r_iret dL_errorsWith_23 rfl ⟨Nat.le_of_ble_eq_true rfl, Nat.le_of_ble_eq_true rfl⟩ ?_
    exact ⟨by rw [e1]; rfl, fun q => absurd e1 q, fun _ => ⟨_, q1, rfl⟩⟩
  · obtain ⟨⟨t1, t2⟩, rfl⟩ := q1
    obtain rfl | rfl : cd = 1 ∨ cd = 2 := by omega
    · have t3 : E1 = eB := t2.symm
      subst t3
      refine PX.catch (n0 := 0) hG (0, 11, 14, 19) rfl ⟨by decide, by decide⟩ (by decide) wl_19 ⟨rfl, by decide +kernel⟩ (fun z hz => absurd hz List.not_mem_nil) (fun a9 => ?_)
      refine r_astore (ls2 := [some _, some _, some _, some _, some _, some _]) dL_errorsWith_14 (by decide) rfl ?_
      refine r_iconst (1) dL_errorsWith_16 (by decide) ?_
      refine r_iret dL_errorsWith_17 rfl ⟨Nat.le_of_ble_eq_true rfl, Nat.le_of_ble_eq_true rfl⟩ ?_
      exact ⟨rfl, fun _ => rfl, fun q => absurd q (by decide)⟩
    · have t3 : E1 = eA := t2.symm
      subst t3
      refine PX.catch (n0 := 1) hG (0, 11, 18, 13) rfl ⟨by decide, by decide⟩ (by decide) wl_13 ⟨rfl, by decide +kernel⟩ (by show ∀ z ∈ [((0, 11, 14, 19) : Nat × Nat × Nat × Nat)], _; exact List.forall_mem_cons.mpr ⟨⟨by decide, eB, wl_19, by decide +kernel⟩, fun _ h9 => absurd h9 List.not_mem_nil⟩) (fun a9 => ?_)
      refine r_astore (ls2 := [some _, some _, some _, some _, some _, some _]) dL_errorsWith_18 (by decide) rfl ?_
      refine r_iconst (2) dL_errorsWith_20 (by decide) ?_
      refine r_iret dL_errorsWith_21 rfl ⟨Nat.le_of_ble_eq_true rfl, Nat.le_of_ble_eq_true rfl⟩ ?_
      exact ⟨rfl, fun _ => rfl, fun q => absurd q (by decide)⟩
set_option maxRecDepth 100000 in
set_option maxHeartbeats 4000000 in
theorem c_L_median {l9 : Launch} {G : GC} {h : AH} {x1 : Int32} {cd : Nat} {a : Int32} {Q : AH → Prop} (hG : GOK G) (hW : World h) (hcd : cd ≤ 1) (hM : PM l9 G mX8_median NT NT [.ref 1, .int x1] h (fun v h' => cd = 0 ∧ v = some (.int a) ∧ Q h') (fun E h' => thr [eB] cd E ∧ h' = h)) (hQ : ∀ h', Q h' → World h') : PMh l9 G mL_median NT NT [.ref 1, .int x1, .ref 737] h (fun v h' => v = some (.int (nI cd)) ∧ (cd ≠ 0 → h' = h) ∧ (cd = 0 → ∃ h1, Q h1 ∧ h' = sJ h1 737 0 a.toInt64)) := by
  refine PMh.of (by decide +kernel) rfl (Nat.le_of_ble_eq_true rfl) (fun hst _ => ?_)
  refine r_aload_n dL_median_0 rfl ?_
  refine r_iconst (0) dL_median_1 (by decide) ?_
  refine r_aload_n dL_median_2 rfl ?_
  refine r_iload_n dL_median_3 rfl ?_
  refine q_callX1 (cv_X8_median ml_L_177) hW kc_1 (by decide) rfl rfl (Nat.le_of_ble_eq_true rfl) dL_median_4 hM (fun v1 h1 q1 => ?_) (fun E1 h1 q1 => ?_)
  · obtain ⟨e1, rfl, q1⟩ := q1
    have hW1 := hQ _ q1
    refine r_i2l dL_median_7 ?_
    refine q_last (k := 0) hW1 kc_737 kn_0 (by decide) (by decide) dL_median_8 ?_
    refine r_goto 15 dL_median_9 (by decide) ?_
    refine r_iconst (0) dL_median_15 (by decide) ?_
    refine r_iret dL_median_16 rfl ⟨Nat.le_of_ble_eq_true rfl, Nat.le_of_ble_eq_true rfl⟩ ?_
    exact ⟨by rw [e1]; rfl, fun q => absurd e1 q, fun _ => ⟨_, q1, rfl⟩⟩
  · obtain ⟨⟨t1, t2⟩, rfl⟩ := q1
    obtain rfl : cd = 1 := by omega
    · have t3 : E1 = eB := t2.symm
      subst t3
      refine PX.catch (n0 := 0) hG (0, 9, 12, 19) rfl ⟨by decide, by decide⟩ (by decide) wl_19 ⟨rfl, by decide +kernel⟩ (fun z hz => absurd hz List.not_mem_nil) (fun a9 => ?_)
      refine r_astore_n (ls2 := [some _, some _, some _, some _]) dL_median_12 (by decide) rfl ?_
      refine r_iconst (1) dL_median_13 (by decide) ?_
      refine r_iret dL_median_14 rfl ⟨Nat.le_of_ble_eq_true rfl, Nat.le_of_ble_eq_true rfl⟩ ?_
      exact ⟨rfl, fun _ => rfl, fun q => absurd q (by decide)⟩
set_option maxRecDepth 100000 in
set_option maxHeartbeats 4000000 in
theorem c_L_demandsWithin {l9 : Launch} {G : GC} {h : AH} {x1 x2 x3 : Int32} {cd : Nat} {a : Int32} {Q : AH → Prop} (hG : GOK G) (hW : World h) (hcd : cd ≤ 1) (hM : PM l9 G mX8_demandsWithin NT NT [.ref 1, .int x1, .int x2, .int x3] h (fun v h' => cd = 0 ∧ v = some (.int a) ∧ Q h') (fun E h' => thr [eB] cd E ∧ h' = h)) (hQ : ∀ h', Q h' → World h') : PMh l9 G mL_demandsWithin NT NT [.ref 1, .int x1, .int x2, .int x3, .ref 737] h (fun v h' => v = some (.int (nI cd)) ∧ (cd ≠ 0 → h' = h) ∧ (cd = 0 → ∃ h1, Q h1 ∧ h' = sJ h1 737 0 a.toInt64)) := by
  refine PMh.of (by decide +kernel) rfl (Nat.le_of_ble_eq_true rfl) (fun hst _ => ?_)
  refine r_aload dL_demandsWithin_0 rfl ?_
  refine r_iconst (0) dL_demandsWithin_2 (by decide) ?_
  refine r_aload_n dL_demandsWithin_3 rfl ?_
  refine r_iload_n dL_demandsWithin_4 rfl ?_
  refine r_iload_n dL_demandsWithin_5 rfl ?_
  refine r_iload_n dL_demandsWithin_6 rfl ?_
  refine q_callX3 (cv_X8_demandsWithin ml_L_180) hW kc_1 (by decide) rfl rfl (Nat.le_of_ble_eq_true rfl) dL_demandsWithin_7 hM (fun v1 h1 q1 => ?_) (fun E1 h1 q1 => ?_)
  · obtain ⟨e1, rfl, q1⟩ := q1
    have hW1 := hQ _ q1
    refine r_i2l dL_demandsWithin_10 ?_
    refine q_last (k := 0) hW1 kc_737 kn_0 (by decide) (by decide) dL_demandsWithin_11 ?_
    refine r_goto 19 dL_demandsWithin_12 (by decide) ?_
    refine r_iconst (0) dL_demandsWithin_19 (by decide) ?_
    refine r_iret dL_demandsWithin_20 rfl ⟨Nat.le_of_ble_eq_true rfl, Nat.le_of_ble_eq_true rfl⟩ ?_
    exact ⟨by rw [e1]; rfl, fun q => absurd e1 q, fun _ => ⟨_, q1, rfl⟩⟩
  · obtain ⟨⟨t1, t2⟩, rfl⟩ := q1
    obtain rfl : cd = 1 := by omega
    · have t3 : E1 = eB := t2.symm
      subst t3
      refine PX.catch (n0 := 0) hG (0, 12, 15, 19) rfl ⟨by decide, by decide⟩ (by decide) wl_19 ⟨rfl, by decide +kernel⟩ (fun z hz => absurd hz List.not_mem_nil) (fun a9 => ?_)
      refine r_astore (ls2 := [some _, some _, some _, some _, some _, some _]) dL_demandsWithin_15 (by decide) rfl ?_
      refine r_iconst (1) dL_demandsWithin_17 (by decide) ?_
      refine r_iret dL_demandsWithin_18 rfl ⟨Nat.le_of_ble_eq_true rfl, Nat.le_of_ble_eq_true rfl⟩ ?_
      exact ⟨rfl, fun _ => rfl, fun q => absurd q (by decide)⟩
set_option maxRecDepth 100000 in
set_option maxHeartbeats 4000000 in
theorem c_L_printPool {l9 : Launch} {G : GC} {h : AH} {x1 : Int32} {cd : Nat} {a : Int32} {Q : AH → Prop} (hG : GOK G) (hW : World h) (hcd : cd ≤ 1) (hM : PM l9 G mX8_printPool NT NT [.ref 1, .int x1] h (fun v h' => cd = 0 ∧ v = some (.int a) ∧ Q h') (fun E h' => thr [eB] cd E ∧ h' = h)) (hQ : ∀ h', Q h' → World h') : PMh l9 G mL_printPool NT NT [.ref 1, .int x1, .ref 737] h (fun v h' => v = some (.int (nI cd)) ∧ (cd ≠ 0 → h' = h) ∧ (cd = 0 → ∃ h1, Q h1 ∧ h' = sJ h1 737 0 a.toInt64)) := by
  refine PMh.of (by decide +kernel) rfl (Nat.le_of_ble_eq_true rfl) (fun hst _ => ?_)
  refine r_aload_n dL_printPool_0 rfl ?_
  refine r_iconst (0) dL_printPool_1 (by decide) ?_
  refine r_aload_n dL_printPool_2 rfl ?_
  refine r_iload_n dL_printPool_3 rfl ?_
  refine q_callX1 (cv_X8_printPool ml_L_183) hW kc_1 (by decide) rfl rfl (Nat.le_of_ble_eq_true rfl) dL_printPool_4 hM (fun v1 h1 q1 => ?_) (fun E1 h1 q1 => ?_)
  · obtain ⟨e1, rfl, q1⟩ := q1
    have hW1 := hQ _ q1
    refine r_i2l dL_printPool_7 ?_
    refine q_last (k := 0) hW1 kc_737 kn_0 (by decide) (by decide) dL_printPool_8 ?_
    refine r_goto 15 dL_printPool_9 (by decide) ?_
    refine r_iconst (0) dL_printPool_15 (by decide) ?_
    refine r_iret dL_printPool_16 rfl ⟨Nat.le_of_ble_eq_true rfl, Nat.le_of_ble_eq_true rfl⟩ ?_
    exact ⟨by rw [e1]; rfl, fun q => absurd e1 q, fun _ => ⟨_, q1, rfl⟩⟩
  · obtain ⟨⟨t1, t2⟩, rfl⟩ := q1
    obtain rfl : cd = 1 := by omega
    · have t3 : E1 = eB := t2.symm
      subst t3
      refine PX.catch (n0 := 0) hG (0, 9, 12, 19) rfl ⟨by decide, by decide⟩ (by decide) wl_19 ⟨rfl, by decide +kernel⟩ (fun z hz => absurd hz List.not_mem_nil) (fun a9 => ?_)
      refine r_astore_n (ls2 := [some _, some _, some _, some _]) dL_printPool_12 (by decide) rfl ?_
      refine r_iconst (1) dL_printPool_13 (by decide) ?_
      refine r_iret dL_printPool_14 rfl ⟨Nat.le_of_ble_eq_true rfl, Nat.le_of_ble_eq_true rfl⟩ ?_
      exact ⟨rfl, fun _ => rfl, fun q => absurd q (by decide)⟩
set_option maxRecDepth 100000 in
set_option maxHeartbeats 4000000 in
theorem c_L_restoreState {l9 : Launch} {G : GC} {h : AH} {cd : Nat} {a : Int32} {Q : AH → Prop} (hG : GOK G) (hW : World h) (hcd : cd ≤ 1) (hM : PM l9 G mX8_restoreState NT NT [.ref 1] h (fun v h' => cd = 0 ∧ v = some (.int a) ∧ Q h') (fun E h' => thr [eS] cd E ∧ h' = h)) (hQ : ∀ h', Q h' → World h') : PMh l9 G mL_restoreState NT NT [.ref 1, .ref 737] h (fun v h' => v = some (.int (nI cd)) ∧ (cd ≠ 0 → h' = h) ∧ (cd = 0 → ∃ h1, Q h1 ∧ h' = sJ h1 737 0 a.toInt64)) := by
  refine PMh.of (by decide +kernel) rfl (Nat.le_of_ble_eq_true rfl) (fun hst _ => ?_)
  refine r_aload_n dL_restoreState_0 rfl ?_
  refine r_iconst (0) dL_restoreState_1 (by decide) ?_
  refine r_aload_n dL_restoreState_2 rfl ?_
  refine q_callX0 (cv_X8_restoreState ml_L_186) hW kc_1 (by decide) rfl rfl (Nat.le_of_ble_eq_true rfl) dL_restoreState_3 hM (fun v1 h1 q1 => ?_) (fun E1 h1 q1 => ?_)
  · obtain ⟨e1, rfl, q1⟩ := q1
    have hW1 := hQ _ q1
    refine r_i2l dL_restoreState_6 ?_
    refine q_last (k := 0) hW1 kc_737 kn_0 (by decide) (by decide) dL_restoreState_7 ?_
    refine r_goto 14 dL_restoreState_8 (by decide) ?_
    refine r_iconst (0) dL_restoreState_14 (by decide) ?_
    refine r_iret dL_restoreState_15 rfl ⟨Nat.le_of_ble_eq_true rfl, Nat.le_of_ble_eq_true rfl⟩ ?_
    exact ⟨by rw [e1]; rfl, fun q => absurd e1 q, fun _ => ⟨_, q1, rfl⟩⟩
  · obtain ⟨⟨t1, t2⟩, rfl⟩ := q1
    obtain rfl : cd = 1 := by omega
    · have t3 : E1 = eS := t2.symm
      subst t3
      refine PX.catch (n0 := 0) hG (0, 8, 11, 94) rfl ⟨by decide, by decide⟩ (by decide) wl_94 ⟨rfl, by decide +kernel⟩ (fun z hz => absurd hz List.not_mem_nil) (fun a9 => ?_)
      refine r_astore_n (ls2 := [some _, some _, some _]) dL_restoreState_11 (by decide) rfl ?_
      refine r_iconst (1) dL_restoreState_12 (by decide) ?_
      refine r_iret dL_restoreState_13 rfl ⟨Nat.le_of_ble_eq_true rfl, Nat.le_of_ble_eq_true rfl⟩ ?_
      exact ⟨rfl, fun _ => rfl, fun q => absurd q (by decide)⟩
