-- the reference: the other questions
theorem inR1 {x b : Int32} {n : Nat} (hb : b = nI n) (hn : n < 2 ^ 30) : decide (0 ≤ x ∧ x ≤ b - 1) = ltB b x := inR0 hb hn
def fdH (h : AH) (r : Row) (x : Int32) : AH := match mbP r x, mbK r x with
  | some p, some k => sI (sI h 723 25 (nI p)) 723 26 (nI k)
  | _, _ => h
theorem fdH_n {h : AH} {r : Row} {x : Int32} (h1 : mbP r x = none) : fdH h r x = h := by unfold fdH; rw [h1]
theorem fdH_s {h : AH} {r : Row} {x : Int32} {p k : Nat} (h1 : mbP r x = some p) (h2 : mbK r x = some k) : fdH h r x = sI (sI h 723 25 (nI p)) 723 26 (nI k) := by unfold fdH; rw [h1, h2]
theorem World.fdH {h : AH} {r : Row} {x : Int32} (hW : World h) : World (fdH h r x) := by
  unfold CPoolScalerLaw_law_r4467_227dc4.fdH
  split
  · exact wsI (wsI hW)
  · exact hW
theorem MW.fdH {h : AH} {r q : Row} {x : Int32} (hm : MW h q) : MW (fdH h r x) q := by
  unfold CPoolScalerLaw_law_r4467_227dc4.fdH
  split
  · exact hm.s9.s9
  · exact hm
theorem cd2_t' {a b : Bool} (h : a = true) (h2 : b = true) : nI (cd2 a b) = 0 := by rw [cd2_t h h2]; rfl
def RQ (h h' : AH) (c : Nat) : Prop := eqx h h' (fun i => i = 723) ∧ aI h' 723 12 = nI c ∧ ∀ k, k ≠ 12 → k ≠ 25 → k ≠ 26 → aI h' 723 k = aI h 723 k
theorem RQ.of {h : AH} {c : Nat} : RQ h (sI h 723 12 (nI c)) c := ⟨eqx.rf.sI rfl, sI_s, fun k h1 _ _ => sI_k h1⟩
set_option maxRecDepth 100000 in
set_option maxHeartbeats 4000000 in
theorem c_X9_sizes {l9 : Launch} {G : GC} {h : AH} {r : Row} {m : Nat} (hW : World h) (hm : MW h r) (hO : RoOK r.1 r.2 m) (hm28 : m < 2 ^ 28) : PM l9 G mX9_sizes NT NT [.ref 723] h (fun v h' => v = some (.int (nI (smS r.1 (nn (r.1 0))))) ∧ h' = h) noX := by
  refine PM.of (by decide +kernel) rfl rfl (Nat.le_of_ble_eq_true rfl) (fun hst _ => ?_)
  obtain ⟨np, n4, n3, en⟩ := hO.np
  rw [en]
  refine r_iconst (0) dX9_sizes_0 (by decide) ?_
  refine r_istore_n (ls2 := [some _, _, _]) dX9_sizes_1 (by decide) rfl ?_
  refine r_iconst (0) dX9_sizes_2 (by decide) ?_
  refine r_istore_n (ls2 := [_, some _, _]) dX9_sizes_3 (by decide) rfl ?_
  refine loopN (P := fun i => i ≤ np → PW l9 G mX9_sizes _ _ NT 4 [some (.ref 723), some (.int (nI (smS r.1 i))), some (.int (nI i))] [] (0, 0) h) np (fun i ih hi => ?_) 0 (Nat.zero_le _)
  refine r_iload_n dX9_sizes_4 rfl ?_
  refine r_aload_n dX9_sizes_5 rfl ?_
  refine q_getR fl_X9_7 hW kc_723 rfl (kl_9_0 hW) (by decide) dX9_sizes_6 ?_
  refine r_iconst (0) dX9_sizes_9 (by decide) ?_
  refine q_wldMW hW hm kn_0 (by omega) dX9_sizes_10 ?_
  rw [n3]
  refine r_icmp_ge 30 dX9_sizes_11 (by decide) (fun c_11 => ?_) (fun c_11 => ?_)
  · have hge : np = i := by have := (nI_leI (by omega) (by omega)).mp c_11; omega
    refine r_iload_n dX9_sizes_30 rfl ?_
    refine r_iret dX9_sizes_31 rfl ⟨Nat.zero_le _, Nat.zero_le _⟩ ?_
    rw [hge]; exact ⟨rfl, rfl⟩
  · have hlt : i < np := (nI_ltI (by omega) (by omega)).mp (i_lt.mp c_11)
    have hp : i < 4 := by omega
    have h23 := ((hO.2 i (by omega)).at 23).1
    refine r_iload_n dX9_sizes_14 rfl ?_
    refine r_aload_n dX9_sizes_15 rfl ?_
    refine r_iload_n dX9_sizes_16 rfl ?_
    refine r_bipush (23) dX9_sizes_17 (by decide) ?_
    refine q_callV2 (cv_X9_of ml_X9_81) hW kc_723 (by decide) rfl ⟨rfl, rfl⟩ rfl (Nat.le_of_ble_eq_true rfl) dX9_sizes_19 (c_X9_ofM hW hm hp rfl kn_23 (by omega)) (fun v_19 h_19 q_19 => ?_)
    obtain ⟨rfl, z9⟩ := q_19
    replace z9 := z9.symm
    subst z9
    rw [h23]
    refine r_iadd dX9_sizes_22 ?_
    rw [nI_add]
    refine r_istore_n (ls2 := [some _, _, _]) dX9_sizes_23 (by decide) rfl ?_
    refine r_iinc (1) (by decide) (ls2 := [_, some _, _]) dX9_sizes_24 rfl (by decide) rfl ?_
    refine r_goto 4 dX9_sizes_27 (by decide) ?_
    rw [nI_1]
    exact ih hlt hlt

set_option maxRecDepth 100000 in
set_option maxHeartbeats 4000000 in
theorem c_X9_finds {l9 : Launch} {G : GC} {h : AH} {r : Row} {m : Nat} {x : Int32} (hW : World h) (hm : MW h r) (hO : RoOK r.1 r.2 m) (hm28 : m < 2 ^ 28) : PM l9 G mX9_finds NT NT [.ref 723, .int x] h (fun v h' => v = some (.int (bI (mbP r x).isSome)) ∧ h' = fdH h r x) noX := by
  refine PM.of (by decide +kernel) rfl rfl (Nat.le_of_ble_eq_true rfl) (fun hst _ => ?_)
  obtain ⟨np, n4, n3, en⟩ := hO.np
  refine r_iconst (0) dX9_finds_0 (by decide) ?_
  refine r_istore_n (ls2 := [_, some _, _, _]) dX9_finds_1 (by decide) rfl ?_
  refine loopN (P := fun p => ∀ z3 : Option Value, p ≤ np → hmS r.1 x p = none → PW l9 G mX9_finds _ _ NT 2 [some (.ref 723), some (.int x), some (.int (nI p)), z3] [] (0, 0) h) np (fun p ih z3 hi hf => ?_) 0 none (Nat.zero_le _) rfl
  refine r_iload_n dX9_finds_2 rfl ?_
  refine r_aload_n dX9_finds_3 rfl ?_
  refine q_getR fl_X9_7 hW kc_723 rfl (kl_9_0 hW) (by decide) dX9_finds_4 ?_
  refine r_iconst (0) dX9_finds_7 (by decide) ?_
  refine q_wldMW hW hm kn_0 (by omega) dX9_finds_8 ?_
  rw [n3]
  refine r_icmp_ge 67 dX9_finds_9 (by decide) (fun c_9 => ?_) (fun c_9 => ?_)
  · have hge : np = p := by have := (nI_leI (by omega) (by omega)).mp c_9; omega
    refine r_iconst (0) dX9_finds_67 (by decide) ?_
    refine r_zret dX9_finds_68 rfl (by decide) ⟨Nat.zero_le _, Nat.zero_le _⟩ ?_
    have e2 : mbP r x = none := by unfold mbP; rw [en, hge]; exact hf
    rw [fdH_n e2, e2]
    exact ⟨rfl, rfl⟩
  · have hlt : p < np := (nI_ltI (by omega) (by omega)).mp (i_lt.mp c_9)
    have hp : p < 4 := by omega
    have h23 := ((hO.2 p (by omega)).at 23).1
    have y23 : nn (getP r.1 p 23) ≤ 20 := ((hO.2 p (by omega)).at 23).2.2
    refine r_iconst (0) dX9_finds_12 (by decide) ?_
    refine r_istore_n (ls2 := [_, _, some _, _]) dX9_finds_13 (by decide) rfl ?_
    refine loopN (P := fun i => i ≤ nn (getP r.1 p 23) → fi (fun k => decide (getP r.1 p (100 + 4 * k) = x)) i = none → PW l9 G mX9_finds _ _ NT 14 [some (.ref 723), some (.int x), some (.int (nI p)), some (.int (nI i))] [] (0, 0) h) (nn (getP r.1 p 23)) (fun i ih2 hi2 hf2 => ?_) 0 (Nat.zero_le _) rfl
    refine r_iload_n dX9_finds_14 rfl ?_
    refine r_aload_n dX9_finds_15 rfl ?_
    refine r_iload_n dX9_finds_16 rfl ?_
    refine r_bipush (23) dX9_finds_17 (by decide) ?_
    refine q_callV2 (cv_X9_of ml_X9_81) hW kc_723 (by decide) rfl ⟨rfl, rfl⟩ rfl (Nat.le_of_ble_eq_true rfl) dX9_finds_19 (c_X9_ofM hW hm hp rfl kn_23 (by omega)) (fun v_19 h_19 q_19 => ?_)
    obtain ⟨rfl, z9⟩ := q_19
    replace z9 := z9.symm
    subst z9
    rw [h23]
    refine r_icmp_ge 61 dX9_finds_22 (by decide) (fun c_22 => ?_) (fun c_22 => ?_)
    · have hge2 : nn (getP r.1 p 23) = i := by have := (nI_leI (by omega) (by omega)).mp c_22; omega
      refine r_iinc (1) (by decide) (ls2 := [_, some _, _, _]) dX9_finds_61 rfl (by decide) rfl ?_
      refine r_goto 2 dX9_finds_64 (by decide) ?_
      rw [nI_1]
      refine ih hlt _ hlt (fi_pass hf ?_)
      show (plS r.1 x p).isSome = false
      have e : plS r.1 x p = none := by unfold plS; rw [hge2]; exact hf2
      rw [e]; rfl
    · have hlt2 : i < nn (getP r.1 p 23) := (nI_ltI (by omega) (by omega)).mp (i_lt.mp c_22)
      refine r_aload_n dX9_finds_25 rfl ?_
      refine r_iload_n dX9_finds_26 rfl ?_
      refine r_bipush (100) dX9_finds_27 (by decide) ?_
      refine r_iconst (4) dX9_finds_29 (by decide) ?_
      refine r_iload_n dX9_finds_30 rfl ?_
      refine r_imul dX9_finds_31 ?_
      refine r_iadd dX9_finds_32 ?_
      refine q_callV2 (cv_X9_of ml_X9_81) hW kc_723 (by decide) rfl ⟨rfl, rfl⟩ rfl (Nat.le_of_ble_eq_true rfl) dX9_finds_33 (c_X9_ofM hW hm hp rfl (nadd kn_100 (nmul kn_4 rfl)) (by omega)) (fun v_33 h_33 q_33 => ?_)
      obtain ⟨rfl, z9⟩ := q_33
      replace z9 := z9.symm
      subst z9
      refine r_iload_n dX9_finds_36 rfl ?_
      refine r_icmp_eq 43 dX9_finds_37 (by decide) (fun c_37 => ?_) (fun c_37 => ?_)
      · refine r_aload_n dX9_finds_43 rfl ?_
        refine r_iload_n dX9_finds_44 rfl ?_
        refine q_putM fl_X9_315 hW hm rfl rfl dX9_finds_45 (fun hm => ?_)
        refine r_aload_n dX9_finds_48 rfl ?_
        refine r_iload_n dX9_finds_49 rfl ?_
        refine q_putM fl_X9_318 hW hm rfl rfl dX9_finds_50 (fun hm => ?_)
        refine r_iconst (1) dX9_finds_53 (by decide) ?_
        refine r_zret dX9_finds_54 rfl (by decide) ⟨Nat.zero_le _, Nat.zero_le _⟩ ?_
        have e1 : plS r.1 x p = some i := fi_hit hf2 (decide_eq_true c_37) hlt2
        have e2 : mbP r x = some p := by
          unfold mbP hmS
          rw [en]
          exact fi_hit (P := fun p => (plS r.1 x p).isSome) hf (by rw [e1]; rfl) hlt
        have e3 : mbK r x = some i := by unfold mbK; rw [e2]; exact e1
        rw [fdH_s e2 e3, e2]
        exact ⟨rfl, rfl⟩
      · refine r_goto 55 dX9_finds_40 (by decide) ?_
        refine r_iinc (1) (by decide) (ls2 := [_, _, some _, _]) dX9_finds_55 rfl (by decide) rfl ?_
        refine r_goto 14 dX9_finds_58 (by decide) ?_
        rw [nI_1]
        exact ih2 hlt2 hlt2 (fi_pass hf2 (decide_eq_false c_37))

set_option maxRecDepth 100000 in
set_option maxHeartbeats 4000000 in
theorem c_X9_count {l9 : Launch} {G : GC} {h : AH} {r : Row} {m : Nat} {c9 : Nat} {x : Int32} (hW : World h) (hm : MW h r) (hO : RoOK r.1 r.2 m) (hm28 : m < 2 ^ 28) (hL : aI h 723 10 = nI c9) : PM l9 G mX9_count NT NT [.ref 723, .int x] h (fun v h' => h' = sI h 723 12 (nI (cd1 (rgB 0 5 x))) ∧ (cd1 (rgB 0 5 x) = 0 → v = some (.int (ctA r c9 (nn x))))) noX := by
  refine PM.of (by decide +kernel) rfl rfl (Nat.le_of_ble_eq_true rfl) (fun hst _ => ?_)
  refine r_aload_n dX9_count_0 rfl ?_
  refine r_iconst (0) dX9_count_1 (by decide) ?_
  refine q_putM fl_X9_61 hW hm rfl rfl dX9_count_2 (fun hm => ?_)
  refine r_aload_n dX9_count_5 rfl ?_
  refine r_iload_n dX9_count_6 rfl ?_
  refine r_iconst (0) dX9_count_7 (by decide) ?_
  refine r_iconst (5) dX9_count_8 (by decide) ?_
  refine q_callS3 (cs_X9_inRange ml_X9_167) ⟨rfl, rfl⟩ rfl (Nat.le_of_ble_eq_true rfl) dX9_count_9 c_X9_inRange (fun v_9 h_9 q_9 => ?_)
  obtain ⟨rfl, z9⟩ := q_9
  replace z9 := z9.symm
  subst z9
  refine r_if_ne 19 dX9_count_12 (by decide) (fun c_12 => ?_) (fun c_12 => ?_)
  · refine r_iconst (0) dX9_count_19 (by decide) ?_
    refine r_iconst (1) dX9_count_20 (by decide) ?_
    refine q_callV2 (cv_X9_fails ml_X9_302) hW kc_723 (by decide) rfl ⟨rfl, rfl⟩ rfl (Nat.le_of_ble_eq_true rfl) dX9_count_21 (c_X9_fails0 hW) (fun v_21 h_21 q_21 => ?_)
    obtain ⟨rfl, z9⟩ := q_21
    replace z9 := z9.symm
    subst z9
    refine r_if_eq 29 dX9_count_24 (by decide) (fun c_24 => ?_) (fun c_24 => ?_)
    · have kr : rgB 0 5 x = true := bI_1.mp c_12
      have c0 := cd1_t kr
      rw [c0]
      obtain ⟨k, k1, k2, hx⟩ := rgB_t (a := 0) (b := 5) kr (by decide) (by decide)
      refine r_iload_n dX9_count_29 rfl ?_
      rcases (show k = 0 ∨ k = 1 ∨ k = 2 ∨ k = 3 ∨ k = 4 ∨ k = 5 from by omega) with rfl | rfl | rfl | rfl | rfl | rfl
      · rw [hx]
        refine r_tabIn 64 dX9_count_30 (by decide) (by decide) rfl (by decide) ?_
        refine r_aload_n dX9_count_64 rfl ?_
        refine q_getR fl_X9_7 hW kc_723 rfl (kl_9_0 hW) (by decide) dX9_count_65 ?_
        refine r_iconst (0) dX9_count_68 (by decide) ?_
        refine q_wldMW hW hm kn_0 (by omega) dX9_count_69 ?_
        refine r_iret dX9_count_70 rfl ⟨Nat.zero_le _, Nat.zero_le _⟩ ?_
        refine ⟨rfl, fun _ => ?_⟩
        first
          | rfl
          | exact some_int ((sI_k (by decide)).trans hL)
      · rw [hx]
        refine r_tabIn 71 dX9_count_30 (by decide) (by decide) rfl (by decide) ?_
        refine r_aload_n dX9_count_71 rfl ?_
        refine q_getR fl_X9_7 hW kc_723 rfl (kl_9_0 hW) (by decide) dX9_count_72 ?_
        refine r_iconst (1) dX9_count_75 (by decide) ?_
        refine q_wldMW hW hm kn_1 (by omega) dX9_count_76 ?_
        refine r_iret dX9_count_77 rfl ⟨Nat.zero_le _, Nat.zero_le _⟩ ?_
        refine ⟨rfl, fun _ => ?_⟩
        first
          | rfl
          | exact some_int ((sI_k (by decide)).trans hL)
      · rw [hx]
        refine r_tabIn 78 dX9_count_30 (by decide) (by decide) rfl (by decide) ?_
        refine r_aload_n dX9_count_78 rfl ?_
        refine q_callV0 (cv_X9_sizes ml_X9_306) hW kc_723 (by decide) rfl ⟨rfl, rfl⟩ rfl (Nat.le_of_ble_eq_true rfl) dX9_count_79 (c_X9_sizes hW hm hO hm28) (fun v_79 h_79 q_79 => ?_)
        obtain ⟨rfl, z9⟩ := q_79
        replace z9 := z9.symm
        subst z9
        refine r_iret dX9_count_82 rfl ⟨Nat.zero_le _, Nat.zero_le _⟩ ?_
        refine ⟨rfl, fun _ => ?_⟩
        first
          | rfl
          | exact some_int ((sI_k (by decide)).trans hL)
      · rw [hx]
        refine r_tabIn 83 dX9_count_30 (by decide) (by decide) rfl (by decide) ?_
        refine r_aload_n dX9_count_83 rfl ?_
        refine q_getR fl_X9_7 hW kc_723 rfl (kl_9_0 hW) (by decide) dX9_count_84 ?_
        refine r_iconst (2) dX9_count_87 (by decide) ?_
        refine q_wldMW hW hm kn_2 (by omega) dX9_count_88 ?_
        refine r_iret dX9_count_89 rfl ⟨Nat.zero_le _, Nat.zero_le _⟩ ?_
        refine ⟨rfl, fun _ => ?_⟩
        first
          | rfl
          | exact some_int ((sI_k (by decide)).trans hL)
      · rw [hx]
        refine r_tabIn 90 dX9_count_30 (by decide) (by decide) rfl (by decide) ?_
        refine r_aload_n dX9_count_90 rfl ?_
        refine q_getR fl_X9_7 hW kc_723 rfl (kl_9_0 hW) (by decide) dX9_count_91 ?_
        refine r_iconst (3) dX9_count_94 (by decide) ?_
        refine q_wldMW hW hm kn_3 (by omega) dX9_count_95 ?_
        refine r_iret dX9_count_96 rfl ⟨Nat.zero_le _, Nat.zero_le _⟩ ?_
        refine ⟨rfl, fun _ => ?_⟩
        first
          | rfl
          | exact some_int ((sI_k (by decide)).trans hL)
      · rw [hx]
        refine r_tabOut 97 dX9_count_30 (by decide) (by decide) ?_
        refine r_aload_n dX9_count_97 rfl ?_
        refine q_getI fl_X9_71 hW kc_723 rfl dX9_count_98 ?_
        refine r_iret dX9_count_101 rfl ⟨Nat.zero_le _, Nat.zero_le _⟩ ?_
        refine ⟨rfl, fun _ => ?_⟩
        first
          | rfl
          | exact some_int ((sI_k (by decide)).trans hL)
    · first | exact absurd c_24 (by decide) | exact absurd (by decide) c_24
  · refine r_iconst (1) dX9_count_15 (by decide) ?_
    refine r_goto 20 dX9_count_16 (by decide) ?_
    refine r_iconst (1) dX9_count_20 (by decide) ?_
    refine q_callV2 (cv_X9_fails ml_X9_302) hW kc_723 (by decide) rfl ⟨rfl, rfl⟩ rfl (Nat.le_of_ble_eq_true rfl) dX9_count_21 (c_X9_fails1 hW) (fun v_21 h_21 q_21 => ?_)
    obtain ⟨rfl, z9⟩ := q_21
    replace z9 := z9.symm
    subst z9
    replace hm := hm.s9 (k := 12) (x := 1)
    refine r_if_eq 29 dX9_count_24 (by decide) (fun c_24 => ?_) (fun c_24 => ?_)
    · first | exact absurd c_24 (by decide) | exact absurd (by decide) c_24
    · refine r_iconst (0) dX9_count_27 (by decide) ?_
      refine r_iret dX9_count_28 rfl ⟨Nat.zero_le _, Nat.zero_le _⟩ ?_
      have kr : rgB 0 5 x = false := bI_0.mp c_12
      exact ⟨by rw [kr]; exact sI_2, fun q => absurd q (cd1_n kr)⟩

set_option maxRecDepth 100000 in
set_option maxHeartbeats 4000000 in
theorem c_X9_pool {l9 : Launch} {G : GC} {h : AH} {r : Row} {m : Nat} {x y : Int32} (hW : World h) (hm : MW h r) (hO : RoOK r.1 r.2 m) (hm28 : m < 2 ^ 28) : PM l9 G mX9_pool NT NT [.ref 723, .int x, .int y] h (fun v h' => h' = sI h 723 12 (nI (cd2 (okP r x) (rgB 0 20 y))) ∧ (cd2 (okP r x) (rgB 0 20 y) = 0 → v = some (.int (plA r x (nn y))))) noX := by
  refine PM.of (by decide +kernel) rfl rfl (Nat.le_of_ble_eq_true rfl) (fun hst _ => ?_)
  refine r_aload_n dX9_pool_0 rfl ?_
  refine r_iload_n dX9_pool_1 rfl ?_
  refine q_callV1 (cv_X9_noPool ml_X9_309) hW kc_723 (by decide) rfl ⟨rfl, rfl⟩ rfl (Nat.le_of_ble_eq_true rfl) dX9_pool_2 (c_X9_noPool hW hm hO) (fun v_2 h_2 q_2 => ?_)
  obtain ⟨rfl, z9⟩ := q_2
  subst z9
  have hW : World (sI h 723 12 (nI (cd1 (okP r x)))) := wsI hW
  replace hm := hm.s9 (k := 12) (x := nI (cd1 (okP r x)))
  refine r_if_ne 31 dX9_pool_5 (by decide) (fun c_5 => ?_) (fun c_5 => ?_)
  · refine r_iconst (0) dX9_pool_31 (by decide) ?_
    refine r_iret dX9_pool_32 rfl ⟨Nat.zero_le _, Nat.zero_le _⟩ ?_
    first
      | (have ko : okP r x = false := bn1 c_5
         exact ⟨by rw [ko]; rfl, fun q => absurd q (cd2_n1 ko)⟩)
      | (have kr : rgB 0 20 y = false := bI_0.mp c_16
         have kr9 : rgB 0 20 y = false := by
           try unfold fP
           try rw [ex]
           exact kr
         exact ⟨by rw [ko, kr9]; exact sI_2, fun q => absurd q (cd2_n2 ko kr9)⟩)
      | (refine ⟨by rw [ko]; rfl, fun _ => ?_⟩
         try unfold fP
         try unfold gP
         try unfold tP
         try rw [ex]
         refine some_int ?_
         unfold plA
         first
           | rfl
           | (unfold fP; rw [ex]; rfl)
         all_goals rfl)
  · have ko : okP r x = true := bn0 c_5
    obtain ⟨p, hp, pn, hx⟩ := okP_t hO ko
    have ex : nn x = p := by rw [hx]; exact nn_I (by omega)
    have hmw := hm
    have hOr := hO
    replace hO := hO.2 p pn
    replace hm := hm.pv p
    refine r_aload_n dX9_pool_8 rfl ?_
    refine r_iload_n dX9_pool_9 rfl ?_
    refine r_iconst (0) dX9_pool_10 (by decide) ?_
    refine r_bipush (20) dX9_pool_11 (by decide) ?_
    refine q_callS3 (cs_X9_inRange ml_X9_167) ⟨rfl, rfl⟩ rfl (Nat.le_of_ble_eq_true rfl) dX9_pool_13 c_X9_inRange (fun v_13 h_13 q_13 => ?_)
    obtain ⟨rfl, z9⟩ := q_13
    replace z9 := z9.symm
    subst z9
    refine r_if_ne 23 dX9_pool_16 (by decide) (fun c_16 => ?_) (fun c_16 => ?_)
    · refine r_iconst (0) dX9_pool_23 (by decide) ?_
      refine r_iconst (2) dX9_pool_24 (by decide) ?_
      refine q_callV2 (cv_X9_fails ml_X9_302) hW kc_723 (by decide) rfl ⟨rfl, rfl⟩ rfl (Nat.le_of_ble_eq_true rfl) dX9_pool_25 (c_X9_fails0 hW) (fun v_25 h_25 q_25 => ?_)
      obtain ⟨rfl, z9⟩ := q_25
      replace z9 := z9.symm
      subst z9
      refine r_if_eq 33 dX9_pool_28 (by decide) (fun c_28 => ?_) (fun c_28 => ?_)
      · have kr : rgB 0 20 y = true := bI_1.mp c_16
        have c0 : cd2 (okP r x) (rgB 0 20 y) = 0 := cd2_t ko (by (try unfold fP); (try rw [ex]); exact kr)
        rw [c0]
        obtain ⟨k, k1, k2, hy⟩ := rgB_t (a := 0) (b := 20) kr (by decide) (by decide)
        refine r_iload_n dX9_pool_33 rfl ?_
        rcases (show k = 0 ∨ k = 1 ∨ k = 2 ∨ k = 3 ∨ k = 4 ∨ k = 5 ∨ k = 6 ∨ k = 7 ∨ k = 8 ∨ k = 9 ∨ k = 10 ∨ k = 11 ∨ k = 12 ∨ k = 13 ∨ k = 14 ∨ k = 15 ∨ k = 16 ∨ k = 17 ∨ k = 18 ∨ k = 19 ∨ k = 20 from by omega) with rfl | rfl | rfl | rfl | rfl | rfl | rfl | rfl | rfl | rfl | rfl | rfl | rfl | rfl | rfl | rfl | rfl | rfl | rfl | rfl | rfl
        · rw [hy]
          refine r_tabIn 92 dX9_pool_34 (by decide) (by decide) rfl (by decide) ?_
          refine r_aload_n dX9_pool_92 rfl ?_
          refine r_iload_n dX9_pool_93 rfl ?_
          refine r_iload_n dX9_pool_94 rfl ?_
          refine q_callV2 (cv_X9_of ml_X9_81) hW kc_723 (by decide) rfl ⟨rfl, rfl⟩ rfl (Nat.le_of_ble_eq_true rfl) dX9_pool_95 (c_X9_of hW hm hp hx kn_0 (by omega)) (fun v_95 h_95 q_95 => ?_)
          obtain ⟨rfl, z9⟩ := q_95
          replace z9 := z9.symm
          subst z9
          refine r_iret dX9_pool_98 rfl ⟨Nat.zero_le _, Nat.zero_le _⟩ ?_
          first
            | (have ko : okP r x = false := bn1 c_5
               exact ⟨by rw [ko]; rfl, fun q => absurd q (cd2_n1 ko)⟩)
            | (have kr : rgB 0 20 y = false := bI_0.mp c_16
               have kr9 : rgB 0 20 y = false := by
                 try unfold fP
                 try rw [ex]
                 exact kr
               exact ⟨by rw [ko, kr9]; exact sI_2, fun q => absurd q (cd2_n2 ko kr9)⟩)
            | (refine ⟨by rw [ko]; rfl, fun _ => ?_⟩
               try unfold fP
               try unfold gP
               try unfold tP
               try rw [ex]
               refine some_int ?_
               unfold plA
               first
                 | rfl
                 | (unfold fP; rw [ex]; rfl)
               all_goals rfl)
        · rw [hy]
          refine r_tabIn 92 dX9_pool_34 (by decide) (by decide) rfl (by decide) ?_
          refine r_aload_n dX9_pool_92 rfl ?_
          refine r_iload_n dX9_pool_93 rfl ?_
          refine r_iload_n dX9_pool_94 rfl ?_
          refine q_callV2 (cv_X9_of ml_X9_81) hW kc_723 (by decide) rfl ⟨rfl, rfl⟩ rfl (Nat.le_of_ble_eq_true rfl) dX9_pool_95 (c_X9_of hW hm hp hx kn_1 (by omega)) (fun v_95 h_95 q_95 => ?_)
          obtain ⟨rfl, z9⟩ := q_95
          replace z9 := z9.symm
          subst z9
          refine r_iret dX9_pool_98 rfl ⟨Nat.zero_le _, Nat.zero_le _⟩ ?_
          first
            | (have ko : okP r x = false := bn1 c_5
               exact ⟨by rw [ko]; rfl, fun q => absurd q (cd2_n1 ko)⟩)
            | (have kr : rgB 0 20 y = false := bI_0.mp c_16
               have kr9 : rgB 0 20 y = false := by
                 try unfold fP
                 try rw [ex]
                 exact kr
               exact ⟨by rw [ko, kr9]; exact sI_2, fun q => absurd q (cd2_n2 ko kr9)⟩)
            | (refine ⟨by rw [ko]; rfl, fun _ => ?_⟩
               try unfold fP
               try unfold gP
               try unfold tP
               try rw [ex]
               refine some_int ?_
               unfold plA
               first
                 | rfl
                 | (unfold fP; rw [ex]; rfl)
               all_goals rfl)
        · rw [hy]
          refine r_tabIn 92 dX9_pool_34 (by decide) (by decide) rfl (by decide) ?_
          refine r_aload_n dX9_pool_92 rfl ?_
          refine r_iload_n dX9_pool_93 rfl ?_
          refine r_iload_n dX9_pool_94 rfl ?_
          refine q_callV2 (cv_X9_of ml_X9_81) hW kc_723 (by decide) rfl ⟨rfl, rfl⟩ rfl (Nat.le_of_ble_eq_true rfl) dX9_pool_95 (c_X9_of hW hm hp hx kn_2 (by omega)) (fun v_95 h_95 q_95 => ?_)
          obtain ⟨rfl, z9⟩ := q_95
          replace z9 := z9.symm
          subst z9
          refine r_iret dX9_pool_98 rfl ⟨Nat.zero_le _, Nat.zero_le _⟩ ?_
          first
            | (have ko : okP r x = false := bn1 c_5
               exact ⟨by rw [ko]; rfl, fun q => absurd q (cd2_n1 ko)⟩)
            | (have kr : rgB 0 20 y = false := bI_0.mp c_16
               have kr9 : rgB 0 20 y = false := by
                 try unfold fP
                 try rw [ex]
                 exact kr
               exact ⟨by rw [ko, kr9]; exact sI_2, fun q => absurd q (cd2_n2 ko kr9)⟩)
            | (refine ⟨by rw [ko]; rfl, fun _ => ?_⟩
               try unfold fP
               try unfold gP
               try unfold tP
               try rw [ex]
               refine some_int ?_
               unfold plA
               first
                 | rfl
                 | (unfold fP; rw [ex]; rfl)
               all_goals rfl)
        · rw [hy]
          refine r_tabIn 72 dX9_pool_34 (by decide) (by decide) rfl (by decide) ?_
          refine r_aload_n dX9_pool_72 rfl ?_
          refine r_iload_n dX9_pool_73 rfl ?_
          refine r_bipush (23) dX9_pool_74 (by decide) ?_
          refine q_callV2 (cv_X9_of ml_X9_81) hW kc_723 (by decide) rfl ⟨rfl, rfl⟩ rfl (Nat.le_of_ble_eq_true rfl) dX9_pool_76 (c_X9_of hW hm hp hx kn_23 (by omega)) (fun v_76 h_76 q_76 => ?_)
          obtain ⟨rfl, z9⟩ := q_76
          replace z9 := z9.symm
          subst z9
          refine r_iret dX9_pool_79 rfl ⟨Nat.zero_le _, Nat.zero_le _⟩ ?_
          first
            | (have ko : okP r x = false := bn1 c_5
               exact ⟨by rw [ko]; rfl, fun q => absurd q (cd2_n1 ko)⟩)
            | (have kr : rgB 0 20 y = false := bI_0.mp c_16
               have kr9 : rgB 0 20 y = false := by
                 try unfold fP
                 try rw [ex]
                 exact kr
               exact ⟨by rw [ko, kr9]; exact sI_2, fun q => absurd q (cd2_n2 ko kr9)⟩)
            | (refine ⟨by rw [ko]; rfl, fun _ => ?_⟩
               try unfold fP
               try unfold gP
               try unfold tP
               try rw [ex]
               refine some_int ?_
               unfold plA
               first
                 | rfl
                 | (unfold fP; rw [ex]; rfl)
               all_goals rfl)
        · rw [hy]
          refine r_tabIn 80 dX9_pool_34 (by decide) (by decide) rfl (by decide) ?_
          refine r_aload_n dX9_pool_80 rfl ?_
          refine r_iload_n dX9_pool_81 rfl ?_
          refine q_callV1 (cv_X9_readyMany ml_X9_98) hW kc_723 (by decide) rfl ⟨rfl, rfl⟩ rfl (Nat.le_of_ble_eq_true rfl) dX9_pool_82 (c_X9_readyMany hW hm hp hO hx) (fun v_82 h_82 q_82 => ?_)
          obtain ⟨rfl, z9⟩ := q_82
          replace z9 := z9.symm
          subst z9
          refine r_iret dX9_pool_85 rfl ⟨Nat.zero_le _, Nat.zero_le _⟩ ?_
          first
            | (have ko : okP r x = false := bn1 c_5
               exact ⟨by rw [ko]; rfl, fun q => absurd q (cd2_n1 ko)⟩)
            | (have kr : rgB 0 20 y = false := bI_0.mp c_16
               have kr9 : rgB 0 20 y = false := by
                 try unfold fP
                 try rw [ex]
                 exact kr
               exact ⟨by rw [ko, kr9]; exact sI_2, fun q => absurd q (cd2_n2 ko kr9)⟩)
            | (refine ⟨by rw [ko]; rfl, fun _ => ?_⟩
               try unfold fP
               try unfold gP
               try unfold tP
               try rw [ex]
               refine some_int ?_
               unfold plA
               first
                 | rfl
                 | (unfold fP; rw [ex]; rfl)
               all_goals rfl)
        · rw [hy]
          refine r_tabIn 86 dX9_pool_34 (by decide) (by decide) rfl (by decide) ?_
          refine r_aload_n dX9_pool_86 rfl ?_
          refine r_iload_n dX9_pool_87 rfl ?_
          refine q_callV1 (cv_X9_guardedMany ml_X9_312) hW kc_723 (by decide) rfl ⟨rfl, rfl⟩ rfl (Nat.le_of_ble_eq_true rfl) dX9_pool_88 (c_X9_guardedMany hW hm hp hO hx) (fun v_88 h_88 q_88 => ?_)
          obtain ⟨rfl, z9⟩ := q_88
          replace z9 := z9.symm
          subst z9
          refine r_iret dX9_pool_91 rfl ⟨Nat.zero_le _, Nat.zero_le _⟩ ?_
          first
            | (have ko : okP r x = false := bn1 c_5
               exact ⟨by rw [ko]; rfl, fun q => absurd q (cd2_n1 ko)⟩)
            | (have kr : rgB 0 20 y = false := bI_0.mp c_16
               have kr9 : rgB 0 20 y = false := by
                 try unfold fP
                 try rw [ex]
                 exact kr
               exact ⟨by rw [ko, kr9]; exact sI_2, fun q => absurd q (cd2_n2 ko kr9)⟩)
            | (refine ⟨by rw [ko]; rfl, fun _ => ?_⟩
               try unfold fP
               try unfold gP
               try unfold tP
               try rw [ex]
               refine some_int ?_
               unfold plA
               first
                 | rfl
                 | (unfold fP; rw [ex]; rfl)
               all_goals rfl)
        · rw [hy]
          refine r_tabOut 99 dX9_pool_34 (by decide) (by decide) ?_
          refine r_aload_n dX9_pool_99 rfl ?_
          refine r_iload_n dX9_pool_100 rfl ?_
          refine r_iload_n dX9_pool_101 rfl ?_
          refine r_iconst (3) dX9_pool_102 (by decide) ?_
          refine r_isub dX9_pool_103 ?_
          refine q_callV2 (cv_X9_of ml_X9_81) hW kc_723 (by decide) rfl ⟨rfl, rfl⟩ rfl (Nat.le_of_ble_eq_true rfl) dX9_pool_104 (c_X9_of hW hm hp hx (nsub kn_6 kn_3 (by decide)) (by omega)) (fun v_104 h_104 q_104 => ?_)
          obtain ⟨rfl, z9⟩ := q_104
          replace z9 := z9.symm
          subst z9
          refine r_iret dX9_pool_107 rfl ⟨Nat.zero_le _, Nat.zero_le _⟩ ?_
          first
            | (have ko : okP r x = false := bn1 c_5
               exact ⟨by rw [ko]; rfl, fun q => absurd q (cd2_n1 ko)⟩)
            | (have kr : rgB 0 20 y = false := bI_0.mp c_16
               have kr9 : rgB 0 20 y = false := by
                 try unfold fP
                 try rw [ex]
                 exact kr
               exact ⟨by rw [ko, kr9]; exact sI_2, fun q => absurd q (cd2_n2 ko kr9)⟩)
            | (refine ⟨by rw [ko]; rfl, fun _ => ?_⟩
               try unfold fP
               try unfold gP
               try unfold tP
               try rw [ex]
               refine some_int ?_
               unfold plA
               first
                 | rfl
                 | (unfold fP; rw [ex]; rfl)
               all_goals rfl)
        · rw [hy]
          refine r_tabOut 99 dX9_pool_34 (by decide) (by decide) ?_
          refine r_aload_n dX9_pool_99 rfl ?_
          refine r_iload_n dX9_pool_100 rfl ?_
          refine r_iload_n dX9_pool_101 rfl ?_
          refine r_iconst (3) dX9_pool_102 (by decide) ?_
          refine r_isub dX9_pool_103 ?_
          refine q_callV2 (cv_X9_of ml_X9_81) hW kc_723 (by decide) rfl ⟨rfl, rfl⟩ rfl (Nat.le_of_ble_eq_true rfl) dX9_pool_104 (c_X9_of hW hm hp hx (nsub kn_7 kn_3 (by decide)) (by omega)) (fun v_104 h_104 q_104 => ?_)
          obtain ⟨rfl, z9⟩ := q_104
          replace z9 := z9.symm
          subst z9
          refine r_iret dX9_pool_107 rfl ⟨Nat.zero_le _, Nat.zero_le _⟩ ?_
          first
            | (have ko : okP r x = false := bn1 c_5
               exact ⟨by rw [ko]; rfl, fun q => absurd q (cd2_n1 ko)⟩)
            | (have kr : rgB 0 20 y = false := bI_0.mp c_16
               have kr9 : rgB 0 20 y = false := by
                 try unfold fP
                 try rw [ex]
                 exact kr
               exact ⟨by rw [ko, kr9]; exact sI_2, fun q => absurd q (cd2_n2 ko kr9)⟩)
            | (refine ⟨by rw [ko]; rfl, fun _ => ?_⟩
               try unfold fP
               try unfold gP
               try unfold tP
               try rw [ex]
               refine some_int ?_
               unfold plA
               first
                 | rfl
                 | (unfold fP; rw [ex]; rfl)
               all_goals rfl)
        · rw [hy]
          refine r_tabOut 99 dX9_pool_34 (by decide) (by decide) ?_
          refine r_aload_n dX9_pool_99 rfl ?_
          refine r_iload_n dX9_pool_100 rfl ?_
          refine r_iload_n dX9_pool_101 rfl ?_
          refine r_iconst (3) dX9_pool_102 (by decide) ?_
          refine r_isub dX9_pool_103 ?_
          refine q_callV2 (cv_X9_of ml_X9_81) hW kc_723 (by decide) rfl ⟨rfl, rfl⟩ rfl (Nat.le_of_ble_eq_true rfl) dX9_pool_104 (c_X9_of hW hm hp hx (nsub kn_8 kn_3 (by decide)) (by omega)) (fun v_104 h_104 q_104 => ?_)
          obtain ⟨rfl, z9⟩ := q_104
          replace z9 := z9.symm
          subst z9
          refine r_iret dX9_pool_107 rfl ⟨Nat.zero_le _, Nat.zero_le _⟩ ?_
          first
            | (have ko : okP r x = false := bn1 c_5
               exact ⟨by rw [ko]; rfl, fun q => absurd q (cd2_n1 ko)⟩)
            | (have kr : rgB 0 20 y = false := bI_0.mp c_16
               have kr9 : rgB 0 20 y = false := by
                 try unfold fP
                 try rw [ex]
                 exact kr
               exact ⟨by rw [ko, kr9]; exact sI_2, fun q => absurd q (cd2_n2 ko kr9)⟩)
            | (refine ⟨by rw [ko]; rfl, fun _ => ?_⟩
               try unfold fP
               try unfold gP
               try unfold tP
               try rw [ex]
               refine some_int ?_
               unfold plA
               first
                 | rfl
                 | (unfold fP; rw [ex]; rfl)
               all_goals rfl)
        · rw [hy]
          refine r_tabOut 99 dX9_pool_34 (by decide) (by decide) ?_
          refine r_aload_n dX9_pool_99 rfl ?_
          refine r_iload_n dX9_pool_100 rfl ?_
          refine r_iload_n dX9_pool_101 rfl ?_
          refine r_iconst (3) dX9_pool_102 (by decide) ?_
          refine r_isub dX9_pool_103 ?_
          refine q_callV2 (cv_X9_of ml_X9_81) hW kc_723 (by decide) rfl ⟨rfl, rfl⟩ rfl (Nat.le_of_ble_eq_true rfl) dX9_pool_104 (c_X9_of hW hm hp hx (nsub kn_9 kn_3 (by decide)) (by omega)) (fun v_104 h_104 q_104 => ?_)
          obtain ⟨rfl, z9⟩ := q_104
          replace z9 := z9.symm
          subst z9
          refine r_iret dX9_pool_107 rfl ⟨Nat.zero_le _, Nat.zero_le _⟩ ?_
          first
            | (have ko : okP r x = false := bn1 c_5
               exact ⟨by rw [ko]; rfl, fun q => absurd q (cd2_n1 ko)⟩)
            | (have kr : rgB 0 20 y = false := bI_0.mp c_16
               have kr9 : rgB 0 20 y = false := by
                 try unfold fP
                 try rw [ex]
                 exact kr
               exact ⟨by rw [ko, kr9]; exact sI_2, fun q => absurd q (cd2_n2 ko kr9)⟩)
            | (refine ⟨by rw [ko]; rfl, fun _ => ?_⟩
               try unfold fP
               try unfold gP
               try unfold tP
               try rw [ex]
               refine some_int ?_
               unfold plA
               first
                 | rfl
                 | (unfold fP; rw [ex]; rfl)
               all_goals rfl)
        · rw [hy]
          refine r_tabOut 99 dX9_pool_34 (by decide) (by decide) ?_
          refine r_aload_n dX9_pool_99 rfl ?_
          refine r_iload_n dX9_pool_100 rfl ?_
          refine r_iload_n dX9_pool_101 rfl ?_
          refine r_iconst (3) dX9_pool_102 (by decide) ?_
          refine r_isub dX9_pool_103 ?_
          refine q_callV2 (cv_X9_of ml_X9_81) hW kc_723 (by decide) rfl ⟨rfl, rfl⟩ rfl (Nat.le_of_ble_eq_true rfl) dX9_pool_104 (c_X9_of hW hm hp hx (nsub kn_10 kn_3 (by decide)) (by omega)) (fun v_104 h_104 q_104 => ?_)
          obtain ⟨rfl, z9⟩ := q_104
          replace z9 := z9.symm
          subst z9
          refine r_iret dX9_pool_107 rfl ⟨Nat.zero_le _, Nat.zero_le _⟩ ?_
          first
            | (have ko : okP r x = false := bn1 c_5
               exact ⟨by rw [ko]; rfl, fun q => absurd q (cd2_n1 ko)⟩)
            | (have kr : rgB 0 20 y = false := bI_0.mp c_16
               have kr9 : rgB 0 20 y = false := by
                 try unfold fP
                 try rw [ex]
                 exact kr
               exact ⟨by rw [ko, kr9]; exact sI_2, fun q => absurd q (cd2_n2 ko kr9)⟩)
            | (refine ⟨by rw [ko]; rfl, fun _ => ?_⟩
               try unfold fP
               try unfold gP
               try unfold tP
               try rw [ex]
               refine some_int ?_
               unfold plA
               first
                 | rfl
                 | (unfold fP; rw [ex]; rfl)
               all_goals rfl)
        · rw [hy]
          refine r_tabOut 99 dX9_pool_34 (by decide) (by decide) ?_
          refine r_aload_n dX9_pool_99 rfl ?_
          refine r_iload_n dX9_pool_100 rfl ?_
          refine r_iload_n dX9_pool_101 rfl ?_
          refine r_iconst (3) dX9_pool_102 (by decide) ?_
          refine r_isub dX9_pool_103 ?_
          refine q_callV2 (cv_X9_of ml_X9_81) hW kc_723 (by decide) rfl ⟨rfl, rfl⟩ rfl (Nat.le_of_ble_eq_true rfl) dX9_pool_104 (c_X9_of hW hm hp hx (nsub kn_11 kn_3 (by decide)) (by omega)) (fun v_104 h_104 q_104 => ?_)
          obtain ⟨rfl, z9⟩ := q_104
          replace z9 := z9.symm
          subst z9
          refine r_iret dX9_pool_107 rfl ⟨Nat.zero_le _, Nat.zero_le _⟩ ?_
          first
            | (have ko : okP r x = false := bn1 c_5
               exact ⟨by rw [ko]; rfl, fun q => absurd q (cd2_n1 ko)⟩)
            | (have kr : rgB 0 20 y = false := bI_0.mp c_16
               have kr9 : rgB 0 20 y = false := by
                 try unfold fP
                 try rw [ex]
                 exact kr
               exact ⟨by rw [ko, kr9]; exact sI_2, fun q => absurd q (cd2_n2 ko kr9)⟩)
            | (refine ⟨by rw [ko]; rfl, fun _ => ?_⟩
               try unfold fP
               try unfold gP
               try unfold tP
               try rw [ex]
               refine some_int ?_
               unfold plA
               first
                 | rfl
                 | (unfold fP; rw [ex]; rfl)
               all_goals rfl)
        · rw [hy]
          refine r_tabOut 99 dX9_pool_34 (by decide) (by decide) ?_
          refine r_aload_n dX9_pool_99 rfl ?_
          refine r_iload_n dX9_pool_100 rfl ?_
          refine r_iload_n dX9_pool_101 rfl ?_
          refine r_iconst (3) dX9_pool_102 (by decide) ?_
          refine r_isub dX9_pool_103 ?_
          refine q_callV2 (cv_X9_of ml_X9_81) hW kc_723 (by decide) rfl ⟨rfl, rfl⟩ rfl (Nat.le_of_ble_eq_true rfl) dX9_pool_104 (c_X9_of hW hm hp hx (nsub kn_12 kn_3 (by decide)) (by omega)) (fun v_104 h_104 q_104 => ?_)
          obtain ⟨rfl, z9⟩ := q_104
          replace z9 := z9.symm
          subst z9
          refine r_iret dX9_pool_107 rfl ⟨Nat.zero_le _, Nat.zero_le _⟩ ?_
          first
            | (have ko : okP r x = false := bn1 c_5
               exact ⟨by rw [ko]; rfl, fun q => absurd q (cd2_n1 ko)⟩)
            | (have kr : rgB 0 20 y = false := bI_0.mp c_16
               have kr9 : rgB 0 20 y = false := by
                 try unfold fP
                 try rw [ex]
                 exact kr
               exact ⟨by rw [ko, kr9]; exact sI_2, fun q => absurd q (cd2_n2 ko kr9)⟩)
            | (refine ⟨by rw [ko]; rfl, fun _ => ?_⟩
               try unfold fP
               try unfold gP
               try unfold tP
               try rw [ex]
               refine some_int ?_
               unfold plA
               first
                 | rfl
                 | (unfold fP; rw [ex]; rfl)
               all_goals rfl)
        · rw [hy]
          refine r_tabOut 99 dX9_pool_34 (by decide) (by decide) ?_
          refine r_aload_n dX9_pool_99 rfl ?_
          refine r_iload_n dX9_pool_100 rfl ?_
          refine r_iload_n dX9_pool_101 rfl ?_
          refine r_iconst (3) dX9_pool_102 (by decide) ?_
          refine r_isub dX9_pool_103 ?_
          refine q_callV2 (cv_X9_of ml_X9_81) hW kc_723 (by decide) rfl ⟨rfl, rfl⟩ rfl (Nat.le_of_ble_eq_true rfl) dX9_pool_104 (c_X9_of hW hm hp hx (nsub kn_13 kn_3 (by decide)) (by omega)) (fun v_104 h_104 q_104 => ?_)
          obtain ⟨rfl, z9⟩ := q_104
          replace z9 := z9.symm
          subst z9
          refine r_iret dX9_pool_107 rfl ⟨Nat.zero_le _, Nat.zero_le _⟩ ?_
          first
            | (have ko : okP r x = false := bn1 c_5
               exact ⟨by rw [ko]; rfl, fun q => absurd q (cd2_n1 ko)⟩)
            | (have kr : rgB 0 20 y = false := bI_0.mp c_16
               have kr9 : rgB 0 20 y = false := by
                 try unfold fP
                 try rw [ex]
                 exact kr
               exact ⟨by rw [ko, kr9]; exact sI_2, fun q => absurd q (cd2_n2 ko kr9)⟩)
            | (refine ⟨by rw [ko]; rfl, fun _ => ?_⟩
               try unfold fP
               try unfold gP
               try unfold tP
               try rw [ex]
               refine some_int ?_
               unfold plA
               first
                 | rfl
                 | (unfold fP; rw [ex]; rfl)
               all_goals rfl)
        · rw [hy]
          refine r_tabOut 99 dX9_pool_34 (by decide) (by decide) ?_
          refine r_aload_n dX9_pool_99 rfl ?_
          refine r_iload_n dX9_pool_100 rfl ?_
          refine r_iload_n dX9_pool_101 rfl ?_
          refine r_iconst (3) dX9_pool_102 (by decide) ?_
          refine r_isub dX9_pool_103 ?_
          refine q_callV2 (cv_X9_of ml_X9_81) hW kc_723 (by decide) rfl ⟨rfl, rfl⟩ rfl (Nat.le_of_ble_eq_true rfl) dX9_pool_104 (c_X9_of hW hm hp hx (nsub kn_14 kn_3 (by decide)) (by omega)) (fun v_104 h_104 q_104 => ?_)
          obtain ⟨rfl, z9⟩ := q_104
          replace z9 := z9.symm
          subst z9
          refine r_iret dX9_pool_107 rfl ⟨Nat.zero_le _, Nat.zero_le _⟩ ?_
          first
            | (have ko : okP r x = false := bn1 c_5
               exact ⟨by rw [ko]; rfl, fun q => absurd q (cd2_n1 ko)⟩)
            | (have kr : rgB 0 20 y = false := bI_0.mp c_16
               have kr9 : rgB 0 20 y = false := by
                 try unfold fP
                 try rw [ex]
                 exact kr
               exact ⟨by rw [ko, kr9]; exact sI_2, fun q => absurd q (cd2_n2 ko kr9)⟩)
            | (refine ⟨by rw [ko]; rfl, fun _ => ?_⟩
               try unfold fP
               try unfold gP
               try unfold tP
               try rw [ex]
               refine some_int ?_
               unfold plA
               first
                 | rfl
                 | (unfold fP; rw [ex]; rfl)
               all_goals rfl)
        · rw [hy]
          refine r_tabOut 99 dX9_pool_34 (by decide) (by decide) ?_
          refine r_aload_n dX9_pool_99 rfl ?_
          refine r_iload_n dX9_pool_100 rfl ?_
          refine r_iload_n dX9_pool_101 rfl ?_
          refine r_iconst (3) dX9_pool_102 (by decide) ?_
          refine r_isub dX9_pool_103 ?_
          refine q_callV2 (cv_X9_of ml_X9_81) hW kc_723 (by decide) rfl ⟨rfl, rfl⟩ rfl (Nat.le_of_ble_eq_true rfl) dX9_pool_104 (c_X9_of hW hm hp hx (nsub kn_15 kn_3 (by decide)) (by omega)) (fun v_104 h_104 q_104 => ?_)
          obtain ⟨rfl, z9⟩ := q_104
          replace z9 := z9.symm
          subst z9
          refine r_iret dX9_pool_107 rfl ⟨Nat.zero_le _, Nat.zero_le _⟩ ?_
          first
            | (have ko : okP r x = false := bn1 c_5
               exact ⟨by rw [ko]; rfl, fun q => absurd q (cd2_n1 ko)⟩)
            | (have kr : rgB 0 20 y = false := bI_0.mp c_16
               have kr9 : rgB 0 20 y = false := by
                 try unfold fP
                 try rw [ex]
                 exact kr
               exact ⟨by rw [ko, kr9]; exact sI_2, fun q => absurd q (cd2_n2 ko kr9)⟩)
            | (refine ⟨by rw [ko]; rfl, fun _ => ?_⟩
               try unfold fP
               try unfold gP
               try unfold tP
               try rw [ex]
               refine some_int ?_
               unfold plA
               first
                 | rfl
                 | (unfold fP; rw [ex]; rfl)
               all_goals rfl)
        · rw [hy]
          refine r_tabOut 99 dX9_pool_34 (by decide) (by decide) ?_
          refine r_aload_n dX9_pool_99 rfl ?_
          refine r_iload_n dX9_pool_100 rfl ?_
          refine r_iload_n dX9_pool_101 rfl ?_
          refine r_iconst (3) dX9_pool_102 (by decide) ?_
          refine r_isub dX9_pool_103 ?_
          refine q_callV2 (cv_X9_of ml_X9_81) hW kc_723 (by decide) rfl ⟨rfl, rfl⟩ rfl (Nat.le_of_ble_eq_true rfl) dX9_pool_104 (c_X9_of hW hm hp hx (nsub kn_16 kn_3 (by decide)) (by omega)) (fun v_104 h_104 q_104 => ?_)
          obtain ⟨rfl, z9⟩ := q_104
          replace z9 := z9.symm
          subst z9
          refine r_iret dX9_pool_107 rfl ⟨Nat.zero_le _, Nat.zero_le _⟩ ?_
          first
            | (have ko : okP r x = false := bn1 c_5
               exact ⟨by rw [ko]; rfl, fun q => absurd q (cd2_n1 ko)⟩)
            | (have kr : rgB 0 20 y = false := bI_0.mp c_16
               have kr9 : rgB 0 20 y = false := by
                 try unfold fP
                 try rw [ex]
                 exact kr
               exact ⟨by rw [ko, kr9]; exact sI_2, fun q => absurd q (cd2_n2 ko kr9)⟩)
            | (refine ⟨by rw [ko]; rfl, fun _ => ?_⟩
               try unfold fP
               try unfold gP
               try unfold tP
               try rw [ex]
               refine some_int ?_
               unfold plA
               first
                 | rfl
                 | (unfold fP; rw [ex]; rfl)
               all_goals rfl)
        · rw [hy]
          refine r_tabOut 99 dX9_pool_34 (by decide) (by decide) ?_
          refine r_aload_n dX9_pool_99 rfl ?_
          refine r_iload_n dX9_pool_100 rfl ?_
          refine r_iload_n dX9_pool_101 rfl ?_
          refine r_iconst (3) dX9_pool_102 (by decide) ?_
          refine r_isub dX9_pool_103 ?_
          refine q_callV2 (cv_X9_of ml_X9_81) hW kc_723 (by decide) rfl ⟨rfl, rfl⟩ rfl (Nat.le_of_ble_eq_true rfl) dX9_pool_104 (c_X9_of hW hm hp hx (nsub kn_17 kn_3 (by decide)) (by omega)) (fun v_104 h_104 q_104 => ?_)
          obtain ⟨rfl, z9⟩ := q_104
          replace z9 := z9.symm
          subst z9
          refine r_iret dX9_pool_107 rfl ⟨Nat.zero_le _, Nat.zero_le _⟩ ?_
          first
            | (have ko : okP r x = false := bn1 c_5
               exact ⟨by rw [ko]; rfl, fun q => absurd q (cd2_n1 ko)⟩)
            | (have kr : rgB 0 20 y = false := bI_0.mp c_16
               have kr9 : rgB 0 20 y = false := by
                 try unfold fP
                 try rw [ex]
                 exact kr
               exact ⟨by rw [ko, kr9]; exact sI_2, fun q => absurd q (cd2_n2 ko kr9)⟩)
            | (refine ⟨by rw [ko]; rfl, fun _ => ?_⟩
               try unfold fP
               try unfold gP
               try unfold tP
               try rw [ex]
               refine some_int ?_
               unfold plA
               first
                 | rfl
                 | (unfold fP; rw [ex]; rfl)
               all_goals rfl)
        · rw [hy]
          refine r_tabOut 99 dX9_pool_34 (by decide) (by decide) ?_
          refine r_aload_n dX9_pool_99 rfl ?_
          refine r_iload_n dX9_pool_100 rfl ?_
          refine r_iload_n dX9_pool_101 rfl ?_
          refine r_iconst (3) dX9_pool_102 (by decide) ?_
          refine r_isub dX9_pool_103 ?_
          refine q_callV2 (cv_X9_of ml_X9_81) hW kc_723 (by decide) rfl ⟨rfl, rfl⟩ rfl (Nat.le_of_ble_eq_true rfl) dX9_pool_104 (c_X9_of hW hm hp hx (nsub kn_18 kn_3 (by decide)) (by omega)) (fun v_104 h_104 q_104 => ?_)
          obtain ⟨rfl, z9⟩ := q_104
          replace z9 := z9.symm
          subst z9
          refine r_iret dX9_pool_107 rfl ⟨Nat.zero_le _, Nat.zero_le _⟩ ?_
          first
            | (have ko : okP r x = false := bn1 c_5
               exact ⟨by rw [ko]; rfl, fun q => absurd q (cd2_n1 ko)⟩)
            | (have kr : rgB 0 20 y = false := bI_0.mp c_16
               have kr9 : rgB 0 20 y = false := by
                 try unfold fP
                 try rw [ex]
                 exact kr
               exact ⟨by rw [ko, kr9]; exact sI_2, fun q => absurd q (cd2_n2 ko kr9)⟩)
            | (refine ⟨by rw [ko]; rfl, fun _ => ?_⟩
               try unfold fP
               try unfold gP
               try unfold tP
               try rw [ex]
               refine some_int ?_
               unfold plA
               first
                 | rfl
                 | (unfold fP; rw [ex]; rfl)
               all_goals rfl)
        · rw [hy]
          refine r_tabOut 99 dX9_pool_34 (by decide) (by decide) ?_
          refine r_aload_n dX9_pool_99 rfl ?_
          refine r_iload_n dX9_pool_100 rfl ?_
          refine r_iload_n dX9_pool_101 rfl ?_
          refine r_iconst (3) dX9_pool_102 (by decide) ?_
          refine r_isub dX9_pool_103 ?_
          refine q_callV2 (cv_X9_of ml_X9_81) hW kc_723 (by decide) rfl ⟨rfl, rfl⟩ rfl (Nat.le_of_ble_eq_true rfl) dX9_pool_104 (c_X9_of hW hm hp hx (nsub kn_19 kn_3 (by decide)) (by omega)) (fun v_104 h_104 q_104 => ?_)
          obtain ⟨rfl, z9⟩ := q_104
          replace z9 := z9.symm
          subst z9
          refine r_iret dX9_pool_107 rfl ⟨Nat.zero_le _, Nat.zero_le _⟩ ?_
          first
            | (have ko : okP r x = false := bn1 c_5
               exact ⟨by rw [ko]; rfl, fun q => absurd q (cd2_n1 ko)⟩)
            | (have kr : rgB 0 20 y = false := bI_0.mp c_16
               have kr9 : rgB 0 20 y = false := by
                 try unfold fP
                 try rw [ex]
                 exact kr
               exact ⟨by rw [ko, kr9]; exact sI_2, fun q => absurd q (cd2_n2 ko kr9)⟩)
            | (refine ⟨by rw [ko]; rfl, fun _ => ?_⟩
               try unfold fP
               try unfold gP
               try unfold tP
               try rw [ex]
               refine some_int ?_
               unfold plA
               first
                 | rfl
                 | (unfold fP; rw [ex]; rfl)
               all_goals rfl)
        · rw [hy]
          refine r_tabOut 99 dX9_pool_34 (by decide) (by decide) ?_
          refine r_aload_n dX9_pool_99 rfl ?_
          refine r_iload_n dX9_pool_100 rfl ?_
          refine r_iload_n dX9_pool_101 rfl ?_
          refine r_iconst (3) dX9_pool_102 (by decide) ?_
          refine r_isub dX9_pool_103 ?_
          refine q_callV2 (cv_X9_of ml_X9_81) hW kc_723 (by decide) rfl ⟨rfl, rfl⟩ rfl (Nat.le_of_ble_eq_true rfl) dX9_pool_104 (c_X9_of hW hm hp hx (nsub kn_20 kn_3 (by decide)) (by omega)) (fun v_104 h_104 q_104 => ?_)
          obtain ⟨rfl, z9⟩ := q_104
          replace z9 := z9.symm
          subst z9
          refine r_iret dX9_pool_107 rfl ⟨Nat.zero_le _, Nat.zero_le _⟩ ?_
          first
            | (have ko : okP r x = false := bn1 c_5
               exact ⟨by rw [ko]; rfl, fun q => absurd q (cd2_n1 ko)⟩)
            | (have kr : rgB 0 20 y = false := bI_0.mp c_16
               have kr9 : rgB 0 20 y = false := by
                 try unfold fP
                 try rw [ex]
                 exact kr
               exact ⟨by rw [ko, kr9]; exact sI_2, fun q => absurd q (cd2_n2 ko kr9)⟩)
            | (refine ⟨by rw [ko]; rfl, fun _ => ?_⟩
               try unfold fP
               try unfold gP
               try unfold tP
               try rw [ex]
               refine some_int ?_
               unfold plA
               first
                 | rfl
                 | (unfold fP; rw [ex]; rfl)
               all_goals rfl)
      · first | exact absurd c_28 (by decide) | exact absurd (by decide) c_28
    · refine r_iconst (1) dX9_pool_19 (by decide) ?_
      refine r_goto 24 dX9_pool_20 (by decide) ?_
      refine r_iconst (2) dX9_pool_24 (by decide) ?_
      refine q_callV2 (cv_X9_fails ml_X9_302) hW kc_723 (by decide) rfl ⟨rfl, rfl⟩ rfl (Nat.le_of_ble_eq_true rfl) dX9_pool_25 (c_X9_fails1 hW) (fun v_25 h_25 q_25 => ?_)
      obtain ⟨rfl, z9⟩ := q_25
      replace z9 := z9.symm
      subst z9
      replace hm := hm.s9 (k := 12) (x := 2)
      refine r_if_eq 33 dX9_pool_28 (by decide) (fun c_28 => ?_) (fun c_28 => ?_)
      · first | exact absurd c_28 (by decide) | exact absurd (by decide) c_28
      · refine r_iconst (0) dX9_pool_31 (by decide) ?_
        refine r_iret dX9_pool_32 rfl ⟨Nat.zero_le _, Nat.zero_le _⟩ ?_
        first
          | (have ko : okP r x = false := bn1 c_5
             exact ⟨by rw [ko]; rfl, fun q => absurd q (cd2_n1 ko)⟩)
          | (have kr : rgB 0 20 y = false := bI_0.mp c_16
             have kr9 : rgB 0 20 y = false := by
               try unfold fP
               try rw [ex]
               exact kr
             exact ⟨by rw [ko, kr9]; exact sI_2, fun q => absurd q (cd2_n2 ko kr9)⟩)
          | (refine ⟨by rw [ko]; rfl, fun _ => ?_⟩
             try unfold fP
             try unfold gP
             try unfold tP
             try rw [ex]
             refine some_int ?_
             unfold plA
             first
               | rfl
               | (unfold fP; rw [ex]; rfl)
             all_goals rfl)

set_option maxRecDepth 100000 in
set_option maxHeartbeats 4000000 in
theorem c_X9_member {l9 : Launch} {G : GC} {h : AH} {r : Row} {m : Nat} {x y : Int32} (hW : World h) (hm : MW h r) (hO : RoOK r.1 r.2 m) (hm28 : m < 2 ^ 28) : PM l9 G mX9_member NT NT [.ref 723, .int x, .int y] h (fun v h' => RQ h h' (cd2 (rgB 0 4 y) (mbP r x).isSome) ∧ (cd2 (rgB 0 4 y) (mbP r x).isSome = 0 → v = some (.int (mbAo r x y)))) noX := by
  refine PM.of (by decide +kernel) rfl rfl (Nat.le_of_ble_eq_true rfl) (fun hst _ => ?_)
  refine r_aload_n dX9_member_0 rfl ?_
  refine r_iconst (0) dX9_member_1 (by decide) ?_
  refine q_putM fl_X9_61 hW hm rfl rfl dX9_member_2 (fun hm => ?_)
  refine r_aload_n dX9_member_5 rfl ?_
  refine r_iload_n dX9_member_6 rfl ?_
  refine r_iconst (0) dX9_member_7 (by decide) ?_
  refine r_iconst (4) dX9_member_8 (by decide) ?_
  refine q_callS3 (cs_X9_inRange ml_X9_167) ⟨rfl, rfl⟩ rfl (Nat.le_of_ble_eq_true rfl) dX9_member_9 c_X9_inRange (fun v_9 h_9 q_9 => ?_)
  obtain ⟨rfl, z9⟩ := q_9
  replace z9 := z9.symm
  subst z9
  refine r_if_ne 19 dX9_member_12 (by decide) (fun c_12 => ?_) (fun c_12 => ?_)
  · refine r_iconst (0) dX9_member_19 (by decide) ?_
    refine r_iconst (1) dX9_member_20 (by decide) ?_
    refine q_callV2 (cv_X9_fails ml_X9_302) hW kc_723 (by decide) rfl ⟨rfl, rfl⟩ rfl (Nat.le_of_ble_eq_true rfl) dX9_member_21 (c_X9_fails0 hW) (fun v_21 h_21 q_21 => ?_)
    obtain ⟨rfl, z9⟩ := q_21
    replace z9 := z9.symm
    subst z9
    refine r_if_ne 48 dX9_member_24 (by decide) (fun c_24 => ?_) (fun c_24 => ?_)
    · first | exact absurd c_24 (by decide) | exact absurd (by decide) c_24
    · refine r_aload_n dX9_member_27 rfl ?_
      refine r_aload_n dX9_member_28 rfl ?_
      refine r_iload_n dX9_member_29 rfl ?_
      refine q_callV1 (cv_X9_finds ml_X9_321) hW kc_723 (by decide) rfl ⟨rfl, rfl⟩ rfl (Nat.le_of_ble_eq_true rfl) dX9_member_30 (c_X9_finds hW hm hO hm28) (fun v_30 h_30 q_30 => ?_)
      obtain ⟨rfl, z9⟩ := q_30
      replace z9 := z9.symm
      subst z9
      replace hm := hm.fdH (r := r) (x := x)
      replace hW : World (fdH (sI h 723 12 0) r x) := World.fdH (wsI hW)
      refine r_if_ne 40 dX9_member_33 (by decide) (fun c_33 => ?_) (fun c_33 => ?_)
      · refine r_iconst (0) dX9_member_40 (by decide) ?_
        refine r_iconst (2) dX9_member_41 (by decide) ?_
        refine q_callV2 (cv_X9_fails ml_X9_302) hW kc_723 (by decide) rfl ⟨rfl, rfl⟩ rfl (Nat.le_of_ble_eq_true rfl) dX9_member_42 (c_X9_fails0 hW) (fun v_42 h_42 q_42 => ?_)
        obtain ⟨rfl, z9⟩ := q_42
        replace z9 := z9.symm
        subst z9
        refine r_if_eq 50 dX9_member_45 (by decide) (fun c_45 => ?_) (fun c_45 => ?_)
        · have kr : rgB 0 4 y = true := bI_1.mp c_12
          have kf : (mbP r x).isSome = true := bI_1.mp c_33
          rw [cd2_t kr kf]
          obtain ⟨p, hp9⟩ : ∃ p, mbP r x = some p := by
            cases hq : mbP r x with
            | none => rw [hq] at kf; cases kf
            | some p => exact ⟨p, rfl⟩
          obtain ⟨zp, k9, zk, zl⟩ := mb_some hp9
          have zkl := plS_lt zl
          obtain ⟨np, n4, n3, en⟩ := hO.np
          have hp : p < 4 := by omega
          have hOr := hO
          replace hO := hO.2 p zp
          have y23 : nn (getP r.1 p 23) ≤ 20 := (hO.at 23).2.2
          rw [fdH_s hp9 zk] at hW hm ⊢
          have hoA : mbAo r x y = mbV r p k9 (nn y) := by unfold mbAo; rw [hp9, zk]
          rw [hoA]
          replace hm := hm.pv p
          have ei : ∀ H : AH, aI (sI (sI H 723 25 (nI p)) 723 26 (nI k9)) 723 25 = nI p := fun H => by rw [sI_k (by decide), sI_s]
          have ek9 : ∀ H : AH, aI (sI (sI H 723 25 (nI p)) 723 26 (nI k9)) 723 26 = nI k9 := fun H => sI_s
          have hRQ : RQ h (sI (sI (sI h 723 12 0) 723 25 (nI p)) 723 26 (nI k9)) 0 := ⟨((eqx.rf.sI (S := fun i => i = 723) rfl).sI rfl).sI rfl, by rw [sI_k (by decide), sI_k (by decide), sI_s]; rfl, fun k k1 k2 k3 => by rw [sI_k k3, sI_k k2, sI_k k1]⟩
          obtain ⟨j, j1, j2, hy⟩ := rgB_t (a := 0) (b := 4) kr (by decide) (by decide)
          refine r_iload_n dX9_member_50 rfl ?_
          rcases (show j = 0 ∨ j = 1 ∨ j = 2 ∨ j = 3 ∨ j = 4 from by omega) with rfl | rfl | rfl | rfl | rfl
          · rw [hy]
            refine r_tabIn 80 dX9_member_51 (by decide) (by decide) rfl (by decide) ?_
            refine r_aload_n dX9_member_80 rfl ?_
            refine q_getI fl_X9_315 hW kc_723 rfl dX9_member_81 ?_
            rw [ei]
            refine r_iret dX9_member_84 rfl ⟨Nat.zero_le _, Nat.zero_le _⟩ ?_
            refine ⟨hRQ, fun _ => ?_⟩
            rw [nn_I (by decide)]
            refine some_int ?_
            unfold mbV
            first
              | rfl
              | exact congrArg (getP r.1 p) (show 100 + 4 * k9 + 1 = 101 + 4 * k9 from by omega)
              | exact congrArg (getP r.1 p) (show 100 + 4 * k9 + 2 = 102 + 4 * k9 from by omega)
              | exact (bI_1' c_117).symm
              | exact (bI_0' c_117).symm
              | exact (bI_1' c_138).symm
              | exact (bI_0' c_138).symm
          · rw [hy]
            refine r_tabIn 85 dX9_member_51 (by decide) (by decide) rfl (by decide) ?_
            refine r_aload_n dX9_member_85 rfl ?_
            refine r_aload_n dX9_member_86 rfl ?_
            refine q_getI fl_X9_315 hW kc_723 rfl dX9_member_87 ?_
            rw [ei]
            refine r_bipush (100) dX9_member_90 (by decide) ?_
            refine r_iconst (4) dX9_member_92 (by decide) ?_
            refine r_aload_n dX9_member_93 rfl ?_
            refine q_getI fl_X9_318 hW kc_723 rfl dX9_member_94 ?_
            rw [ek9]
            refine r_imul dX9_member_97 ?_
            refine r_iadd dX9_member_98 ?_
            refine r_iload_n dX9_member_99 rfl ?_
            refine r_iadd dX9_member_100 ?_
            refine q_callV2 (cv_X9_of ml_X9_81) hW kc_723 (by decide) rfl ⟨rfl, rfl⟩ rfl (Nat.le_of_ble_eq_true rfl) dX9_member_101 (c_X9_of hW hm hp rfl (nadd (nadd kn_100 (nmul kn_4 rfl)) rfl) (by omega)) (fun v_101 h_101 q_101 => ?_)
            obtain ⟨rfl, z9⟩ := q_101
            replace z9 := z9.symm
            subst z9
            refine r_iret dX9_member_104 rfl ⟨Nat.zero_le _, Nat.zero_le _⟩ ?_
            refine ⟨hRQ, fun _ => ?_⟩
            rw [nn_I (by decide)]
            refine some_int ?_
            unfold mbV
            first
              | rfl
              | exact congrArg (getP r.1 p) (show 100 + 4 * k9 + 1 = 101 + 4 * k9 from by omega)
              | exact congrArg (getP r.1 p) (show 100 + 4 * k9 + 2 = 102 + 4 * k9 from by omega)
              | exact (bI_1' c_117).symm
              | exact (bI_0' c_117).symm
              | exact (bI_1' c_138).symm
              | exact (bI_0' c_138).symm
          · rw [hy]
            refine r_tabIn 85 dX9_member_51 (by decide) (by decide) rfl (by decide) ?_
            refine r_aload_n dX9_member_85 rfl ?_
            refine r_aload_n dX9_member_86 rfl ?_
            refine q_getI fl_X9_315 hW kc_723 rfl dX9_member_87 ?_
            rw [ei]
            refine r_bipush (100) dX9_member_90 (by decide) ?_
            refine r_iconst (4) dX9_member_92 (by decide) ?_
            refine r_aload_n dX9_member_93 rfl ?_
            refine q_getI fl_X9_318 hW kc_723 rfl dX9_member_94 ?_
            rw [ek9]
            refine r_imul dX9_member_97 ?_
            refine r_iadd dX9_member_98 ?_
            refine r_iload_n dX9_member_99 rfl ?_
            refine r_iadd dX9_member_100 ?_
            refine q_callV2 (cv_X9_of ml_X9_81) hW kc_723 (by decide) rfl ⟨rfl, rfl⟩ rfl (Nat.le_of_ble_eq_true rfl) dX9_member_101 (c_X9_of hW hm hp rfl (nadd (nadd kn_100 (nmul kn_4 rfl)) rfl) (by omega)) (fun v_101 h_101 q_101 => ?_)
            obtain ⟨rfl, z9⟩ := q_101
            replace z9 := z9.symm
            subst z9
            refine r_iret dX9_member_104 rfl ⟨Nat.zero_le _, Nat.zero_le _⟩ ?_
            refine ⟨hRQ, fun _ => ?_⟩
            rw [nn_I (by decide)]
            refine some_int ?_
            unfold mbV
            first
              | rfl
              | exact congrArg (getP r.1 p) (show 100 + 4 * k9 + 1 = 101 + 4 * k9 from by omega)
              | exact congrArg (getP r.1 p) (show 100 + 4 * k9 + 2 = 102 + 4 * k9 from by omega)
              | exact (bI_1' c_117).symm
              | exact (bI_0' c_117).symm
              | exact (bI_1' c_138).symm
              | exact (bI_0' c_138).symm
          · rw [hy]
            refine r_tabIn 105 dX9_member_51 (by decide) (by decide) rfl (by decide) ?_
            refine r_aload_n dX9_member_105 rfl ?_
            refine r_aload_n dX9_member_106 rfl ?_
            refine q_getI fl_X9_315 hW kc_723 rfl dX9_member_107 ?_
            rw [ei]
            refine r_aload_n dX9_member_110 rfl ?_
            refine q_getI fl_X9_318 hW kc_723 rfl dX9_member_111 ?_
            rw [ek9]
            refine q_callV2 (cv_X9_isReady ml_X9_91) hW kc_723 (by decide) rfl ⟨rfl, rfl⟩ rfl (Nat.le_of_ble_eq_true rfl) dX9_member_114 (c_X9_isReady hW hm hp rfl rfl (by omega)) (fun v_114 h_114 q_114 => ?_)
            obtain ⟨rfl, z9⟩ := q_114
            replace z9 := z9.symm
            subst z9
            refine r_if_eq 124 dX9_member_117 (by decide) (fun c_117 => ?_) (fun c_117 => ?_)
            · refine r_iconst (0) dX9_member_124 (by decide) ?_
              refine r_iret dX9_member_125 rfl ⟨Nat.zero_le _, Nat.zero_le _⟩ ?_
              refine ⟨hRQ, fun _ => ?_⟩
              rw [nn_I (by decide)]
              refine some_int ?_
              unfold mbV
              first
                | rfl
                | exact congrArg (getP r.1 p) (show 100 + 4 * k9 + 1 = 101 + 4 * k9 from by omega)
                | exact congrArg (getP r.1 p) (show 100 + 4 * k9 + 2 = 102 + 4 * k9 from by omega)
                | exact (bI_1' c_117).symm
                | exact (bI_0' c_117).symm
                | exact (bI_1' c_138).symm
                | exact (bI_0' c_138).symm
            · refine r_iconst (1) dX9_member_120 (by decide) ?_
              refine r_goto 125 dX9_member_121 (by decide) ?_
              refine r_iret dX9_member_125 rfl ⟨Nat.zero_le _, Nat.zero_le _⟩ ?_
              refine ⟨hRQ, fun _ => ?_⟩
              rw [nn_I (by decide)]
              refine some_int ?_
              unfold mbV
              first
                | rfl
                | exact congrArg (getP r.1 p) (show 100 + 4 * k9 + 1 = 101 + 4 * k9 from by omega)
                | exact congrArg (getP r.1 p) (show 100 + 4 * k9 + 2 = 102 + 4 * k9 from by omega)
                | exact (bI_1' c_117).symm
                | exact (bI_0' c_117).symm
                | exact (bI_1' c_138).symm
                | exact (bI_0' c_138).symm
          · rw [hy]
            refine r_tabOut 126 dX9_member_51 (by decide) (by decide) ?_
            refine r_aload_n dX9_member_126 rfl ?_
            refine r_aload_n dX9_member_127 rfl ?_
            refine q_getI fl_X9_315 hW kc_723 rfl dX9_member_128 ?_
            rw [ei]
            refine r_aload_n dX9_member_131 rfl ?_
            refine q_getI fl_X9_318 hW kc_723 rfl dX9_member_132 ?_
            rw [ek9]
            refine q_callV2 (cv_X9_isGuarded ml_X9_95) hW kc_723 (by decide) rfl ⟨rfl, rfl⟩ rfl (Nat.le_of_ble_eq_true rfl) dX9_member_135 (c_X9_isGuarded hW hm hp rfl rfl (by omega)) (fun v_135 h_135 q_135 => ?_)
            obtain ⟨rfl, z9⟩ := q_135
            replace z9 := z9.symm
            subst z9
            refine r_if_eq 145 dX9_member_138 (by decide) (fun c_138 => ?_) (fun c_138 => ?_)
            · refine r_iconst (0) dX9_member_145 (by decide) ?_
              refine r_iret dX9_member_146 rfl ⟨Nat.zero_le _, Nat.zero_le _⟩ ?_
              refine ⟨hRQ, fun _ => ?_⟩
              rw [nn_I (by decide)]
              refine some_int ?_
              unfold mbV
              first
                | rfl
                | exact congrArg (getP r.1 p) (show 100 + 4 * k9 + 1 = 101 + 4 * k9 from by omega)
                | exact congrArg (getP r.1 p) (show 100 + 4 * k9 + 2 = 102 + 4 * k9 from by omega)
                | exact (bI_1' c_117).symm
                | exact (bI_0' c_117).symm
                | exact (bI_1' c_138).symm
                | exact (bI_0' c_138).symm
            · refine r_iconst (1) dX9_member_141 (by decide) ?_
              refine r_goto 146 dX9_member_142 (by decide) ?_
              refine r_iret dX9_member_146 rfl ⟨Nat.zero_le _, Nat.zero_le _⟩ ?_
              refine ⟨hRQ, fun _ => ?_⟩
              rw [nn_I (by decide)]
              refine some_int ?_
              unfold mbV
              first
                | rfl
                | exact congrArg (getP r.1 p) (show 100 + 4 * k9 + 1 = 101 + 4 * k9 from by omega)
                | exact congrArg (getP r.1 p) (show 100 + 4 * k9 + 2 = 102 + 4 * k9 from by omega)
                | exact (bI_1' c_117).symm
                | exact (bI_0' c_117).symm
                | exact (bI_1' c_138).symm
                | exact (bI_0' c_138).symm
        · first | exact absurd c_45 (by decide) | exact absurd (by decide) c_45
      · refine r_iconst (1) dX9_member_36 (by decide) ?_
        refine r_goto 41 dX9_member_37 (by decide) ?_
        refine r_iconst (2) dX9_member_41 (by decide) ?_
        refine q_callV2 (cv_X9_fails ml_X9_302) hW kc_723 (by decide) rfl ⟨rfl, rfl⟩ rfl (Nat.le_of_ble_eq_true rfl) dX9_member_42 (c_X9_fails1 hW) (fun v_42 h_42 q_42 => ?_)
        obtain ⟨rfl, z9⟩ := q_42
        replace z9 := z9.symm
        subst z9
        replace hm := hm.s9 (k := 12) (x := 2)
        refine r_if_eq 50 dX9_member_45 (by decide) (fun c_45 => ?_) (fun c_45 => ?_)
        · first | exact absurd c_45 (by decide) | exact absurd (by decide) c_45
        · refine r_iconst (0) dX9_member_48 (by decide) ?_
          refine r_iret dX9_member_49 rfl ⟨Nat.zero_le _, Nat.zero_le _⟩ ?_
          first
            | (have kr : rgB 0 4 y = false := bI_0.mp c_12
               rw [sI_2, kr]
               exact ⟨RQ.of, fun q => absurd q (cd2_n1 rfl)⟩)
            | (have kr : rgB 0 4 y = true := bI_1.mp c_12
               have kf : (mbP r x).isSome = false := bI_0.mp c_33
               have kn : mbP r x = none := by cases hq : mbP r x with | none => rfl | some p => rw [hq] at kf; cases kf
               rw [fdH_n kn, sI_2, kr, kf]
               exact ⟨RQ.of, fun q => absurd q (cd2_n2 rfl rfl)⟩)
  · refine r_iconst (1) dX9_member_15 (by decide) ?_
    refine r_goto 20 dX9_member_16 (by decide) ?_
    refine r_iconst (1) dX9_member_20 (by decide) ?_
    refine q_callV2 (cv_X9_fails ml_X9_302) hW kc_723 (by decide) rfl ⟨rfl, rfl⟩ rfl (Nat.le_of_ble_eq_true rfl) dX9_member_21 (c_X9_fails1 hW) (fun v_21 h_21 q_21 => ?_)
    obtain ⟨rfl, z9⟩ := q_21
    replace z9 := z9.symm
    subst z9
    replace hm := hm.s9 (k := 12) (x := 1)
    refine r_if_ne 48 dX9_member_24 (by decide) (fun c_24 => ?_) (fun c_24 => ?_)
    · refine r_iconst (0) dX9_member_48 (by decide) ?_
      refine r_iret dX9_member_49 rfl ⟨Nat.zero_le _, Nat.zero_le _⟩ ?_
      first
        | (have kr : rgB 0 4 y = false := bI_0.mp c_12
           rw [sI_2, kr]
           exact ⟨RQ.of, fun q => absurd q (cd2_n1 rfl)⟩)
        | (have kr : rgB 0 4 y = true := bI_1.mp c_12
           have kf : (mbP r x).isSome = false := bI_0.mp c_33
           have kn : mbP r x = none := by cases hq : mbP r x with | none => rfl | some p => rw [hq] at kf; cases kf
           rw [fdH_n kn, sI_2, kr, kf]
           exact ⟨RQ.of, fun q => absurd q (cd2_n2 rfl rfl)⟩)
    · first | exact absurd c_24 (by decide) | exact absurd (by decide) c_24

set_option maxRecDepth 100000 in
set_option maxHeartbeats 4000000 in
theorem c_X9_memberAt {l9 : Launch} {G : GC} {h : AH} {r : Row} {m : Nat} {x y : Int32} (hW : World h) (hm : MW h r) (hO : RoOK r.1 r.2 m) (hm28 : m < 2 ^ 28) : PM l9 G mX9_memberAt NT NT [.ref 723, .int x, .int y] h (fun v h' => h' = sI h 723 12 (nI (cd2 (okP r x) (ltB (fP r x 23) y))) ∧ (cd2 (okP r x) (ltB (fP r x 23) y) = 0 → v = some (.int (fP r x (100 + 4 * nn y))))) noX := by
  refine PM.of (by decide +kernel) rfl rfl (Nat.le_of_ble_eq_true rfl) (fun hst _ => ?_)
  refine r_aload_n dX9_memberAt_0 rfl ?_
  refine r_iload_n dX9_memberAt_1 rfl ?_
  refine q_callV1 (cv_X9_noPool ml_X9_309) hW kc_723 (by decide) rfl ⟨rfl, rfl⟩ rfl (Nat.le_of_ble_eq_true rfl) dX9_memberAt_2 (c_X9_noPool hW hm hO) (fun v_2 h_2 q_2 => ?_)
  obtain ⟨rfl, z9⟩ := q_2
  subst z9
  have hW : World (sI h 723 12 (nI (cd1 (okP r x)))) := wsI hW
  replace hm := hm.s9 (k := 12) (x := nI (cd1 (okP r x)))
  refine r_if_ne 38 dX9_memberAt_5 (by decide) (fun c_5 => ?_) (fun c_5 => ?_)
  · refine r_iconst (0) dX9_memberAt_38 (by decide) ?_
    refine r_iret dX9_memberAt_39 rfl ⟨Nat.zero_le _, Nat.zero_le _⟩ ?_
    first
      | (have ko : okP r x = false := bn1 c_5
         exact ⟨by rw [ko]; rfl, fun q => absurd q (cd2_n1 ko)⟩)
      | (have kr : ltB (getP r.1 p 23) y = false := bI_0.mp c_23
         have kr9 : ltB (fP r x 23) y = false := by
           try unfold fP
           try rw [ex]
           exact kr
         exact ⟨by rw [ko, kr9]; exact sI_2, fun q => absurd q (cd2_n2 ko kr9)⟩)
      | (refine ⟨by rw [ko]; rfl, fun _ => ?_⟩
         try unfold fP
         try unfold gP
         try unfold tP
         try rw [ex]
         rw [ekn]
         all_goals rfl)
  · have ko : okP r x = true := bn0 c_5
    obtain ⟨p, hp, pn, hx⟩ := okP_t hO ko
    have ex : nn x = p := by rw [hx]; exact nn_I (by omega)
    have hmw := hm
    have hOr := hO
    replace hO := hO.2 p pn
    replace hm := hm.pv p
    refine r_aload_n dX9_memberAt_8 rfl ?_
    refine r_iload_n dX9_memberAt_9 rfl ?_
    refine r_iconst (0) dX9_memberAt_10 (by decide) ?_
    refine r_aload_n dX9_memberAt_11 rfl ?_
    refine r_iload_n dX9_memberAt_12 rfl ?_
    refine r_bipush (23) dX9_memberAt_13 (by decide) ?_
    refine q_callV2 (cv_X9_of ml_X9_81) hW kc_723 (by decide) rfl ⟨rfl, rfl⟩ rfl (Nat.le_of_ble_eq_true rfl) dX9_memberAt_15 (c_X9_of hW hm hp hx kn_23 (by omega)) (fun v_15 h_15 q_15 => ?_)
    obtain ⟨rfl, z9⟩ := q_15
    replace z9 := z9.symm
    subst z9
    refine r_iconst (1) dX9_memberAt_18 (by decide) ?_
    refine r_isub dX9_memberAt_19 ?_
    refine q_callS3 (cs_X9_inRange ml_X9_167) ⟨rfl, rfl⟩ rfl (Nat.le_of_ble_eq_true rfl) dX9_memberAt_20 c_X9_inRange (fun v_20 h_20 q_20 => ?_)
    obtain ⟨rfl, z9⟩ := q_20
    replace z9 := z9.symm
    subst z9
    have y23 : nn (getP r.1 p 23) ≤ 20 := (hO.at 23).2.2
    rw [inR1 (hO.at 23).1 (by omega)]
    refine r_if_ne 30 dX9_memberAt_23 (by decide) (fun c_23 => ?_) (fun c_23 => ?_)
    · refine r_iconst (0) dX9_memberAt_30 (by decide) ?_
      refine r_iconst (2) dX9_memberAt_31 (by decide) ?_
      refine q_callV2 (cv_X9_fails ml_X9_302) hW kc_723 (by decide) rfl ⟨rfl, rfl⟩ rfl (Nat.le_of_ble_eq_true rfl) dX9_memberAt_32 (c_X9_fails0 hW) (fun v_32 h_32 q_32 => ?_)
      obtain ⟨rfl, z9⟩ := q_32
      replace z9 := z9.symm
      subst z9
      refine r_if_eq 40 dX9_memberAt_35 (by decide) (fun c_35 => ?_) (fun c_35 => ?_)
      · have kr : ltB (getP r.1 p 23) y = true := bI_1.mp c_23
        have c0 : cd2 (okP r x) (ltB (fP r x 23) y) = 0 := cd2_t ko (by (try unfold fP); (try rw [ex]); exact kr)
        rw [c0]
        obtain ⟨k, k1, ek⟩ := ltB_t (hO.at 23).1 (by omega) kr
        have ekn : nn y = k := by rw [ek]; exact nn_I (by omega)
        refine r_aload_n dX9_memberAt_40 rfl ?_
        refine r_iload_n dX9_memberAt_41 rfl ?_
        refine r_bipush (100) dX9_memberAt_42 (by decide) ?_
        refine r_iconst (4) dX9_memberAt_44 (by decide) ?_
        refine r_iload_n dX9_memberAt_45 rfl ?_
        refine r_imul dX9_memberAt_46 ?_
        refine r_iadd dX9_memberAt_47 ?_
        refine q_callV2 (cv_X9_of ml_X9_81) hW kc_723 (by decide) rfl ⟨rfl, rfl⟩ rfl (Nat.le_of_ble_eq_true rfl) dX9_memberAt_48 (c_X9_of hW hm hp hx (nadd kn_100 (nmul kn_4 ek)) (by omega)) (fun v_48 h_48 q_48 => ?_)
        obtain ⟨rfl, z9⟩ := q_48
        replace z9 := z9.symm
        subst z9
        refine r_iret dX9_memberAt_51 rfl ⟨Nat.zero_le _, Nat.zero_le _⟩ ?_
        first
          | (have ko : okP r x = false := bn1 c_5
             exact ⟨by rw [ko]; rfl, fun q => absurd q (cd2_n1 ko)⟩)
          | (have kr : ltB (getP r.1 p 23) y = false := bI_0.mp c_23
             have kr9 : ltB (fP r x 23) y = false := by
               try unfold fP
               try rw [ex]
               exact kr
             exact ⟨by rw [ko, kr9]; exact sI_2, fun q => absurd q (cd2_n2 ko kr9)⟩)
          | (refine ⟨by rw [ko]; rfl, fun _ => ?_⟩
             try unfold fP
             try unfold gP
             try unfold tP
             try rw [ex]
             rw [ekn]
             all_goals rfl)
      · first | exact absurd c_35 (by decide) | exact absurd (by decide) c_35
    · refine r_iconst (1) dX9_memberAt_26 (by decide) ?_
      refine r_goto 31 dX9_memberAt_27 (by decide) ?_
      refine r_iconst (2) dX9_memberAt_31 (by decide) ?_
      refine q_callV2 (cv_X9_fails ml_X9_302) hW kc_723 (by decide) rfl ⟨rfl, rfl⟩ rfl (Nat.le_of_ble_eq_true rfl) dX9_memberAt_32 (c_X9_fails1 hW) (fun v_32 h_32 q_32 => ?_)
      obtain ⟨rfl, z9⟩ := q_32
      replace z9 := z9.symm
      subst z9
      replace hm := hm.s9 (k := 12) (x := 2)
      refine r_if_eq 40 dX9_memberAt_35 (by decide) (fun c_35 => ?_) (fun c_35 => ?_)
      · first | exact absurd c_35 (by decide) | exact absurd (by decide) c_35
      · refine r_iconst (0) dX9_memberAt_38 (by decide) ?_
        refine r_iret dX9_memberAt_39 rfl ⟨Nat.zero_le _, Nat.zero_le _⟩ ?_
        first
          | (have ko : okP r x = false := bn1 c_5
             exact ⟨by rw [ko]; rfl, fun q => absurd q (cd2_n1 ko)⟩)
          | (have kr : ltB (getP r.1 p 23) y = false := bI_0.mp c_23
             have kr9 : ltB (fP r x 23) y = false := by
               try unfold fP
               try rw [ex]
               exact kr
             exact ⟨by rw [ko, kr9]; exact sI_2, fun q => absurd q (cd2_n2 ko kr9)⟩)
          | (refine ⟨by rw [ko]; rfl, fun _ => ?_⟩
             try unfold fP
             try unfold gP
             try unfold tP
             try rw [ex]
             rw [ekn]
             all_goals rfl)

set_option maxRecDepth 100000 in
set_option maxHeartbeats 4000000 in
theorem c_X9_demand {l9 : Launch} {G : GC} {h : AH} {r : Row} {m : Nat} {x y : Int32} (hW : World h) (hm : MW h r) (hO : RoOK r.1 r.2 m) (hm28 : m < 2 ^ 28) : PM l9 G mX9_demand NT NT [.ref 723, .int x, .int y] h (fun v h' => h' = sI h 723 12 (nI (cd2 (okP r x) (ltB (kpD r) y))) ∧ (cd2 (okP r x) (ltB (kpD r) y) = 0 → v = some (.int (bk (fP r x) (tP r) (nn y))))) noX := by
  refine PM.of (by decide +kernel) rfl rfl (Nat.le_of_ble_eq_true rfl) (fun hst _ => ?_)
  refine r_aload_n dX9_demand_0 rfl ?_
  refine r_iload_n dX9_demand_1 rfl ?_
  refine q_callV1 (cv_X9_noPool ml_X9_309) hW kc_723 (by decide) rfl ⟨rfl, rfl⟩ rfl (Nat.le_of_ble_eq_true rfl) dX9_demand_2 (c_X9_noPool hW hm hO) (fun v_2 h_2 q_2 => ?_)
  obtain ⟨rfl, z9⟩ := q_2
  subst z9
  have hW : World (sI h 723 12 (nI (cd1 (okP r x)))) := wsI hW
  replace hm := hm.s9 (k := 12) (x := nI (cd1 (okP r x)))
  refine r_if_ne 36 dX9_demand_5 (by decide) (fun c_5 => ?_) (fun c_5 => ?_)
  · refine r_iconst (0) dX9_demand_36 (by decide) ?_
    refine r_iret dX9_demand_37 rfl ⟨Nat.zero_le _, Nat.zero_le _⟩ ?_
    first
      | (have ko : okP r x = false := bn1 c_5
         exact ⟨by rw [ko]; rfl, fun q => absurd q (cd2_n1 ko)⟩)
      | (have kr : ltB (kpD r) y = false := bI_0.mp c_21
         have kr9 : ltB (kpD r) y = false := by
           try unfold fP
           try rw [ex]
           exact kr
         exact ⟨by rw [ko, kr9]; exact sI_2, fun q => absurd q (cd2_n2 ko kr9)⟩)
      | (refine ⟨by rw [ko]; rfl, fun _ => ?_⟩
         try unfold fP
         try unfold gP
         try unfold tP
         try rw [ex]
         rw [ekn]
         all_goals rfl)
  · have ko : okP r x = true := bn0 c_5
    obtain ⟨p, hp, pn, hx⟩ := okP_t hO ko
    have ex : nn x = p := by rw [hx]; exact nn_I (by omega)
    have hmw := hm
    have hOr := hO
    replace hO := hO.2 p pn
    replace hm := hm.pv p
    refine r_aload_n dX9_demand_8 rfl ?_
    refine r_iload_n dX9_demand_9 rfl ?_
    refine r_iconst (0) dX9_demand_10 (by decide) ?_
    refine r_aload_n dX9_demand_11 rfl ?_
    refine r_iload_n dX9_demand_12 rfl ?_
    refine q_callV1 (cv_X9_knownDemands ml_X9_324) hW kc_723 (by decide) rfl ⟨rfl, rfl⟩ rfl (Nat.le_of_ble_eq_true rfl) dX9_demand_13 (c_X9_knownDemands hW hm hp hO hx) (fun v_13 h_13 q_13 => ?_)
    obtain ⟨rfl, z9⟩ := q_13
    replace z9 := z9.symm
    subst z9
    refine r_iconst (1) dX9_demand_16 (by decide) ?_
    refine r_isub dX9_demand_17 ?_
    refine q_callS3 (cs_X9_inRange ml_X9_167) ⟨rfl, rfl⟩ rfl (Nat.le_of_ble_eq_true rfl) dX9_demand_18 c_X9_inRange (fun v_18 h_18 q_18 => ?_)
    obtain ⟨rfl, z9⟩ := q_18
    replace z9 := z9.symm
    subst z9
    have yc := hO.2.2.2.2.1.2.1
    have y24 : min 24 (nn (r.1 1)) ≤ 24 := Nat.min_le_left _ _
    rw [inR1 rfl (by omega), show ltB (nI (min 24 (nn (r.1 1)))) y = ltB (kpD r) y from rfl]
    refine r_if_ne 28 dX9_demand_21 (by decide) (fun c_21 => ?_) (fun c_21 => ?_)
    · refine r_iconst (0) dX9_demand_28 (by decide) ?_
      refine r_iconst (2) dX9_demand_29 (by decide) ?_
      refine q_callV2 (cv_X9_fails ml_X9_302) hW kc_723 (by decide) rfl ⟨rfl, rfl⟩ rfl (Nat.le_of_ble_eq_true rfl) dX9_demand_30 (c_X9_fails0 hW) (fun v_30 h_30 q_30 => ?_)
      obtain ⟨rfl, z9⟩ := q_30
      replace z9 := z9.symm
      subst z9
      refine r_if_eq 38 dX9_demand_33 (by decide) (fun c_33 => ?_) (fun c_33 => ?_)
      · have kr : ltB (kpD r) y = true := bI_1.mp c_21
        have c0 : cd2 (okP r x) (ltB (kpD r) y) = 0 := cd2_t ko (by (try unfold fP); (try rw [ex]); exact kr)
        rw [c0]
        obtain ⟨k, k1, ek⟩ := ltB_t (n := min 24 (nn (r.1 1))) rfl (by omega) kr
        have ekn : nn y = k := by rw [ek]; exact nn_I (by omega)
        refine r_aload_n dX9_demand_38 rfl ?_
        refine r_iload_n dX9_demand_39 rfl ?_
        refine r_iload_n dX9_demand_40 rfl ?_
        refine q_callV2 (cv_X9_back ml_X9_114) hW kc_723 (by decide) rfl ⟨rfl, rfl⟩ rfl (Nat.le_of_ble_eq_true rfl) dX9_demand_41 (c_X9_back hW hm hp hO hx ek (by omega)) (fun v_41 h_41 q_41 => ?_)
        obtain ⟨rfl, z9⟩ := q_41
        replace z9 := z9.symm
        subst z9
        refine r_iret dX9_demand_44 rfl ⟨Nat.zero_le _, Nat.zero_le _⟩ ?_
        first
          | (have ko : okP r x = false := bn1 c_5
             exact ⟨by rw [ko]; rfl, fun q => absurd q (cd2_n1 ko)⟩)
          | (have kr : ltB (kpD r) y = false := bI_0.mp c_21
             have kr9 : ltB (kpD r) y = false := by
               try unfold fP
               try rw [ex]
               exact kr
             exact ⟨by rw [ko, kr9]; exact sI_2, fun q => absurd q (cd2_n2 ko kr9)⟩)
          | (refine ⟨by rw [ko]; rfl, fun _ => ?_⟩
             try unfold fP
             try unfold gP
             try unfold tP
             try rw [ex]
             rw [ekn]
             all_goals rfl)
      · first | exact absurd c_33 (by decide) | exact absurd (by decide) c_33
    · refine r_iconst (1) dX9_demand_24 (by decide) ?_
      refine r_goto 29 dX9_demand_25 (by decide) ?_
      refine r_iconst (2) dX9_demand_29 (by decide) ?_
      refine q_callV2 (cv_X9_fails ml_X9_302) hW kc_723 (by decide) rfl ⟨rfl, rfl⟩ rfl (Nat.le_of_ble_eq_true rfl) dX9_demand_30 (c_X9_fails1 hW) (fun v_30 h_30 q_30 => ?_)
      obtain ⟨rfl, z9⟩ := q_30
      replace z9 := z9.symm
      subst z9
      replace hm := hm.s9 (k := 12) (x := 2)
      refine r_if_eq 38 dX9_demand_33 (by decide) (fun c_33 => ?_) (fun c_33 => ?_)
      · first | exact absurd c_33 (by decide) | exact absurd (by decide) c_33
      · refine r_iconst (0) dX9_demand_36 (by decide) ?_
        refine r_iret dX9_demand_37 rfl ⟨Nat.zero_le _, Nat.zero_le _⟩ ?_
        first
          | (have ko : okP r x = false := bn1 c_5
             exact ⟨by rw [ko]; rfl, fun q => absurd q (cd2_n1 ko)⟩)
          | (have kr : ltB (kpD r) y = false := bI_0.mp c_21
             have kr9 : ltB (kpD r) y = false := by
               try unfold fP
               try rw [ex]
               exact kr
             exact ⟨by rw [ko, kr9]; exact sI_2, fun q => absurd q (cd2_n2 ko kr9)⟩)
          | (refine ⟨by rw [ko]; rfl, fun _ => ?_⟩
             try unfold fP
             try unfold gP
             try unfold tP
             try rw [ex]
             rw [ekn]
             all_goals rfl)

set_option maxRecDepth 100000 in
set_option maxHeartbeats 4000000 in
theorem c_X9_event {l9 : Launch} {G : GC} {h : AH} {r : Row} {m : Nat} {x y : Int32} (hW : World h) (hm : MW h r) (hO : RoOK r.1 r.2 m) (hm28 : m < 2 ^ 28) (hm24 : m < 2 ^ 24) : PM l9 G mX9_event NT NT [.ref 723, .int x, .int y] h (fun v h' => h' = sI h 723 12 (nI (cd2 (rgB 0 3 y) (ltB (kpE r) x))) ∧ (cd2 (rgB 0 3 y) (ltB (kpE r) x) = 0 → v = some (.int (evA r (nn x) (nn y))))) noX := by
  refine PM.of (by decide +kernel) rfl rfl (Nat.le_of_ble_eq_true rfl) (fun hst _ => ?_)
  have e3 := hO.1.2.2.2.1
  have e30 := hO.1.2.2.2.2.2
  obtain ⟨n, en⟩ : ∃ n, n = nn (r.1 3) := ⟨_, rfl⟩
  rw [← en] at e3 e30
  refine r_aload_n dX9_event_0 rfl ?_
  refine r_iconst (0) dX9_event_1 (by decide) ?_
  refine q_putM fl_X9_61 hW hm rfl rfl dX9_event_2 (fun hm => ?_)
  refine r_aload_n dX9_event_5 rfl ?_
  refine r_iload_n dX9_event_6 rfl ?_
  refine r_iconst (0) dX9_event_7 (by decide) ?_
  refine r_iconst (3) dX9_event_8 (by decide) ?_
  refine q_callS3 (cs_X9_inRange ml_X9_167) ⟨rfl, rfl⟩ rfl (Nat.le_of_ble_eq_true rfl) dX9_event_9 c_X9_inRange (fun v_9 h_9 q_9 => ?_)
  obtain ⟨rfl, z9⟩ := q_9
  replace z9 := z9.symm
  subst z9
  refine r_if_ne 19 dX9_event_12 (by decide) (fun c_12 => ?_) (fun c_12 => ?_)
  · refine r_iconst (0) dX9_event_19 (by decide) ?_
    refine r_iconst (1) dX9_event_20 (by decide) ?_
    refine q_callV2 (cv_X9_fails ml_X9_302) hW kc_723 (by decide) rfl ⟨rfl, rfl⟩ rfl (Nat.le_of_ble_eq_true rfl) dX9_event_21 (c_X9_fails0 hW) (fun v_21 h_21 q_21 => ?_)
    obtain ⟨rfl, z9⟩ := q_21
    replace z9 := z9.symm
    subst z9
    refine r_if_ne 61 dX9_event_24 (by decide) (fun c_24 => ?_) (fun c_24 => ?_)
    · first | exact absurd c_24 (by decide) | exact absurd (by decide) c_24
    · refine r_aload_n dX9_event_27 rfl ?_
      refine r_iload_n dX9_event_28 rfl ?_
      refine r_iconst (0) dX9_event_29 (by decide) ?_
      refine r_bipush (60) dX9_event_30 (by decide) ?_
      refine r_aload_n dX9_event_32 rfl ?_
      refine q_getR fl_X9_7 hW kc_723 rfl (kl_9_0 hW) (by decide) dX9_event_33 ?_
      refine r_iconst (3) dX9_event_36 (by decide) ?_
      refine q_wldMW hW hm kn_3 (by omega) dX9_event_37 ?_
      refine q_min mm_X9_106 rfl (Nat.le_of_ble_eq_true rfl) dX9_event_38 ?_
      refine r_iconst (1) dX9_event_41 (by decide) ?_
      refine r_isub dX9_event_42 ?_
      refine q_callS3 (cs_X9_inRange ml_X9_167) ⟨rfl, rfl⟩ rfl (Nat.le_of_ble_eq_true rfl) dX9_event_43 c_X9_inRange (fun v_43 h_43 q_43 => ?_)
      obtain ⟨rfl, z9⟩ := q_43
      replace z9 := z9.symm
      subst z9
      have e60 : imn 60 (r.1 3) = nI (min 60 n) := by rw [e3]; exact imn_I (a := 60) (by decide) (by omega)
      rw [e60, inR1 rfl (by omega), show ltB (nI (min 60 n)) x = ltB (kpE r) x from by unfold kpE; rw [en]]
      refine r_if_ne 53 dX9_event_46 (by decide) (fun c_46 => ?_) (fun c_46 => ?_)
      · refine r_iconst (0) dX9_event_53 (by decide) ?_
        refine r_iconst (2) dX9_event_54 (by decide) ?_
        refine q_callV2 (cv_X9_fails ml_X9_302) hW kc_723 (by decide) rfl ⟨rfl, rfl⟩ rfl (Nat.le_of_ble_eq_true rfl) dX9_event_55 (c_X9_fails0 hW) (fun v_55 h_55 q_55 => ?_)
        obtain ⟨rfl, z9⟩ := q_55
        replace z9 := z9.symm
        subst z9
        refine r_if_eq 63 dX9_event_58 (by decide) (fun c_58 => ?_) (fun c_58 => ?_)
        · have kr : rgB 0 3 y = true := bI_1.mp c_12
          have kb : ltB (kpE r) x = true := bI_1.mp c_46
          rw [cd2_t kr kb]
          obtain ⟨j, j1, j2, hy⟩ := rgB_t (a := 0) (b := 3) kr (by decide) (by decide)
          obtain ⟨k, k1, hx⟩ := ltB_t (n := min 60 n) (by unfold kpE; rw [en]) (by omega) kb
          have ex : nn x = k := by rw [hx]; exact nn_I (by omega)
          have ey : nn y = j := by rw [hy]; exact nn_I (by omega)
          have ym := Nat.mod_lt (n - 1 - k) (show 0 < 60 by decide)
          refine r_aload_n dX9_event_63 rfl ?_
          refine q_getR fl_X9_7 hW kc_723 rfl (kl_9_0 hW) (by decide) dX9_event_64 ?_
          refine r_iconst (4) dX9_event_67 (by decide) ?_
          refine r_iconst (4) dX9_event_68 (by decide) ?_
          refine r_aload_n dX9_event_69 rfl ?_
          refine q_getR fl_X9_7 hW kc_723 rfl (kl_9_0 hW) (by decide) dX9_event_70 ?_
          refine r_iconst (3) dX9_event_73 (by decide) ?_
          refine q_wldMW hW hm kn_3 (by omega) dX9_event_74 ?_
          refine r_iconst (1) dX9_event_75 (by decide) ?_
          refine r_isub dX9_event_76 ?_
          refine r_iload_n dX9_event_77 rfl ?_
          refine r_isub dX9_event_78 ?_
          refine r_bipush (60) dX9_event_79 (by decide) ?_
          refine r_irem dX9_event_81 (by decide) ?_
          refine r_imul dX9_event_82 ?_
          refine r_iadd dX9_event_83 ?_
          refine r_iload_n dX9_event_84 rfl ?_
          refine r_iadd dX9_event_85 ?_
          refine q_wldMW hW hm (nadd (nadd kn_4 (nmul kn_4 (nrem (nsub (nsub e3 kn_1 (by omega)) hx (by omega)) kn_60 (by omega) (by omega) (by omega)))) hy) (by omega) dX9_event_86 ?_
          refine r_iret dX9_event_87 rfl ⟨Nat.zero_le _, Nat.zero_le _⟩ ?_
          refine ⟨rfl, fun _ => ?_⟩
          unfold evA
          rw [ex, ey, ← en]
        · first | exact absurd c_58 (by decide) | exact absurd (by decide) c_58
      · refine r_iconst (1) dX9_event_49 (by decide) ?_
        refine r_goto 54 dX9_event_50 (by decide) ?_
        refine r_iconst (2) dX9_event_54 (by decide) ?_
        refine q_callV2 (cv_X9_fails ml_X9_302) hW kc_723 (by decide) rfl ⟨rfl, rfl⟩ rfl (Nat.le_of_ble_eq_true rfl) dX9_event_55 (c_X9_fails1 hW) (fun v_55 h_55 q_55 => ?_)
        obtain ⟨rfl, z9⟩ := q_55
        replace z9 := z9.symm
        subst z9
        replace hm := hm.s9 (k := 12) (x := 2)
        refine r_if_eq 63 dX9_event_58 (by decide) (fun c_58 => ?_) (fun c_58 => ?_)
        · first | exact absurd c_58 (by decide) | exact absurd (by decide) c_58
        · refine r_iconst (0) dX9_event_61 (by decide) ?_
          refine r_iret dX9_event_62 rfl ⟨Nat.zero_le _, Nat.zero_le _⟩ ?_
          first
            | (have kr : rgB 0 3 y = false := bI_0.mp c_12
               exact ⟨by rw [kr]; exact sI_2, fun q => absurd q (cd2_n1 kr)⟩)
            | (have kr : rgB 0 3 y = true := bI_1.mp c_12
               have kb : ltB (kpE r) x = false := bI_0.mp c_46
               exact ⟨by rw [kr, kb]; exact sI_2, fun q => absurd q (cd2_n2 kr kb)⟩)
  · refine r_iconst (1) dX9_event_15 (by decide) ?_
    refine r_goto 20 dX9_event_16 (by decide) ?_
    refine r_iconst (1) dX9_event_20 (by decide) ?_
    refine q_callV2 (cv_X9_fails ml_X9_302) hW kc_723 (by decide) rfl ⟨rfl, rfl⟩ rfl (Nat.le_of_ble_eq_true rfl) dX9_event_21 (c_X9_fails1 hW) (fun v_21 h_21 q_21 => ?_)
    obtain ⟨rfl, z9⟩ := q_21
    replace z9 := z9.symm
    subst z9
    replace hm := hm.s9 (k := 12) (x := 1)
    refine r_if_ne 61 dX9_event_24 (by decide) (fun c_24 => ?_) (fun c_24 => ?_)
    · refine r_iconst (0) dX9_event_61 (by decide) ?_
      refine r_iret dX9_event_62 rfl ⟨Nat.zero_le _, Nat.zero_le _⟩ ?_
      first
        | (have kr : rgB 0 3 y = false := bI_0.mp c_12
           exact ⟨by rw [kr]; exact sI_2, fun q => absurd q (cd2_n1 kr)⟩)
        | (have kr : rgB 0 3 y = true := bI_1.mp c_12
           have kb : ltB (kpE r) x = false := bI_0.mp c_46
           exact ⟨by rw [kr, kb]; exact sI_2, fun q => absurd q (cd2_n2 kr kb)⟩)
    · first | exact absurd c_24 (by decide) | exact absurd (by decide) c_24

set_option maxRecDepth 100000 in
set_option maxHeartbeats 4000000 in
theorem c_X9_busiest {l9 : Launch} {G : GC} {h : AH} {r : Row} {m : Nat} (hW : World h) (hm : MW h r) (hO : RoOK r.1 r.2 m) (hm28 : m < 2 ^ 28) : PM l9 G mX9_busiest NT NT [.ref 723] h (fun v h' => h' = sI h 723 12 (nI 0) ∧ v = some (.int (nI (bsP r (nn (r.1 0)))))) noX := by
  refine PM.of (by decide +kernel) rfl rfl (Nat.le_of_ble_eq_true rfl) (fun hst _ => ?_)
  obtain ⟨np, n4, n3, en⟩ := hO.np
  rw [en]
  have hb4 : ∀ i, 0 < i → i ≤ np → bsP r i < 4 ∧ bsP r i < np := fun i h1 h2 => by have := bsP_lt (r := r) i h1; omega
  refine r_aload_n dX9_busiest_0 rfl ?_
  refine r_iconst (0) dX9_busiest_1 (by decide) ?_
  refine q_putM fl_X9_61 hW hm rfl rfl dX9_busiest_2 (fun hm => ?_)
  refine r_iconst (0) dX9_busiest_5 (by decide) ?_
  refine r_istore_n (ls2 := [some _, _, _]) dX9_busiest_6 (by decide) rfl ?_
  refine r_iconst (1) dX9_busiest_7 (by decide) ?_
  refine r_istore_n (ls2 := [_, some _, _]) dX9_busiest_8 (by decide) rfl ?_
  by_cases hn0 : np = 0
  · subst hn0
    refine r_iload_n dX9_busiest_9 rfl ?_
    refine r_aload_n dX9_busiest_10 rfl ?_
    refine q_getR fl_X9_7 hW kc_723 rfl (kl_9_0 hW) (by decide) dX9_busiest_11 ?_
    refine r_iconst (0) dX9_busiest_14 (by decide) ?_
    refine q_wldMW hW hm kn_0 (by omega) dX9_busiest_15 ?_
    rw [n3]
    refine r_icmp_ge 40 dX9_busiest_16 (by decide) (fun c_16 => ?_) (fun c_16 => ?_)
    · refine r_iload_n dX9_busiest_40 rfl ?_
      refine r_iret dX9_busiest_41 rfl ⟨Nat.zero_le _, Nat.zero_le _⟩ ?_
      exact ⟨rfl, rfl⟩
    · exact absurd (show (nI 0 : Int32) ≤ 1 by decide) c_16
  refine loopN (P := fun i => 1 ≤ i → i ≤ np → PW l9 G mX9_busiest _ _ NT 9 [some (.ref 723), some (.int (nI (bsP r i))), some (.int (nI i))] [] (0, 0) (sI h 723 12 0)) np (fun i ih h1 hi => ?_) 1 (by omega) (by omega)
  obtain ⟨hb4i, hbni⟩ := hb4 i h1 hi
  refine r_iload_n dX9_busiest_9 rfl ?_
  refine r_aload_n dX9_busiest_10 rfl ?_
  refine q_getR fl_X9_7 hW kc_723 rfl (kl_9_0 hW) (by decide) dX9_busiest_11 ?_
  refine r_iconst (0) dX9_busiest_14 (by decide) ?_
  refine q_wldMW hW hm kn_0 (by omega) dX9_busiest_15 ?_
  rw [n3]
  refine r_icmp_ge 40 dX9_busiest_16 (by decide) (fun c_16 => ?_) (fun c_16 => ?_)
  · have hge : np = i := by have := (nI_leI (by omega) (by omega)).mp c_16; omega
    refine r_iload_n dX9_busiest_40 rfl ?_
    refine r_iret dX9_busiest_41 rfl ⟨Nat.zero_le _, Nat.zero_le _⟩ ?_
    rw [hge]; exact ⟨rfl, rfl⟩
  · have hlt : i < np := (nI_ltI (by omega) (by omega)).mp (i_lt.mp c_16)
    have hi4 : i < 4 := by omega
    have hth := ih hlt (by omega) hlt
    have hbs : bsP r (i + 1) = if mzP r (bsP r i) < mzP r i then i else bsP r i := bsP_s h1
    refine r_aload_n dX9_busiest_19 rfl ?_
    refine r_iload_n dX9_busiest_20 rfl ?_
    refine q_callV1 (cv_X9_measured ml_X9_330) hW kc_723 (by decide) rfl ⟨rfl, rfl⟩ rfl (Nat.le_of_ble_eq_true rfl) dX9_busiest_21 (c_X9_measured hW (hm.pv i) hi4 (hO.2 i (by omega)) rfl) (fun v_21 h_21 q_21 => ?_)
    obtain ⟨rfl, z9⟩ := q_21
    replace z9 := z9.symm
    subst z9
    refine r_aload_n dX9_busiest_24 rfl ?_
    refine r_iload_n dX9_busiest_25 rfl ?_
    refine q_callV1 (cv_X9_measured ml_X9_330) hW kc_723 (by decide) rfl ⟨rfl, rfl⟩ rfl (Nat.le_of_ble_eq_true rfl) dX9_busiest_26 (c_X9_measured hW (hm.pv (bsP r i)) hb4i (hO.2 (bsP r i) (by omega)) rfl) (fun v_26 h_26 q_26 => ?_)
    obtain ⟨rfl, z9⟩ := q_26
    replace z9 := z9.symm
    subst z9
    refine r_icmp_le 34 dX9_busiest_29 (by decide) (fun c_29 => ?_) (fun c_29 => ?_)
    · refine r_iinc (1) (by decide) (ls2 := [_, some _, _]) dX9_busiest_34 rfl (by decide) rfl ?_
      refine r_goto 9 dX9_busiest_37 (by decide) ?_
      rw [nI_1]
      first
        | (rw [hbs, if_neg (show ¬ mzP r (bsP r i) < mzP r i from Int32.not_lt.mpr c_29)] at hth; exact hth)
        | (rw [hbs, if_pos (show mzP r (bsP r i) < mzP r i from Int32.not_le.mp c_29)] at hth; exact hth)
    · refine r_iload_n dX9_busiest_32 rfl ?_
      refine r_istore_n (ls2 := [some _, _, _]) dX9_busiest_33 (by decide) rfl ?_
      refine r_iinc (1) (by decide) (ls2 := [_, some _, _]) dX9_busiest_34 rfl (by decide) rfl ?_
      refine r_goto 9 dX9_busiest_37 (by decide) ?_
      rw [nI_1]
      first
        | (rw [hbs, if_neg (show ¬ mzP r (bsP r i) < mzP r i from Int32.not_lt.mpr c_29)] at hth; exact hth)
        | (rw [hbs, if_pos (show mzP r (bsP r i) < mzP r i from Int32.not_le.mp c_29)] at hth; exact hth)

theorem i_ltne {x y : Int32} (h : x ≤ y) (h2 : ¬ x = y) : x < y := by
  rw [Int32.lt_iff_toInt_lt]
  rw [Int32.le_iff_toInt_le] at h
  have : ¬ x.toInt = y.toInt := fun q => h2 (Int32.toInt_inj.mp q)
  omega
theorem i_anti {x y : Int32} (h : x ≤ y) (h2 : y ≤ x) : x = y := by
  rw [Int32.le_iff_toInt_le] at h h2
  exact Int32.toInt_inj.mp (by omega)
set_option maxRecDepth 100000 in
set_option maxHeartbeats 4000000 in
theorem c_X9_eldest {l9 : Launch} {G : GC} {h : AH} {r : Row} {m : Nat} (hW : World h) (hm : MW h r) (hO : RoOK r.1 r.2 m) (hm28 : m < 2 ^ 28) : PM l9 G mX9_eldest NT NT [.ref 723] h (fun v h' => h' = sI h 723 12 (nI 0) ∧ v = some (.int (elP r.1 (nn (r.1 0))).1)) noX := by
  refine PM.of (by decide +kernel) rfl rfl (Nat.le_of_ble_eq_true rfl) (fun hst _ => ?_)
  obtain ⟨np, n4, n3, en⟩ := hO.np
  rw [en]
  refine r_aload_n dX9_eldest_0 rfl ?_
  refine r_iconst (0) dX9_eldest_1 (by decide) ?_
  refine q_putM fl_X9_61 hW hm rfl rfl dX9_eldest_2 (fun hm => ?_)
  refine r_iconst (-1) dX9_eldest_5 (by decide) ?_
  refine r_istore_n (ls2 := [some _, _, _, _, _, _, _]) dX9_eldest_6 (by decide) rfl ?_
  refine r_iconst (0) dX9_eldest_7 (by decide) ?_
  refine r_istore_n (ls2 := [_, some _, _, _, _, _, _]) dX9_eldest_8 (by decide) rfl ?_
  refine r_iconst (0) dX9_eldest_9 (by decide) ?_
  refine r_istore_n (ls2 := [_, _, some _, _, _, _, _]) dX9_eldest_10 (by decide) rfl ?_
  refine loopN (P := fun p => ∀ z4 z5 z6 : Option Value, p ≤ np → PW l9 G mX9_eldest _ _ NT 11 [some (.ref 723), some (.int (elP r.1 p).1), some (.int (elP r.1 p).2), some (.int (nI p)), z4, z5, z6] [] (0, 0) (sI h 723 12 0)) np (fun p ih z4 z5 z6 hi => ?_) 0 none none none (Nat.zero_le _)
  refine r_iload_n dX9_eldest_11 rfl ?_
  refine r_aload_n dX9_eldest_12 rfl ?_
  refine q_getR fl_X9_7 hW kc_723 rfl (kl_9_0 hW) (by decide) dX9_eldest_13 ?_
  refine r_iconst (0) dX9_eldest_16 (by decide) ?_
  refine q_wldMW hW hm kn_0 (by omega) dX9_eldest_17 ?_
  rw [n3]
  refine r_icmp_ge 110 dX9_eldest_18 (by decide) (fun c_18 => ?_) (fun c_18 => ?_)
  · have hge : np = p := by have := (nI_leI (by omega) (by omega)).mp c_18; omega
    refine r_iload_n dX9_eldest_110 rfl ?_
    refine r_iret dX9_eldest_111 rfl ⟨Nat.zero_le _, Nat.zero_le _⟩ ?_
    rw [hge]; exact ⟨rfl, rfl⟩
  · have hlt : p < np := (nI_ltI (by omega) (by omega)).mp (i_lt.mp c_18)
    have hp : p < 4 := by omega
    have h23 := ((hO.2 p (by omega)).at 23).1
    have y23 : nn (getP r.1 p 23) ≤ 20 := ((hO.2 p (by omega)).at 23).2.2
    refine r_iconst (0) dX9_eldest_21 (by decide) ?_
    refine r_istore (ls2 := [_, _, _, some _, _, _, _]) dX9_eldest_22 (by decide) rfl ?_
    have hth := ih hlt
    rw [show elP r.1 (p + 1) = elS r.1 p (nn (getP r.1 p 23)) (elP r.1 p) from rfl] at hth
    refine loopN (P := fun i => ∀ z5 z6 : Option Value, i ≤ nn (getP r.1 p 23) → PW l9 G mX9_eldest _ _ NT 24 [some (.ref 723), some (.int (elS r.1 p i (elP r.1 p)).1), some (.int (elS r.1 p i (elP r.1 p)).2), some (.int (nI p)), some (.int (nI i)), z5, z6] [] (0, 0) (sI h 723 12 0)) (nn (getP r.1 p 23)) (fun i ih2 z5 z6 hi2 => ?_) 0 _ _ (Nat.zero_le _)
    refine r_iload dX9_eldest_24 rfl ?_
    refine r_aload_n dX9_eldest_26 rfl ?_
    refine r_iload_n dX9_eldest_27 rfl ?_
    refine r_bipush (23) dX9_eldest_28 (by decide) ?_
    refine q_callV2 (cv_X9_of ml_X9_81) hW kc_723 (by decide) rfl ⟨rfl, rfl⟩ rfl (Nat.le_of_ble_eq_true rfl) dX9_eldest_30 (c_X9_ofM hW hm hp rfl kn_23 (by omega)) (fun v_30 h_30 q_30 => ?_)
    obtain ⟨rfl, z9⟩ := q_30
    replace z9 := z9.symm
    subst z9
    rw [h23]
    refine r_icmp_ge 104 dX9_eldest_33 (by decide) (fun c_33 => ?_) (fun c_33 => ?_)
    · have hge2 : nn (getP r.1 p 23) = i := by have := (nI_leI (by omega) (by omega)).mp c_33; omega
      refine r_iinc (1) (by decide) (ls2 := [_, _, some _, _, _, _, _]) dX9_eldest_104 rfl (by decide) rfl ?_
      refine r_goto 11 dX9_eldest_107 (by decide) ?_
      rw [nI_1]
      rw [hge2] at hth
      exact hth _ _ _ hlt
    · have hlt2 : i < nn (getP r.1 p 23) := (nI_ltI (by omega) (by omega)).mp (i_lt.mp c_33)
      refine r_aload_n dX9_eldest_36 rfl ?_
      refine r_iload_n dX9_eldest_37 rfl ?_
      refine r_bipush (100) dX9_eldest_38 (by decide) ?_
      refine r_iconst (4) dX9_eldest_40 (by decide) ?_
      refine r_iload dX9_eldest_41 rfl ?_
      refine r_imul dX9_eldest_43 ?_
      refine r_iadd dX9_eldest_44 ?_
      refine q_callV2 (cv_X9_of ml_X9_81) hW kc_723 (by decide) rfl ⟨rfl, rfl⟩ rfl (Nat.le_of_ble_eq_true rfl) dX9_eldest_45 (c_X9_ofM hW hm hp rfl (nadd kn_100 (nmul kn_4 rfl)) (by omega)) (fun v_45 h_45 q_45 => ?_)
      obtain ⟨rfl, z9⟩ := q_45
      replace z9 := z9.symm
      subst z9
      refine r_istore (ls2 := [_, _, _, _, some _, _, _]) dX9_eldest_48 (by decide) rfl ?_
      refine r_aload_n dX9_eldest_50 rfl ?_
      refine r_iload_n dX9_eldest_51 rfl ?_
      refine r_bipush (100) dX9_eldest_52 (by decide) ?_
      refine r_iconst (4) dX9_eldest_54 (by decide) ?_
      refine r_iload dX9_eldest_55 rfl ?_
      refine r_imul dX9_eldest_57 ?_
      refine r_iadd dX9_eldest_58 ?_
      refine r_iconst (1) dX9_eldest_59 (by decide) ?_
      refine r_iadd dX9_eldest_60 ?_
      refine q_callV2 (cv_X9_of ml_X9_81) hW kc_723 (by decide) rfl ⟨rfl, rfl⟩ rfl (Nat.le_of_ble_eq_true rfl) dX9_eldest_61 (c_X9_ofM hW hm hp rfl (nadd (nadd kn_100 (nmul kn_4 rfl)) kn_1) (by omega)) (fun v_61 h_61 q_61 => ?_)
      obtain ⟨rfl, z9⟩ := q_61
      replace z9 := z9.symm
      subst z9
      rw [show 100 + 4 * i + 1 = 101 + 4 * i from by omega]
      refine r_istore (ls2 := [_, _, _, _, _, some _, _]) dX9_eldest_64 (by decide) rfl ?_
      refine r_iload_n dX9_eldest_66 rfl ?_
      refine r_iconst (-1) dX9_eldest_67 (by decide) ?_
      refine r_icmp_eq 92 dX9_eldest_68 (by decide) (fun c_68 => ?_) (fun c_68 => ?_)
      · refine r_iload dX9_eldest_92 rfl ?_
        refine r_istore_n (ls2 := [some _, _, _, _, _, _, _]) dX9_eldest_94 (by decide) rfl ?_
        refine r_iload dX9_eldest_95 rfl ?_
        refine r_istore_n (ls2 := [_, some _, _, _, _, _, _]) dX9_eldest_97 (by decide) rfl ?_
        refine r_iinc (1) (by decide) (ls2 := [_, _, _, some _, _, _, _]) dX9_eldest_98 rfl (by decide) rfl ?_
        refine r_goto 24 dX9_eldest_101 (by decide) ?_
        rw [nI_1]
        have hth2 := ih2 hlt2 (some (.int (getP r.1 p (100 + 4 * i)))) (some (.int (getP r.1 p (101 + 4 * i)))) hlt2
        rw [show elS r.1 p (i + 1) (elP r.1 p) = elT (elS r.1 p i (elP r.1 p)) (getP r.1 p (100 + 4 * i)) (getP r.1 p (101 + 4 * i)) from rfl] at hth2
        unfold elT at hth2
        first
          | (rw [if_pos (Or.inl c_68)] at hth2; exact hth2)
          | (rw [if_neg (fun q => Or.elim q c_68 (fun q => Or.elim q (fun q => absurd c_74 (Int32.not_lt.mpr (Int32.le_of_lt q))) (fun q => absurd c_74 (by rw [q.1]; exact Int32.lt_irrefl))))] at hth2; exact hth2)
          | (rw [if_pos (Or.inr (Or.inl (i_ltne (Int32.not_lt.mp c_74) c_80)))] at hth2; exact hth2)
          | (by_cases qe : getP r.1 p (100 + 4 * i) < (elS r.1 p i (elP r.1 p)).1
             · rw [if_pos (Or.inr (Or.inr ⟨c_80, qe⟩))] at hth2; exact hth2
             · have qf : getP r.1 p (100 + 4 * i) = (elS r.1 p i (elP r.1 p)).1 := i_anti c_86 (Int32.not_lt.mp qe)
               rw [if_neg (fun q => Or.elim q c_68 (fun q => Or.elim q (fun q => absurd q (by rw [c_80]; exact Int32.lt_irrefl)) (fun q => qe q.2)))] at hth2
               rw [c_80, qf] at hth2 ⊢; exact hth2)
          | (rw [if_neg (fun q => Or.elim q c_68 (fun q => Or.elim q (fun q => absurd q (by rw [c_80]; exact Int32.lt_irrefl)) (fun q => c_86 (Int32.le_of_lt q.2))))] at hth2; exact hth2)
      · refine r_iload dX9_eldest_71 rfl ?_
        refine r_iload_n dX9_eldest_73 rfl ?_
        refine r_icmp_gt 98 dX9_eldest_74 (by decide) (fun c_74 => ?_) (fun c_74 => ?_)
        · refine r_iinc (1) (by decide) (ls2 := [_, _, _, some _, _, _, _]) dX9_eldest_98 rfl (by decide) rfl ?_
          refine r_goto 24 dX9_eldest_101 (by decide) ?_
          rw [nI_1]
          have hth2 := ih2 hlt2 (some (.int (getP r.1 p (100 + 4 * i)))) (some (.int (getP r.1 p (101 + 4 * i)))) hlt2
          rw [show elS r.1 p (i + 1) (elP r.1 p) = elT (elS r.1 p i (elP r.1 p)) (getP r.1 p (100 + 4 * i)) (getP r.1 p (101 + 4 * i)) from rfl] at hth2
          unfold elT at hth2
          first
            | (rw [if_pos (Or.inl c_68)] at hth2; exact hth2)
            | (rw [if_neg (fun q => Or.elim q c_68 (fun q => Or.elim q (fun q => absurd c_74 (Int32.not_lt.mpr (Int32.le_of_lt q))) (fun q => absurd c_74 (by rw [q.1]; exact Int32.lt_irrefl))))] at hth2; exact hth2)
            | (rw [if_pos (Or.inr (Or.inl (i_ltne (Int32.not_lt.mp c_74) c_80)))] at hth2; exact hth2)
            | (by_cases qe : getP r.1 p (100 + 4 * i) < (elS r.1 p i (elP r.1 p)).1
               · rw [if_pos (Or.inr (Or.inr ⟨c_80, qe⟩))] at hth2; exact hth2
               · have qf : getP r.1 p (100 + 4 * i) = (elS r.1 p i (elP r.1 p)).1 := i_anti c_86 (Int32.not_lt.mp qe)
                 rw [if_neg (fun q => Or.elim q c_68 (fun q => Or.elim q (fun q => absurd q (by rw [c_80]; exact Int32.lt_irrefl)) (fun q => qe q.2)))] at hth2
                 rw [c_80, qf] at hth2 ⊢; exact hth2)
            | (rw [if_neg (fun q => Or.elim q c_68 (fun q => Or.elim q (fun q => absurd q (by rw [c_80]; exact Int32.lt_irrefl)) (fun q => c_86 (Int32.le_of_lt q.2))))] at hth2; exact hth2)
        · refine r_iload dX9_eldest_77 rfl ?_
          refine r_iload_n dX9_eldest_79 rfl ?_
          refine r_icmp_ne 92 dX9_eldest_80 (by decide) (fun c_80 => ?_) (fun c_80 => ?_)
          · refine r_iload dX9_eldest_92 rfl ?_
            refine r_istore_n (ls2 := [some _, _, _, _, _, _, _]) dX9_eldest_94 (by decide) rfl ?_
            refine r_iload dX9_eldest_95 rfl ?_
            refine r_istore_n (ls2 := [_, some _, _, _, _, _, _]) dX9_eldest_97 (by decide) rfl ?_
            refine r_iinc (1) (by decide) (ls2 := [_, _, _, some _, _, _, _]) dX9_eldest_98 rfl (by decide) rfl ?_
            refine r_goto 24 dX9_eldest_101 (by decide) ?_
            rw [nI_1]
            have hth2 := ih2 hlt2 (some (.int (getP r.1 p (100 + 4 * i)))) (some (.int (getP r.1 p (101 + 4 * i)))) hlt2
            rw [show elS r.1 p (i + 1) (elP r.1 p) = elT (elS r.1 p i (elP r.1 p)) (getP r.1 p (100 + 4 * i)) (getP r.1 p (101 + 4 * i)) from rfl] at hth2
            unfold elT at hth2
            first
              | (rw [if_pos (Or.inl c_68)] at hth2; exact hth2)
              | (rw [if_neg (fun q => Or.elim q c_68 (fun q => Or.elim q (fun q => absurd c_74 (Int32.not_lt.mpr (Int32.le_of_lt q))) (fun q => absurd c_74 (by rw [q.1]; exact Int32.lt_irrefl))))] at hth2; exact hth2)
              | (rw [if_pos (Or.inr (Or.inl (i_ltne (Int32.not_lt.mp c_74) c_80)))] at hth2; exact hth2)
              | (by_cases qe : getP r.1 p (100 + 4 * i) < (elS r.1 p i (elP r.1 p)).1
                 · rw [if_pos (Or.inr (Or.inr ⟨c_80, qe⟩))] at hth2; exact hth2
                 · have qf : getP r.1 p (100 + 4 * i) = (elS r.1 p i (elP r.1 p)).1 := i_anti c_86 (Int32.not_lt.mp qe)
                   rw [if_neg (fun q => Or.elim q c_68 (fun q => Or.elim q (fun q => absurd q (by rw [c_80]; exact Int32.lt_irrefl)) (fun q => qe q.2)))] at hth2
                   rw [c_80, qf] at hth2 ⊢; exact hth2)
              | (rw [if_neg (fun q => Or.elim q c_68 (fun q => Or.elim q (fun q => absurd q (by rw [c_80]; exact Int32.lt_irrefl)) (fun q => c_86 (Int32.le_of_lt q.2))))] at hth2; exact hth2)
          · refine r_iload dX9_eldest_83 rfl ?_
            refine r_iload_n dX9_eldest_85 rfl ?_
            refine r_icmp_le 92 dX9_eldest_86 (by decide) (fun c_86 => ?_) (fun c_86 => ?_)
            · refine r_iload dX9_eldest_92 rfl ?_
              refine r_istore_n (ls2 := [some _, _, _, _, _, _, _]) dX9_eldest_94 (by decide) rfl ?_
              refine r_iload dX9_eldest_95 rfl ?_
              refine r_istore_n (ls2 := [_, some _, _, _, _, _, _]) dX9_eldest_97 (by decide) rfl ?_
              refine r_iinc (1) (by decide) (ls2 := [_, _, _, some _, _, _, _]) dX9_eldest_98 rfl (by decide) rfl ?_
              refine r_goto 24 dX9_eldest_101 (by decide) ?_
              rw [nI_1]
              have hth2 := ih2 hlt2 (some (.int (getP r.1 p (100 + 4 * i)))) (some (.int (getP r.1 p (101 + 4 * i)))) hlt2
              rw [show elS r.1 p (i + 1) (elP r.1 p) = elT (elS r.1 p i (elP r.1 p)) (getP r.1 p (100 + 4 * i)) (getP r.1 p (101 + 4 * i)) from rfl] at hth2
              unfold elT at hth2
              first
                | (rw [if_pos (Or.inl c_68)] at hth2; exact hth2)
                | (rw [if_neg (fun q => Or.elim q c_68 (fun q => Or.elim q (fun q => absurd c_74 (Int32.not_lt.mpr (Int32.le_of_lt q))) (fun q => absurd c_74 (by rw [q.1]; exact Int32.lt_irrefl))))] at hth2; exact hth2)
                | (rw [if_pos (Or.inr (Or.inl (i_ltne (Int32.not_lt.mp c_74) c_80)))] at hth2; exact hth2)
                | (by_cases qe : getP r.1 p (100 + 4 * i) < (elS r.1 p i (elP r.1 p)).1
                   · rw [if_pos (Or.inr (Or.inr ⟨c_80, qe⟩))] at hth2; exact hth2
                   · have qf : getP r.1 p (100 + 4 * i) = (elS r.1 p i (elP r.1 p)).1 := i_anti c_86 (Int32.not_lt.mp qe)
                     rw [if_neg (fun q => Or.elim q c_68 (fun q => Or.elim q (fun q => absurd q (by rw [c_80]; exact Int32.lt_irrefl)) (fun q => qe q.2)))] at hth2
                     rw [c_80, qf] at hth2 ⊢; exact hth2)
                | (rw [if_neg (fun q => Or.elim q c_68 (fun q => Or.elim q (fun q => absurd q (by rw [c_80]; exact Int32.lt_irrefl)) (fun q => c_86 (Int32.le_of_lt q.2))))] at hth2; exact hth2)
            · refine r_goto 98 dX9_eldest_89 (by decide) ?_
              refine r_iinc (1) (by decide) (ls2 := [_, _, _, some _, _, _, _]) dX9_eldest_98 rfl (by decide) rfl ?_
              refine r_goto 24 dX9_eldest_101 (by decide) ?_
              rw [nI_1]
              have hth2 := ih2 hlt2 (some (.int (getP r.1 p (100 + 4 * i)))) (some (.int (getP r.1 p (101 + 4 * i)))) hlt2
              rw [show elS r.1 p (i + 1) (elP r.1 p) = elT (elS r.1 p i (elP r.1 p)) (getP r.1 p (100 + 4 * i)) (getP r.1 p (101 + 4 * i)) from rfl] at hth2
              unfold elT at hth2
              first
                | (rw [if_pos (Or.inl c_68)] at hth2; exact hth2)
                | (rw [if_neg (fun q => Or.elim q c_68 (fun q => Or.elim q (fun q => absurd c_74 (Int32.not_lt.mpr (Int32.le_of_lt q))) (fun q => absurd c_74 (by rw [q.1]; exact Int32.lt_irrefl))))] at hth2; exact hth2)
                | (rw [if_pos (Or.inr (Or.inl (i_ltne (Int32.not_lt.mp c_74) c_80)))] at hth2; exact hth2)
                | (by_cases qe : getP r.1 p (100 + 4 * i) < (elS r.1 p i (elP r.1 p)).1
                   · rw [if_pos (Or.inr (Or.inr ⟨c_80, qe⟩))] at hth2; exact hth2
                   · have qf : getP r.1 p (100 + 4 * i) = (elS r.1 p i (elP r.1 p)).1 := i_anti c_86 (Int32.not_lt.mp qe)
                     rw [if_neg (fun q => Or.elim q c_68 (fun q => Or.elim q (fun q => absurd q (by rw [c_80]; exact Int32.lt_irrefl)) (fun q => qe q.2)))] at hth2
                     rw [c_80, qf] at hth2 ⊢; exact hth2)
                | (rw [if_neg (fun q => Or.elim q c_68 (fun q => Or.elim q (fun q => absurd q (by rw [c_80]; exact Int32.lt_irrefl)) (fun q => c_86 (Int32.le_of_lt q.2))))] at hth2; exact hth2)

set_option maxRecDepth 100000 in
set_option maxHeartbeats 4000000 in
theorem c_X9_noSpan {l9 : Launch} {G : GC} {h : AH} {r : Row} {m : Nat} {x y : Int32} (hW : World h) (hm : MW h r) (hO : RoOK r.1 r.2 m) (hm28 : m < 2 ^ 28) : PM l9 G mX9_noSpan NT NT [.ref 723, .int x, .int y] h (fun v h' => v = some (.int (bI (!(okP r x && rgB 1 300 y)))) ∧ h' = sI h 723 12 (nI (cd2 (okP r x) (rgB 1 300 y)))) noX := by
  refine PM.of (by decide +kernel) rfl rfl (Nat.le_of_ble_eq_true rfl) (fun hst _ => ?_)
  refine r_aload_n dX9_noSpan_0 rfl ?_
  refine r_iload_n dX9_noSpan_1 rfl ?_
  refine q_callV1 (cv_X9_noPool ml_X9_309) hW kc_723 (by decide) rfl ⟨rfl, rfl⟩ rfl (Nat.le_of_ble_eq_true rfl) dX9_noSpan_2 (c_X9_noPool hW hm hO) (fun v_2 h_2 q_2 => ?_)
  obtain ⟨rfl, z9⟩ := q_2
  subst z9
  have hW : World (sI h 723 12 (nI (cd1 (okP r x)))) := wsI hW
  replace hm := hm.s9 (k := 12) (x := nI (cd1 (okP r x)))
  refine r_if_ne 32 dX9_noSpan_5 (by decide) (fun c_5 => ?_) (fun c_5 => ?_)
  · refine r_iconst (1) dX9_noSpan_32 (by decide) ?_
    refine r_goto 37 dX9_noSpan_33 (by decide) ?_
    refine r_zret dX9_noSpan_37 rfl (by decide) ⟨Nat.zero_le _, Nat.zero_le _⟩ ?_
    first
      | (have ko : okP r x = false := bn1 c_5
         rw [ko]; exact ⟨rfl, rfl⟩)
      | (have kr : rgB 1 300 y = false := bI_0.mp c_17
         rw [ko, kr]; exact ⟨rfl, sI_2⟩)
      | (have kr : rgB 1 300 y = true := bI_1.mp c_17
         rw [ko, kr]; exact ⟨rfl, rfl⟩)
  · have ko : okP r x = true := bn0 c_5
    refine r_aload_n dX9_noSpan_8 rfl ?_
    refine r_iload_n dX9_noSpan_9 rfl ?_
    refine r_iconst (1) dX9_noSpan_10 (by decide) ?_
    refine r_sipush (300) dX9_noSpan_11 (by decide) ?_
    refine q_callS3 (cs_X9_inRange ml_X9_167) ⟨rfl, rfl⟩ rfl (Nat.le_of_ble_eq_true rfl) dX9_noSpan_14 c_X9_inRange (fun v_14 h_14 q_14 => ?_)
    obtain ⟨rfl, z9⟩ := q_14
    replace z9 := z9.symm
    subst z9
    refine r_if_ne 24 dX9_noSpan_17 (by decide) (fun c_17 => ?_) (fun c_17 => ?_)
    · refine r_iconst (0) dX9_noSpan_24 (by decide) ?_
      refine r_iconst (2) dX9_noSpan_25 (by decide) ?_
      refine q_callV2 (cv_X9_fails ml_X9_302) hW kc_723 (by decide) rfl ⟨rfl, rfl⟩ rfl (Nat.le_of_ble_eq_true rfl) dX9_noSpan_26 (c_X9_fails0 hW) (fun v_26 h_26 q_26 => ?_)
      obtain ⟨rfl, z9⟩ := q_26
      replace z9 := z9.symm
      subst z9
      refine r_if_eq 36 dX9_noSpan_29 (by decide) (fun c_29 => ?_) (fun c_29 => ?_)
      · refine r_iconst (0) dX9_noSpan_36 (by decide) ?_
        refine r_zret dX9_noSpan_37 rfl (by decide) ⟨Nat.zero_le _, Nat.zero_le _⟩ ?_
        first
          | (have ko : okP r x = false := bn1 c_5
             rw [ko]; exact ⟨rfl, rfl⟩)
          | (have kr : rgB 1 300 y = false := bI_0.mp c_17
             rw [ko, kr]; exact ⟨rfl, sI_2⟩)
          | (have kr : rgB 1 300 y = true := bI_1.mp c_17
             rw [ko, kr]; exact ⟨rfl, rfl⟩)
      · first | exact absurd c_29 (by decide) | exact absurd (by decide) c_29
    · refine r_iconst (1) dX9_noSpan_20 (by decide) ?_
      refine r_goto 25 dX9_noSpan_21 (by decide) ?_
      refine r_iconst (2) dX9_noSpan_25 (by decide) ?_
      refine q_callV2 (cv_X9_fails ml_X9_302) hW kc_723 (by decide) rfl ⟨rfl, rfl⟩ rfl (Nat.le_of_ble_eq_true rfl) dX9_noSpan_26 (c_X9_fails1 hW) (fun v_26 h_26 q_26 => ?_)
      obtain ⟨rfl, z9⟩ := q_26
      replace z9 := z9.symm
      subst z9
      replace hm := hm.s9 (k := 12) (x := 2)
      refine r_if_eq 36 dX9_noSpan_29 (by decide) (fun c_29 => ?_) (fun c_29 => ?_)
      · first | exact absurd c_29 (by decide) | exact absurd (by decide) c_29
      · refine r_iconst (1) dX9_noSpan_32 (by decide) ?_
        refine r_goto 37 dX9_noSpan_33 (by decide) ?_
        refine r_zret dX9_noSpan_37 rfl (by decide) ⟨Nat.zero_le _, Nat.zero_le _⟩ ?_
        first
          | (have ko : okP r x = false := bn1 c_5
             rw [ko]; exact ⟨rfl, rfl⟩)
          | (have kr : rgB 1 300 y = false := bI_0.mp c_17
             rw [ko, kr]; exact ⟨rfl, sI_2⟩)
          | (have kr : rgB 1 300 y = true := bI_1.mp c_17
             rw [ko, kr]; exact ⟨rfl, rfl⟩)

set_option maxRecDepth 100000 in
set_option maxHeartbeats 4000000 in
theorem c_X9_needed {l9 : Launch} {G : GC} {h : AH} {r : Row} {m : Nat} {x y : Int32} (hW : World h) (hm : MW h r) (hO : RoOK r.1 r.2 m) (hm28 : m < 2 ^ 28) : PM l9 G mX9_needed NT NT [.ref 723, .int x, .int y] h (fun v h' => h' = sI h 723 12 (nI (cd2 (okP r x) (rgB 1 300 y))) ∧ (cd2 (okP r x) (rgB 1 300 y) = 0 → v = some (.int (ndP (fP r x) (tP r) (nn y))))) noX := by
  refine PM.of (by decide +kernel) rfl rfl (Nat.le_of_ble_eq_true rfl) (fun hst _ => ?_)
  refine r_aload_n dX9_needed_0 rfl ?_
  refine r_iload_n dX9_needed_1 rfl ?_
  refine r_iload_n dX9_needed_2 rfl ?_
  refine q_callV2 (cv_X9_noSpan ml_X9_349) hW kc_723 (by decide) rfl ⟨rfl, rfl⟩ rfl (Nat.le_of_ble_eq_true rfl) dX9_needed_3 (c_X9_noSpan hW hm hO hm28) (fun v_3 h_3 q_3 => ?_)
  obtain ⟨rfl, z9⟩ := q_3
  subst z9
  have hW : World (sI h 723 12 (nI (cd2 (okP r x) (rgB 1 300 y)))) := wsI hW
  replace hm := hm.s9 (k := 12) (x := nI (cd2 (okP r x) (rgB 1 300 y)))
  refine r_if_eq 11 dX9_needed_6 (by decide) (fun c_6 => ?_) (fun c_6 => ?_)
  · have kn : (okP r x && rgB 1 300 y) = true := bn0 c_6
    have kr : rgB 1 300 y = true := (Bool.and_eq_true_iff.mp kn).2
    have ko : okP r x = true := (Bool.and_eq_true_iff.mp kn).1
    obtain ⟨p, hp, pn, hx⟩ := okP_t hO ko
    have ex : nn x = p := by rw [hx]; exact nn_I (by omega)
    have hmw := hm
    have hOr := hO
    replace hO := hO.2 p pn
    replace hm := hm.pv p
    obtain ⟨k, k1, k2, ek⟩ := rgB_t (a := 1) (b := 300) kr (by decide) (by decide)
    have ekn : nn y = k := by rw [ek]; exact nn_I (by omega)
    have e1 := hOr.1.2.1.1
    have e2 := hOr.1.2.1.2.2
    obtain ⟨b2, g1, g2, g3⟩ := (hO.at 2).nat
    have g1' : 1 ≤ b2 := g1
    have g2' : b2 ≤ 100 := g2
    refine r_iconst (0) dX9_needed_11 (by decide) ?_
    refine r_istore_n (ls2 := [_, _, some _, _, _]) dX9_needed_12 (by decide) rfl ?_
    refine r_iconst (0) dX9_needed_13 (by decide) ?_
    refine r_istore (ls2 := [_, _, _, some _, _]) dX9_needed_14 (by decide) rfl ?_
    refine loopN (P := fun i => i ≤ k → PW l9 G mX9_needed _ _ NT 16 [some (.ref 723), some (.int x), some (.int y), some (.int (ndP (getP r.1 p) (nn (r.1 1)) i)), some (.int (nI i))] [] (0, 0) _) k (fun i ih hi => ?_) 0 (Nat.zero_le _)
    refine r_iload dX9_needed_16 rfl ?_
    refine r_iload_n dX9_needed_18 rfl ?_
    refine r_icmp_ge 49 dX9_needed_19 (by decide) (fun c_19 => ?_) (fun c_19 => ?_)
    · have c9 := c_19
      rw [ek] at c9
      have hge : k = i := by have := (nI_leI (by omega) (by omega)).mp c9; omega
      refine r_iload_n dX9_needed_49 rfl ?_
      refine r_iret dX9_needed_50 rfl ⟨Nat.zero_le _, Nat.zero_le _⟩ ?_
      refine ⟨rfl, fun _ => ?_⟩
      unfold fP tP
      rw [ex, ekn, hge]
    · have c9 := c_19
      rw [ek] at c9
      have hlt : i < k := (nI_ltI (by omega) (by omega)).mp (i_lt.mp c9)
      refine r_iload_n dX9_needed_22 rfl ?_
      refine r_aload_n dX9_needed_23 rfl ?_
      refine r_iload_n dX9_needed_24 rfl ?_
      refine r_iload dX9_needed_25 rfl ?_
      refine q_callV2 (cv_X9_plannedAt ml_X9_327) hW kc_723 (by decide) rfl ⟨rfl, rfl⟩ rfl (Nat.le_of_ble_eq_true rfl) dX9_needed_27 (c_X9_plannedAt hW hm hp hO hx rfl (by omega) (t := nn (r.1 1)) e1 (by omega)) (fun v_27 h_27 q_27 => ?_)
      obtain ⟨rfl, z9⟩ := q_27
      replace z9 := z9.symm
      subst z9
      refine r_aload_n dX9_needed_30 rfl ?_
      refine r_iload_n dX9_needed_31 rfl ?_
      refine r_iconst (2) dX9_needed_32 (by decide) ?_
      refine q_callV2 (cv_X9_of ml_X9_81) hW kc_723 (by decide) rfl ⟨rfl, rfl⟩ rfl (Nat.le_of_ble_eq_true rfl) dX9_needed_33 (c_X9_of hW hm hp hx kn_2 (by omega)) (fun v_33 h_33 q_33 => ?_)
      obtain ⟨rfl, z9⟩ := q_33
      replace z9 := z9.symm
      subst z9
      refine q_callS2 (cs_X9_up ml_X9_120) ⟨rfl, rfl⟩ rfl (Nat.le_of_ble_eq_true rfl) dX9_needed_36 (c_X9_up (fun q => by rw [g3] at q; exact absurd ((nI_eq (b := 0) (by omega) (by decide)).mp q) (by omega))) (fun v_36 h_36 q_36 => ?_)
      obtain ⟨rfl, z9⟩ := q_36
      replace z9 := z9.symm
      subst z9
      skip
      refine q_max mm_X9_123 rfl (Nat.le_of_ble_eq_true rfl) dX9_needed_39 ?_
      refine r_istore_n (ls2 := [_, _, some _, _, _]) dX9_needed_42 (by decide) rfl ?_
      refine r_iinc (1) (by decide) (ls2 := [_, _, _, some _, _]) dX9_needed_43 rfl (by decide) rfl ?_
      refine r_goto 16 dX9_needed_46 (by decide) ?_
      rw [nI_1]
      rw [← dUp_e g3 (by omega) (by omega)]
      exact ih hlt hlt
  · have kn : (okP r x && rgB 1 300 y) = false := bn1 c_6
    refine r_iconst (0) dX9_needed_9 (by decide) ?_
    refine r_iret dX9_needed_10 rfl ⟨Nat.zero_le _, Nat.zero_le _⟩ ?_
    refine ⟨rfl, fun q => absurd q ?_⟩
    unfold cd2
    cases h1 : okP r x
    · exact (by decide : ¬ (1 : Nat) = 0)
    · cases h2 : rgB 1 300 y
      · exact (by decide : ¬ (2 : Nat) = 0)
      · rw [h1, h2] at kn; cases kn

set_option maxRecDepth 100000 in
set_option maxHeartbeats 4000000 in
theorem c_X9_errorCode {l9 : Launch} {G : GC} {h : AH} (hW : World h) : PM l9 G mX9_errorCode NT NT [.ref 723] h (fun v h' => h' = sI h 723 12 (nI 0) ∧ v = some (.int (aI h 723 15))) noX := by
  refine PM.of (by decide +kernel) rfl rfl (Nat.le_of_ble_eq_true rfl) (fun hst _ => ?_)
  refine r_aload_n dX9_errorCode_0 rfl ?_
  refine r_iconst (0) dX9_errorCode_1 (by decide) ?_
  refine q_putI fl_X9_61 hW kc_723 rfl rfl dX9_errorCode_2 ?_
  refine r_aload_n dX9_errorCode_5 rfl ?_
  refine q_getI fl_X9_295 hW kc_723 rfl dX9_errorCode_6 ?_
  refine r_iret dX9_errorCode_9 rfl ⟨Nat.zero_le _, Nat.zero_le _⟩ ?_
  exact ⟨rfl, some_int (sI_k (by decide))⟩

set_option maxRecDepth 100000 in
set_option maxHeartbeats 4000000 in
theorem c_X9_errorOffset {l9 : Launch} {G : GC} {h : AH} (hW : World h) : PM l9 G mX9_errorOffset NT NT [.ref 723] h (fun v h' => h' = sI h 723 12 (nI 0) ∧ v = some (.int (aI h 723 16))) noX := by
  refine PM.of (by decide +kernel) rfl rfl (Nat.le_of_ble_eq_true rfl) (fun hst _ => ?_)
  refine r_aload_n dX9_errorOffset_0 rfl ?_
  refine r_iconst (0) dX9_errorOffset_1 (by decide) ?_
  refine q_putI fl_X9_61 hW kc_723 rfl rfl dX9_errorOffset_2 ?_
  refine r_aload_n dX9_errorOffset_5 rfl ?_
  refine q_getI fl_X9_44 hW kc_723 rfl dX9_errorOffset_6 ?_
  refine r_iret dX9_errorOffset_9 rfl ⟨Nat.zero_le _, Nat.zero_le _⟩ ?_
  exact ⟨rfl, some_int (sI_k (by decide))⟩

def OuR (h : AH) (ob : Nat → Int32) (n : Nat) : Prop := aI h 723 29 = nI n ∧ n ≤ 300 ∧ ∀ i, i < n → aI h 736 i = ob i
set_option maxRecDepth 100000 in
set_option maxHeartbeats 4000000 in
theorem c_X9_outputByte {l9 : Launch} {G : GC} {h : AH} {ob : Nat → Int32} {n : Nat} {x : Int32} (hW : World h) (ho : OuR h ob n) : PM l9 G mX9_outputByte NT NT [.ref 723, .int x] h (fun v h' => h' = sI h 723 12 (nI 0) ∧ v = some (.int (obX ob n x))) noX := by
  refine PM.of (by decide +kernel) rfl rfl (Nat.le_of_ble_eq_true rfl) (fun hst _ => ?_)
  refine r_aload_n dX9_outputByte_0 rfl ?_
  refine r_iconst (0) dX9_outputByte_1 (by decide) ?_
  refine q_putI fl_X9_61 hW kc_723 rfl rfl dX9_outputByte_2 ?_
  refine r_iload_n dX9_outputByte_5 rfl ?_
  refine r_iconst (0) dX9_outputByte_6 (by decide) ?_
  refine r_aload_n dX9_outputByte_7 rfl ?_
  refine q_getI fl_X9_379 hW kc_723 rfl dX9_outputByte_8 ?_
  rw [show aI (sI h 723 12 0) 723 29 = nI n from (sI_k (by decide)).trans ho.1]
  refine r_iconst (1) dX9_outputByte_11 (by decide) ?_
  refine r_isub dX9_outputByte_12 ?_
  refine q_callS3 (cs_X9_inRange ml_X9_167) ⟨rfl, rfl⟩ rfl (Nat.le_of_ble_eq_true rfl) dX9_outputByte_13 c_X9_inRange (fun v_13 h_13 q_13 => ?_)
  obtain ⟨rfl, z9⟩ := q_13
  replace z9 := z9.symm
  subst z9
  have hn := ho.2.1
  rw [inR1 rfl (by omega)]
  refine r_if_eq 28 dX9_outputByte_16 (by decide) (fun c_16 => ?_) (fun c_16 => ?_)
  · refine r_iconst (-1) dX9_outputByte_28 (by decide) ?_
    refine r_iret dX9_outputByte_29 rfl ⟨Nat.zero_le _, Nat.zero_le _⟩ ?_
    refine ⟨rfl, some_int ?_⟩
    unfold obX
    first
      | (rw [if_pos kb, ex, ← eb]; exact congrFun (sI_o (by decide)) _)
      | (have kb : ltB (nI n) x = false := bI_0.mp c_16
         rw [if_neg (by rw [kb]; decide)])
  · have kb : ltB (nI n) x = true := bI_1.mp c_16
    obtain ⟨k, k1, hx⟩ := ltB_t rfl (by omega) kb
    have ex : nn x = k := by rw [hx]; exact nn_I (by omega)
    have eb := ho.2.2 k k1
    refine r_aload_n dX9_outputByte_19 rfl ?_
    refine q_getR fl_X9_51 hW kc_723 rfl (kl_9_28 hW) (by decide) dX9_outputByte_20 ?_
    refine r_iload_n dX9_outputByte_23 rfl ?_
    refine q_iald hW kc_736 (k := k) hx (by omega) (by decide) dX9_outputByte_24 ?_
    refine r_goto 29 dX9_outputByte_25 (by decide) ?_
    refine r_iret dX9_outputByte_29 rfl ⟨Nat.zero_le _, Nat.zero_le _⟩ ?_
    refine ⟨rfl, some_int ?_⟩
    unfold obX
    first
      | (rw [if_pos kb, ex, ← eb]; exact congrFun (sI_o (by decide)) _)
      | (have kb : ltB (nI n) x = false := bI_0.mp c_16
         rw [if_neg (by rw [kb]; decide)])
