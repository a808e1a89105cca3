-- the reference: tries, errorsWith
theorem tpS_is {f : Nat → Int32} {y z : Int32} (hz : z = tpS f y 8) : upd (upd f 7 y) 8 z = tpS f y := by
  funext k
  by_cases e8 : k = 8
  · rw [e8, pk_us]; exact hz
  · rw [pk_un e8]
    by_cases e7 : k = 7
    · rw [e7, pk_us, tpS_7]
    · rw [pk_un e7, tpS_k e7 e8]
theorem sim_up {r : Row} {m p : Nat} {f : Nat → Int32} (hO : RoOK r.1 r.2 m) (hp : p < nn (r.1 0)) : SimT (upP r p f) p (nn (r.1 1)) (stQ (T0 r p) f) := by
  refine ⟨?_, fun _ _ => rfl, ?_, ?_⟩
  · rw [upP_p]
    exact fun k hk _ => trP_k hk
  · rw [upP_lo (by decide)]; exact hO.1.2.1.1
  · rw [upP_lo (by decide)]; exact hp
/-- without the season's policy no period is kept -/
def PlF (f : Nat → Int32) : Prop := ¬ f 7 = 2 → f 8 = 0
set_option maxRecDepth 100000 in
set_option maxHeartbeats 800000 in
theorem c_X9_tries {l9 : Launch} {G : GC} {h : AH} {w : Nat → Int32} {v9 : Nat → Int64} {p : Nat} {f : Nat → Int32} {g : Nat → Int64} {c u : Nat} {x y : Int32} (hW : World h) (hm : PV h w v9 p f g) (hp : p < 4) (hO : PoOK f g c u) (hx : x = nI p) (hpl : PlF f) : PM l9 G mX9_tries NT NT [.ref 723, .int x, .int y] h (fun v h' => v = none ∧ eqx h h' SM ∧ PV h' w v9 p (tpS f y) g) noX := by
  refine PM.of (by decide +kernel) rfl rfl (Nat.le_of_ble_eq_true rfl) (fun hst _ => ?_)
  refine r_aload_n dX9_tries_0 rfl ?_
  refine r_iload_n dX9_tries_1 rfl ?_
  refine r_bipush (8) dX9_tries_2 (by decide) ?_
  refine q_callV2 (cv_X9_of ml_X9_81) hW kc_723 (by decide) rfl ⟨rfl, rfl⟩ rfl (Nat.le_of_ble_eq_true rfl) dX9_tries_4 (c_X9_of hW hm hp hx kn_8 (by omega)) (fun v_4 h_4 q_4 => ?_)
  obtain ⟨rfl, z9⟩ := q_4
  replace z9 := z9.symm
  subst z9
  refine r_if_ne 15 dX9_tries_7 (by decide) (fun c_7 => ?_) (fun c_7 => ?_)
  · refine r_aload_n dX9_tries_15 rfl ?_
    refine r_iload_n dX9_tries_16 rfl ?_
    refine r_bipush (8) dX9_tries_17 (by decide) ?_
    refine q_callV2 (cv_X9_of ml_X9_81) hW kc_723 (by decide) rfl ⟨rfl, rfl⟩ rfl (Nat.le_of_ble_eq_true rfl) dX9_tries_19 (c_X9_of hW hm hp hx kn_8 (by omega)) (fun v_19 h_19 q_19 => ?_)
    obtain ⟨rfl, z9⟩ := q_19
    replace z9 := z9.symm
    subst z9
    refine r_istore_n (ls2 := [_, _, some _, _]) dX9_tries_22 (by decide) rfl ?_
    have he : eqx h h SM := eqx.rf
    refine r_aload_n dX9_tries_23 rfl ?_
    refine r_iload_n dX9_tries_24 rfl ?_
    refine r_bipush (7) dX9_tries_25 (by decide) ?_
    refine r_iload_n dX9_tries_27 rfl ?_
    refine q_callV3 (cv_X9_put ml_X9_64) hW kc_723 (by decide) rfl ⟨rfl, rfl⟩ rfl (Nat.le_of_ble_eq_true rfl) dX9_tries_28 (c_X9_put hW hm hp hx kn_7 (by omega)) (fun v_28 h_28 q_28 => ?_)
    obtain ⟨rfl, e_28, hm⟩ := q_28
    have hW := e_28.W hW
    have he := he.tr e_28
    refine r_aload_n dX9_tries_31 rfl ?_
    refine r_iload_n dX9_tries_32 rfl ?_
    refine r_bipush (8) dX9_tries_33 (by decide) ?_
    refine r_iload_n dX9_tries_35 rfl ?_
    refine r_iconst (2) dX9_tries_36 (by decide) ?_
    refine r_icmp_ne 44 dX9_tries_37 (by decide) (fun c_37 => ?_) (fun c_37 => ?_)
    · refine r_iconst (0) dX9_tries_44 (by decide) ?_
      refine q_callV3 (cv_X9_put ml_X9_64) hW kc_723 (by decide) rfl ⟨rfl, rfl⟩ rfl (Nat.le_of_ble_eq_true rfl) dX9_tries_45 (c_X9_put hW hm hp hx kn_8 (by omega)) (fun v_45 h_45 q_45 => ?_)
      obtain ⟨rfl, e_45, hm⟩ := q_45
      have hW := e_45.W hW
      have he := he.tr e_45
      refine r_vret dX9_tries_48 rfl ⟨Nat.zero_le _, Nat.zero_le _⟩ ?_
      refine ⟨rfl, he, hm.eF (tpS_is ?_).symm rfl⟩
      rw [tpS_8]
      first
        | (rw [if_neg c_37])
        | (rw [if_pos c_37]
           by_cases q : f 7 = 2
           · rw [if_pos q]
             first
               | done
               | rfl
               | (have h8 := hO.2.1.1 q
                  rw [c_7] at h8
                  exact absurd h8 (by decide))
           · rw [if_neg q]
             first
               | done
               | rfl
               | exact absurd (hpl q) c_7)
    · refine r_iload_n dX9_tries_40 rfl ?_
      refine r_goto 45 dX9_tries_41 (by decide) ?_
      refine q_callV3 (cv_X9_put ml_X9_64) hW kc_723 (by decide) rfl ⟨rfl, rfl⟩ rfl (Nat.le_of_ble_eq_true rfl) dX9_tries_45 (c_X9_put hW hm hp hx kn_8 (by omega)) (fun v_45 h_45 q_45 => ?_)
      obtain ⟨rfl, e_45, hm⟩ := q_45
      have hW := e_45.W hW
      have he := he.tr e_45
      refine r_vret dX9_tries_48 rfl ⟨Nat.zero_le _, Nat.zero_le _⟩ ?_
      refine ⟨rfl, he, hm.eF (tpS_is ?_).symm rfl⟩
      rw [tpS_8]
      first
        | (rw [if_neg c_37])
        | (rw [if_pos c_37]
           by_cases q : f 7 = 2
           · rw [if_pos q]
             first
               | done
               | rfl
               | (have h8 := hO.2.1.1 q
                  rw [c_7] at h8
                  exact absurd h8 (by decide))
           · rw [if_neg q]
             first
               | done
               | rfl
               | exact absurd (hpl q) c_7)
  · refine r_bipush (24) dX9_tries_10 (by decide) ?_
    refine r_goto 22 dX9_tries_12 (by decide) ?_
    refine r_istore_n (ls2 := [_, _, some _, _]) dX9_tries_22 (by decide) rfl ?_
    have he : eqx h h SM := eqx.rf
    refine r_aload_n dX9_tries_23 rfl ?_
    refine r_iload_n dX9_tries_24 rfl ?_
    refine r_bipush (7) dX9_tries_25 (by decide) ?_
    refine r_iload_n dX9_tries_27 rfl ?_
    refine q_callV3 (cv_X9_put ml_X9_64) hW kc_723 (by decide) rfl ⟨rfl, rfl⟩ rfl (Nat.le_of_ble_eq_true rfl) dX9_tries_28 (c_X9_put hW hm hp hx kn_7 (by omega)) (fun v_28 h_28 q_28 => ?_)
    obtain ⟨rfl, e_28, hm⟩ := q_28
    have hW := e_28.W hW
    have he := he.tr e_28
    refine r_aload_n dX9_tries_31 rfl ?_
    refine r_iload_n dX9_tries_32 rfl ?_
    refine r_bipush (8) dX9_tries_33 (by decide) ?_
    refine r_iload_n dX9_tries_35 rfl ?_
    refine r_iconst (2) dX9_tries_36 (by decide) ?_
    refine r_icmp_ne 44 dX9_tries_37 (by decide) (fun c_37 => ?_) (fun c_37 => ?_)
    · refine r_iconst (0) dX9_tries_44 (by decide) ?_
      refine q_callV3 (cv_X9_put ml_X9_64) hW kc_723 (by decide) rfl ⟨rfl, rfl⟩ rfl (Nat.le_of_ble_eq_true rfl) dX9_tries_45 (c_X9_put hW hm hp hx kn_8 (by omega)) (fun v_45 h_45 q_45 => ?_)
      obtain ⟨rfl, e_45, hm⟩ := q_45
      have hW := e_45.W hW
      have he := he.tr e_45
      refine r_vret dX9_tries_48 rfl ⟨Nat.zero_le _, Nat.zero_le _⟩ ?_
      refine ⟨rfl, he, hm.eF (tpS_is ?_).symm rfl⟩
      rw [tpS_8]
      first
        | (rw [if_neg c_37])
        | (rw [if_pos c_37]
           by_cases q : f 7 = 2
           · rw [if_pos q]
             first
               | done
               | rfl
               | (have h8 := hO.2.1.1 q
                  rw [c_7] at h8
                  exact absurd h8 (by decide))
           · rw [if_neg q]
             first
               | done
               | rfl
               | exact absurd (hpl q) c_7)
    · refine r_iload_n dX9_tries_40 rfl ?_
      refine r_goto 45 dX9_tries_41 (by decide) ?_
      refine q_callV3 (cv_X9_put ml_X9_64) hW kc_723 (by decide) rfl ⟨rfl, rfl⟩ rfl (Nat.le_of_ble_eq_true rfl) dX9_tries_45 (c_X9_put hW hm hp hx kn_8 (by omega)) (fun v_45 h_45 q_45 => ?_)
      obtain ⟨rfl, e_45, hm⟩ := q_45
      have hW := e_45.W hW
      have he := he.tr e_45
      refine r_vret dX9_tries_48 rfl ⟨Nat.zero_le _, Nat.zero_le _⟩ ?_
      refine ⟨rfl, he, hm.eF (tpS_is ?_).symm rfl⟩
      rw [tpS_8]
      first
        | (rw [if_neg c_37])
        | (rw [if_pos c_37]
           by_cases q : f 7 = 2
           · rw [if_pos q]
             first
               | done
               | rfl
               | (have h8 := hO.2.1.1 q
                  rw [c_7] at h8
                  exact absurd h8 (by decide))
           · rw [if_neg q]
             first
               | done
               | rfl
               | exact absurd (hpl q) c_7)

set_option maxRecDepth 100000 in
set_option maxHeartbeats 800000 in
theorem c_X9_errorsWith {l9 : Launch} {G : GC} {h : AH} {r : Row} {m : Nat} {x y z : Int32} (hW : World h) (hm : MW h r) (hO : RoOK r.1 r.2 m) (hm28 : m < 2 ^ 28) (hb : m + 300 < 2 ^ 23) (hpl : ∀ p, p < nn (r.1 0) → PlF (getP r.1 p)) : PM l9 G mX9_errorsWith NT NT [.ref 723, .int x, .int y, .int z] h (fun v h' => (cd2 (okP r x) (rgB 0 2 y && rgB 1 300 z) ≠ 0 → RQ h h' (cd2 (okP r x) (rgB 0 2 y && rgB 1 300 z))) ∧ (cd2 (okP r x) (rgB 0 2 y && rgB 1 300 z) = 0 → v = some (.long ((TQ r x (tpS (fP r x) y) (nn z)).2 3 - gP r x 3)) ∧ RT h h' ∧ MW h' r)) noX := by
  refine PM.of (by decide +kernel) rfl rfl (Nat.le_of_ble_eq_true rfl) (fun hst _ => ?_)
  have hm00 := hm
  refine r_aload_n dX9_errorsWith_0 rfl ?_
  refine r_iload_n dX9_errorsWith_1 rfl ?_
  refine q_callV1 (cv_X9_noPool ml_X9_309) hW kc_723 (by decide) rfl ⟨rfl, rfl⟩ rfl (Nat.le_of_ble_eq_true rfl) dX9_errorsWith_2 (c_X9_noPool hW hm hO) (fun v_2 h_2 q_2 => ?_)
  obtain ⟨rfl, z9⟩ := q_2
  subst z9
  have hW : World (sI h 723 12 (nI (cd1 (okP r x)))) := wsI hW
  replace hm := hm.s9 (k := 12) (x := nI (cd1 (okP r x)))
  refine r_if_ne 39 dX9_errorsWith_5 (by decide) (fun c_5 => ?_) (fun c_5 => ?_)
  · refine r_lconst (0) dX9_errorsWith_39 (by decide) ?_
    refine r_lret dX9_errorsWith_40 rfl ⟨Nat.zero_le _, Nat.zero_le _⟩ ?_
    first
      | (have ko : okP r x = false := bn1 c_5
         exact ⟨fun _ => by rw [ko]; exact RQ.of, fun q => absurd q (cd2_n1 ko)⟩)
      | (have kr : rgB 0 2 y = false := bI_0.mp c_15
         have kf := and_f1 (b := rgB 1 300 z) kr
         exact ⟨fun _ => by rw [sI_2, ko, kf]; exact RQ.of (c := 2), fun q => absurd q (cd2_n2 ko kf)⟩)
      | (have kn : (okP r x && rgB 1 300 z) = false := bn1 c_36
         have kz : rgB 1 300 z = false := by rw [ko] at kn; exact kn
         have kf := and_f2 (a := rgB 0 2 y) kz
         exact ⟨fun _ => by rw [ko, kf, kz]; exact RQ.of (c := 2), fun q => absurd q (cd2_n2 ko kf)⟩)
  · have ko : okP r x = true := bn0 c_5
    refine r_aload_n dX9_errorsWith_8 rfl ?_
    refine r_iload_n dX9_errorsWith_9 rfl ?_
    refine r_iconst (0) dX9_errorsWith_10 (by decide) ?_
    refine r_iconst (2) dX9_errorsWith_11 (by decide) ?_
    refine q_callS3 (cs_X9_inRange ml_X9_167) ⟨rfl, rfl⟩ rfl (Nat.le_of_ble_eq_true rfl) dX9_errorsWith_12 c_X9_inRange (fun v_12 h_12 q_12 => ?_)
    obtain ⟨rfl, z9⟩ := q_12
    replace z9 := z9.symm
    subst z9
    refine r_if_ne 22 dX9_errorsWith_15 (by decide) (fun c_15 => ?_) (fun c_15 => ?_)
    · refine r_iconst (0) dX9_errorsWith_22 (by decide) ?_
      refine r_iconst (2) dX9_errorsWith_23 (by decide) ?_
      refine q_callV2 (cv_X9_fails ml_X9_302) hW kc_723 (by decide) rfl ⟨rfl, rfl⟩ rfl (Nat.le_of_ble_eq_true rfl) dX9_errorsWith_24 (c_X9_fails0 hW) (fun v_24 h_24 q_24 => ?_)
      obtain ⟨rfl, z9⟩ := q_24
      replace z9 := z9.symm
      subst z9
      refine r_if_ne 39 dX9_errorsWith_27 (by decide) (fun c_27 => ?_) (fun c_27 => ?_)
      · first | exact absurd c_27 (by decide) | exact absurd (by decide) c_27
      · have kr : rgB 0 2 y = true := bI_1.mp c_15
        refine r_aload_n dX9_errorsWith_30 rfl ?_
        refine r_iload_n dX9_errorsWith_31 rfl ?_
        refine r_iload_n dX9_errorsWith_32 rfl ?_
        refine q_callV2 (cv_X9_noSpan ml_X9_349) hW kc_723 (by decide) rfl ⟨rfl, rfl⟩ rfl (Nat.le_of_ble_eq_true rfl) dX9_errorsWith_33 (c_X9_noSpan hW hm hO hm28) (fun v_33 h_33 q_33 => ?_)
        obtain ⟨rfl, z9⟩ := q_33
        rw [sI_2] at z9
        subst z9
        have hW : World (sI h 723 12 (nI (cd2 (okP r x) (rgB 1 300 z)))) := wsI hW
        replace hm : MW (sI h 723 12 (nI (cd2 (okP r x) (rgB 1 300 z)))) r := hm00.s9
        refine r_if_eq 41 dX9_errorsWith_36 (by decide) (fun c_36 => ?_) (fun c_36 => ?_)
        · have kn : (okP r x && rgB 1 300 z) = true := bn0 c_36
          have kz : rgB 1 300 z = true := (Bool.and_eq_true_iff.mp kn).2
          have hcd : cd2 (okP r x) (rgB 0 2 y && rgB 1 300 z) = 0 := cd2_t ko (and_t kr kz)
          have hcd2 : cd2 (okP r x) (rgB 1 300 z) = 0 := cd2_t ko kz
          obtain ⟨p, hp, pn, hx⟩ := okP_t hO ko
          have ex : nn x = p := by rw [hx]; exact nn_I (by omega)
          have hOp := hO.2 p pn
          have y23 : nn (getP r.1 p 23) ≤ 20 := (hOp.at 23).2.2
          have y24 : nn (getP r.1 p 24) ≤ 24 := (hOp.at 24).2.2
          obtain ⟨k, k1, k2, ek⟩ := rgB_t (a := 1) (b := 300) kz (by decide) (by decide)
          have eyn : nn z = k := by rw [ek]; exact nn_I (by omega)
          obtain ⟨j, j1, j2, hyj⟩ := rgB_t (a := 0) (b := 2) kr (by decide) (by decide)
          have hyr : rg y 0 2 := by rw [hyj]; exact rg_I (Nat.zero_le _) j2 (by omega)
          have hT1 := hO.1.2.1.2.2
          have hO1 := ro_up hO pn (hOp.tp hyr)
          have hsim := sim_N hO1 (sim_up (f := tpS (getP r.1 p) y) hO pn) k (by omega) (by omega)
          have hTN : TQ r x (tpS (fP r x) y) (nn z) = trT p (nn (r.1 1)) k (stQ (T0 r p) (tpS (getP r.1 p) y)) := by unfold TQ fP; rw [ex, eyn]
          refine r_aload_n dX9_errorsWith_41 rfl ?_
          refine q_callV0 (cv_X9_begins ml_X9_352) hW kc_723 (by decide) rfl ⟨rfl, rfl⟩ rfl (Nat.le_of_ble_eq_true rfl) dX9_errorsWith_42 (c_X9_begins hW hm) (fun v_42 h_42 q_42 => ?_)
          obtain ⟨rfl, eB, hB⟩ := q_42
          have hW := eB.W hW
          replace hm := hm.cgH eB (by omega) (by omega)
          replace hm := hm.pv p
          refine r_aload_n dX9_errorsWith_45 rfl ?_
          refine r_iload_n dX9_errorsWith_46 rfl ?_
          refine r_iload_n dX9_errorsWith_47 rfl ?_
          refine q_callV2 (cv_X9_tries ml_X9_365) hW kc_723 (by decide) rfl ⟨rfl, rfl⟩ rfl (Nat.le_of_ble_eq_true rfl) dX9_errorsWith_48 (c_X9_tries hW hm hp hOp hx (hpl p pn)) (fun v_48 h_48 q_48 => ?_)
          obtain ⟨rfl, eT, hm⟩ := q_48
          have hW := eT.W hW
          replace hB := hB.cgH eT (by unfold SM; omega) (by unfold SM; omega)
          refine r_aload_n dX9_errorsWith_51 rfl ?_
          refine r_iload_n dX9_errorsWith_52 rfl ?_
          refine r_iconst (3) dX9_errorsWith_53 (by decide) ?_
          refine r_iload_n dX9_errorsWith_54 rfl ?_
          refine q_callV3 (cv_X9_growsIn ml_X9_361) hW kc_723 (by decide) rfl ⟨rfl, rfl⟩ rfl (Nat.le_of_ble_eq_true rfl) dX9_errorsWith_55 (c_X9_growsIn hW (PV.upP hm) hO1 hB hp hx kn_3 (by decide) ek (by omega)) (fun v_55 h_55 q_55 => ?_)
          obtain ⟨rfl, eG, fG, hE⟩ := q_55
          refine r_lret dX9_errorsWith_58 rfl ⟨Nat.zero_le _, Nat.zero_le _⟩ ?_
          refine ⟨fun q => absurd hcd q, fun _ => ⟨?_, ⟨?_, ?_, fun k k1 k2 => ?_⟩, hE⟩⟩
          · rw [hTN]
            unfold gP
            rw [ex, ← hsim.2.1 3 (by decide)]
            rfl
          · exact (((eqx.rf.sI (S := RTs) (Or.inl rfl)).tr (eB.wk (fun i q => by (try unfold RTs); omega))).tr (eT.wk (fun i q => by unfold SM at q; (try unfold RTs); omega))).tr eG
          · rw [fG 12 (by decide), eT.I (by unfold SM; omega), eB.I (by omega), sI_s, hcd2]; rfl
          · rw [fG k k2, eT.I (by unfold SM; omega), eB.I (by omega), sI_k k1]
        · refine r_lconst (0) dX9_errorsWith_39 (by decide) ?_
          refine r_lret dX9_errorsWith_40 rfl ⟨Nat.zero_le _, Nat.zero_le _⟩ ?_
          first
            | (have ko : okP r x = false := bn1 c_5
               exact ⟨fun _ => by rw [ko]; exact RQ.of, fun q => absurd q (cd2_n1 ko)⟩)
            | (have kr : rgB 0 2 y = false := bI_0.mp c_15
               have kf := and_f1 (b := rgB 1 300 z) kr
               exact ⟨fun _ => by rw [sI_2, ko, kf]; exact RQ.of (c := 2), fun q => absurd q (cd2_n2 ko kf)⟩)
            | (have kn : (okP r x && rgB 1 300 z) = false := bn1 c_36
               have kz : rgB 1 300 z = false := by rw [ko] at kn; exact kn
               have kf := and_f2 (a := rgB 0 2 y) kz
               exact ⟨fun _ => by rw [ko, kf, kz]; exact RQ.of (c := 2), fun q => absurd q (cd2_n2 ko kf)⟩)
    · refine r_iconst (1) dX9_errorsWith_18 (by decide) ?_
      refine r_goto 23 dX9_errorsWith_19 (by decide) ?_
      refine r_iconst (2) dX9_errorsWith_23 (by decide) ?_
      refine q_callV2 (cv_X9_fails ml_X9_302) hW kc_723 (by decide) rfl ⟨rfl, rfl⟩ rfl (Nat.le_of_ble_eq_true rfl) dX9_errorsWith_24 (c_X9_fails1 hW) (fun v_24 h_24 q_24 => ?_)
      obtain ⟨rfl, z9⟩ := q_24
      replace z9 := z9.symm
      subst z9
      replace hm := hm.s9 (k := 12) (x := 2)
      refine r_if_ne 39 dX9_errorsWith_27 (by decide) (fun c_27 => ?_) (fun c_27 => ?_)
      · refine r_lconst (0) dX9_errorsWith_39 (by decide) ?_
        refine r_lret dX9_errorsWith_40 rfl ⟨Nat.zero_le _, Nat.zero_le _⟩ ?_
        first
          | (have ko : okP r x = false := bn1 c_5
             exact ⟨fun _ => by rw [ko]; exact RQ.of, fun q => absurd q (cd2_n1 ko)⟩)
          | (have kr : rgB 0 2 y = false := bI_0.mp c_15
             have kf := and_f1 (b := rgB 1 300 z) kr
             exact ⟨fun _ => by rw [sI_2, ko, kf]; exact RQ.of (c := 2), fun q => absurd q (cd2_n2 ko kf)⟩)
          | (have kn : (okP r x && rgB 1 300 z) = false := bn1 c_36
             have kz : rgB 1 300 z = false := by rw [ko] at kn; exact kn
             have kf := and_f2 (a := rgB 0 2 y) kz
             exact ⟨fun _ => by rw [ko, kf, kz]; exact RQ.of (c := 2), fun q => absurd q (cd2_n2 ko kf)⟩)
      · first | exact absurd c_27 (by decide) | exact absurd (by decide) c_27
