-- the reference: the acts of a tick, ticks
theorem PoOK.cg3 {f f' : Nat → Int32} {g : Nat → Int64} {c t : Nat} (h : PoOK f g c t) (e : ∀ k, k < 17 ∨ k = 20 ∨ 22 < k ∧ k < 30 ∨ 36 ≤ k → f' k = f k) : PoOK f' g c t := by
  have y23 : nn (f 23) ≤ 20 := (h.at 23).2.2
  have y24 : nn (f 24) ≤ 24 := (h.at 24).2.2
  refine ⟨fun k hk => ?_, ⟨fun q => ?_, ?_⟩, fun k hk => ?_, fun j hj => ?_, ⟨?_, h.2.2.2.2.1.2⟩, fun j h1 h2 => ?_, fun u h1 h2 h3 => ?_, h.2.2.2.2.2.2.2⟩
  · have hb := bOk_lt hk
    rw [e _ (by omega)]; exact h.1 k hk
  · rw [e _ (by omega)] at q ⊢; exact h.2.1.1 q
  · rw [e _ (by omega), e _ (by omega)]; exact h.2.1.2
  · rw [e _ (by omega)] at hk
    rw [e _ (by omega)]; exact h.2.2.1 k hk
  · rw [e _ (by omega)] at hj
    rw [e _ (by omega)]; exact h.2.2.2.1 j hj
  · rw [e _ (by omega)]; exact h.2.2.2.2.1.1
  · rw [e _ (by omega)]; exact h.2.2.2.2.2.1 j h1 (by omega)
  · rw [e _ (by omega)] at h2 h3
    rw [e _ (by omega)]; exact h.2.2.2.2.2.2.1 u h1 h2 h3
theorem PoOK.dcA {f : Nat → Int32} {g : Nat → Int64} {c t u : Nat} (h : PoOK f g c t) : PoOK (dcA f u) g c t := h.cg3 (fun k hk => dcA_o (by omega) (by omega))
theorem QV.set {h : AH} {v : Nat → Int64} {p : Nat} {q : Q4} {f : Nat → Int32} {g : Nat → Int64} (hm : PV h (W2 q) v p f g) : QV h v p (setF q f) g := hm
/-- behind i comings in a tick -/
def acS (p t : Nat) (r : Int32) (q : Q4) (i : Nat) : Q4 := if i = 0 then q else setF (grS p t r i q) (upd (qF (grS p t r i q)) 21 (nI t))
theorem acS_1 {p t i : Nat} {r : Int32} {q : Q4} : setF (comQ p t r (acS p t r q i)) (upd (qF (comQ p t r (acS p t r q i))) 21 (nI t)) = acS p t r q (i + 1) := by
  have e : ∀ (q : Q4) (x : Int32), comQ p t r (setF q (upd (qF q) 21 x)) = setF (comQ p t r q) (upd (qF (comQ p t r q)) 21 x) := fun q x => by
    show (joF (upd (qF q) 21 x) _ _ _, _, _, _) = _
    rw [joF_21 (Or.inl rfl)]; rfl
  unfold acS
  rw [if_neg (Nat.succ_ne_zero i)]
  by_cases h : i = 0
  · rw [if_pos h, h]; rfl
  · rw [if_neg h, e]
    show setF (comQ p t r (grS p t r i q)) (upd (upd (qF (comQ p t r (grS p t r i q))) 21 (nI t)) 21 (nI t)) = _
    have e2 : ∀ (f : Nat → Int32) (x : Int32), upd (upd f 21 x) 21 x = upd f 21 x := fun f x => by
      funext j
      by_cases ej : j = 21
      · rw [ej, pk_us, pk_us]
      · rw [pk_un ej]
    rw [e2]; rfl
theorem acS_o {p t i k : Nat} {r : Int32} {q : Q4} (hk : k ≠ 21) : qF (acS p t r q i) k = qF (grS p t r i q) k := by
  unfold acS
  split
  · next h => rw [h]; rfl
  · exact pk_un hk
theorem acS_X {p t i : Nat} {r : Int32} {q : Q4} : qX (acS p t r q i) = qX (grS p t r i q) ∧ qE (acS p t r q i) = qE (grS p t r i q) ∧ qW (acS p t r q i) = qW (grS p t r i q) := by
  unfold acS
  split
  · next h => rw [h]; exact ⟨rfl, rfl, rfl⟩
  · exact ⟨rfl, rfl, rfl⟩
theorem acS_e {p t n : Nat} {r : Int32} {q : Q4} (hn : 0 < n) : setF (acS p t r q n) (upd (qF (acS p t r q n)) 22 (nI t)) = grS p t r n (setF q (upd (upd (qF q) 21 (nI t)) 22 (nI t))) := by
  have h1 : setF q (upd (upd (qF q) 21 (nI t)) 22 (nI t)) = setF (setF q (upd (qF q) 21 (nI t))) (upd (qF (setF q (upd (qF q) 21 (nI t)))) 22 (nI t)) := rfl
  rw [h1, gr_21 (Or.inr rfl), gr_21 (Or.inl rfl)]
  unfold acS
  rw [if_neg (by omega)]
def tkN : Nat → Row → Row
  | 0, r => r
  | n + 1, r => tickW (tkN n r)
theorem tkN_ok {m : Nat} {r : Row} (h : RoOK r.1 r.2 m) : ∀ n, 100 + 20 * (m + n) < 2 ^ 28 → RoOK (tkN n r).1 (tkN n r).2 (m + n)
  | 0, _ => h
  | n + 1, hm => tick_ok (tkN_ok h n (by omega)) (by omega)
set_option maxRecDepth 100000 in
set_option maxHeartbeats 4000000 in
theorem c_X9_acts {l9 : Launch} {G : GC} {h : AH} {w : Nat → Int32} {v9 : Nat → Int64} {p : Nat} {f : Nat → Int32} {g : Nat → Int64} {c u : Nat} {t X E : Nat} {x : Int32} (hW : World h) (hm : PV h w v9 p f g) (hp : p < 4) (hO : PoOK f g c u) (hx : x = nI p) (h1 : w 1 = nI t) (h2 : w 2 = nI X) (h3 : w 3 = nI E) (h19 : rg (f 19) 0 20) (hX : X < 2 ^ 29) (hE : E < 2 ^ 29) : PM l9 G mX9_acts NT NT [.ref 723, .int x] h (fun v h' => v = none ∧ eqx h h' SM ∧ QV h' v9 p (actQ p t f (decF f t, w, X, E)) g) noX := by
  refine PM.of (by decide +kernel) rfl rfl (Nat.le_of_ble_eq_true rfl) (fun hst _ => ?_)
  have he : eqx h h SM := eqx.rf
  have y6 := deF_lt f t
  have y23 : nn (f 23) ≤ 20 := (hO.at 23).2.2
  have y19 : nn (f 19) ≤ 20 := h19.2.2
  refine r_aload_n dX9_acts_0 rfl ?_
  refine r_iload_n dX9_acts_1 rfl ?_
  refine q_callV1 (cv_X9_decides ml_X9_138) hW kc_723 (by decide) rfl ⟨rfl, rfl⟩ rfl (Nat.le_of_ble_eq_true rfl) dX9_acts_2 (c_X9_decides hW hm hp hO hx h1 h19) (fun v_2 h_2 q_2 => ?_)
  obtain ⟨rfl, z9⟩ := q_2
  replace z9 := z9.symm
  subst z9
  refine r_istore_n (ls2 := [_, some _, _, _, _, _]) dX9_acts_5 (by decide) rfl ?_
  refine r_aload_n dX9_acts_6 rfl ?_
  refine r_iload_n dX9_acts_7 rfl ?_
  refine r_bipush (17) dX9_acts_8 (by decide) ?_
  refine r_iload_n dX9_acts_10 rfl ?_
  refine q_callV3 (cv_X9_put ml_X9_64) hW kc_723 (by decide) rfl ⟨rfl, rfl⟩ rfl (Nat.le_of_ble_eq_true rfl) dX9_acts_11 (c_X9_put hW hm hp hx kn_17 (by omega)) (fun v_11 h_11 q_11 => ?_)
  obtain ⟨rfl, e_11, hm⟩ := q_11
  have hW := e_11.W hW
  have he := he.tr e_11
  refine r_aload_n dX9_acts_14 rfl ?_
  refine r_iload_n dX9_acts_15 rfl ?_
  refine r_bipush (30) dX9_acts_16 (by decide) ?_
  refine r_iload_n dX9_acts_18 rfl ?_
  refine r_iadd dX9_acts_19 ?_
  refine r_iconst (1) dX9_acts_20 (by decide) ?_
  refine q_callV3 (cv_X9_adds ml_X9_85) hW kc_723 (by decide) rfl ⟨rfl, rfl⟩ rfl (Nat.le_of_ble_eq_true rfl) dX9_acts_21 (c_X9_adds (k := 30 + deF f t) hW hm hp hx (nadd (a := 30) rfl rfl) (by omega)) (fun v_21 h_21 q_21 => ?_)
  obtain ⟨rfl, e_21, hm⟩ := q_21
  have hW := e_21.W hW
  have he := he.tr e_21
  have hm0 : PV h_21 w v9 p (dcA f t) g := hm.eF (by unfold dcA; rw [pk_un (by omega)]) rfl
  clear hm
  refine r_iload_n dX9_acts_24 rfl ?_
  refine r_iconst (1) dX9_acts_25 (by decide) ?_
  refine r_icmp_le 30 dX9_acts_26 (by decide) (fun c_26 => ?_) (fun c_26 => ?_)
  · refine r_aload_n dX9_acts_30 rfl ?_
    refine r_iload_n dX9_acts_31 rfl ?_
    refine r_bipush (19) dX9_acts_32 (by decide) ?_
    refine q_callV2 (cv_X9_of ml_X9_81) hW kc_723 (by decide) rfl ⟨rfl, rfl⟩ rfl (Nat.le_of_ble_eq_true rfl) dX9_acts_34 (c_X9_of hW hm0 hp hx (k := 19) rfl (by decide)) (fun v_34 h_34 q_34 => ?_)
    obtain ⟨rfl, z9⟩ := q_34
    replace z9 := z9.symm
    subst z9
    rw [dcA_o (k := 19) (by decide) (by omega)]
    refine r_aload_n dX9_acts_37 rfl ?_
    refine r_iload_n dX9_acts_38 rfl ?_
    refine r_bipush (23) dX9_acts_39 (by decide) ?_
    refine q_callV2 (cv_X9_of ml_X9_81) hW kc_723 (by decide) rfl ⟨rfl, rfl⟩ rfl (Nat.le_of_ble_eq_true rfl) dX9_acts_41 (c_X9_of hW hm0 hp hx (k := 23) rfl (by decide)) (fun v_41 h_41 q_41 => ?_)
    obtain ⟨rfl, z9⟩ := q_41
    replace z9 := z9.symm
    subst z9
    rw [dcA_o (k := 23) (by decide) (by omega)]
    refine r_isub dX9_acts_44 ?_
    refine r_istore_n (ls2 := [_, _, some _, _, _, _]) dX9_acts_45 (by decide) rfl ?_
    have hde : deF f t = 0 ∨ deF f t = 1 := by have := (nI_leI (b := 1) (by omega) (by decide)).mp c_26; omega
    have hq0 : QV h_21 v9 p (dcA f t, w, X, E) g := QV.of hm0 h2 h3
    have hOA : PoOK (dcA f t) g c u := hO.dcA
    have z23 : dcA f t 23 = f 23 := dcA_o (by decide) (by omega)
    have z10 : dcA f t 10 = f 10 := dcA_o (by decide) (by omega)
    have z11 : dcA f t 11 = f 11 := dcA_o (by decide) (by omega)
    have z4 : dcA f t 4 = f 4 := dcA_o (by decide) (by omega)
    have y10 : nn (f 10) ≤ 5 := (hO.at 10).2.2
    have y10' : 1 ≤ nn (f 10) := (hO.at 10).2.1
    have y11 : nn (f 11) ≤ 5 := (hO.at 11).2.2
    have e10 : f 10 = nI (nn (f 10)) := (hO.at 10).1
    have e11 : f 11 = nI (nn (f 11)) := (hO.at 11).1
    rcases hde with hde | hde
    · have hlt := deF_0 hde
      have hlt2 : nn (f 23) < nn (f 19) := by
        rw [h19.1, (hO.at 23).1] at hlt
        exact (nI_ltI (by omega) (by omega)).mp hlt
      have hlk : f 19 - f 23 = nI (nn (f 19) - nn (f 23)) := nsub h19.1 (hO.at 23).1 (by omega)
      rw [hlk]
      have hgN : grN f ≤ nn (f 19) - nn (f 23) ∧ grN f ≤ nn (f 10) ∧ (grN f = nn (f 19) - nn (f 23) ∨ grN f = nn (f 10)) ∧ 0 < grN f := by unfold grN; omega
      have hfin : ∀ (H : AH) (w5 : Option Value), World H → eqx h H SM → QV H v9 p (acS p t (nI t + 1 + f 4) (dcA f t, w, X, E) (grN f)) g → PW l9 G mX9_acts (mO mX9_acts) (fiM G mX9_acts NT (fun v h' => v = none ∧ eqx h h' SM ∧ QV h' v9 p (actQ p t f (decF f t, w, X, E)) g) noX) NT 119 [some (.ref 723), some (.int x), some (.int (nI (deF f t))), some (.int (nI (nn (f 19) - nn (f 23)))), some (.int (nI (grN f))), w5] [] (0, 0) H := by
        intro H w5 hW he hq
        have hm : PV H (W2 (acS p t (nI t + 1 + f 4) (dcA f t, w, X, E) (grN f))) v9 p (qF (acS p t (nI t + 1 + f 4) (dcA f t, w, X, E) (grN f))) g := hq
        have h1' : W2 (acS p t (nI t + 1 + f 4) (dcA f t, w, X, E) (grN f)) 1 = nI t := by
          rw [W2_k (by decide) (by decide), acS_X.2.2]
          exact (gr_W (by omega)).trans h1
        refine r_iconst (0) dX9_acts_119 (by decide) ?_
        refine r_istore (ls2 := [_, _, _, some _, _, _]) dX9_acts_120 (by decide) rfl ?_
        refine r_iload dX9_acts_122 rfl ?_
        refine r_iload_n dX9_acts_124 rfl ?_
        refine r_ineg dX9_acts_125 ?_
        refine r_icmp_ge 166 dX9_acts_126 (by decide) (fun c_126 => ?_) (fun c_126 => ?_)
        · refine r_aload_n dX9_acts_166 rfl ?_
          refine r_iload_n dX9_acts_167 rfl ?_
          refine r_bipush (22) dX9_acts_168 (by decide) ?_
          refine r_aload_n dX9_acts_170 rfl ?_
          refine q_getR fl_X9_7 hW kc_723 rfl (kl_9_0 hW) (by decide) dX9_acts_171 ?_
          refine r_iconst (1) dX9_acts_174 (by decide) ?_
          refine q_wldPV hW hm kn_1 (by omega) dX9_acts_175 ?_
          rw [h1']
          refine q_callV3 (cv_X9_put ml_X9_64) hW kc_723 (by decide) rfl ⟨rfl, rfl⟩ rfl (Nat.le_of_ble_eq_true rfl) dX9_acts_176 (c_X9_put hW hm hp hx kn_22 (by omega)) (fun v_176 h_176 q_176 => ?_)
          obtain ⟨rfl, e_176, hm⟩ := q_176
          have hW := e_176.W hW
          have he := he.tr e_176
          refine r_vret dX9_acts_179 rfl ⟨Nat.zero_le _, Nat.zero_le _⟩ ?_
          refine ⟨rfl, he, ?_⟩
          unfold actQ
          rw [if_pos hde, dec_0 hde]
          have h5 := QV.set hm
          rw [acS_e hgN.2.2.2] at h5
          exact h5
        · exfalso
          have z : ¬ (-(nI (nn (f 19) - nn (f 23))) : Int32) ≤ 0 := c_126
          apply z
          rw [Int32.le_iff_toInt_le, Int32.toInt_neg]
          have := nI_toInt (n := nn (f 19) - nn (f 23)) (by omega)
          rw [this]
          rw [Int.bmod_eq_of_le (by omega) (by omega)]
          show _ ≤ (0 : Int)
          omega
    
      refine r_iconst (0) dX9_acts_46 (by decide) ?_
      refine r_istore (ls2 := [_, _, _, _, some _, _]) dX9_acts_47 (by decide) rfl ?_
      refine loopN (P := fun i => ∀ (H : AH) (w5 : Option Value), i ≤ grN f → World H → eqx h H SM → QV H v9 p (acS p t (nI t + 1 + f 4) (dcA f t, w, X, E) i) g → PW l9 G mX9_acts (mO mX9_acts) (fiM G mX9_acts NT (fun v h' => v = none ∧ eqx h h' SM ∧ QV h' v9 p (actQ p t f (decF f t, w, X, E)) g) noX) NT 49 [some (.ref 723), some (.int x), some (.int (nI (deF f t))), some (.int (nI (nn (f 19) - nn (f 23)))), some (.int (nI i)), w5] [] (0, 0) H) (grN f) (fun i ih H w5 hi hW he hq => ?_) 0 h_21 none (Nat.zero_le _) hW he hq0
      obtain ⟨S, eS⟩ : ∃ S, S = acS p t (nI t + 1 + f 4) (dcA f t, w, X, E) i := ⟨_, rfl⟩
      rw [← eS] at hq
      have hm : PV H (W2 S) v9 p (qF S) g := hq
      obtain ⟨i1, i2, i3, i4, i5⟩ := zr_ok (p := p) (t := t) (n := i) (r := nI t + 1 + f 4) (q := (dcA f t, w, X, E)) (g := g) (c := c) (u := u) hOA (by show nn (dcA f t 23) + i ≤ 20; rw [z23]; omega)
      have i2' : nn (qF (grS p t (nI t + 1 + f 4) i (dcA f t, w, X, E)) 23) = nn (f 23) + i := by rw [i2]; show nn (dcA f t 23) + i = _; rw [z23]
      have s23 : qF S 23 = nI (nn (f 23) + i) := by rw [eS, acS_o (by decide), ← i2']; exact (i1.at 23).1
      have s10 : qF S 10 = f 10 := by rw [eS, acS_o (by decide)]; exact (i5 10 (by omega)).trans z10
      have s4 : qF S 4 = f 4 := by rw [eS, acS_o (by decide)]; exact (i5 4 (by omega)).trans z4
      have s1 : qW S 1 = nI t := by rw [eS, acS_X.2.2]; exact (gr_W (by omega)).trans h1
      have sE : qE S = E + i := by rw [eS, acS_X.2.1]; exact i4
      have sX : qX S = X + i := by rw [eS, acS_X.1]; exact i3
      have hW1 : W2 S 1 = nI t := (W2_k (by decide) (by decide)).trans s1
      refine r_iload dX9_acts_49 rfl ?_
      refine r_iload_n dX9_acts_51 rfl ?_
      refine r_icmp_ge 119 dX9_acts_52 (by decide) (fun c_52 => ?_) (fun c_52 => ?_)
      · have hge : grN f = i := by
          first
            | (have := (nI_leI (by omega) (by omega)).mp c_52; omega)
            | (have := (nI_leI (by omega) (by omega)).mp c_64; omega)
        subst hge
        rw [eS] at hq
        exact hfin _ _ hW he hq
      · refine r_iload dX9_acts_55 rfl ?_
        refine r_aload_n dX9_acts_57 rfl ?_
        refine r_iload_n dX9_acts_58 rfl ?_
        refine r_bipush (10) dX9_acts_59 (by decide) ?_
        refine q_callV2 (cv_X9_of ml_X9_81) hW kc_723 (by decide) rfl ⟨rfl, rfl⟩ rfl (Nat.le_of_ble_eq_true rfl) dX9_acts_61 (c_X9_of hW hm hp hx kn_10 (by omega)) (fun v_61 h_61 q_61 => ?_)
        obtain ⟨rfl, z9⟩ := q_61
        replace z9 := z9.symm
        subst z9
        rw [s10, e10]
        refine r_icmp_ge 119 dX9_acts_64 (by decide) (fun c_64 => ?_) (fun c_64 => ?_)
        · have hge : grN f = i := by
            first
              | (have := (nI_leI (by omega) (by omega)).mp c_52; omega)
              | (have := (nI_leI (by omega) (by omega)).mp c_64; omega)
          subst hge
          rw [eS] at hq
          exact hfin _ _ hW he hq
        · have k1 := (nI_ltI (by omega) (by omega)).mp (i_lt.mp c_52)
          have k2 := (nI_ltI (by omega) (by omega)).mp (i_lt.mp c_64)
          refine r_aload_n dX9_acts_67 rfl ?_
          refine r_iload_n dX9_acts_68 rfl ?_
          refine r_aload_n dX9_acts_69 rfl ?_
          refine q_getR fl_X9_7 hW kc_723 rfl (kl_9_0 hW) (by decide) dX9_acts_70 ?_
          refine r_iconst (1) dX9_acts_73 (by decide) ?_
          refine q_wldPV hW hm kn_1 (by omega) dX9_acts_74 ?_
          rw [hW1]
          refine r_iconst (1) dX9_acts_75 (by decide) ?_
          refine r_iadd dX9_acts_76 ?_
          refine r_aload_n dX9_acts_77 rfl ?_
          refine r_iload_n dX9_acts_78 rfl ?_
          refine r_iconst (4) dX9_acts_79 (by decide) ?_
          refine q_callV2 (cv_X9_of ml_X9_81) hW kc_723 (by decide) rfl ⟨rfl, rfl⟩ rfl (Nat.le_of_ble_eq_true rfl) dX9_acts_80 (c_X9_of hW hm hp hx kn_4 (by omega)) (fun v_80 h_80 q_80 => ?_)
          obtain ⟨rfl, z9⟩ := q_80
          replace z9 := z9.symm
          subst z9
          rw [s4]
          refine r_iadd dX9_acts_83 ?_
          refine q_callV2 (cv_X9_comes ml_X9_141) hW kc_723 (by decide) rfl ⟨rfl, rfl⟩ rfl (Nat.le_of_ble_eq_true rfl) dX9_acts_84 (c_X9_comes hW hm hp s1 hx s23 (by omega) (by omega)) (fun v_84 h_84 q_84 => ?_)
          obtain ⟨rfl, e_84, hq⟩ := q_84
          have hW := e_84.W hW
          have he := he.tr e_84
          have hm : PV h_84 (W2 (comQ p t (nI t + 1 + f 4) S)) v9 p (qF (comQ p t (nI t + 1 + f 4) S)) g := hq
          refine r_istore (ls2 := [_, _, _, _, some _, _]) dX9_acts_87 (by decide) rfl ?_
          refine r_aload_n dX9_acts_89 rfl ?_
          refine r_iload_n dX9_acts_90 rfl ?_
          refine r_bipush (21) dX9_acts_91 (by decide) ?_
          refine r_iload dX9_acts_93 rfl ?_
          refine r_if_ge 104 dX9_acts_95 (by decide) (fun c_95 => ?_) (fun c_95 => ?_)
          · skip
            refine r_aload_n dX9_acts_104 rfl ?_
            refine q_getR fl_X9_7 hW kc_723 rfl (kl_9_0 hW) (by decide) dX9_acts_105 ?_
            refine r_iconst (1) dX9_acts_108 (by decide) ?_
            refine q_wldPV hW hm kn_1 (by omega) dX9_acts_109 ?_
            rw [show W2 (comQ p t (nI t + 1 + f 4) S) 1 = nI t from (W2_k (by decide) (by decide)).trans ((evP_o (by omega)).trans s1)]
            refine q_callV3 (cv_X9_put ml_X9_64) hW kc_723 (by decide) rfl ⟨rfl, rfl⟩ rfl (Nat.le_of_ble_eq_true rfl) dX9_acts_110 (c_X9_put hW hm hp hx kn_21 (by omega)) (fun v_110 h_110 q_110 => ?_)
            obtain ⟨rfl, e_110, hm⟩ := q_110
            have hW := e_110.W hW
            have he := he.tr e_110
            refine r_iinc (1) (by decide) (ls2 := [_, _, _, some _, _, _]) dX9_acts_113 rfl (by decide) rfl ?_
            refine r_goto 49 dX9_acts_116 (by decide) ?_
            rw [nI_1]
            have h5 := QV.set hm
            rw [eS, acS_1] at h5
            exact ih (by omega) _ _ (by omega) hW he h5
          · exact absurd (Int32.not_lt.mp (nI_pos (by omega))) c_95
    
    · obtain ⟨hne, hnl⟩ := deF_1 hde
      have hlt2 : nn (f 19) < nn (f 23) := by
        rw [h19.1, (hO.at 23).1] at hnl
        have h5 := (nI_leI (by omega) (by omega)).mp (Int32.not_lt.mp hnl)
        rcases Nat.lt_or_ge (nn (f 19)) (nn (f 23)) with z | z
        · exact z
        · exact absurd (by rw [h19.1, (hO.at 23).1]; congr 1; omega) hne
      have hng : -(f 19 - f 23) = nI (nn (f 23) - nn (f 19)) := by
        rw [Int32.neg_sub]
        exact nsub (hO.at 23).1 h19.1 (by omega)
      have hsN : shN f ≤ nn (f 23) - nn (f 19) ∧ shN f ≤ nn (f 11) ∧ (shN f = nn (f 23) - nn (f 19) ∨ shN f = nn (f 11)) := by unfold shN; omega
      have hle : f 19 - f 23 ≤ 0 := by
        have := pk_sneg (a := nn (f 19)) (b := nn (f 23)) (by omega) hlt2
        rw [← h19.1, ← (hO.at 23).1] at this
        exact Int32.le_of_lt this
      obtain ⟨L, eL⟩ : ∃ L, L = f 19 - f 23 := ⟨_, rfl⟩
      rw [← eL] at hng hle ⊢
      refine r_iconst (0) dX9_acts_46 (by decide) ?_
      refine r_istore (ls2 := [_, _, _, some _, _, _]) dX9_acts_47 (by decide) rfl ?_
      refine r_iload dX9_acts_49 rfl ?_
      refine r_iload_n dX9_acts_51 rfl ?_
      refine r_icmp_ge 119 dX9_acts_52 (by decide) (fun c_52 => ?_) (fun c_52 => ?_)
      · refine r_iconst (0) dX9_acts_119 (by decide) ?_
        refine r_istore (ls2 := [_, _, _, some _, _, _]) dX9_acts_120 (by decide) rfl ?_
        refine loopN (P := fun i => ∀ (H : AH), i ≤ shN f → World H → eqx h H SM → QV H v9 p (shS p t i (dcA f t, w, X, E)) g → PW l9 G mX9_acts (mO mX9_acts) (fiM G mX9_acts NT (fun v h' => v = none ∧ eqx h h' SM ∧ QV h' v9 p (actQ p t f (decF f t, w, X, E)) g) noX) NT 122 [some (.ref 723), some (.int x), some (.int (nI (deF f t))), some (.int L), some (.int (nI i)), none] [] (0, 0) H) (shN f) (fun i ih H hi hW he hq => ?_) 0 h_21 (Nat.zero_le _) hW he hq0
        obtain ⟨S, eS⟩ : ∃ S, S = shS p t i (dcA f t, w, X, E) := ⟨_, rfl⟩
        have hq9 := hq
        rw [← eS] at hq
        have hm : PV H (W2 S) v9 p (qF S) g := hq
        obtain ⟨i1, i2, i3, i4, i5⟩ := sh_ok (p := p) (t := t) (n := i) (q := (dcA f t, w, X, E)) (g := g) (c := c) (u := u) hOA
        rw [← eS] at i1 i2 i3 i4 i5
        have s11 : qF S 11 = f 11 := (i5 11 (by omega)).trans z11
        have s1 : qW S 1 = nI t := by rw [eS]; exact (sh_W (by omega)).trans h1
        have sE : qE S ≤ E + i := i4
        have s23 : nn (qF S 23) ≤ 20 := (i1.at 23).2.2
        have hO' := i1
        have hln : ∀ k, nxQ S = some k → k < nn (qF S 23) := fun k hk => nxQ_lt hk
        have hfin : shS p t (shN f) (dcA f t, w, X, E) = S → PW l9 G mX9_acts (mO mX9_acts) (fiM G mX9_acts NT (fun v h' => v = none ∧ eqx h h' SM ∧ QV h' v9 p (actQ p t f (decF f t, w, X, E)) g) noX) NT 166 [some (.ref 723), some (.int x), some (.int (nI (deF f t))), some (.int L), some (.int (nI i)), none] [] (0, 0) H := by
          intro hSe
          refine r_aload_n dX9_acts_166 rfl ?_
          refine r_iload_n dX9_acts_167 rfl ?_
          refine r_bipush (22) dX9_acts_168 (by decide) ?_
          refine r_aload_n dX9_acts_170 rfl ?_
          refine q_getR fl_X9_7 hW kc_723 rfl (kl_9_0 hW) (by decide) dX9_acts_171 ?_
          refine r_iconst (1) dX9_acts_174 (by decide) ?_
          refine q_wldPV hW hm kn_1 (by omega) dX9_acts_175 ?_
          rw [show W2 S 1 = nI t from (W2_k (by decide) (by decide)).trans s1]
          refine q_callV3 (cv_X9_put ml_X9_64) hW kc_723 (by decide) rfl ⟨rfl, rfl⟩ rfl (Nat.le_of_ble_eq_true rfl) dX9_acts_176 (c_X9_put hW hm hp hx kn_22 (by omega)) (fun v_176 h_176 q_176 => ?_)
          obtain ⟨rfl, e_176, hm⟩ := q_176
          have hW := e_176.W hW
          have he := he.tr e_176
          refine r_vret dX9_acts_179 rfl ⟨Nat.zero_le _, Nat.zero_le _⟩ ?_
          refine ⟨rfl, he, ?_⟩
          unfold actQ
          rw [if_neg (by omega), if_pos hde, dec_1 hde]
          have h5 := QV.set hm
          rw [← hSe, ← sh_22 (Or.inr rfl)] at h5
          exact h5
        
        refine r_iload dX9_acts_122 rfl ?_
        refine r_iload_n dX9_acts_124 rfl ?_
        refine r_ineg dX9_acts_125 ?_
        rw [hng]
        refine r_icmp_ge 166 dX9_acts_126 (by decide) (fun c_126 => ?_) (fun c_126 => ?_)
        · refine hfin ?_
          first
            | (have := (nI_leI (by omega) (by omega)).mp c_126
               rw [eS]; congr 1; omega)
            | (have := (nI_leI (by omega) (by omega)).mp c_138
               rw [eS]; congr 1; omega)
            | (have hno : nxQ S = none := (oI_m1 (fun k hk => by have := hln k hk; omega)).mp (by first | exact c_147 | simpa using c_147)
               rw [eS] at hno ⊢
               exact shS_stop hno (shN f) hi)
        · refine r_iload dX9_acts_129 rfl ?_
          refine r_aload_n dX9_acts_131 rfl ?_
          refine r_iload_n dX9_acts_132 rfl ?_
          refine r_bipush (11) dX9_acts_133 (by decide) ?_
          refine q_callV2 (cv_X9_of ml_X9_81) hW kc_723 (by decide) rfl ⟨rfl, rfl⟩ rfl (Nat.le_of_ble_eq_true rfl) dX9_acts_135 (c_X9_of hW hm hp hx kn_11 (by omega)) (fun v_135 h_135 q_135 => ?_)
          obtain ⟨rfl, z9⟩ := q_135
          replace z9 := z9.symm
          subst z9
          rw [s11, e11]
          refine r_icmp_ge 166 dX9_acts_138 (by decide) (fun c_138 => ?_) (fun c_138 => ?_)
          · refine hfin ?_
            first
              | (have := (nI_leI (by omega) (by omega)).mp c_126
                 rw [eS]; congr 1; omega)
              | (have := (nI_leI (by omega) (by omega)).mp c_138
                 rw [eS]; congr 1; omega)
              | (have hno : nxQ S = none := (oI_m1 (fun k hk => by have := hln k hk; omega)).mp (by first | exact c_147 | simpa using c_147)
                 rw [eS] at hno ⊢
                 exact shS_stop hno (shN f) hi)
          · refine r_aload_n dX9_acts_141 rfl ?_
            refine r_iload_n dX9_acts_142 rfl ?_
            refine q_callV1 (cv_X9_dropped ml_X9_135) hW kc_723 (by decide) rfl ⟨rfl, rfl⟩ rfl (Nat.le_of_ble_eq_true rfl) dX9_acts_143 (c_X9_dropped hW hm hp hO' hx) (fun v_143 h_143 q_143 => ?_)
            obtain ⟨rfl, z9⟩ := q_143
            replace z9 := z9.symm
            subst z9
            refine r_iconst (-1) dX9_acts_146 (by decide) ?_
            refine r_icmp_eq 166 dX9_acts_147 (by decide) (fun c_147 => ?_) (fun c_147 => ?_)
            · refine hfin ?_
              first
                | (have := (nI_leI (by omega) (by omega)).mp c_126
                   rw [eS]; congr 1; omega)
                | (have := (nI_leI (by omega) (by omega)).mp c_138
                   rw [eS]; congr 1; omega)
                | (have hno : nxQ S = none := (oI_m1 (fun k hk => by have := hln k hk; omega)).mp (by first | exact c_147 | simpa using c_147)
                   rw [eS] at hno ⊢
                   exact shS_stop hno (shN f) hi)
            · obtain ⟨k, hk9⟩ : ∃ k, nxQ S = some k := by
                cases hq8 : nxQ S with
                | none => unfold nxQ at hq8; rw [hq8] at c_147; exact absurd rfl c_147
                | some k => exact ⟨k, rfl⟩
              have hk7 := hln k hk9
              have hk8 : ng (mbs (qF S)) (qF S 9) (mbs (qF S)).length = some k := hk9
              refine r_aload_n dX9_acts_150 rfl ?_
              refine r_iload_n dX9_acts_151 rfl ?_
              refine r_aload_n dX9_acts_152 rfl ?_
              refine r_iload_n dX9_acts_153 rfl ?_
              refine q_callV1 (cv_X9_dropped ml_X9_135) hW kc_723 (by decide) rfl ⟨rfl, rfl⟩ rfl (Nat.le_of_ble_eq_true rfl) dX9_acts_154 (c_X9_dropped hW hm hp hO' hx) (fun v_154 h_154 q_154 => ?_)
              obtain ⟨rfl, z9⟩ := q_154
              replace z9 := z9.symm
              subst z9
              rw [hk8]
              refine q_callV2 (cv_X9_goes ml_X9_144) hW kc_723 (by decide) rfl ⟨rfl, rfl⟩ rfl (Nat.le_of_ble_eq_true rfl) dX9_acts_157 (c_X9_goes (k := k) hW hm hp s1 hx rfl (i1.at 23) hk7 (by omega)) (fun v_157 h_157 q_157 => ?_)
              obtain ⟨rfl, e_157, hq⟩ := q_157
              have hW := e_157.W hW
              have he := he.tr e_157
              refine r_iinc (1) (by decide) (ls2 := [_, _, _, some _, _, _]) dX9_acts_160 rfl (by decide) rfl ?_
              refine r_goto 122 dX9_acts_163 (by decide) ?_
              rw [nI_1]
              have k1 := (nI_ltI (by omega) (by omega)).mp (i_lt.mp c_126)
              have k2 := (nI_ltI (by omega) (by omega)).mp (i_lt.mp c_138)
              refine ih (by omega) _ (by omega) hW he ?_
              rw [shS_go (by rw [← eS]; exact hk9), ← eS]
              exact hq
      · exact absurd hle c_52
  · refine r_vret dX9_acts_29 rfl ⟨Nat.zero_le _, Nat.zero_le _⟩ ?_
    have h1' : ¬ deF f t ≤ 1 := fun q => c_26 ((nI_leI (b := 1) (by omega) (by decide)).mpr q)
    refine ⟨rfl, he, ?_⟩
    unfold actQ
    rw [if_neg (by omega), if_neg (by omega), dec_2 h1']
    exact QV.of hm0 h2 h3

set_option maxRecDepth 100000 in
set_option maxHeartbeats 4000000 in
theorem c_X9_tick {l9 : Launch} {G : GC} {h : AH} {r : Row} {m : Nat} (hW : World h) (hm : MW h r) (hO : RoOK r.1 r.2 m) (hb : 100 + 20 * (m + 1) < 2 ^ 28) : PM l9 G mX9_tick NT NT [.ref 723] h (fun v h' => v = none ∧ eqx h h' SM ∧ MW h' (tickW r)) noX := by
  refine PM.of (by decide +kernel) rfl rfl (Nat.le_of_ble_eq_true rfl) (fun hst _ => ?_)
  obtain ⟨np, n1, n2, n3⟩ := hO.1.1.nat
  obtain ⟨t, t1, t2, t3⟩ := hO.1.2.1.nat
  have en : nn (r.1 0) = np := by rw [n3]; exact nn_I (by omega)
  have et : nn (r.1 1) = t := by rw [t3]; exact nn_I (by omega)
  have inv := tk_inv hO et en hb
  refine r_iconst (0) dX9_tick_0 (by decide) ?_
  refine r_istore_n (ls2 := [some _, _]) dX9_tick_1 (by decide) rfl ?_
  refine loopN (P := fun i => ∀ H : AH, i ≤ np → World H → eqx h H SM → MW H (tkS t i r) → PW l9 G mX9_tick _ _ NT 2 [some (.ref 723), some (.int (nI i))] [] (0, 0) H) np (fun i ih H hi hW he hm => ?_) 0 h (Nat.zero_le _) hW eqx.rf hm
  obtain ⟨i1, i2, i3, i4, i5, i6⟩ := inv i hi
  obtain ⟨r9, er9⟩ : ∃ r9, r9 = tkS t i r := ⟨_, rfl⟩
  rw [← er9] at hm i1 i2 i3 i4 i5 i6
  refine r_iload_n dX9_tick_2 rfl ?_
  refine r_aload_n dX9_tick_3 rfl ?_
  refine q_getR fl_X9_7 hW kc_723 rfl (kl_9_0 hW) (by decide) dX9_tick_4 ?_
  refine r_iconst (0) dX9_tick_7 (by decide) ?_
  refine q_wldMW hW hm kn_0 (by omega) dX9_tick_8 ?_
  rw [i1, n3]
  refine r_icmp_ge 33 dX9_tick_9 (by decide) (fun c_9 => ?_) (fun c_9 => ?_)
  · have hge : np = i := by have := (nI_leI (by omega) (by omega)).mp c_9; omega
    rw [er9] at hm i2
    rw [← hge] at hm i2
    refine r_aload_n dX9_tick_33 rfl ?_
    refine q_getR fl_X9_7 hW kc_723 rfl (kl_9_0 hW) (by decide) dX9_tick_34 ?_
    refine r_iconst (1) dX9_tick_37 (by decide) ?_
    refine r_dup2 dX9_tick_38 rfl rfl ?_
    refine q_wldMW hW hm kn_1 (by omega) dX9_tick_39 ?_
    refine r_iconst (1) dX9_tick_40 (by decide) ?_
    rw [i2, t3]
    refine r_iadd dX9_tick_41 ?_
    rw [nI_1]
    refine q_wstMW hW hm kn_1 (by omega) dX9_tick_42 (fun h_42 hW hm e_42 => ?_)
    have he := he.tr e_42
    refine r_vret dX9_tick_43 rfl ⟨Nat.zero_le _, Nat.zero_le _⟩ ?_
    refine ⟨rfl, he, ?_⟩
    unfold tickW
    rw [et, en]
    exact hm
  · have hlt : i < np := (nI_ltI (by omega) (by omega)).mp (i_lt.mp c_9)
    have hp : i < 4 := by omega
    have h1 : r9.1 1 = nI t := i2.trans t3
    have h2 := i3.1
    have h3 := i4.1
    have b2 := i3.2.2
    have b3 := i4.2.2
    have hO1 : PoOK (getP r9.1 i) (getG r9.2 i) t t := by
      rw [(i6 i (Nat.le_refl i)).1, (i6 i (Nat.le_refl i)).2]
      have := hO.2 i (by omega)
      rwa [et] at this
    have hO2 := (hO1.met (by omega)).er (u := t) (d := metF (getP r9.1 i) t (60 + t % 24))
    have hO3 := hO1.pas (by omega)
    have h19 := pasF_19 hO1 (by omega)
    have hm := hm.pv i
    refine r_aload_n dX9_tick_12 rfl ?_
    refine r_iload_n dX9_tick_13 rfl ?_
    refine q_callV1 (cv_X9_meets ml_X9_148) hW kc_723 (by decide) rfl ⟨rfl, rfl⟩ rfl (Nat.le_of_ble_eq_true rfl) dX9_tick_14 (c_X9_meets hW hm hp hO1 rfl h1) (fun v_14 h_14 q_14 => ?_)
    obtain ⟨rfl, e_14, hm⟩ := q_14
    have hW := e_14.W hW
    have he := he.tr e_14
    refine r_aload_n dX9_tick_17 rfl ?_
    refine r_iload_n dX9_tick_18 rfl ?_
    refine q_callV1 (cv_X9_looksAhead ml_X9_152) hW kc_723 (by decide) rfl ⟨rfl, rfl⟩ rfl (Nat.le_of_ble_eq_true rfl) dX9_tick_19 (c_X9_looksAhead hW hm hp hO2 rfl h1) (fun v_19 h_19 q_19 => ?_)
    obtain ⟨rfl, e_19, hm⟩ := q_19
    have hW := e_19.W hW
    have he := he.tr e_19
    refine r_aload_n dX9_tick_22 rfl ?_
    refine r_iload_n dX9_tick_23 rfl ?_
    refine q_callV1 (cv_X9_acts ml_X9_155) hW kc_723 (by decide) rfl ⟨rfl, rfl⟩ rfl (Nat.le_of_ble_eq_true rfl) dX9_tick_24 (c_X9_acts hW hm hp hO3 rfl h1 h2 h3 h19 (by omega) (by omega)) (fun v_24 h_24 q_24 => ?_)
    obtain ⟨rfl, e_24, hm⟩ := q_24
    have hW := e_24.W hW
    have he := he.tr e_24
    refine r_iinc (1) (by decide) (ls2 := [some _, _]) dX9_tick_27 rfl (by decide) rfl ?_
    refine r_goto 2 dX9_tick_30 (by decide) ?_
    rw [nI_1]
    refine ih hlt _ hlt hW he ?_
    rw [er9] at hm
    exact hm

set_option maxRecDepth 100000 in
set_option maxHeartbeats 4000000 in
theorem c_X9_runs {l9 : Launch} {G : GC} {h : AH} {r : Row} {m n : Nat} {x : Int32} (hW : World h) (hm : MW h r) (hO : RoOK r.1 r.2 m) (hb : 100 + 20 * (m + n) < 2 ^ 28) (hx : x = nI n) : PM l9 G mX9_runs NT NT [.ref 723, .int x] h (fun v h' => v = some (.int ((tkN n r).1 3 - r.1 3)) ∧ eqx h h' SM ∧ MW h' (tkN n r)) noX := by
  refine PM.of (by decide +kernel) rfl rfl (Nat.le_of_ble_eq_true rfl) (fun hst _ => ?_)
  subst hx
  refine r_aload_n dX9_runs_0 rfl ?_
  refine q_getR fl_X9_7 hW kc_723 rfl (kl_9_0 hW) (by decide) dX9_runs_1 ?_
  refine r_iconst (3) dX9_runs_4 (by decide) ?_
  refine q_wldMW hW hm kn_3 (by omega) dX9_runs_5 ?_
  refine r_istore_n (ls2 := [_, some _, _, _]) dX9_runs_6 (by decide) rfl ?_
  refine r_iconst (0) dX9_runs_7 (by decide) ?_
  refine r_istore_n (ls2 := [_, _, some _, _]) dX9_runs_8 (by decide) rfl ?_
  refine loopN (P := fun i => ∀ H : AH, i ≤ n → World H → eqx h H SM → MW H (tkN i r) → PW l9 G mX9_runs _ _ NT 9 [some (.ref 723), some (.int (nI n)), some (.int (r.1 3)), some (.int (nI i))] [] (0, 0) H) n (fun i ih H hi hW he hm => ?_) 0 h (Nat.zero_le _) hW eqx.rf hm
  refine r_iload_n dX9_runs_9 rfl ?_
  refine r_iload_n dX9_runs_10 rfl ?_
  refine r_icmp_ge 24 dX9_runs_11 (by decide) (fun c_11 => ?_) (fun c_11 => ?_)
  · have hge : n = i := by have := (nI_leI (by omega) (by omega)).mp c_11; omega
    rw [← hge] at hm
    refine r_aload_n dX9_runs_24 rfl ?_
    refine q_getR fl_X9_7 hW kc_723 rfl (kl_9_0 hW) (by decide) dX9_runs_25 ?_
    refine r_iconst (3) dX9_runs_28 (by decide) ?_
    refine q_wldMW hW hm kn_3 (by omega) dX9_runs_29 ?_
    refine r_iload_n dX9_runs_30 rfl ?_
    refine r_isub dX9_runs_31 ?_
    refine r_iret dX9_runs_32 rfl ⟨Nat.zero_le _, Nat.zero_le _⟩ ?_
    exact ⟨rfl, he, hm⟩
  · have hlt : i < n := (nI_ltI (by omega) (by omega)).mp (i_lt.mp c_11)
    refine r_aload_n dX9_runs_14 rfl ?_
    refine q_callV0 (cv_X9_tick ml_X9_158) hW kc_723 (by decide) rfl ⟨rfl, rfl⟩ rfl (Nat.le_of_ble_eq_true rfl) dX9_runs_15 (c_X9_tick hW hm (tkN_ok hO i (by omega)) (by omega)) (fun v_15 h_15 q_15 => ?_)
    obtain ⟨rfl, e_15, hm⟩ := q_15
    have hW := e_15.W hW
    have he := he.tr e_15
    refine r_iinc (1) (by decide) (ls2 := [_, _, some _, _]) dX9_runs_18 rfl (by decide) rfl ?_
    refine r_goto 9 dX9_runs_21 (by decide) ?_
    rw [nI_1]
    exact ih hlt _ hlt hW he hm
