-- the class: the other questions
theorem rgB_f {x : Int32} {a b : Nat} (h : ¬ rgB (nI a) (nI b) x = true) (ha : a < 2 ^ 31) (hb : b < 2 ^ 31) : x.toInt < (a : Int) ∨ (b : Int) < x.toInt := by
  by_cases h1 : (a : Int) ≤ x.toInt
  · by_cases h2 : x.toInt ≤ (b : Int)
    · refine absurd (decide_eq_true ?_) h
      rw [Int32.le_iff_toInt_le, Int32.le_iff_toInt_le, nI_toInt ha, nI_toInt hb]
      exact ⟨h1, h2⟩
    · exact Or.inr (by omega)
  · exact Or.inl (by omega)
def ltB (b x : Int32) : Bool := decide (0 ≤ x ∧ x < b)
theorem ltB_t {x b : Int32} {n : Nat} (hb : b = nI n) (hn : n < 2 ^ 31) (h : ltB b x = true) : ∃ k, k < n ∧ x = nI k := by
  obtain ⟨h1, h2⟩ := of_decide_eq_true h
  have e := i_nat h1
  rw [hb, e] at h2
  have hlt : x.toNatClampNeg < 2 ^ 31 := by
    have := x.toInt_lt
    unfold Int32.toNatClampNeg
    omega
  exact ⟨x.toNatClampNeg, (nI_ltI hlt hn).mp h2, e⟩
/-- what a member tells; which is eldest; which pool is busiest; how many are needed -/
def ctA (r : Row) (c9 : Nat) : Nat → Int32
  | 0 => r.1 0
  | 1 => r.1 1
  | 2 => nI (smS r.1 (nn (r.1 0)))
  | 3 => r.1 2
  | 4 => r.1 3
  | _ => nI c9
def plA (r : Row) (x : Int32) : Nat → Int32
  | 3 => fP r x 23
  | 4 => nI (pwN (fP r x) (r.1 1))
  | 5 => nI (gdN (fP r x))
  | k => fP r x (if k ≤ 2 then k else k - 3)
def mbP (r : Row) (x : Int32) : Option Nat := hmS r.1 x (nn (r.1 0))
def mbK (r : Row) (x : Int32) : Option Nat := (mbP r x).bind (plS r.1 x)
def mbV (r : Row) (p k : Nat) : Nat → Int32
  | 0 => nI p
  | 1 => getP r.1 p (101 + 4 * k)
  | 2 => getP r.1 p (102 + 4 * k)
  | 3 => bI (decide (getP r.1 p (102 + 4 * k) ≤ r.1 1))
  | _ => bI (decide (getP r.1 p (103 + 4 * k) = 1))
def mbAo (r : Row) (x y : Int32) : Int32 := match mbP r x, mbK r x with
  | some p, some k => mbV r p k (nn y)
  | _, _ => 0
theorem mb_some {r : Row} {x : Int32} {p : Nat} (h : mbP r x = some p) : p < nn (r.1 0) ∧ ∃ k, mbK r x = some k ∧ plS r.1 x p = some k := by
  obtain ⟨h1, h2⟩ := fi_lt h
  refine ⟨h1, ?_⟩
  cases hq : plS r.1 x p with
  | none => rw [hq] at h2; exact absurd h2 (by decide)
  | some k => exact ⟨k, by unfold mbK; rw [h]; exact hq, rfl⟩
def elT (s : Int32 × Int32) (b c : Int32) : Int32 × Int32 := if s.1 = -1 ∨ c < s.2 ∨ (c = s.2 ∧ b < s.1) then (b, c) else s
def elS (w : Nat → Int32) (p : Nat) : Nat → Int32 × Int32 → Int32 × Int32
  | 0, s => s
  | n + 1, s => elT (elS w p n s) (getP w p (100 + 4 * n)) (getP w p (101 + 4 * n))
def elP (w : Nat → Int32) : Nat → Int32 × Int32
  | 0 => (-1, 0)
  | n + 1 => elS w n (nn (getP w n 23)) (elP w n)
def mzP (r : Row) (p : Nat) : Int32 := mzF (getP r.1 p) (nn (r.1 1)) (r.1 1)
def bsP (r : Row) : Nat → Nat
  | 0 => 0
  | 1 => 0
  | n + 2 => if mzP r (bsP r (n + 1)) < mzP r (n + 1) then n + 1 else bsP r (n + 1)
theorem bsP_s {r : Row} {n : Nat} (h : 1 ≤ n) : bsP r (n + 1) = if mzP r (bsP r n) < mzP r n then n else bsP r n := by
  cases n with
  | zero => omega
  | succ k => rfl
theorem bsP_lt {r : Row} : ∀ n, 0 < n → bsP r n < n
  | 0, h => absurd h (Nat.lt_irrefl _)
  | 1, _ => Nat.zero_lt_one
  | n + 2, _ => by
    have := bsP_lt (r := r) (n + 1) (by omega)
    show (if mzP r (bsP r (n + 1)) < mzP r (n + 1) then n + 1 else bsP r (n + 1)) < n + 2
    split <;> omega
def ndP (f : Nat → Int32) (t : Nat) : Nat → Int32
  | 0 => 0
  | n + 1 => imx (ndP f t n) (dUp (dmA f t n) (f 2))
def evA (r : Row) (k j : Nat) : Int32 := r.1 (4 + 4 * ((nn (r.1 3) - 1 - k) % 60) + j)
def kpE (r : Row) : Int32 := nI (min 60 (nn (r.1 3)))
def kpD (r : Row) : Int32 := nI (min 24 (nn (r.1 1)))
theorem f16_1 {x : Int32} (h : rg x 0 1) (h2 : ¬ x = 0) : x = 1 := by
  obtain ⟨n, n1, n2, n3⟩ := h.nat
  obtain rfl | rfl : n = 0 ∨ n = 1 := by omega
  · exact absurd n3 h2
  · exact n3
set_option maxRecDepth 100000 in
set_option maxHeartbeats 4000000 in
theorem c_X8_count {l9 : Launch} {G : GC} {h : AH} {r : Row} {m : Nat} {c9 : Nat} {x : Int32} (hW : World h) (hs : StR h 7 r.1 r.2) (hO : RoOK r.1 r.2 m) (hL : aI h 1 11 = nI c9) : PM l9 G mX8_count NT NT [.ref 1, .int x] h (fun v h' => cd1 (rgB 0 5 x) = 0 ∧ v = some (.int (ctA r c9 (nn x))) ∧ h' = h) (fun E h' => thr [eA] (cd1 (rgB 0 5 x)) E ∧ h' = h) := by
  refine PM.of (by decide +kernel) rfl rfl (Nat.le_of_ble_eq_true rfl) (fun hst _ => ?_)
  have e0 := hO.1.2.2.2.1
  by_cases kr : rgB 0 5 x = true
  · obtain ⟨k, k1, k2, hx⟩ := rgB_t (a := 0) (b := 5) kr (by decide) (by decide)
    rw [hx]
    refine r_iload_n dX8_count_0 rfl ?_
    rcases (show k = 0 ∨ k = 1 ∨ k = 2 ∨ k = 3 ∨ k = 4 ∨ k = 5 from by omega) with rfl | rfl | rfl | rfl | rfl | rfl
    · skip
      refine r_tabIn 40 dX8_count_1 (by decide) (by decide) rfl (by decide) ?_
      refine r_aload_n dX8_count_40 rfl ?_
      refine q_getR fl_X8_37 hW kc_1 rfl (kl_8_6 hW) (by decide) dX8_count_41 ?_
      refine q_getI fl_X8_83 hW kc_7 rfl dX8_count_44 ?_
      rw [hs.1]
      refine r_iret dX8_count_47 rfl ⟨Nat.le_of_ble_eq_true rfl, Nat.le_of_ble_eq_true rfl⟩ ?_
      refine ⟨cd1_t (by decide), ?_, rfl⟩
      first
        | rfl
        | exact some_int e0.symm
        | exact some_int hL
    · skip
      refine r_tabIn 48 dX8_count_1 (by decide) (by decide) rfl (by decide) ?_
      refine r_aload_n dX8_count_48 rfl ?_
      refine q_getR fl_X8_37 hW kc_1 rfl (kl_8_6 hW) (by decide) dX8_count_49 ?_
      refine q_getI fl_X8_86 hW kc_7 rfl dX8_count_52 ?_
      rw [hs.2.1]
      refine r_iret dX8_count_55 rfl ⟨Nat.le_of_ble_eq_true rfl, Nat.le_of_ble_eq_true rfl⟩ ?_
      refine ⟨cd1_t (by decide), ?_, rfl⟩
      first
        | rfl
        | exact some_int e0.symm
        | exact some_int hL
    · skip
      refine r_tabIn 56 dX8_count_1 (by decide) (by decide) rfl (by decide) ?_
      refine r_aload_n dX8_count_56 rfl ?_
      refine q_getR fl_X8_37 hW kc_1 rfl (kl_8_6 hW) (by decide) dX8_count_57 ?_
      refine q_callV0 (cv_X6_countMembers ml_X8_89) hW kc_7 (by decide) rfl ⟨rfl, rfl⟩ rfl (Nat.le_of_ble_eq_true rfl) dX8_count_60 (c_X6_countMembers hW kc_7 hs hO) (fun v_60 h_60 q_60 => ?_)
      obtain ⟨rfl, z9⟩ := q_60
      replace z9 := z9.symm
      subst z9
      refine r_iret dX8_count_63 rfl ⟨Nat.le_of_ble_eq_true rfl, Nat.le_of_ble_eq_true rfl⟩ ?_
      refine ⟨cd1_t (by decide), ?_, rfl⟩
      first
        | rfl
        | exact some_int e0.symm
        | exact some_int hL
    · skip
      refine r_tabIn 64 dX8_count_1 (by decide) (by decide) rfl (by decide) ?_
      refine r_aload_n dX8_count_64 rfl ?_
      refine q_getR fl_X8_37 hW kc_1 rfl (kl_8_6 hW) (by decide) dX8_count_65 ?_
      refine q_getI fl_X8_93 hW kc_7 rfl dX8_count_68 ?_
      rw [hs.2.2.1]
      refine r_iret dX8_count_71 rfl ⟨Nat.le_of_ble_eq_true rfl, Nat.le_of_ble_eq_true rfl⟩ ?_
      refine ⟨cd1_t (by decide), ?_, rfl⟩
      first
        | rfl
        | exact some_int e0.symm
        | exact some_int hL
    · skip
      refine r_tabIn 72 dX8_count_1 (by decide) (by decide) rfl (by decide) ?_
      refine r_aload_n dX8_count_72 rfl ?_
      refine q_getR fl_X8_37 hW kc_1 rfl (kl_8_6 hW) (by decide) dX8_count_73 ?_
      refine q_getR fl_X8_96 hW kc_7 rfl (kl_6_4 hW kc_7) (Nat.succ_ne_zero _) dX8_count_76 ?_
      refine q_getI fl_X8_100 hW (kk_6_4 kc_7) rfl dX8_count_79 ?_
      rw [hs.2.2.2.1.1]
      refine r_iret dX8_count_82 rfl ⟨Nat.le_of_ble_eq_true rfl, Nat.le_of_ble_eq_true rfl⟩ ?_
      refine ⟨cd1_t (by decide), ?_, rfl⟩
      first
        | rfl
        | exact some_int e0.symm
        | exact some_int hL
    · skip
      refine r_tabIn 83 dX8_count_1 (by decide) (by decide) rfl (by decide) ?_
      refine r_aload_n dX8_count_83 rfl ?_
      refine q_getI fl_X8_76 hW kc_1 rfl dX8_count_84 ?_
      refine r_iret dX8_count_87 rfl ⟨Nat.le_of_ble_eq_true rfl, Nat.le_of_ble_eq_true rfl⟩ ?_
      refine ⟨cd1_t (by decide), ?_, rfl⟩
      first
        | rfl
        | exact some_int e0.symm
        | exact some_int hL
  · have ho := rgB_f (a := 0) (b := 5) kr (by decide) (by decide)
    refine r_iload_n dX8_count_0 rfl ?_
    refine r_tabOut 88 dX8_count_1 ho (by decide) ?_
    refine r_throw ths_105_107 rfl rfl (Nat.le_of_ble_eq_true rfl) dX8_count_88 dX8_count_91 dX8_count_92 dX8_count_94 dX8_count_97 ?_
    exact ⟨thr_1 (by cases hq : rgB 0 5 x with | true => exact absurd hq kr | false => rfl), rfl⟩

theorem bI_1' {b : Bool} (h : ¬ bI b = 0) : bI b = 1 := by rw [bI_1.mp h]; rfl
theorem bI_0' {b : Bool} (h : bI b = 0) : bI b = 0 := h
set_option maxRecDepth 100000 in
set_option maxHeartbeats 4000000 in
theorem c_X8_member {l9 : Launch} {G : GC} {h : AH} {r : Row} {m : Nat} {x y : Int32} (hW : World h) (hs : StR h 7 r.1 r.2) (hO : RoOK r.1 r.2 m) : PM l9 G mX8_member NT NT [.ref 1, .int x, .int y] h (fun v h' => cd2 (rgB 0 4 y) (mbP r x).isSome = 0 ∧ v = some (.int (mbAo r x y)) ∧ h' = h) (fun E h' => thr [eA, eN] (cd2 (rgB 0 4 y) (mbP r x).isSome) E ∧ h' = h) := by
  refine PM.of (by decide +kernel) rfl rfl (Nat.le_of_ble_eq_true rfl) (fun hst _ => ?_)
  refine r_iload_n dX8_member_0 rfl ?_
  refine r_iconst (0) dX8_member_1 (by decide) ?_
  refine r_iconst (4) dX8_member_2 (by decide) ?_
  refine q_callXS3 (cs_X8_requireRange ml_X8_116) rfl (Nat.le_of_ble_eq_true rfl) dX8_member_3 c_X8_requireRange (fun v_3 h_3 q_3 => ?_) (fun E_3 h_3 q_3 => ?_)
  · obtain ⟨z9, kr, rfl⟩ := q_3
    replace z9 := z9.symm
    subst z9
    have kr9 : rgB 0 4 y = true := decide_eq_true kr
    obtain ⟨j, j1, j2, hy⟩ := rgB_t (a := 0) (b := 4) kr9 (by decide) (by decide)
    have ey : nn y = j := by rw [hy]; exact nn_I (by omega)
    refine r_aload_n dX8_member_6 rfl ?_
    refine q_getR fl_X8_37 hW kc_1 rfl (kl_8_6 hW) (by decide) dX8_member_7 ?_
    refine r_iload_n dX8_member_10 rfl ?_
    refine q_callV1 (cv_X6_homeOf ml_X8_152) hW kc_7 (by decide) rfl ⟨rfl, rfl⟩ rfl (Nat.le_of_ble_eq_true rfl) dX8_member_11 (c_X6_homeOf hW kc_7 hs hO) (fun v_11 h_11 q_11 => ?_)
    obtain ⟨rfl, z9⟩ := q_11
    replace z9 := z9.symm
    subst z9
    refine r_istore_n (ls2 := [_, _, some _, _, _, _]) dX8_member_14 (by decide) rfl ?_
    refine r_aload_n dX8_member_15 rfl ?_
    refine q_getR fl_X8_37 hW kc_1 rfl (kl_8_6 hW) (by decide) dX8_member_16 ?_
    refine r_iload_n dX8_member_19 rfl ?_
    refine r_iload_n dX8_member_20 rfl ?_
    change PW _ _ _ _ _ _ _ _ (.int x :: .int (oI (mbP r x)) :: _) _ _
    refine q_callV2 (cv_X6_placeIn ml_X8_155) hW kc_7 (by decide) rfl ⟨rfl, rfl⟩ rfl (Nat.le_of_ble_eq_true rfl) dX8_member_21 (c_X6_placeIn hW kc_7 hs hO (fun p hp => (fi_lt hp).1)) (fun v_21 h_21 q_21 => ?_)
    obtain ⟨rfl, z9⟩ := q_21
    replace z9 := z9.symm
    subst z9
    refine r_istore (ls2 := [_, _, _, some _, _, _]) dX8_member_24 (by decide) rfl ?_
    refine r_iload dX8_member_26 rfl ?_
    have hk8 : ∀ k, mbK r x = some k → k < 2 ^ 31 := fun k hk => by
      cases hq : mbP r x with
      | none => unfold mbK at hk; rw [hq] at hk; cases hk
      | some p =>
        obtain ⟨z1, k', z2, z3⟩ := mb_some hq
        obtain ⟨np, n4, n3, en⟩ := hO.np
        have z4 := plS_lt z3
        have z5 := (hs.sz hO (p := p) z1).2.1
        rw [z2] at hk; cases hk; omega
    change PW _ _ _ _ _ _ _ _ (.int (oI (mbK r x)) :: _) _ _
    refine r_if_ge 41 dX8_member_28 (by decide) (fun c_28 => ?_) (fun c_28 => ?_)
    · obtain ⟨p, hp9⟩ : ∃ p, mbP r x = some p := by
        cases hq : mbP r x with
        | none => exact absurd (show oI (mbK r x) < 0 from by unfold mbK; rw [hq]; exact (by decide : (-1 : Int32) < 0)) (Int32.not_lt.mpr c_28)
        | some p => exact ⟨p, rfl⟩
      obtain ⟨zp, k, zk, zl⟩ := mb_some hp9
      have zkl := plS_lt zl
      obtain ⟨np, n4, n3, en⟩ := hO.np
      obtain ⟨z1, z2, z3⟩ := hs.sz hO (p := p) zp
      have hp4 : p < 4 := by omega
      have hpo := hs.po zp
      have zm := hpo.2.1
      have zml : k < (mbs (getP r.1 p)).length := by rw [mbs_len]; exact zkl
      obtain ⟨m1, m2, m3, m4⟩ := zm.2.2 k zml
      have e1 := mbs_came zkl
      have e2 := mbs_rdy zkl
      have e3 := mbs_prt zkl
      have hoA : mbAo r x y = mbV r p k (nn y) := by unfold mbAo; rw [hp9, zk]
      have hp8 : hmS r.1 x (nn (r.1 0)) = some p := hp9
      rw [hoA, hp9]
      simp only [hp8, Option.bind_some, zl]
      refine r_aload_n dX8_member_41 rfl ?_
      refine q_getR fl_X8_37 hW kc_1 rfl (kl_8_6 hW) (by decide) dX8_member_42 ?_
      refine q_getR fl_X8_164 hW kc_7 rfl (kl_6_0 hW kc_7) (Nat.succ_ne_zero _) dX8_member_45 ?_
      refine r_iload_n dX8_member_48 rfl ?_
      refine q_pald hW (kk_6_0 kc_7) rfl hp4 dX8_member_49 ?_
      refine q_getR fl_X8_119 hW (kk_14 (kk_6_0 kc_7).1 hp4) rfl (kl_3_1 hW (kk_14 (kk_6_0 kc_7).1 hp4)) (Nat.succ_ne_zero _) dX8_member_50 ?_
      refine r_astore (ls2 := [_, _, _, _, some _, _]) dX8_member_53 (by decide) rfl ?_
      rw [hy]
      refine r_iload_n dX8_member_55 rfl ?_
      rcases (show j = 0 ∨ j = 1 ∨ j = 2 ∨ j = 3 ∨ j = 4 from by omega) with rfl | rfl | rfl | rfl | rfl
      · skip
        refine r_tabIn 88 dX8_member_56 (by decide) (by decide) rfl (by decide) ?_
        refine r_iload_n dX8_member_88 rfl ?_
        refine r_iret dX8_member_89 rfl ⟨Nat.le_of_ble_eq_true rfl, Nat.le_of_ble_eq_true rfl⟩ ?_
        refine ⟨cd2_t (by decide) rfl, ?_, rfl⟩
        rw [nn_I (by decide)]
        unfold mbV
        first
          | rfl
          | exact some_int (m2.trans e1)
          | exact some_int (m3.trans e2)
          | (refine some_int ?_; rw [← e2]; first | exact (bI_1' c_122).symm | exact (bI_0' c_122).symm)
          | (refine some_int ?_
             rw [← e3]
             have m4' := m4
             first
               | (rw [show aI h (7 + 1 + 6 + 12 * p + 3 + 4) k = bI (mPrt (mbs (getP r.1 p)) k) from m4'] at c_139
                  first | exact (bI_1' c_139).symm | exact (bI_0' c_139).symm))
      · skip
        refine r_tabIn 90 dX8_member_56 (by decide) (by decide) rfl (by decide) ?_
        refine r_aload dX8_member_90 rfl ?_
        refine q_getR fl_X8_168 hW (kk_3_1 (kk_14 (kk_6_0 kc_7).1 hp4)) rfl (kl_1_1 hW (kk_3_1 (kk_14 (kk_6_0 kc_7).1 hp4))) (Nat.succ_ne_zero _) dX8_member_92 ?_
        refine r_iload dX8_member_95 rfl ?_
        refine q_iald hW (kk_1_1 (kk_3_1 (kk_14 (kk_6_0 kc_7).1 hp4))) (k := k) rfl (by omega) (by decide) dX8_member_97 ?_
        refine r_iret dX8_member_98 rfl ⟨Nat.le_of_ble_eq_true rfl, Nat.le_of_ble_eq_true rfl⟩ ?_
        refine ⟨cd2_t (by decide) rfl, ?_, rfl⟩
        rw [nn_I (by decide)]
        unfold mbV
        first
          | rfl
          | exact some_int (m2.trans e1)
          | exact some_int (m3.trans e2)
          | (refine some_int ?_; rw [← e2]; first | exact (bI_1' c_122).symm | exact (bI_0' c_122).symm)
          | (refine some_int ?_
             rw [← e3]
             have m4' := m4
             first
               | (rw [show aI h (7 + 1 + 6 + 12 * p + 3 + 4) k = bI (mPrt (mbs (getP r.1 p)) k) from m4'] at c_139
                  first | exact (bI_1' c_139).symm | exact (bI_0' c_139).symm))
      · skip
        refine r_tabIn 99 dX8_member_56 (by decide) (by decide) rfl (by decide) ?_
        refine r_aload dX8_member_99 rfl ?_
        refine q_getR fl_X8_172 hW (kk_3_1 (kk_14 (kk_6_0 kc_7).1 hp4)) rfl (kl_1_2 hW (kk_3_1 (kk_14 (kk_6_0 kc_7).1 hp4))) (Nat.succ_ne_zero _) dX8_member_101 ?_
        refine r_iload dX8_member_104 rfl ?_
        refine q_iald hW (kk_1_2 (kk_3_1 (kk_14 (kk_6_0 kc_7).1 hp4))) (k := k) rfl (by omega) (by decide) dX8_member_106 ?_
        refine r_iret dX8_member_107 rfl ⟨Nat.le_of_ble_eq_true rfl, Nat.le_of_ble_eq_true rfl⟩ ?_
        refine ⟨cd2_t (by decide) rfl, ?_, rfl⟩
        rw [nn_I (by decide)]
        unfold mbV
        first
          | rfl
          | exact some_int (m2.trans e1)
          | exact some_int (m3.trans e2)
          | (refine some_int ?_; rw [← e2]; first | exact (bI_1' c_122).symm | exact (bI_0' c_122).symm)
          | (refine some_int ?_
             rw [← e3]
             have m4' := m4
             first
               | (rw [show aI h (7 + 1 + 6 + 12 * p + 3 + 4) k = bI (mPrt (mbs (getP r.1 p)) k) from m4'] at c_139
                  first | exact (bI_1' c_139).symm | exact (bI_0' c_139).symm))
      · skip
        refine r_tabIn 108 dX8_member_56 (by decide) (by decide) rfl (by decide) ?_
        refine r_aload dX8_member_108 rfl ?_
        refine r_iload dX8_member_110 rfl ?_
        refine r_aload_n dX8_member_112 rfl ?_
        refine q_getR fl_X8_37 hW kc_1 rfl (kl_8_6 hW) (by decide) dX8_member_113 ?_
        refine q_getI fl_X8_86 hW kc_7 rfl dX8_member_116 ?_
        rw [hs.2.1]
        refine q_callV2 (cv_X1_isReady ml_X8_175) hW (kk_3_1 (kk_14 (kk_6_0 kc_7).1 hp4)) (by decide) rfl ⟨rfl, rfl⟩ rfl (Nat.le_of_ble_eq_true rfl) dX8_member_119 (c_X1_isReadyL hW (kk_3_1 (kk_14 (kk_6_0 kc_7).1 hp4)) zm zml) (fun v_119 h_119 q_119 => ?_)
        obtain ⟨rfl, z9⟩ := q_119
        replace z9 := z9.symm
        subst z9
        refine r_if_eq 129 dX8_member_122 (by decide) (fun c_122 => ?_) (fun c_122 => ?_)
        · refine r_iconst (0) dX8_member_129 (by decide) ?_
          refine r_iret dX8_member_130 rfl ⟨Nat.le_of_ble_eq_true rfl, Nat.le_of_ble_eq_true rfl⟩ ?_
          refine ⟨cd2_t (by decide) rfl, ?_, rfl⟩
          rw [nn_I (by decide)]
          unfold mbV
          first
            | rfl
            | exact some_int (m2.trans e1)
            | exact some_int (m3.trans e2)
            | (refine some_int ?_; rw [← e2]; first | exact (bI_1' c_122).symm | exact (bI_0' c_122).symm)
            | (refine some_int ?_
               rw [← e3]
               have m4' := m4
               first
                 | (rw [show aI h (7 + 1 + 6 + 12 * p + 3 + 4) k = bI (mPrt (mbs (getP r.1 p)) k) from m4'] at c_139
                    first | exact (bI_1' c_139).symm | exact (bI_0' c_139).symm))
        · refine r_iconst (1) dX8_member_125 (by decide) ?_
          refine r_goto 130 dX8_member_126 (by decide) ?_
          refine r_iret dX8_member_130 rfl ⟨Nat.le_of_ble_eq_true rfl, Nat.le_of_ble_eq_true rfl⟩ ?_
          refine ⟨cd2_t (by decide) rfl, ?_, rfl⟩
          rw [nn_I (by decide)]
          unfold mbV
          first
            | rfl
            | exact some_int (m2.trans e1)
            | exact some_int (m3.trans e2)
            | (refine some_int ?_; rw [← e2]; first | exact (bI_1' c_122).symm | exact (bI_0' c_122).symm)
            | (refine some_int ?_
               rw [← e3]
               have m4' := m4
               first
                 | (rw [show aI h (7 + 1 + 6 + 12 * p + 3 + 4) k = bI (mPrt (mbs (getP r.1 p)) k) from m4'] at c_139
                    first | exact (bI_1' c_139).symm | exact (bI_0' c_139).symm))
      · skip
        refine r_tabOut 131 dX8_member_56 (by decide) (by decide) ?_
        refine r_aload dX8_member_131 rfl ?_
        refine q_getR fl_X8_179 hW (kk_3_1 (kk_14 (kk_6_0 kc_7).1 hp4)) rfl (kl_1_3 hW (kk_3_1 (kk_14 (kk_6_0 kc_7).1 hp4))) (Nat.succ_ne_zero _) dX8_member_133 ?_
        refine r_iload dX8_member_136 rfl ?_
        refine q_zald hW (kk_1_3 (kk_3_1 (kk_14 (kk_6_0 kc_7).1 hp4))) (k := k) rfl (by omega) (by decide) dX8_member_138 ?_
        refine r_if_eq 146 dX8_member_139 (by decide) (fun c_139 => ?_) (fun c_139 => ?_)
        · refine r_iconst (0) dX8_member_146 (by decide) ?_
          refine r_iret dX8_member_147 rfl ⟨Nat.le_of_ble_eq_true rfl, Nat.le_of_ble_eq_true rfl⟩ ?_
          refine ⟨cd2_t (by decide) rfl, ?_, rfl⟩
          rw [nn_I (by decide)]
          unfold mbV
          first
            | rfl
            | exact some_int (m2.trans e1)
            | exact some_int (m3.trans e2)
            | (refine some_int ?_; rw [← e2]; first | exact (bI_1' c_122).symm | exact (bI_0' c_122).symm)
            | (refine some_int ?_
               rw [← e3]
               have m4' := m4
               first
                 | (rw [show aI h (7 + 1 + 6 + 12 * p + 3 + 4) k = bI (mPrt (mbs (getP r.1 p)) k) from m4'] at c_139
                    first | exact (bI_1' c_139).symm | exact (bI_0' c_139).symm))
        · refine r_iconst (1) dX8_member_142 (by decide) ?_
          refine r_goto 147 dX8_member_143 (by decide) ?_
          refine r_iret dX8_member_147 rfl ⟨Nat.le_of_ble_eq_true rfl, Nat.le_of_ble_eq_true rfl⟩ ?_
          refine ⟨cd2_t (by decide) rfl, ?_, rfl⟩
          rw [nn_I (by decide)]
          unfold mbV
          first
            | rfl
            | exact some_int (m2.trans e1)
            | exact some_int (m3.trans e2)
            | (refine some_int ?_; rw [← e2]; first | exact (bI_1' c_122).symm | exact (bI_0' c_122).symm)
            | (refine some_int ?_
               rw [← e3]
               have m4' := m4
               first
                 | (rw [show aI h (7 + 1 + 6 + 12 * p + 3 + 4) k = bI (mPrt (mbs (getP r.1 p)) k) from m4'] at c_139
                    first | exact (bI_1' c_139).symm | exact (bI_0' c_139).symm))
    · refine r_throwN (ln := 2) ths_159_161 rfl rfl (Nat.le_of_ble_eq_true rfl) dX8_member_31 dX8_member_34 (Or.inl ⟨rfl, dX8_member_35⟩) dX8_member_37 dX8_member_40 ?_
      refine ⟨thr_22 kr9 ?_, rfl⟩
      cases hq : mbP r x with
      | none => rfl
      | some p =>
        obtain ⟨z1, k', z2, z3⟩ := mb_some hq
        rw [z2] at c_28
        have z9 := hk8 k' z2
        exact absurd c_28 (fun z => z (Int32.not_lt.mp (nI_pos z9)))
  · refine PX.out rfl ⟨Nat.le_of_ble_eq_true rfl, Nat.le_of_ble_eq_true rfl⟩ ?_
    obtain ⟨rfl, kx, rfl⟩ := q_3
    exact ⟨thr_21 (decide_eq_false kx), rfl⟩

set_option maxRecDepth 100000 in
set_option maxHeartbeats 4000000 in
theorem c_X8_memberAt {l9 : Launch} {G : GC} {h : AH} {r : Row} {m : Nat} {x y : Int32} (hW : World h) (hs : StR h 7 r.1 r.2) (hO : RoOK r.1 r.2 m) : PM l9 G mX8_memberAt NT NT [.ref 1, .int x, .int y] h (fun v h' => cd2 (okP r x) (ltB (fP r x 23) y) = 0 ∧ v = some (.int (fP r x (100 + 4 * nn y))) ∧ h' = h) (fun E h' => thr [eB, eN] (cd2 (okP r x) (ltB (fP r x 23) y)) E ∧ h' = h) := by
  refine PM.of (by decide +kernel) rfl rfl (Nat.le_of_ble_eq_true rfl) (fun hst _ => ?_)
  refine r_aload_n dX8_memberAt_0 rfl ?_
  refine r_iload_n dX8_memberAt_1 rfl ?_
  refine q_callX1 (cv_X8_existingPool ml_X8_112) hW kc_1 (by decide) rfl rfl (Nat.le_of_ble_eq_true rfl) dX8_memberAt_2 (c_X8_existingPool hW hs hO) (fun v_2 h_2 q_2 => ?_) (fun E_2 h_2 q_2 => ?_)
  · obtain ⟨z9, ko, p, p1, p2, rfl, rfl⟩ := q_2
    replace z9 := z9.symm
    subst z9
    have ex : nn (nI p) = p := nn_I (by omega)
    have hOp := hO.2 p p2
    have hpo : PoR h (14 + 12 * p) (nn (r.1 1)) (nn (r.1 1)) (getP r.1 p) (getG r.2 p) := hs.po p2
    have hpo9 := hpo
    obtain ⟨zs, zm, zt, ⟨zd, zc⟩, zf, z20, z18, z19, z17, z21, z22, z16⟩ := hpo
    have zd0 : DemR h (14 + 12 * p) (nn (r.1 1)) (getP r.1 p) := ⟨zd, zc⟩
    have yc := hOp.2.2.2.2.1.2.1
    refine q_getR fl_X8_119 hW (kd_po p1) rfl (kl_3_1 hW (kd_po p1)) (Nat.succ_ne_zero _) dX8_memberAt_5 ?_
    refine r_astore_n (ls2 := [_, _, some _, _]) dX8_memberAt_8 (by decide) rfl ?_
    refine r_iload_n dX8_memberAt_9 rfl ?_
    refine r_if_lt 21 dX8_memberAt_10 (by decide) (fun c_10 => ?_) (fun c_10 => ?_)
    · refine r_throwN (ln := 2) ths_159_183 rfl rfl (Nat.le_of_ble_eq_true rfl) dX8_memberAt_21 dX8_memberAt_24 (Or.inl ⟨rfl, dX8_memberAt_25⟩) dX8_memberAt_27 dX8_memberAt_30 ?_
      have y23 : nn (getP r.1 p 23) ≤ 20 := (hOp.at 23).2.2
      have eB9 : (fP r (nI p) 23) = nI (nn (getP r.1 p 23)) := by
        try unfold fP
        try rw [ex]
        exact (hOp.at 23).1
      first
        | exact ⟨thr_22 ko (decide_eq_false (fun q => absurd c_10 (Int32.not_lt.mpr q.1))), rfl⟩
        | exact ⟨thr_22 ko (decide_eq_false (fun q => c_18 (by have z := q.2; rw [eB9] at z; exact z))), rfl⟩
    · refine r_iload_n dX8_memberAt_13 rfl ?_
      refine r_aload_n dX8_memberAt_14 rfl ?_
      refine q_getI fl_X8_125 hW (kk_3_1 (kd_po p1)) rfl dX8_memberAt_15 ?_
      rw [zm.1, mbs_len]
      refine r_icmp_lt 31 dX8_memberAt_18 (by decide) (fun c_18 => ?_) (fun c_18 => ?_)
      · have y23 : nn (getP r.1 p 23) ≤ 20 := (hOp.at 23).2.2
        have eB9 : (fP r (nI p) 23) = nI (nn (getP r.1 p 23)) := by
          try unfold fP
          try rw [ex]
          exact (hOp.at 23).1
        have kb : ltB (fP r (nI p) 23) y = true := decide_eq_true ⟨Int32.not_lt.mp c_10, by rw [eB9]; exact c_18⟩
        obtain ⟨k, k1, hy⟩ := ltB_t eB9 (by omega) kb
        have ey : nn y = k := by rw [hy]; exact nn_I (by omega)
        rw [hy]
        refine r_aload_n dX8_memberAt_31 rfl ?_
        refine q_getR fl_X8_185 hW (kk_3_1 (kd_po p1)) rfl (kl_1_0 hW (kk_3_1 (kd_po p1))) (Nat.succ_ne_zero _) dX8_memberAt_32 ?_
        refine r_iload_n dX8_memberAt_35 rfl ?_
        refine q_iald hW (kk_1_0 (kk_3_1 (kd_po p1))) (k := k) rfl (by have := (hOp.at 23).2.2; have : bHi 23 = 20 := rfl; omega) (by decide) dX8_memberAt_36 ?_
        refine r_iret dX8_memberAt_37 rfl ⟨Nat.le_of_ble_eq_true rfl, Nat.le_of_ble_eq_true rfl⟩ ?_
        rw [hy] at kb
        refine ⟨cd2_t ko kb, ?_, rfl⟩
        try unfold fP
        try unfold gP
        try unfold tP
        rw [ex]
        rw [nn_I (by omega)]
        exact some_int (((zm.2.2 k (by rw [mbs_len]; exact k1)).1).trans (mbs_num k1))
        all_goals rfl
      · refine r_throwN (ln := 2) ths_159_183 rfl rfl (Nat.le_of_ble_eq_true rfl) dX8_memberAt_21 dX8_memberAt_24 (Or.inl ⟨rfl, dX8_memberAt_25⟩) dX8_memberAt_27 dX8_memberAt_30 ?_
        have y23 : nn (getP r.1 p 23) ≤ 20 := (hOp.at 23).2.2
        have eB9 : (fP r (nI p) 23) = nI (nn (getP r.1 p 23)) := by
          try unfold fP
          try rw [ex]
          exact (hOp.at 23).1
        first
          | exact ⟨thr_22 ko (decide_eq_false (fun q => absurd c_10 (Int32.not_lt.mpr q.1))), rfl⟩
          | exact ⟨thr_22 ko (decide_eq_false (fun q => c_18 (by have z := q.2; rw [eB9] at z; exact z))), rfl⟩
  · refine PX.out rfl ⟨Nat.le_of_ble_eq_true rfl, Nat.le_of_ble_eq_true rfl⟩ ?_
    obtain ⟨rfl, kx, rfl⟩ := q_2
    exact ⟨thr_21 kx, rfl⟩

set_option maxRecDepth 100000 in
set_option maxHeartbeats 4000000 in
theorem c_X8_demand {l9 : Launch} {G : GC} {h : AH} {r : Row} {m : Nat} {x y : Int32} (hW : World h) (hs : StR h 7 r.1 r.2) (hO : RoOK r.1 r.2 m) : PM l9 G mX8_demand NT NT [.ref 1, .int x, .int y] h (fun v h' => cd2 (okP r x) (ltB (kpD r) y) = 0 ∧ v = some (.int (bk (fP r x) (tP r) (nn y))) ∧ h' = h) (fun E h' => thr [eB, eN] (cd2 (okP r x) (ltB (kpD r) y)) E ∧ h' = h) := by
  refine PM.of (by decide +kernel) rfl rfl (Nat.le_of_ble_eq_true rfl) (fun hst _ => ?_)
  refine r_aload_n dX8_demand_0 rfl ?_
  refine r_iload_n dX8_demand_1 rfl ?_
  refine q_callX1 (cv_X8_existingPool ml_X8_112) hW kc_1 (by decide) rfl rfl (Nat.le_of_ble_eq_true rfl) dX8_demand_2 (c_X8_existingPool hW hs hO) (fun v_2 h_2 q_2 => ?_) (fun E_2 h_2 q_2 => ?_)
  · obtain ⟨z9, ko, p, p1, p2, rfl, rfl⟩ := q_2
    replace z9 := z9.symm
    subst z9
    have ex : nn (nI p) = p := nn_I (by omega)
    have hOp := hO.2 p p2
    have hpo : PoR h (14 + 12 * p) (nn (r.1 1)) (nn (r.1 1)) (getP r.1 p) (getG r.2 p) := hs.po p2
    have hpo9 := hpo
    obtain ⟨zs, zm, zt, ⟨zd, zc⟩, zf, z20, z18, z19, z17, z21, z22, z16⟩ := hpo
    have zd0 : DemR h (14 + 12 * p) (nn (r.1 1)) (getP r.1 p) := ⟨zd, zc⟩
    have yc := hOp.2.2.2.2.1.2.1
    refine r_astore_n (ls2 := [_, _, some _, _]) dX8_demand_5 (by decide) rfl ?_
    refine r_iload_n dX8_demand_6 rfl ?_
    refine r_if_lt 18 dX8_demand_7 (by decide) (fun c_7 => ?_) (fun c_7 => ?_)
    · refine r_throwN (ln := 2) ths_159_191 rfl rfl (Nat.le_of_ble_eq_true rfl) dX8_demand_18 dX8_demand_21 (Or.inl ⟨rfl, dX8_demand_22⟩) dX8_demand_24 dX8_demand_27 ?_
      have y23 : nn (getP r.1 p 23) ≤ 20 := (hOp.at 23).2.2
      have eB9 : (kpD r) = nI (min 24 (nn (r.1 1))) := by
        try unfold fP
        try rw [ex]
        exact rfl
      first
        | exact ⟨thr_22 ko (decide_eq_false (fun q => absurd c_7 (Int32.not_lt.mpr q.1))), rfl⟩
        | exact ⟨thr_22 ko (decide_eq_false (fun q => c_15 (by have z := q.2; rw [eB9] at z; exact z))), rfl⟩
    · refine r_iload_n dX8_demand_10 rfl ?_
      refine r_aload_n dX8_demand_11 rfl ?_
      refine q_callV0 (cv_X3_keptDemands ml_X8_188) hW (kd_po p1) (by decide) rfl ⟨rfl, rfl⟩ rfl (Nat.le_of_ble_eq_true rfl) dX8_demand_12 (c_X3_keptDemands hW (kd_po p1) zc (by omega)) (fun v_12 h_12 q_12 => ?_)
      obtain ⟨rfl, z9⟩ := q_12
      replace z9 := z9.symm
      subst z9
      refine r_icmp_lt 28 dX8_demand_15 (by decide) (fun c_15 => ?_) (fun c_15 => ?_)
      · have y23 : nn (getP r.1 p 23) ≤ 20 := (hOp.at 23).2.2
        have eB9 : (kpD r) = nI (min 24 (nn (r.1 1))) := by
          try unfold fP
          try rw [ex]
          exact rfl
        have kb : ltB (kpD r) y = true := decide_eq_true ⟨Int32.not_lt.mp c_7, by rw [eB9]; exact c_15⟩
        obtain ⟨k, k1, hy⟩ := ltB_t eB9 (by omega) kb
        have ey : nn y = k := by rw [hy]; exact nn_I (by omega)
        rw [hy]
        refine r_aload_n dX8_demand_28 rfl ?_
        refine r_iload_n dX8_demand_29 rfl ?_
        refine q_callV1 (cv_X3_demandBack ml_X8_193) hW (kd_po p1) (by decide) rfl ⟨rfl, rfl⟩ rfl (Nat.le_of_ble_eq_true rfl) dX8_demand_30 (c_X3_demandBack (m := k) hW (kd_po p1) zd0 (by omega) (by omega)) (fun v_30 h_30 q_30 => ?_)
        obtain ⟨rfl, z9⟩ := q_30
        replace z9 := z9.symm
        subst z9
        refine r_iret dX8_demand_33 rfl ⟨Nat.le_of_ble_eq_true rfl, Nat.le_of_ble_eq_true rfl⟩ ?_
        rw [hy] at kb
        refine ⟨cd2_t ko kb, ?_, rfl⟩
        try unfold fP
        try unfold gP
        try unfold tP
        rw [ex]
        rw [nn_I (by omega)]
        refine some_int ?_
        unfold bkz
        rw [if_pos ⟨by omega, by omega⟩]
        all_goals rfl
      · refine r_throwN (ln := 2) ths_159_191 rfl rfl (Nat.le_of_ble_eq_true rfl) dX8_demand_18 dX8_demand_21 (Or.inl ⟨rfl, dX8_demand_22⟩) dX8_demand_24 dX8_demand_27 ?_
        have y23 : nn (getP r.1 p 23) ≤ 20 := (hOp.at 23).2.2
        have eB9 : (kpD r) = nI (min 24 (nn (r.1 1))) := by
          try unfold fP
          try rw [ex]
          exact rfl
        first
          | exact ⟨thr_22 ko (decide_eq_false (fun q => absurd c_7 (Int32.not_lt.mpr q.1))), rfl⟩
          | exact ⟨thr_22 ko (decide_eq_false (fun q => c_15 (by have z := q.2; rw [eB9] at z; exact z))), rfl⟩
  · refine PX.out rfl ⟨Nat.le_of_ble_eq_true rfl, Nat.le_of_ble_eq_true rfl⟩ ?_
    obtain ⟨rfl, kx, rfl⟩ := q_2
    exact ⟨thr_21 kx, rfl⟩

set_option maxRecDepth 100000 in
set_option maxHeartbeats 4000000 in
theorem c_X8_event {l9 : Launch} {G : GC} {h : AH} {r : Row} {m : Nat} {x y : Int32} (hW : World h) (hs : StR h 7 r.1 r.2) (hO : RoOK r.1 r.2 m) (hm28 : m < 2 ^ 24) : PM l9 G mX8_event NT NT [.ref 1, .int x, .int y] h (fun v h' => cd2 (rgB 0 3 y) (ltB (kpE r) x) = 0 ∧ v = some (.int (evA r (nn x) (nn y))) ∧ h' = h) (fun E h' => thr [eA, eN] (cd2 (rgB 0 3 y) (ltB (kpE r) x)) E ∧ h' = h) := by
  refine PM.of (by decide +kernel) rfl rfl (Nat.le_of_ble_eq_true rfl) (fun hst _ => ?_)
  have hev := hs.2.2.2.1
  have e3 := hO.1.2.2.2
  have e30 := e3.2.2
  refine r_iload_n dX8_event_0 rfl ?_
  refine r_iconst (0) dX8_event_1 (by decide) ?_
  refine r_iconst (3) dX8_event_2 (by decide) ?_
  refine q_callXS3 (cs_X8_requireRange ml_X8_116) rfl (Nat.le_of_ble_eq_true rfl) dX8_event_3 c_X8_requireRange (fun v_3 h_3 q_3 => ?_) (fun E_3 h_3 q_3 => ?_)
  · obtain ⟨z9, kr, rfl⟩ := q_3
    replace z9 := z9.symm
    subst z9
    have kr9 : rgB 0 3 y = true := decide_eq_true kr
    obtain ⟨j, j1, j2, hy⟩ := rgB_t (a := 0) (b := 3) kr9 (by decide) (by decide)
    have ey : nn y = j := by rw [hy]; exact nn_I (by omega)
    refine r_iload_n dX8_event_6 rfl ?_
    refine r_if_lt 24 dX8_event_7 (by decide) (fun c_7 => ?_) (fun c_7 => ?_)
    · refine r_throwN (ln := 3) ths_159_265 rfl rfl (Nat.le_of_ble_eq_true rfl) dX8_event_24 dX8_event_27 (Or.inr ⟨rfl, dX8_event_28⟩) dX8_event_31 dX8_event_34 ?_
      first
        | exact ⟨thr_22 kr9 (decide_eq_false (fun q => absurd c_7 (Int32.not_lt.mpr q.1))), rfl⟩
        | exact ⟨thr_22 kr9 (decide_eq_false (fun q => c_21 q.2)), rfl⟩
    · refine r_iload_n dX8_event_10 rfl ?_
      refine r_aload_n dX8_event_11 rfl ?_
      refine q_getR fl_X8_37 hW kc_1 rfl (kl_8_6 hW) (by decide) dX8_event_12 ?_
      refine q_getR fl_X8_96 hW kc_7 rfl (kl_6_4 hW kc_7) (Nat.succ_ne_zero _) dX8_event_15 ?_
      refine q_callV0 (cv_X0_kept ml_X8_262) hW (kk_6_4 kc_7) (by decide) rfl ⟨rfl, rfl⟩ rfl (Nat.le_of_ble_eq_true rfl) dX8_event_18 (c_X0_keptN hW (kk_6_4 kc_7) hev (by omega)) (fun v_18 h_18 q_18 => ?_)
      obtain ⟨rfl, z9⟩ := q_18
      replace z9 := z9.symm
      subst z9
      refine r_icmp_lt 35 dX8_event_21 (by decide) (fun c_21 => ?_) (fun c_21 => ?_)
      · have kb : ltB (kpE r) x = true := decide_eq_true ⟨Int32.not_lt.mp c_7, c_21⟩
        obtain ⟨k, k1, hx⟩ := ltB_t (n := min 60 (nn (r.1 3))) rfl (by omega) kb
        have ex : nn x = k := by rw [hx]; exact nn_I (by omega)
        rw [hx, hy]
        refine r_aload_n dX8_event_35 rfl ?_
        refine q_getR fl_X8_37 hW kc_1 rfl (kl_8_6 hW) (by decide) dX8_event_36 ?_
        refine q_getR fl_X8_96 hW kc_7 rfl (kl_6_4 hW kc_7) (Nat.succ_ne_zero _) dX8_event_39 ?_
        refine r_iload_n dX8_event_42 rfl ?_
        refine r_iload_n dX8_event_43 rfl ?_
        refine q_callV2 (cv_X0_part ml_X8_267) hW (kk_6_4 kc_7) (by decide) rfl ⟨rfl, rfl⟩ rfl (Nat.le_of_ble_eq_true rfl) dX8_event_44 (c_X0_part hW (kk_6_4 kc_7) hev (by omega) (by omega) (by omega) (by omega)) (fun v_44 h_44 q_44 => ?_)
        obtain ⟨rfl, z9⟩ := q_44
        replace z9 := z9.symm
        subst z9
        refine r_iret dX8_event_47 rfl ⟨Nat.le_of_ble_eq_true rfl, Nat.le_of_ble_eq_true rfl⟩ ?_
        rw [hx] at kb
        rw [hy] at kr9
        refine ⟨cd2_t kr9 kb, ?_, rfl⟩
        rw [nn_I (by omega), nn_I (by omega)]
        rfl
      · refine r_throwN (ln := 3) ths_159_265 rfl rfl (Nat.le_of_ble_eq_true rfl) dX8_event_24 dX8_event_27 (Or.inr ⟨rfl, dX8_event_28⟩) dX8_event_31 dX8_event_34 ?_
        first
          | exact ⟨thr_22 kr9 (decide_eq_false (fun q => absurd c_7 (Int32.not_lt.mpr q.1))), rfl⟩
          | exact ⟨thr_22 kr9 (decide_eq_false (fun q => c_21 q.2)), rfl⟩
  · refine PX.out rfl ⟨Nat.le_of_ble_eq_true rfl, Nat.le_of_ble_eq_true rfl⟩ ?_
    obtain ⟨rfl, kx, rfl⟩ := q_3
    exact ⟨thr_21 (decide_eq_false kx), rfl⟩

set_option maxRecDepth 100000 in
set_option maxHeartbeats 4000000 in
theorem c_X8_busiest {l9 : Launch} {G : GC} {h : AH} {r : Row} {m : Nat} (hW : World h) (hs : StR h 7 r.1 r.2) (hO : RoOK r.1 r.2 m) : PM l9 G mX8_busiest NT NT [.ref 1] h (fun v h' => v = some (.int (nI (bsP r (nn (r.1 0))))) ∧ h' = h) noX := by
  refine PM.of (by decide +kernel) rfl rfl (Nat.le_of_ble_eq_true rfl) (fun hst _ => ?_)
  obtain ⟨np, n4, n3, en⟩ := hO.np
  rw [en]
  have hb4 : ∀ i, 0 < i → i ≤ np → bsP r i < 4 ∧ bsP r i < np := fun i h1 h2 => by have := bsP_lt (r := r) i h1; omega
  refine r_iconst (0) dX8_busiest_0 (by decide) ?_
  refine r_istore_n (ls2 := [some _, _, _]) dX8_busiest_1 (by decide) rfl ?_
  refine r_iconst (1) dX8_busiest_2 (by decide) ?_
  refine r_istore_n (ls2 := [_, some _, _]) dX8_busiest_3 (by decide) rfl ?_
  by_cases hn0 : np = 0
  · subst hn0
    refine r_iload_n dX8_busiest_4 rfl ?_
    refine r_aload_n dX8_busiest_5 rfl ?_
    refine q_getR fl_X8_37 hW kc_1 rfl (kl_8_6 hW) (by decide) dX8_busiest_6 ?_
    refine q_getI fl_X8_83 hW kc_7 rfl dX8_busiest_9 ?_
    rw [hs.1, n3]
    refine r_icmp_ge 64 dX8_busiest_12 (by decide) (fun c_12 => ?_) (fun c_12 => ?_)
    · refine r_iload_n dX8_busiest_64 rfl ?_
      refine r_iret dX8_busiest_65 rfl ⟨Nat.zero_le _, Nat.zero_le _⟩ ?_
      exact ⟨rfl, rfl⟩
    · exact absurd (show (nI 0 : Int32) ≤ 1 by decide) c_12
  refine loopN (P := fun i => 1 ≤ i → i ≤ np → PW l9 G mX8_busiest _ _ NT 4 [some (.ref 1), some (.int (nI (bsP r i))), some (.int (nI i))] [] (0, 0) h) np (fun i ih h1 hi => ?_) 1 (by omega) (by omega)
  obtain ⟨hb4i, hbni⟩ := hb4 i h1 hi
  refine r_iload_n dX8_busiest_4 rfl ?_
  refine r_aload_n dX8_busiest_5 rfl ?_
  refine q_getR fl_X8_37 hW kc_1 rfl (kl_8_6 hW) (by decide) dX8_busiest_6 ?_
  refine q_getI fl_X8_83 hW kc_7 rfl dX8_busiest_9 ?_
  rw [hs.1, n3]
  refine r_icmp_ge 64 dX8_busiest_12 (by decide) (fun c_12 => ?_) (fun c_12 => ?_)
  · have hge : np = i := by have := (nI_leI (by omega) (by omega)).mp c_12; omega
    refine r_iload_n dX8_busiest_64 rfl ?_
    refine r_iret dX8_busiest_65 rfl ⟨Nat.zero_le _, Nat.zero_le _⟩ ?_
    rw [hge]; exact ⟨rfl, rfl⟩
  · have hlt : i < np := (nI_ltI (by omega) (by omega)).mp (i_lt.mp c_12)
    have hi4 : i < 4 := by omega
    have hth := ih hlt (by omega) hlt
    have hbs : bsP r (i + 1) = if mzP r (bsP r i) < mzP r i then i else bsP r i := bsP_s h1
    refine r_aload_n dX8_busiest_15 rfl ?_
    refine q_getR fl_X8_37 hW kc_1 rfl (kl_8_6 hW) (by decide) dX8_busiest_16 ?_
    refine q_getR fl_X8_164 hW kc_7 rfl (kl_6_0 hW kc_7) (Nat.succ_ne_zero _) dX8_busiest_19 ?_
    refine r_iload_n dX8_busiest_22 rfl ?_
    refine q_pald hW (kk_6_0 kc_7) rfl hi4 dX8_busiest_23 ?_
    refine r_aload_n dX8_busiest_24 rfl ?_
    refine q_getR fl_X8_37 hW kc_1 rfl (kl_8_6 hW) (by decide) dX8_busiest_25 ?_
    refine q_getI fl_X8_86 hW kc_7 rfl dX8_busiest_28 ?_
    rw [hs.2.1]
    refine q_callV1 (cv_X3_percentUsed ml_X8_199) hW (kk_14 (kk_6_0 kc_7).1 hi4) (by decide) rfl ⟨rfl, rfl⟩ rfl (Nat.le_of_ble_eq_true rfl) dX8_busiest_31 (c_X3_percentUsed hW (kk_14 (kk_6_0 kc_7).1 hi4) (hs.po (by omega)) (hO.2 i (by omega))) (fun v_31 h_31 q_31 => ?_)
    obtain ⟨rfl, z9⟩ := q_31
    replace z9 := z9.symm
    subst z9
    refine r_aload_n dX8_busiest_34 rfl ?_
    refine q_getR fl_X8_37 hW kc_1 rfl (kl_8_6 hW) (by decide) dX8_busiest_35 ?_
    refine q_getR fl_X8_164 hW kc_7 rfl (kl_6_0 hW kc_7) (Nat.succ_ne_zero _) dX8_busiest_38 ?_
    refine r_iload_n dX8_busiest_41 rfl ?_
    refine q_pald hW (kk_6_0 kc_7) rfl hb4i dX8_busiest_42 ?_
    refine r_aload_n dX8_busiest_43 rfl ?_
    refine q_getR fl_X8_37 hW kc_1 rfl (kl_8_6 hW) (by decide) dX8_busiest_44 ?_
    refine q_getI fl_X8_86 hW kc_7 rfl dX8_busiest_47 ?_
    rw [hs.2.1]
    refine q_callV1 (cv_X3_percentUsed ml_X8_199) hW (kk_14 (kk_6_0 kc_7).1 hb4i) (by decide) rfl ⟨rfl, rfl⟩ rfl (Nat.le_of_ble_eq_true rfl) dX8_busiest_50 (c_X3_percentUsed hW (kk_14 (kk_6_0 kc_7).1 hb4i) (hs.po (by omega)) (hO.2 (bsP r i) (by omega))) (fun v_50 h_50 q_50 => ?_)
    obtain ⟨rfl, z9⟩ := q_50
    replace z9 := z9.symm
    subst z9
    refine r_icmp_le 58 dX8_busiest_53 (by decide) (fun c_53 => ?_) (fun c_53 => ?_)
    · refine r_iinc (1) (by decide) (ls2 := [_, some _, _]) dX8_busiest_58 rfl (by decide) rfl ?_
      refine r_goto 4 dX8_busiest_61 (by decide) ?_
      rw [nI_1]
      first
        | (rw [hbs, if_neg (show ¬ mzP r (bsP r i) < mzP r i from Int32.not_lt.mpr c_53)] at hth; exact hth)
        | (rw [hbs, if_pos (show mzP r (bsP r i) < mzP r i from Int32.not_le.mp c_53)] at hth; exact hth)
    · refine r_iload_n dX8_busiest_56 rfl ?_
      refine r_istore_n (ls2 := [some _, _, _]) dX8_busiest_57 (by decide) rfl ?_
      refine r_iinc (1) (by decide) (ls2 := [_, some _, _]) dX8_busiest_58 rfl (by decide) rfl ?_
      refine r_goto 4 dX8_busiest_61 (by decide) ?_
      rw [nI_1]
      first
        | (rw [hbs, if_neg (show ¬ mzP r (bsP r i) < mzP r i from Int32.not_lt.mpr c_53)] at hth; exact hth)
        | (rw [hbs, if_pos (show mzP r (bsP r i) < mzP r i from Int32.not_le.mp c_53)] at hth; exact hth)

set_option maxRecDepth 100000 in
set_option maxHeartbeats 4000000 in
theorem c_X8_eldest {l9 : Launch} {G : GC} {h : AH} {r : Row} {m : Nat} (hW : World h) (hs : StR h 7 r.1 r.2) (hO : RoOK r.1 r.2 m) : PM l9 G mX8_eldest NT NT [.ref 1] h (fun v h' => v = some (.int (elP r.1 (nn (r.1 0))).1) ∧ h' = h) noX := by
  refine PM.of (by decide +kernel) rfl rfl (Nat.le_of_ble_eq_true rfl) (fun hst _ => ?_)
  obtain ⟨np, n4, n3, en⟩ := hO.np
  rw [en]
  refine r_iconst (-1) dX8_eldest_0 (by decide) ?_
  refine r_istore_n (ls2 := [some _, _, _, _, _, _, _, _]) dX8_eldest_1 (by decide) rfl ?_
  refine r_iconst (0) dX8_eldest_2 (by decide) ?_
  refine r_istore_n (ls2 := [_, some _, _, _, _, _, _, _]) dX8_eldest_3 (by decide) rfl ?_
  refine r_iconst (0) dX8_eldest_4 (by decide) ?_
  refine r_istore_n (ls2 := [_, _, some _, _, _, _, _, _]) dX8_eldest_5 (by decide) rfl ?_
  refine loopN (P := fun p => ∀ z4 z5 z6 z7 : Option Value, p ≤ np → PW l9 G mX8_eldest _ _ NT 6 [some (.ref 1), some (.int (elP r.1 p).1), some (.int (elP r.1 p).2), some (.int (nI p)), z4, z5, z6, z7] [] (0, 0) h) np (fun p ih z4 z5 z6 z7 hi => ?_) 0 none none none none (Nat.zero_le _)
  refine r_iload_n dX8_eldest_6 rfl ?_
  refine r_aload_n dX8_eldest_7 rfl ?_
  refine q_getR fl_X8_37 hW kc_1 rfl (kl_8_6 hW) (by decide) dX8_eldest_8 ?_
  refine q_getI fl_X8_83 hW kc_7 rfl dX8_eldest_11 ?_
  rw [hs.1, n3]
  refine r_icmp_ge 105 dX8_eldest_14 (by decide) (fun c_14 => ?_) (fun c_14 => ?_)
  · have hge : np = p := by have := (nI_leI (by omega) (by omega)).mp c_14; omega
    refine r_iload_n dX8_eldest_105 rfl ?_
    refine r_iret dX8_eldest_106 rfl ⟨Nat.zero_le _, Nat.zero_le _⟩ ?_
    rw [hge]; exact ⟨rfl, rfl⟩
  · have hlt : p < np := (nI_ltI (by omega) (by omega)).mp (i_lt.mp c_14)
    have hp4 : p < 4 := by omega
    have hOp := hO.2 p (by omega)
    have zm := (hs.po (p := p) (by omega)).2.1
    have el : (mbs (getP r.1 p)).length = nn (getP r.1 p 23) := mbs_len _
    have y23 : nn (getP r.1 p 23) ≤ 20 := (hOp.at 23).2.2
    refine r_aload_n dX8_eldest_17 rfl ?_
    refine q_getR fl_X8_37 hW kc_1 rfl (kl_8_6 hW) (by decide) dX8_eldest_18 ?_
    refine q_getR fl_X8_164 hW kc_7 rfl (kl_6_0 hW kc_7) (Nat.succ_ne_zero _) dX8_eldest_21 ?_
    refine r_iload_n dX8_eldest_24 rfl ?_
    refine q_pald hW (kk_6_0 kc_7) rfl hp4 dX8_eldest_25 ?_
    refine q_getR fl_X8_119 hW (kk_14 (kk_6_0 kc_7).1 hp4) rfl (kl_3_1 hW (kk_14 (kk_6_0 kc_7).1 hp4)) (Nat.succ_ne_zero _) dX8_eldest_26 ?_
    refine r_astore (ls2 := [_, _, _, some _, _, _, _, _]) dX8_eldest_29 (by decide) rfl ?_
    refine r_iconst (0) dX8_eldest_31 (by decide) ?_
    refine r_istore (ls2 := [_, _, _, _, some _, _, _, _]) dX8_eldest_32 (by decide) rfl ?_
    have hth := ih hlt
    rw [show elP r.1 (p + 1) = elS r.1 p (nn (getP r.1 p 23)) (elP r.1 p) from rfl] at hth
    refine loopN (P := fun i => ∀ z6 z7 : Option Value, i ≤ nn (getP r.1 p 23) → PW l9 G mX8_eldest _ _ NT 34 [some (.ref 1), some (.int (elS r.1 p i (elP r.1 p)).1), some (.int (elS r.1 p i (elP r.1 p)).2), some (.int (nI p)), some (.ref (7 + 1 + 6 + 12 * p + 3)), some (.int (nI i)), z6, z7] [] (0, 0) h) (nn (getP r.1 p 23)) (fun i ih2 z6 z7 hi2 => ?_) 0 _ _ (Nat.zero_le _)
    refine r_iload dX8_eldest_34 rfl ?_
    refine r_aload dX8_eldest_36 rfl ?_
    refine q_getI fl_X8_125 hW (kk_3_1 (kk_14 (kk_6_0 kc_7).1 hp4)) rfl dX8_eldest_38 ?_
    rw [show aI h (7 + 1 + 6 + 12 * p + 3) 4 = nI (nn (getP r.1 p 23)) from by rw [← el]; exact zm.1]
    refine r_icmp_ge 99 dX8_eldest_41 (by decide) (fun c_41 => ?_) (fun c_41 => ?_)
    · have hge2 : nn (getP r.1 p 23) = i := by have := (nI_leI (by omega) (by omega)).mp c_41; omega
      refine r_iinc (1) (by decide) (ls2 := [_, _, some _, _, _, _, _, _]) dX8_eldest_99 rfl (by decide) rfl ?_
      refine r_goto 6 dX8_eldest_102 (by decide) ?_
      rw [nI_1]
      rw [hge2] at hth
      exact hth _ _ _ _ hlt
    · have hlt2 : i < nn (getP r.1 p 23) := (nI_ltI (by omega) (by omega)).mp (i_lt.mp c_41)
      obtain ⟨m1, m2, m3, m4⟩ := zm.2.2 i (by omega)
      rw [mbs_num hlt2] at m1
      rw [mbs_came hlt2] at m2
      refine r_aload dX8_eldest_44 rfl ?_
      refine q_getR fl_X8_185 hW (kk_3_1 (kk_14 (kk_6_0 kc_7).1 hp4)) rfl (kl_1_0 hW (kk_3_1 (kk_14 (kk_6_0 kc_7).1 hp4))) (Nat.succ_ne_zero _) dX8_eldest_46 ?_
      refine r_iload dX8_eldest_49 rfl ?_
      refine q_iald hW (kk_1_0 (kk_3_1 (kk_14 (kk_6_0 kc_7).1 hp4))) (k := i) rfl (by omega) (by decide) dX8_eldest_51 ?_
      rw [show aI h (7 + 1 + 6 + 12 * p + 3 + 1) i = getP r.1 p (100 + 4 * i) from m1]
      refine r_istore (ls2 := [_, _, _, _, _, some _, _, _]) dX8_eldest_52 (by decide) rfl ?_
      refine r_aload dX8_eldest_54 rfl ?_
      refine q_getR fl_X8_168 hW (kk_3_1 (kk_14 (kk_6_0 kc_7).1 hp4)) rfl (kl_1_1 hW (kk_3_1 (kk_14 (kk_6_0 kc_7).1 hp4))) (Nat.succ_ne_zero _) dX8_eldest_56 ?_
      refine r_iload dX8_eldest_59 rfl ?_
      refine q_iald hW (kk_1_1 (kk_3_1 (kk_14 (kk_6_0 kc_7).1 hp4))) (k := i) rfl (by omega) (by decide) dX8_eldest_61 ?_
      rw [show aI h (7 + 1 + 6 + 12 * p + 3 + 2) i = getP r.1 p (101 + 4 * i) from m2]
      refine r_istore (ls2 := [_, _, _, _, _, _, some _, _]) dX8_eldest_62 (by decide) rfl ?_
      refine r_iload_n dX8_eldest_64 rfl ?_
      refine r_iconst (-1) dX8_eldest_65 (by decide) ?_
      refine r_icmp_eq 87 dX8_eldest_66 (by decide) (fun c_66 => ?_) (fun c_66 => ?_)
      · refine r_iload dX8_eldest_87 rfl ?_
        refine r_istore_n (ls2 := [some _, _, _, _, _, _, _, _]) dX8_eldest_89 (by decide) rfl ?_
        refine r_iload dX8_eldest_90 rfl ?_
        refine r_istore_n (ls2 := [_, some _, _, _, _, _, _, _]) dX8_eldest_92 (by decide) rfl ?_
        refine r_iinc (1) (by decide) (ls2 := [_, _, _, _, some _, _, _, _]) dX8_eldest_93 rfl (by decide) rfl ?_
        refine r_goto 34 dX8_eldest_96 (by decide) ?_
        rw [nI_1]
        have hth2 := ih2 hlt2 (some (.int (getP r.1 p (100 + 4 * i)))) (some (.int (getP r.1 p (101 + 4 * i)))) hlt2
        rw [show elS r.1 p (i + 1) (elP r.1 p) = elT (elS r.1 p i (elP r.1 p)) (getP r.1 p (100 + 4 * i)) (getP r.1 p (101 + 4 * i)) from rfl] at hth2
        unfold elT at hth2
        first
          | (rw [if_pos (Or.inl c_66)] at hth2; exact hth2)
          | (rw [if_pos (Or.inr (Or.inl c_72))] at hth2; exact hth2)
          | (rw [if_pos (Or.inr (Or.inr ⟨c_78, Int32.not_le.mp c_84⟩))] at hth2; exact hth2)
          | (rw [if_neg (fun q => Or.elim q c_66 (fun q => Or.elim q c_72 (fun q => c_78 q.1)))] at hth2; exact hth2)
          | (rw [if_neg (fun q => Or.elim q c_66 (fun q => Or.elim q c_72 (fun q => absurd q.2 (Int32.not_lt.mpr c_84))))] at hth2; exact hth2)
      · refine r_iload dX8_eldest_69 rfl ?_
        refine r_iload_n dX8_eldest_71 rfl ?_
        refine r_icmp_lt 87 dX8_eldest_72 (by decide) (fun c_72 => ?_) (fun c_72 => ?_)
        · refine r_iload dX8_eldest_87 rfl ?_
          refine r_istore_n (ls2 := [some _, _, _, _, _, _, _, _]) dX8_eldest_89 (by decide) rfl ?_
          refine r_iload dX8_eldest_90 rfl ?_
          refine r_istore_n (ls2 := [_, some _, _, _, _, _, _, _]) dX8_eldest_92 (by decide) rfl ?_
          refine r_iinc (1) (by decide) (ls2 := [_, _, _, _, some _, _, _, _]) dX8_eldest_93 rfl (by decide) rfl ?_
          refine r_goto 34 dX8_eldest_96 (by decide) ?_
          rw [nI_1]
          have hth2 := ih2 hlt2 (some (.int (getP r.1 p (100 + 4 * i)))) (some (.int (getP r.1 p (101 + 4 * i)))) hlt2
          rw [show elS r.1 p (i + 1) (elP r.1 p) = elT (elS r.1 p i (elP r.1 p)) (getP r.1 p (100 + 4 * i)) (getP r.1 p (101 + 4 * i)) from rfl] at hth2
          unfold elT at hth2
          first
            | (rw [if_pos (Or.inl c_66)] at hth2; exact hth2)
            | (rw [if_pos (Or.inr (Or.inl c_72))] at hth2; exact hth2)
            | (rw [if_pos (Or.inr (Or.inr ⟨c_78, Int32.not_le.mp c_84⟩))] at hth2; exact hth2)
            | (rw [if_neg (fun q => Or.elim q c_66 (fun q => Or.elim q c_72 (fun q => c_78 q.1)))] at hth2; exact hth2)
            | (rw [if_neg (fun q => Or.elim q c_66 (fun q => Or.elim q c_72 (fun q => absurd q.2 (Int32.not_lt.mpr c_84))))] at hth2; exact hth2)
        · refine r_iload dX8_eldest_75 rfl ?_
          refine r_iload_n dX8_eldest_77 rfl ?_
          refine r_icmp_ne 93 dX8_eldest_78 (by decide) (fun c_78 => ?_) (fun c_78 => ?_)
          · refine r_iinc (1) (by decide) (ls2 := [_, _, _, _, some _, _, _, _]) dX8_eldest_93 rfl (by decide) rfl ?_
            refine r_goto 34 dX8_eldest_96 (by decide) ?_
            rw [nI_1]
            have hth2 := ih2 hlt2 (some (.int (getP r.1 p (100 + 4 * i)))) (some (.int (getP r.1 p (101 + 4 * i)))) hlt2
            rw [show elS r.1 p (i + 1) (elP r.1 p) = elT (elS r.1 p i (elP r.1 p)) (getP r.1 p (100 + 4 * i)) (getP r.1 p (101 + 4 * i)) from rfl] at hth2
            unfold elT at hth2
            first
              | (rw [if_pos (Or.inl c_66)] at hth2; exact hth2)
              | (rw [if_pos (Or.inr (Or.inl c_72))] at hth2; exact hth2)
              | (rw [if_pos (Or.inr (Or.inr ⟨c_78, Int32.not_le.mp c_84⟩))] at hth2; exact hth2)
              | (rw [if_neg (fun q => Or.elim q c_66 (fun q => Or.elim q c_72 (fun q => c_78 q.1)))] at hth2; exact hth2)
              | (rw [if_neg (fun q => Or.elim q c_66 (fun q => Or.elim q c_72 (fun q => absurd q.2 (Int32.not_lt.mpr c_84))))] at hth2; exact hth2)
          · refine r_iload dX8_eldest_81 rfl ?_
            refine r_iload_n dX8_eldest_83 rfl ?_
            refine r_icmp_ge 93 dX8_eldest_84 (by decide) (fun c_84 => ?_) (fun c_84 => ?_)
            · refine r_iinc (1) (by decide) (ls2 := [_, _, _, _, some _, _, _, _]) dX8_eldest_93 rfl (by decide) rfl ?_
              refine r_goto 34 dX8_eldest_96 (by decide) ?_
              rw [nI_1]
              have hth2 := ih2 hlt2 (some (.int (getP r.1 p (100 + 4 * i)))) (some (.int (getP r.1 p (101 + 4 * i)))) hlt2
              rw [show elS r.1 p (i + 1) (elP r.1 p) = elT (elS r.1 p i (elP r.1 p)) (getP r.1 p (100 + 4 * i)) (getP r.1 p (101 + 4 * i)) from rfl] at hth2
              unfold elT at hth2
              first
                | (rw [if_pos (Or.inl c_66)] at hth2; exact hth2)
                | (rw [if_pos (Or.inr (Or.inl c_72))] at hth2; exact hth2)
                | (rw [if_pos (Or.inr (Or.inr ⟨c_78, Int32.not_le.mp c_84⟩))] at hth2; exact hth2)
                | (rw [if_neg (fun q => Or.elim q c_66 (fun q => Or.elim q c_72 (fun q => c_78 q.1)))] at hth2; exact hth2)
                | (rw [if_neg (fun q => Or.elim q c_66 (fun q => Or.elim q c_72 (fun q => absurd q.2 (Int32.not_lt.mpr c_84))))] at hth2; exact hth2)
            · refine r_iload dX8_eldest_87 rfl ?_
              refine r_istore_n (ls2 := [some _, _, _, _, _, _, _, _]) dX8_eldest_89 (by decide) rfl ?_
              refine r_iload dX8_eldest_90 rfl ?_
              refine r_istore_n (ls2 := [_, some _, _, _, _, _, _, _]) dX8_eldest_92 (by decide) rfl ?_
              refine r_iinc (1) (by decide) (ls2 := [_, _, _, _, some _, _, _, _]) dX8_eldest_93 rfl (by decide) rfl ?_
              refine r_goto 34 dX8_eldest_96 (by decide) ?_
              rw [nI_1]
              have hth2 := ih2 hlt2 (some (.int (getP r.1 p (100 + 4 * i)))) (some (.int (getP r.1 p (101 + 4 * i)))) hlt2
              rw [show elS r.1 p (i + 1) (elP r.1 p) = elT (elS r.1 p i (elP r.1 p)) (getP r.1 p (100 + 4 * i)) (getP r.1 p (101 + 4 * i)) from rfl] at hth2
              unfold elT at hth2
              first
                | (rw [if_pos (Or.inl c_66)] at hth2; exact hth2)
                | (rw [if_pos (Or.inr (Or.inl c_72))] at hth2; exact hth2)
                | (rw [if_pos (Or.inr (Or.inr ⟨c_78, Int32.not_le.mp c_84⟩))] at hth2; exact hth2)
                | (rw [if_neg (fun q => Or.elim q c_66 (fun q => Or.elim q c_72 (fun q => c_78 q.1)))] at hth2; exact hth2)
                | (rw [if_neg (fun q => Or.elim q c_66 (fun q => Or.elim q c_72 (fun q => absurd q.2 (Int32.not_lt.mpr c_84))))] at hth2; exact hth2)

set_option maxRecDepth 100000 in
set_option maxHeartbeats 4000000 in
theorem c_X8_errorCode {l9 : Launch} {G : GC} {h : AH} (hW : World h) : PM l9 G mX8_errorCode NT NT [.ref 1] h (fun v h' => v = some (.int (aI h 1 2)) ∧ h' = h) noX := by
  refine PM.of (by decide +kernel) rfl rfl (Nat.le_of_ble_eq_true rfl) (fun hst _ => ?_)
  refine r_aload_n dX8_errorCode_0 rfl ?_
  refine q_getI fl_X8_13 hW kc_1 rfl dX8_errorCode_1 ?_
  refine r_iret dX8_errorCode_4 rfl ⟨Nat.zero_le _, Nat.zero_le _⟩ ?_
  exact ⟨rfl, rfl⟩

set_option maxRecDepth 100000 in
set_option maxHeartbeats 4000000 in
theorem c_X8_errorOffset {l9 : Launch} {G : GC} {h : AH} (hW : World h) : PM l9 G mX8_errorOffset NT NT [.ref 1] h (fun v h' => v = some (.int (aI h 1 3)) ∧ h' = h) noX := by
  refine PM.of (by decide +kernel) rfl rfl (Nat.le_of_ble_eq_true rfl) (fun hst _ => ?_)
  refine r_aload_n dX8_errorOffset_0 rfl ?_
  refine q_getI fl_X8_17 hW kc_1 rfl dX8_errorOffset_1 ?_
  refine r_iret dX8_errorOffset_4 rfl ⟨Nat.zero_le _, Nat.zero_le _⟩ ?_
  exact ⟨rfl, rfl⟩

def obX (ob : Nat → Int32) (n : Nat) (x : Int32) : Int32 := if ltB (nI n) x = true then ob (nn x) else -1
set_option maxRecDepth 100000 in
set_option maxHeartbeats 4000000 in
theorem c_X8_outputByte {l9 : Launch} {G : GC} {h : AH} {ob : Nat → Int32} {n : Nat} {x : Int32} (hW : World h) (ho : OuC h ob n) : PM l9 G mX8_outputByte NT NT [.ref 1, .int x] h (fun v h' => v = some (.int (obX ob n x)) ∧ h' = h) noX := by
  refine PM.of (by decide +kernel) rfl rfl (Nat.le_of_ble_eq_true rfl) (fun hst _ => ?_)
  refine r_iload_n dX8_outputByte_0 rfl ?_
  refine r_if_lt 15 dX8_outputByte_1 (by decide) (fun c_1 => ?_) (fun c_1 => ?_)
  · refine r_iconst (-1) dX8_outputByte_15 (by decide) ?_
    refine r_iret dX8_outputByte_16 rfl ⟨Nat.zero_le _, Nat.zero_le _⟩ ?_
    refine ⟨some_int ?_, rfl⟩
    unfold obX
    first
      | rw [if_pos kb, ex, eb]
      | rw [if_neg (fun q => absurd c_1 (Int32.not_lt.mpr (of_decide_eq_true q).1))]
      | rw [if_neg (fun q => c_12 (of_decide_eq_true q).2)]
  · refine r_iload_n dX8_outputByte_4 rfl ?_
    refine r_aload_n dX8_outputByte_5 rfl ?_
    refine q_getR fl_X8_30 hW kc_1 rfl (kl_8_5 hW) (by decide) dX8_outputByte_6 ?_
    refine q_getI fl_X8_371 hW kc_5 rfl dX8_outputByte_9 ?_
    rw [ho.1]
    refine r_icmp_lt 17 dX8_outputByte_12 (by decide) (fun c_12 => ?_) (fun c_12 => ?_)
    · have hn := ho.2.1
      have kb : ltB (nI n) x = true := decide_eq_true ⟨Int32.not_lt.mp c_1, c_12⟩
      obtain ⟨k, k1, hx⟩ := ltB_t rfl (by omega) kb
      have ex : nn x = k := by rw [hx]; exact nn_I (by omega)
      have eb := ho.2.2 k k1
      refine r_aload_n dX8_outputByte_17 rfl ?_
      refine q_getR fl_X8_30 hW kc_1 rfl (kl_8_5 hW) (by decide) dX8_outputByte_18 ?_
      refine q_getR fl_X8_380 hW kc_5 rfl (kl_2_0 hW) (by decide) dX8_outputByte_21 ?_
      refine r_iload_n dX8_outputByte_24 rfl ?_
      refine q_bald hW kc_6 (k := k) hx (by omega) (by decide) dX8_outputByte_25 ?_
      refine r_iret dX8_outputByte_26 rfl ⟨Nat.zero_le _, Nat.zero_le _⟩ ?_
      refine ⟨some_int ?_, rfl⟩
      unfold obX
      first
        | rw [if_pos kb, ex, eb]
        | rw [if_neg (fun q => absurd c_1 (Int32.not_lt.mpr (of_decide_eq_true q).1))]
        | rw [if_neg (fun q => c_12 (of_decide_eq_true q).2)]
    · refine r_iconst (-1) dX8_outputByte_15 (by decide) ?_
      refine r_iret dX8_outputByte_16 rfl ⟨Nat.zero_le _, Nat.zero_le _⟩ ?_
      refine ⟨some_int ?_, rfl⟩
      unfold obX
      first
        | rw [if_pos kb, ex, eb]
        | rw [if_neg (fun q => absurd c_1 (Int32.not_lt.mpr (of_decide_eq_true q).1))]
        | rw [if_neg (fun q => c_12 (of_decide_eq_true q).2)]
