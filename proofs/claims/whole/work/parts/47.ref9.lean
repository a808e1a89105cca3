-- the reference: mean age, median, best period
theorem i64_add {a b : Nat} (h : a + b < 2 ^ 31) : (nI a).toInt64 + (nI b).toInt64 = (nI (a + b)).toInt64 := by
  apply Int64.toInt_inj.mp
  rw [Int64.toInt_add, Int32.toInt_toInt64, Int32.toInt_toInt64, Int32.toInt_toInt64, nI_toInt (by omega), nI_toInt (by omega), nI_toInt h]
  rw [Int.bmod_eq_of_le (by omega) (by omega)]
  omega
def sA3 (f : Nat → Int32) (t : Int32) : Nat → Int32
  | 0 => 0
  | n + 1 => sA3 f t n + (t - f (101 + 4 * n))
/-- members came between the start and now -/
def CmF (f : Nat → Int32) (t : Nat) : Prop := ∀ k, k < nn (f 23) → rg (f (101 + 4 * k)) 0 t
def CmR (r : Row) : Prop := ∀ p, p < nn (r.1 0) → CmF (getP r.1 p) (nn (r.1 1))
theorem sA_eq {f : Nat → Int32} {t : Nat} (hc : CmF f t) (ht : t < 2 ^ 26) : ∀ n, n ≤ nn (f 23) → n ≤ 20 → ∃ s, s ≤ n * t ∧ sA3 f (nI t) n = nI s ∧ sAge (mbs f) (nI t) n = (nI s).toInt64
  | 0, _, _ => ⟨0, Nat.zero_le _, rfl, rfl⟩
  | n + 1, hn, h20 => by
    obtain ⟨s, s1, s2, s3⟩ := sA_eq hc ht n (by omega) (by omega)
    obtain ⟨a, a1, a2, a3⟩ := (hc n (by omega)).nat
    have hb : n * t ≤ 20 * t := Nat.mul_le_mul_right t (by omega)
    have hn1 : (n + 1) * t = n * t + t := Nat.succ_mul n t
    refine ⟨s + (t - a), by omega, ?_, ?_⟩
    · show sA3 f (nI t) n + (nI t - f (101 + 4 * n)) = _
      rw [s2, a3, pk_sub a2, nI_add]
    · show sAge (mbs f) (nI t) n + (nI t - mCame (mbs f) n).toInt64 = _
      rw [s3, mbs_came (by omega), a3, pk_sub a2, i64_add (by omega)]
set_option maxRecDepth 100000 in
set_option maxHeartbeats 4000000 in
theorem c_X9_meanAge {l9 : Launch} {G : GC} {h : AH} {r : Row} {m : Nat} {x : Int32} (hW : World h) (hm : MW h r) (hO : RoOK r.1 r.2 m) (hm28 : m < 2 ^ 28) (hC : CmR r) (hm26 : m < 2 ^ 26) : PM l9 G mX9_meanAge NT NT [.ref 723, .int x] h (fun v h' => h' = sI h 723 12 (nI (cd1 (okP r x))) ∧ (cd1 (okP r x) = 0 → v = some (.double (mAge (fP r x) (r.1 1))))) noX := by
  refine PM.of (by decide +kernel) rfl rfl (Nat.le_of_ble_eq_true rfl) (fun hst _ => ?_)
  refine r_aload_n dX9_meanAge_0 rfl ?_
  refine r_iload_n dX9_meanAge_1 rfl ?_
  refine q_callV1 (cv_X9_noPool ml_X9_309) hW kc_723 (by decide) rfl ⟨rfl, rfl⟩ rfl (Nat.le_of_ble_eq_true rfl) dX9_meanAge_2 (c_X9_noPool hW hm hO) (fun v_2 h_2 q_2 => ?_)
  obtain ⟨rfl, z9⟩ := q_2
  subst z9
  have hW : World (sI h 723 12 (nI (cd1 (okP r x)))) := wsI hW
  replace hm := hm.s9 (k := 12) (x := nI (cd1 (okP r x)))
  refine r_if_eq 10 dX9_meanAge_5 (by decide) (fun c_5 => ?_) (fun c_5 => ?_)
  · have ko : okP r x = true := bn0 c_5
    obtain ⟨p, hp, pn, hx⟩ := okP_t hO ko
    have ex : nn x = p := by rw [hx]; exact nn_I (by omega)
    have hmw := hm
    have hOr := hO
    replace hO := hO.2 p pn
    replace hm := hm.pv p
    have h23 := (hO.at 23).1
    have y23 : nn (getP r.1 p 23) ≤ 20 := (hO.at 23).2.2
    have et := hOr.1.2.1.1
    have e2 := hOr.1.2.1.2.2
    have hcp := hC p pn
    obtain ⟨s9, s1, s2, s3⟩ := sA_eq hcp (by omega) (nn (getP r.1 p 23)) (Nat.le_refl _) y23
    refine r_iconst (0) dX9_meanAge_10 (by decide) ?_
    refine r_istore_n (ls2 := [_, some _, _, _]) dX9_meanAge_11 (by decide) rfl ?_
    refine r_iconst (0) dX9_meanAge_12 (by decide) ?_
    refine r_istore_n (ls2 := [_, _, some _, _]) dX9_meanAge_13 (by decide) rfl ?_
    refine loopN (P := fun i => i ≤ nn (getP r.1 p 23) → PW l9 G mX9_meanAge _ _ NT 14 [some (.ref 723), some (.int x), some (.int (sA3 (getP r.1 p) (r.1 1) i)), some (.int (nI i))] [] (0, 0) _) (nn (getP r.1 p 23)) (fun i ih hi => ?_) 0 (Nat.zero_le _)
    refine r_iload_n dX9_meanAge_14 rfl ?_
    refine r_aload_n dX9_meanAge_15 rfl ?_
    refine r_iload_n dX9_meanAge_16 rfl ?_
    refine r_bipush (23) dX9_meanAge_17 (by decide) ?_
    refine q_callV2 (cv_X9_of ml_X9_81) hW kc_723 (by decide) rfl ⟨rfl, rfl⟩ rfl (Nat.le_of_ble_eq_true rfl) dX9_meanAge_19 (c_X9_of hW hm hp hx kn_23 (by omega)) (fun v_19 h_19 q_19 => ?_)
    obtain ⟨rfl, z9⟩ := q_19
    replace z9 := z9.symm
    subst z9
    rw [h23]
    refine r_icmp_ge 54 dX9_meanAge_22 (by decide) (fun c_22 => ?_) (fun c_22 => ?_)
    · have hge : nn (getP r.1 p 23) = i := by have := (nI_leI (by omega) (by omega)).mp c_22; omega
      rw [← hge]
      refine r_aload_n dX9_meanAge_54 rfl ?_
      refine r_iload_n dX9_meanAge_55 rfl ?_
      refine r_bipush (23) dX9_meanAge_56 (by decide) ?_
      refine q_callV2 (cv_X9_of ml_X9_81) hW kc_723 (by decide) rfl ⟨rfl, rfl⟩ rfl (Nat.le_of_ble_eq_true rfl) dX9_meanAge_58 (c_X9_of hW hm hp hx kn_23 (by omega)) (fun v_58 h_58 q_58 => ?_)
      obtain ⟨rfl, z9⟩ := q_58
      replace z9 := z9.symm
      subst z9
      refine r_if_ne 68 dX9_meanAge_61 (by decide) (fun c_61 => ?_) (fun c_61 => ?_)
      · refine r_iload_n dX9_meanAge_68 rfl ?_
        refine r_i2d dX9_meanAge_69 ?_
        refine r_aload_n dX9_meanAge_70 rfl ?_
        refine r_iload_n dX9_meanAge_71 rfl ?_
        refine r_bipush (23) dX9_meanAge_72 (by decide) ?_
        refine q_callV2 (cv_X9_of ml_X9_81) hW kc_723 (by decide) rfl ⟨rfl, rfl⟩ rfl (Nat.le_of_ble_eq_true rfl) dX9_meanAge_74 (c_X9_of hW hm hp hx kn_23 (by omega)) (fun v_74 h_74 q_74 => ?_)
        obtain ⟨rfl, z9⟩ := q_74
        replace z9 := z9.symm
        subst z9
        refine r_i2d dX9_meanAge_77 ?_
        refine r_ddiv dX9_meanAge_78 (n64_dii c_61) ?_
        refine r_dret dX9_meanAge_79 rfl ⟨Nat.zero_le _, Nat.zero_le _⟩ ?_
        refine ⟨rfl, fun _ => ?_⟩
        try unfold fP
        try unfold gP
        try unfold tP
        rw [ex]
        refine some_double ?_
        unfold mAge
        first
          | (rw [if_pos c_61]; rfl)
          | (rw [if_neg c_61, mbs_len, et, s2, s3]; exact congrArg (fun z => FP.ddiv z (FP.i2d (getP r.1 p 23))) (FP.Core.i2d_l2d (nI s9)))
      · refine r_dconst0 dX9_meanAge_64 ?_
        refine r_goto 79 dX9_meanAge_65 (by decide) ?_
        refine r_dret dX9_meanAge_79 rfl ⟨Nat.zero_le _, Nat.zero_le _⟩ ?_
        refine ⟨rfl, fun _ => ?_⟩
        try unfold fP
        try unfold gP
        try unfold tP
        rw [ex]
        refine some_double ?_
        unfold mAge
        first
          | (rw [if_pos c_61]; rfl)
          | (rw [if_neg c_61, mbs_len, et, s2, s3]; exact congrArg (fun z => FP.ddiv z (FP.i2d (getP r.1 p 23))) (FP.Core.i2d_l2d (nI s9)))
    · have hlt : i < nn (getP r.1 p 23) := (nI_ltI (by omega) (by omega)).mp (i_lt.mp c_22)
      refine r_iload_n dX9_meanAge_25 rfl ?_
      refine r_aload_n dX9_meanAge_26 rfl ?_
      refine q_getR fl_X9_7 hW kc_723 rfl (kl_9_0 hW) (by decide) dX9_meanAge_27 ?_
      refine r_iconst (1) dX9_meanAge_30 (by decide) ?_
      refine q_wldPV hW hm kn_1 (by omega) dX9_meanAge_31 ?_
      refine r_aload_n dX9_meanAge_32 rfl ?_
      refine r_iload_n dX9_meanAge_33 rfl ?_
      refine r_bipush (100) dX9_meanAge_34 (by decide) ?_
      refine r_iconst (4) dX9_meanAge_36 (by decide) ?_
      refine r_iload_n dX9_meanAge_37 rfl ?_
      refine r_imul dX9_meanAge_38 ?_
      refine r_iadd dX9_meanAge_39 ?_
      refine r_iconst (1) dX9_meanAge_40 (by decide) ?_
      refine r_iadd dX9_meanAge_41 ?_
      refine q_callV2 (cv_X9_of ml_X9_81) hW kc_723 (by decide) rfl ⟨rfl, rfl⟩ rfl (Nat.le_of_ble_eq_true rfl) dX9_meanAge_42 (c_X9_of hW hm hp hx (nadd (nadd kn_100 (nmul kn_4 rfl)) kn_1) (by omega)) (fun v_42 h_42 q_42 => ?_)
      obtain ⟨rfl, z9⟩ := q_42
      replace z9 := z9.symm
      subst z9
      rw [show 100 + 4 * i + 1 = 101 + 4 * i from by omega]
      refine r_isub dX9_meanAge_45 ?_
      refine r_iadd dX9_meanAge_46 ?_
      refine r_istore_n (ls2 := [_, some _, _, _]) dX9_meanAge_47 (by decide) rfl ?_
      refine r_iinc (1) (by decide) (ls2 := [_, _, some _, _]) dX9_meanAge_48 rfl (by decide) rfl ?_
      refine r_goto 14 dX9_meanAge_51 (by decide) ?_
      rw [nI_1]
      exact ih hlt hlt
  · refine r_dconst0 dX9_meanAge_8 ?_
    refine r_dret dX9_meanAge_9 rfl ⟨Nat.zero_le _, Nat.zero_le _⟩ ?_
    first
      | (have ko : okP r x = false := bn1 c_5
         exact ⟨rfl, fun q => absurd q (cd1_n ko)⟩)
      | (refine ⟨rfl, fun _ => ?_⟩
         try unfold fP
         try unfold gP
         try unfold tP
         rw [ex]
         all_goals rfl)

theorem cn_mono {P Q : Nat → Bool} : ∀ {n : Nat}, (∀ k, k < n → P k = true → Q k = true) → cn P n ≤ cn Q n
  | 0, _ => Nat.le_refl _
  | n + 1, h => by
    have i1 := cn_mono (n := n) (fun k hk => h k (by omega))
    have i2 := h n (by omega)
    show cn P n + (if P n then 1 else 0) ≤ cn Q n + (if Q n then 1 else 0)
    cases hp : P n with
    | false => exact Nat.le_trans i1 (Nat.le_add_right _ _)
    | true => rw [i2 hp]; exact Nat.add_le_add_right i1 _
theorem cn_ex {P Q : Nat → Bool} : ∀ {n : Nat}, cn P n < cn Q n → ∃ k, k < n ∧ Q k = true ∧ P k = false
  | 0, h => absurd h (Nat.lt_irrefl _)
  | n + 1, h => by
    have h' : cn P n + (if P n then 1 else 0) < cn Q n + (if Q n then 1 else 0) := h
    by_cases c : cn P n < cn Q n
    · obtain ⟨k, k1, k2⟩ := cn_ex c
      exact ⟨k, by omega, k2⟩
    · refine ⟨n, by omega, ?_⟩
      cases hq : Q n with
      | false =>
        rw [hq] at h'
        simp only [Bool.false_eq_true, if_false] at h'
        omega
      | true =>
        cases hp : P n with
        | false => exact ⟨rfl, rfl⟩
        | true =>
          rw [hq, hp] at h'
          simp only [if_true] at h'
          omega
theorem fi_ex {P : Nat → Bool} : ∀ {n k : Nat}, k < n → P k = true → ∃ j, fi P n = some j
  | 0, k, h, _ => absurd h (Nat.not_lt_zero _)
  | n + 1, k, h, hp => by
    cases hq : fi P n with
    | some j => exact ⟨j, by show (match fi P n with | some k => some k | none => _) = _; rw [hq]⟩
    | none =>
      rcases Nat.lt_or_ge k n with q | q
      · obtain ⟨j, hj⟩ := fi_ex q hp
        rw [hj] at hq; cases hq
      · have e : k = n := by omega
        subst e
        exact ⟨k, fi_hit hq hp (Nat.lt_succ_self _)⟩
theorem cn_0 {P : Nat → Bool} : ∀ {n : Nat}, (∀ k, k < n → P k = false) → cn P n = 0
  | 0, _ => rfl
  | n + 1, h => by rw [cn_f (h n (by omega))]; exact cn_0 (fun k hk => h k (by omega))
theorem cn_all {P : Nat → Bool} : ∀ {n : Nat}, (∀ k, k < n → P k = true) → cn P n = n
  | 0, _ => rfl
  | n + 1, h => by rw [cn_t (h n (by omega)), cn_all (fun k hk => h k (by omega))]
/-- how many demands are at most y -/
def cdY (f : Nat → Int32) (c y : Nat) : Nat := cn (fun k => decide (nn (bk f c k) ≤ y)) (min 24 c)
def BkR (f : Nat → Int32) (c : Nat) : Prop := ∀ k, k < min 24 c → rg (bk f c k) 0 1998
theorem PoOK.bkr {f : Nat → Int32} {g : Nat → Int64} {c t : Nat} (hO : PoOK f g c t) : BkR f c := fun k hk => by
  have hm := Nat.mod_lt (c - 1 - k) (show 0 < 24 by decide)
  have hle := Nat.mod_le (c - 1 - k) 24
  exact hO.2.2.2.2.2.1 _ hm (by omega)
theorem cd_Y {f : Nat → Int32} {c y : Nat} (hb : BkR f c) (hy : y < 2 ^ 31) : cdN f c 0 (nI y) = cdY f c y := by
  unfold cdN cdY
  refine cn_cg (fun k hk => ?_)
  obtain ⟨b, b1, b2, b3⟩ := (hb k hk).nat
  unfold cdB
  rw [b3, nn_I (by omega)]
  rw [decide_eq_true (show (0 : Int32) ≤ nI b from (nI_leI (a := 0) (by decide) (by omega)).mpr (Nat.zero_le _)), Bool.true_and]
  exact decide_eq_decide.mpr (nI_leI (by omega) hy)
theorem cd_N1 {f : Nat → Int32} {c : Nat} (hb : BkR f c) : cdN f c 0 (nI 0 - 1) = 0 := by
  unfold cdN
  refine cn_0 (fun k hk => ?_)
  obtain ⟨b, b1, b2, b3⟩ := (hb k hk).nat
  unfold cdB
  rw [b3]
  have : ¬ nI b ≤ nI 0 - 1 := by
    rw [Int32.le_iff_toInt_le, nI_toInt (by omega)]
    have : (nI 0 - 1).toInt = -1 := by decide
    omega
  rw [decide_eq_false this, Bool.and_false]
theorem cdY_mono {f : Nat → Int32} {c a b : Nat} (h : a ≤ b) : cdY f c a ≤ cdY f c b := cn_mono (fun k _ q => decide_eq_true (Nat.le_trans (of_decide_eq_true q) h))
theorem mdF_is {f : Nat → Int32} {c i : Nat} (hb : BkR f c) (hi : i ≤ 1998) (h1 : (min 24 c - 1) / 2 < cdY f c i) (h2 : ∀ y, y < i → cdY f c y ≤ (min 24 c - 1) / 2) : mdF f c = nI i := by
  have hmd : ∀ k, k < min 24 c → (mdB f c k = true ↔ (nn (bk f c k) = 0 ∨ cdY f c (nn (bk f c k) - 1) ≤ (min 24 c - 1) / 2) ∧ (min 24 c - 1) / 2 < cdY f c (nn (bk f c k))) := fun k hk => by
    obtain ⟨b, b1, b2, b3⟩ := (hb k hk).nat
    unfold mdB
    rw [b3, nn_I (by omega), cd_Y hb (by omega), Bool.and_eq_true_iff, decide_eq_true_eq, decide_eq_true_eq]
    rcases Nat.eq_zero_or_pos b with q | q
    · subst q
      rw [cd_N1 hb]
      exact ⟨fun z => ⟨Or.inl rfl, z.2⟩, fun z => ⟨Nat.zero_le _, z.2⟩⟩
    · rw [nI_s1 q, cd_Y hb (by omega)]
      exact ⟨fun z => ⟨Or.inr z.1, z.2⟩, fun z => ⟨z.1.elim (fun w => by omega) id, z.2⟩⟩
  obtain ⟨k, k1, k2⟩ : ∃ k, k < min 24 c ∧ nn (bk f c k) = i := by
    rcases Nat.eq_zero_or_pos i with q | q
    · subst q
      obtain ⟨k, k1, k2, k3⟩ := cn_ex (P := fun _ => false) (Q := fun k => decide (nn (bk f c k) ≤ 0)) (n := min 24 c) (by rw [cn_0 (fun _ _ => rfl)]; exact Nat.lt_of_le_of_lt (Nat.zero_le _) h1)
      have := of_decide_eq_true k2
      exact ⟨k, k1, by omega⟩
    · obtain ⟨k, k1, k2, k3⟩ := cn_ex (P := fun k => decide (nn (bk f c k) ≤ i - 1)) (Q := fun k => decide (nn (bk f c k) ≤ i)) (n := min 24 c) (Nat.lt_of_le_of_lt (h2 (i - 1) (by omega)) h1)
      have a1 := of_decide_eq_true k2
      have a2 := of_decide_eq_false k3
      exact ⟨k, k1, by omega⟩
  have hk : mdB f c k = true := (hmd k k1).mpr ⟨by
    rw [k2]
    rcases Nat.eq_zero_or_pos i with q | q
    · exact Or.inl q
    · exact Or.inr (h2 _ (by omega)), by rw [k2]; exact h1⟩
  obtain ⟨j, hj⟩ := fi_ex k1 hk
  obtain ⟨j1, j2⟩ := fi_lt hj
  obtain ⟨b, b1, b2, b3⟩ := (hb j j1).nat
  have z := (hmd j j1).mp j2
  have eb : nn (bk f c j) = b := by rw [b3]; exact nn_I (by omega)
  rw [eb] at z
  have e : b = i := by
    rcases Nat.lt_trichotomy b i with q | q | q
    · have := h2 b q; omega
    · exact q
    · have := cdY_mono (f := f) (c := c) (show i ≤ b - 1 by omega)
      rcases z.1 with w | w <;> omega
  unfold mdF
  rw [hj]
  show bk f c j = nI i
  rw [b3, e]
theorem cdY_all {f : Nat → Int32} {c : Nat} (hb : BkR f c) : cdY f c 1998 = min 24 c := cn_all (fun k hk => decide_eq_true (hb k hk).2.2)
theorem mdF_0 {f : Nat → Int32} {c : Nat} (h : min 24 c = 0) : mdF f c = 0 := by unfold mdF; rw [h]; rfl
set_option maxRecDepth 100000 in
set_option maxHeartbeats 4000000 in
theorem c_X9_median {l9 : Launch} {G : GC} {h : AH} {r : Row} {m : Nat} {x : Int32} (hW : World h) (hm : MW h r) (hO : RoOK r.1 r.2 m) (hm28 : m < 2 ^ 28) : PM l9 G mX9_median NT NT [.ref 723, .int x] h (fun v h' => h' = sI h 723 12 (nI (cd1 (okP r x))) ∧ (cd1 (okP r x) = 0 → v = some (.int (mdF (fP r x) (tP r))))) noX := by
  refine PM.of (by decide +kernel) rfl rfl (Nat.le_of_ble_eq_true rfl) (fun hst _ => ?_)
  refine r_aload_n dX9_median_0 rfl ?_
  refine r_iload_n dX9_median_1 rfl ?_
  refine q_callV1 (cv_X9_noPool ml_X9_309) hW kc_723 (by decide) rfl ⟨rfl, rfl⟩ rfl (Nat.le_of_ble_eq_true rfl) dX9_median_2 (c_X9_noPool hW hm hO) (fun v_2 h_2 q_2 => ?_)
  obtain ⟨rfl, z9⟩ := q_2
  subst z9
  have hW : World (sI h 723 12 (nI (cd1 (okP r x)))) := wsI hW
  replace hm := hm.s9 (k := 12) (x := nI (cd1 (okP r x)))
  refine r_if_eq 10 dX9_median_5 (by decide) (fun c_5 => ?_) (fun c_5 => ?_)
  · have ko : okP r x = true := bn0 c_5
    obtain ⟨p, hp, pn, hx⟩ := okP_t hO ko
    have ex : nn x = p := by rw [hx]; exact nn_I (by omega)
    have hmw := hm
    have hOr := hO
    replace hO := hO.2 p pn
    replace hm := hm.pv p
    have yc := hO.2.2.2.2.1.2.1
    have y24 : min 24 (nn (r.1 1)) ≤ 24 := Nat.min_le_left _ _
    have hbk := hO.bkr
    refine r_aload_n dX9_median_10 rfl ?_
    refine r_iload_n dX9_median_11 rfl ?_
    refine q_callV1 (cv_X9_knownDemands ml_X9_324) hW kc_723 (by decide) rfl ⟨rfl, rfl⟩ rfl (Nat.le_of_ble_eq_true rfl) dX9_median_12 (c_X9_knownDemands hW hm hp hO hx) (fun v_12 h_12 q_12 => ?_)
    obtain ⟨rfl, z9⟩ := q_12
    replace z9 := z9.symm
    subst z9
    refine r_istore_n (ls2 := [_, some _, _, _]) dX9_median_15 (by decide) rfl ?_
    have ez : nI (min 24 (nn (r.1 1))) = 0 ↔ min 24 (nn (r.1 1)) = 0 := nI_eq (b := 0) (by omega) (by decide)
    refine r_iload_n dX9_median_16 rfl ?_
    refine r_if_ne 22 dX9_median_17 (by decide) (fun c_17 => ?_) (fun c_17 => ?_)
    · have hk0 : 0 < min 24 (nn (r.1 1)) := Nat.pos_of_ne_zero (fun q => c_17 (ez.mpr q))
      refine r_iconst (0) dX9_median_22 (by decide) ?_
      refine r_istore_n (ls2 := [_, _, some _, _]) dX9_median_23 (by decide) rfl ?_
      refine loopN (P := fun i => i ≤ 1998 → (∀ y, y < i → cdY (getP r.1 p) (nn (r.1 1)) y ≤ (min 24 (nn (r.1 1)) - 1) / 2) → PW l9 G mX9_median _ _ NT 24 [some (.ref 723), some (.int x), some (.int (nI (min 24 (nn (r.1 1))))), some (.int (nI i))] [] (0, 0) _) 1998 (fun i ih hi hy9 => ?_) 0 (by decide) (fun y hy => absurd hy (Nat.not_lt_zero _))
      refine r_aload_n dX9_median_24 rfl ?_
      refine r_iload_n dX9_median_25 rfl ?_
      refine r_iconst (0) dX9_median_26 (by decide) ?_
      refine r_iload_n dX9_median_27 rfl ?_
      refine q_callV3 (cv_X9_within ml_X9_376) hW kc_723 (by decide) rfl ⟨rfl, rfl⟩ rfl (Nat.le_of_ble_eq_true rfl) dX9_median_28 (c_X9_within hW hm hp hO hx) (fun v_28 h_28 q_28 => ?_)
      obtain ⟨rfl, z9⟩ := q_28
      replace z9 := z9.symm
      subst z9
      rw [show cdN (getP r.1 p) (nn (r.1 1)) 0 (nI i) = cdY (getP r.1 p) (nn (r.1 1)) i from cd_Y hbk (by omega)]
      refine r_iload_n dX9_median_31 rfl ?_
      refine r_iconst (1) dX9_median_32 (by decide) ?_
      refine r_isub dX9_median_33 ?_
      refine r_iconst (2) dX9_median_34 (by decide) ?_
      refine r_idiv dX9_median_35 (by decide) ?_
      rw [show (nI (min 24 (nn (r.1 1))) - 1) / 2 = nI ((min 24 (nn (r.1 1)) - 1) / 2) from mid_I _ (by omega)]
      have hcl : cdY (getP r.1 p) (nn (r.1 1)) i ≤ min 24 (nn (r.1 1)) := cn_le _ _
      refine r_icmp_gt 45 dX9_median_36 (by decide) (fun c_36 => ?_) (fun c_36 => ?_)
      · refine r_iload_n dX9_median_45 rfl ?_
        refine r_iret dX9_median_46 rfl ⟨Nat.zero_le _, Nat.zero_le _⟩ ?_
        refine ⟨rfl, fun _ => ?_⟩
        try unfold fP
        try unfold gP
        try unfold tP
        rw [ex]
        refine some_int ?_
        rw [mdF_is hbk hi ((nI_ltI (by omega) (by omega)).mp c_36) hy9]
      · refine r_iinc (1) (by decide) (ls2 := [_, _, some _, _]) dX9_median_39 rfl (by decide) rfl ?_
        refine r_goto 24 dX9_median_42 (by decide) ?_
        have c9 := (nI_leI (by omega) (by omega)).mp (Int32.not_lt.mp c_36)
        have hlt : i < 1998 := by
          rcases Nat.lt_or_ge i 1998 with q | q
          · exact q
          · have e : i = 1998 := by omega
            subst e
            rw [cdY_all hbk] at c9
            omega
        rw [nI_1]
        refine ih hlt hlt (fun y hy => ?_)
        by_cases e : y = i
        · rw [e]; exact c9
        · exact hy9 y (by omega)
    · refine r_iconst (0) dX9_median_20 (by decide) ?_
      refine r_iret dX9_median_21 rfl ⟨Nat.zero_le _, Nat.zero_le _⟩ ?_
      first
        | (have ko : okP r x = false := bn1 c_5
           exact ⟨rfl, fun q => absurd q (cd1_n ko)⟩)
        | (refine ⟨rfl, fun _ => ?_⟩
           try unfold fP
           try unfold gP
           try unfold tP
           rw [ex]
           refine some_int ?_
           rw [mdF_0 (ez.mp c_17)]
           all_goals rfl)
  · refine r_iconst (0) dX9_median_8 (by decide) ?_
    refine r_iret dX9_median_9 rfl ⟨Nat.zero_le _, Nat.zero_le _⟩ ?_
    first
      | (have ko : okP r x = false := bn1 c_5
         exact ⟨rfl, fun q => absurd q (cd1_n ko)⟩)
      | (refine ⟨rfl, fun _ => ?_⟩
         try unfold fP
         try unfold gP
         try unfold tP
         rw [ex]
         refine some_int ?_
         rw [mdF_0 (ez.mp c_17)]
         all_goals rfl)

theorem bpS_ge {f : Nat → Int32} {c : Nat} : ∀ {n d : Nat}, min 24 c ≤ n → bpS f c (n + d) = bpS f c n
  | n, 0, _ => rfl
  | n, d + 1, h => by
    show (if 2 ≤ n + d ∧ n + d < min 24 c then _ else bpS f c (n + d)) = _
    rw [if_neg (by omega)]
    exact bpS_ge h
theorem bpS_2 {f : Nat → Int32} {c : Nat} : bpS f c 2 = none := rfl
set_option maxRecDepth 100000 in
set_option maxHeartbeats 4000000 in
theorem c_X9_bestPeriod {l9 : Launch} {G : GC} {h : AH} {r : Row} {m : Nat} {x : Int32} (hW : World h) (hm : MW h r) (hO : RoOK r.1 r.2 m) (hm28 : m < 2 ^ 28) : PM l9 G mX9_bestPeriod NT NT [.ref 723, .int x] h (fun v h' => h' = sI h 723 12 (nI (cd1 (okP r x))) ∧ (cd1 (okP r x) = 0 → v = some (.int (oI (bpS (fP r x) (tP r) 25))))) noX := by
  refine PM.of (by decide +kernel) rfl rfl (Nat.le_of_ble_eq_true rfl) (fun hst _ => ?_)
  refine r_aload_n dX9_bestPeriod_0 rfl ?_
  refine r_iload_n dX9_bestPeriod_1 rfl ?_
  refine q_callV1 (cv_X9_noPool ml_X9_309) hW kc_723 (by decide) rfl ⟨rfl, rfl⟩ rfl (Nat.le_of_ble_eq_true rfl) dX9_bestPeriod_2 (c_X9_noPool hW hm hO) (fun v_2 h_2 q_2 => ?_)
  obtain ⟨rfl, z9⟩ := q_2
  subst z9
  have hW : World (sI h 723 12 (nI (cd1 (okP r x)))) := wsI hW
  replace hm := hm.s9 (k := 12) (x := nI (cd1 (okP r x)))
  refine r_if_eq 10 dX9_bestPeriod_5 (by decide) (fun c_5 => ?_) (fun c_5 => ?_)
  · have ko : okP r x = true := bn0 c_5
    obtain ⟨p, hp, pn, hx⟩ := okP_t hO ko
    have ex : nn x = p := by rw [hx]; exact nn_I (by omega)
    have hmw := hm
    have hOr := hO
    replace hO := hO.2 p pn
    replace hm := hm.pv p
    have yc := hO.2.2.2.2.1.2.1
    have y24 : min 24 (nn (r.1 1)) ≤ 24 := Nat.min_le_left _ _
    refine r_iconst (-1) dX9_bestPeriod_10 (by decide) ?_
    refine r_istore_n (ls2 := [_, some _, _, _]) dX9_bestPeriod_11 (by decide) rfl ?_
    refine r_iconst (2) dX9_bestPeriod_12 (by decide) ?_
    refine r_istore_n (ls2 := [_, _, some _, _]) dX9_bestPeriod_13 (by decide) rfl ?_
    refine loopN (P := fun i => 2 ≤ i → i ≤ max 2 (min 24 (nn (r.1 1))) → PW l9 G mX9_bestPeriod _ _ NT 14 [some (.ref 723), some (.int x), some (.int (oI (bpS (getP r.1 p) (nn (r.1 1)) i))), some (.int (nI i))] [] (0, 0) _) (max 2 (min 24 (nn (r.1 1)))) (fun i ih hi2 hi => ?_) 2 (by decide) (by omega)
    refine r_iload_n dX9_bestPeriod_14 rfl ?_
    refine r_aload_n dX9_bestPeriod_15 rfl ?_
    refine r_iload_n dX9_bestPeriod_16 rfl ?_
    refine q_callV1 (cv_X9_knownDemands ml_X9_324) hW kc_723 (by decide) rfl ⟨rfl, rfl⟩ rfl (Nat.le_of_ble_eq_true rfl) dX9_bestPeriod_17 (c_X9_knownDemands hW hm hp hO hx) (fun v_17 h_17 q_17 => ?_)
    obtain ⟨rfl, z9⟩ := q_17
    replace z9 := z9.symm
    subst z9
    refine r_icmp_ge 52 dX9_bestPeriod_20 (by decide) (fun c_20 => ?_) (fun c_20 => ?_)
    · have hge : min 24 (nn (r.1 1)) ≤ i := (nI_leI (by omega) (by omega)).mp c_20
      refine r_iload_n dX9_bestPeriod_52 rfl ?_
      refine r_iret dX9_bestPeriod_53 rfl ⟨Nat.zero_le _, Nat.zero_le _⟩ ?_
      refine ⟨rfl, fun _ => ?_⟩
      try unfold fP
      try unfold gP
      try unfold tP
      rw [ex]
      refine some_int ?_
      rw [show 25 = i + (25 - i) from by omega, bpS_ge hge]
    · have hlt : i < min 24 (nn (r.1 1)) := (nI_ltI (by omega) (by omega)).mp (i_lt.mp c_20)
      have hth := ih (by omega) (by omega) (by omega)
      have hbs : bpS (getP r.1 p) (nn (r.1 1)) (i + 1) = (match bpS (getP r.1 p) (nn (r.1 1)) i with
          | none => some i
          | some b => if lsD (mnD (getP r.1 p) (nn (r.1 1)) i) (mnD (getP r.1 p) (nn (r.1 1)) b) then some i else some b) := if_pos ⟨hi2, hlt⟩
      refine r_iload_n dX9_bestPeriod_23 rfl ?_
      refine r_iconst (-1) dX9_bestPeriod_24 (by decide) ?_
      refine r_icmp_eq 44 dX9_bestPeriod_25 (by decide) (fun c_25 => ?_) (fun c_25 => ?_)
      · refine r_iload_n dX9_bestPeriod_44 rfl ?_
        refine r_istore_n (ls2 := [_, some _, _, _]) dX9_bestPeriod_45 (by decide) rfl ?_
        refine r_iinc (1) (by decide) (ls2 := [_, _, some _, _]) dX9_bestPeriod_46 rfl (by decide) rfl ?_
        refine r_goto 14 dX9_bestPeriod_49 (by decide) ?_
        rw [nI_1]
        first
          | (have hn9 : bpS (getP r.1 p) (nn (r.1 1)) i = none := (oI_m1 (fun k hk => by have := bpS_lt hk; omega)).mp (by first | exact c_25 | simpa using c_25)
             rw [hn9] at hbs
             rw [hbs] at hth; exact hth)
          | (have hls : ¬ lsD (mnD (getP r.1 p) (nn (r.1 1)) i) (mnD (getP r.1 p) (nn (r.1 1)) b) = true := fun q => absurd (of_decide_eq_true q) (Int32.not_lt.mpr c_41)
             rw [if_neg hls] at hbs
             rw [hbs] at hth; exact hth)
          | (have hls : lsD (mnD (getP r.1 p) (nn (r.1 1)) i) (mnD (getP r.1 p) (nn (r.1 1)) b) = true := decide_eq_true (i_lt.mp c_41)
             rw [if_pos hls] at hbs
             rw [hbs] at hth; exact hth)
      · obtain ⟨b, hb9⟩ : ∃ b, bpS (getP r.1 p) (nn (r.1 1)) i = some b := by
          cases hq : bpS (getP r.1 p) (nn (r.1 1)) i with
          | none => rw [hq] at c_25; exact absurd rfl c_25
          | some b => exact ⟨b, rfl⟩
        have hbl := bpS_lt hb9
        rw [hb9] at hbs ⊢
        change _ = (if lsD (mnD (getP r.1 p) (nn (r.1 1)) i) (mnD (getP r.1 p) (nn (r.1 1)) b) then some i else some b) at hbs
        refine r_aload_n dX9_bestPeriod_28 rfl ?_
        refine r_iload_n dX9_bestPeriod_29 rfl ?_
        refine r_iload_n dX9_bestPeriod_30 rfl ?_
        refine q_callV2 (cv_X9_apart ml_X9_372) hW kc_723 (by decide) rfl ⟨rfl, rfl⟩ rfl (Nat.le_of_ble_eq_true rfl) dX9_bestPeriod_31 (c_X9_apart hW hm hp hO hx rfl (by omega)) (fun v_31 h_31 q_31 => ?_)
        obtain ⟨rfl, z9⟩ := q_31
        replace z9 := z9.symm
        subst z9
        refine r_aload_n dX9_bestPeriod_34 rfl ?_
        refine r_iload_n dX9_bestPeriod_35 rfl ?_
        refine r_iload_n dX9_bestPeriod_36 rfl ?_
        refine q_callV2 (cv_X9_apart ml_X9_372) hW kc_723 (by decide) rfl ⟨rfl, rfl⟩ rfl (Nat.le_of_ble_eq_true rfl) dX9_bestPeriod_37 (c_X9_apart hW hm hp hO hx rfl (by omega)) (fun v_37 h_37 q_37 => ?_)
        obtain ⟨rfl, z9⟩ := q_37
        replace z9 := z9.symm
        subst z9
        refine r_dcmp dX9_bestPeriod_40 ?_
        refine r_if_ge 46 dX9_bestPeriod_41 (by decide) (fun c_41 => ?_) (fun c_41 => ?_)
        · refine r_iinc (1) (by decide) (ls2 := [_, _, some _, _]) dX9_bestPeriod_46 rfl (by decide) rfl ?_
          refine r_goto 14 dX9_bestPeriod_49 (by decide) ?_
          rw [nI_1]
          first
            | (have hn9 : bpS (getP r.1 p) (nn (r.1 1)) i = none := (oI_m1 (fun k hk => by have := bpS_lt hk; omega)).mp (by first | exact c_25 | simpa using c_25)
               rw [hn9] at hbs
               rw [hbs] at hth; exact hth)
            | (have hls : ¬ lsD (mnD (getP r.1 p) (nn (r.1 1)) i) (mnD (getP r.1 p) (nn (r.1 1)) b) = true := fun q => absurd (of_decide_eq_true q) (Int32.not_lt.mpr c_41)
               rw [if_neg hls] at hbs
               rw [hbs] at hth; exact hth)
            | (have hls : lsD (mnD (getP r.1 p) (nn (r.1 1)) i) (mnD (getP r.1 p) (nn (r.1 1)) b) = true := decide_eq_true (i_lt.mp c_41)
               rw [if_pos hls] at hbs
               rw [hbs] at hth; exact hth)
        · refine r_iload_n dX9_bestPeriod_44 rfl ?_
          refine r_istore_n (ls2 := [_, some _, _, _]) dX9_bestPeriod_45 (by decide) rfl ?_
          refine r_iinc (1) (by decide) (ls2 := [_, _, some _, _]) dX9_bestPeriod_46 rfl (by decide) rfl ?_
          refine r_goto 14 dX9_bestPeriod_49 (by decide) ?_
          rw [nI_1]
          first
            | (have hn9 : bpS (getP r.1 p) (nn (r.1 1)) i = none := (oI_m1 (fun k hk => by have := bpS_lt hk; omega)).mp (by first | exact c_25 | simpa using c_25)
               rw [hn9] at hbs
               rw [hbs] at hth; exact hth)
            | (have hls : ¬ lsD (mnD (getP r.1 p) (nn (r.1 1)) i) (mnD (getP r.1 p) (nn (r.1 1)) b) = true := fun q => absurd (of_decide_eq_true q) (Int32.not_lt.mpr c_41)
               rw [if_neg hls] at hbs
               rw [hbs] at hth; exact hth)
            | (have hls : lsD (mnD (getP r.1 p) (nn (r.1 1)) i) (mnD (getP r.1 p) (nn (r.1 1)) b) = true := decide_eq_true (i_lt.mp c_41)
               rw [if_pos hls] at hbs
               rw [hbs] at hth; exact hth)
  · refine r_iconst (0) dX9_bestPeriod_8 (by decide) ?_
    refine r_iret dX9_bestPeriod_9 rfl ⟨Nat.zero_le _, Nat.zero_le _⟩ ?_
    first
      | (have ko : okP r x = false := bn1 c_5
         exact ⟨rfl, fun q => absurd q (cd1_n ko)⟩)
      | (refine ⟨rfl, fun _ => ?_⟩
         try unfold fP
         try unfold gP
         try unfold tP
         rw [ex]
         all_goals rfl)
