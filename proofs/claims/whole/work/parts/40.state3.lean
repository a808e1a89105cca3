-- the class: States are copied, cleared, get pools; what is found in them
theorem StR.po {h : AH} {b p : Nat} {w : Nat → Int32} {v : Nat → Int64} (hs : StR h b w v) (hp : p < nn (w 0)) : PoR h (b + 7 + 12 * p) (nn (w 1)) (nn (w 1)) (getP w p) (getG v p) := hs.2.2.2.2 p hp
def fl16 (w : Nat → Int32) : Prop := ∀ p, p < nn (w 0) → getP w p 16 = 0 ∨ getP w p 16 = 1
theorem RoOK.f16 {w : Nat → Int32} {v : Nat → Int64} {m : Nat} (hO : RoOK w v m) : fl16 w := fun p hp => by
  obtain ⟨n, n1, n2, n3⟩ := ((hO.2 p hp).at 16).nat
  have n2' : n ≤ 1 := n2
  rw [n3]
  obtain rfl | rfl : n = 0 ∨ n = 1 := by omega
  · exact Or.inl rfl
  · exact Or.inr rfl
set_option maxRecDepth 100000 in
set_option maxHeartbeats 4000000 in
theorem c_X6_copyFrom {l9 : Launch} {G : GC} {h : AH} {b : Nat} {b2 : Nat} {w : Nat → Int32} {v9 : Nat → Int64} (hW : World h) (hk : kd b 6) (hk2 : kd b2 6) (hne : b + 54 < b2 ∨ b2 + 54 < b) (hs : StR h b2 w v9) (h0 : rg (w 0) 0 4) (h16 : fl16 w) : PM l9 G mX6_copyFrom NT NT [.ref b, .ref b2] h (fun v h' => v = none ∧ eqx h h' (SB b) ∧ StR h' b w v9) noX := by
  refine PM.of (by decide +kernel) rfl rfl (Nat.le_of_ble_eq_true rfl) (fun hst _ => ?_)
  obtain ⟨np, n1, n2, n3⟩ := h0.nat
  have en : nn (w 0) = np := by rw [n3]; exact nn_I (by omega)
  refine r_aload_n dX6_copyFrom_0 rfl ?_
  refine r_aload_n dX6_copyFrom_1 rfl ?_
  refine q_getI fl_X6_25 hW hk2 rfl dX6_copyFrom_2 ?_
  refine q_putI fl_X6_25 hW hk rfl rfl dX6_copyFrom_5 ?_
  refine r_iconst (0) dX6_copyFrom_8 (by decide) ?_
  refine r_istore_n (ls2 := [_, some _, _]) dX6_copyFrom_9 (by decide) rfl ?_
  refine loopN (P := fun i => ∀ H : AH, i ≤ np → World H → eqx h H (SB b) → aI H b 1 = nI np → (∀ p, p < i → PoR H (b + 7 + 12 * p) (nn (w 1)) (nn (w 1)) (getP w p) (getG v9 p)) → PW l9 G mX6_copyFrom _ _ NT 10 [some (.ref b), some (.ref b2), some (.int (nI i))] [] (0, 0) H) np (fun i ih H hi hW he h1 hp => ?_) 0 _ (Nat.zero_le _) (wsI hW) (eqx.rf.sI (by unfold SB; omega)) (by rw [sI_s, hs.1]; exact n3) (fun p hp => absurd hp (Nat.not_lt_zero _))
  have hsH : StR H b2 w v9 := hs.eqx he (by omega) (fun j j1 j2 => by unfold SB; omega)
  refine r_iload_n dX6_copyFrom_10 rfl ?_
  refine r_aload_n dX6_copyFrom_11 rfl ?_
  refine q_getI fl_X6_25 hW hk rfl dX6_copyFrom_12 ?_
  rw [h1]
  refine r_icmp_ge 39 dX6_copyFrom_15 (by decide) (fun c_15 => ?_) (fun c_15 => ?_)
  · have hge : np = i := by have := (nI_leI (by omega) (by omega)).mp c_15; omega
    subst hge
    refine r_aload_n dX6_copyFrom_39 rfl ?_
    refine r_aload_n dX6_copyFrom_40 rfl ?_
    refine q_getI fl_X6_29 hW hk2 rfl dX6_copyFrom_41 ?_
    refine q_putI fl_X6_29 hW hk rfl rfl dX6_copyFrom_44 ?_
    refine r_aload_n dX6_copyFrom_47 rfl ?_
    refine r_aload_n dX6_copyFrom_48 rfl ?_
    refine q_getI fl_X6_32 hW hk2 rfl dX6_copyFrom_49 ?_
    refine q_putI fl_X6_32 hW hk rfl rfl dX6_copyFrom_52 ?_
    refine r_aload_n dX6_copyFrom_55 rfl ?_
    refine q_getR fl_X6_20 hW hk rfl (kl_6_4 hW hk) (Nat.succ_ne_zero _) dX6_copyFrom_56 ?_
    refine r_aload_n dX6_copyFrom_59 rfl ?_
    refine q_getR fl_X6_20 hW hk2 rfl (kl_6_4 hW hk2) (Nat.succ_ne_zero _) dX6_copyFrom_60 ?_
    have e0 : eqx H (sI (sI H b 2 (aI H b2 2)) b 3 (aI (sI H b 2 (aI H b2 2)) b2 3)) (fun i => i = b) := (eqx.rf.sI (S := fun i => i = b) rfl).sI rfl
    refine q_callV1 (cv_X0_copyFrom ml_X6_42) hW (kk_6_4 hk) (by decide) rfl ⟨rfl, rfl⟩ rfl (Nat.le_of_ble_eq_true rfl) dX6_copyFrom_63 (c_X0_copyFrom hW (kk_6_4 hk) (kk_6_4 hk2) (by omega) (hsH.2.2.2.1.eqx e0 (fun j j1 j2 q => by omega))) (fun v_63 h_63 q_63 => ?_)
    obtain ⟨rfl, e1, p1⟩ := q_63
    refine r_vret dX6_copyFrom_66 rfl ⟨Nat.zero_le _, Nat.zero_le _⟩ ?_
    have eb : aI h_63 b = upd (upd (aI H b) 2 (aI H b2 2)) 3 (aI H b2 3) := by
      rw [e1.I (by unfold btw; omega), sI_r, sI_r, sI_o (by omega)]
    refine ⟨rfl, (he.tr (e0.wk (fun j zj => by unfold SB; omega))).tr (e1.wk (fun j zj => by unfold SB btw at *; omega)), ?_, ?_, ?_, p1, fun p hp9 => ?_⟩
    · rw [eb, pk_un (by decide), pk_un (by decide), h1]; exact n3.symm
    · rw [eb, pk_un (by decide), pk_us]; exact hsH.2.1
    · rw [eb, pk_us]; exact hsH.2.2.1
    · exact ((hp p (by omega)).eqx e0 (fun j j1 j2 => by omega)).eqx e1 (fun j j1 j2 => by unfold btw; omega)
  · have hlt : i < np := (nI_ltI (by omega) (by omega)).mp (i_lt.mp c_15)
    have hi4 : i < 4 := by omega
    refine r_aload_n dX6_copyFrom_18 rfl ?_
    refine q_getR fl_X6_11 hW hk rfl (kl_6_0 hW hk) (Nat.succ_ne_zero _) dX6_copyFrom_19 ?_
    refine r_iload_n dX6_copyFrom_22 rfl ?_
    refine q_pald hW (kk_6_0 hk) rfl hi4 dX6_copyFrom_23 ?_
    refine r_aload_n dX6_copyFrom_24 rfl ?_
    refine q_getR fl_X6_11 hW hk2 rfl (kl_6_0 hW hk2) (Nat.succ_ne_zero _) dX6_copyFrom_25 ?_
    refine r_iload_n dX6_copyFrom_28 rfl ?_
    refine q_pald hW (kk_6_0 hk2) rfl hi4 dX6_copyFrom_29 ?_
    refine q_callV1 (cv_X3_copyFrom ml_X6_38) hW (kk_14 (kk_6_0 hk).1 hi4) (by decide) rfl ⟨rfl, rfl⟩ rfl (Nat.le_of_ble_eq_true rfl) dX6_copyFrom_30 (c_X3_copyFrom hW (kk_14 (kk_6_0 hk).1 hi4) (kk_14 (kk_6_0 hk2).1 hi4) (by omega) (hsH.po (by omega)) (h16 i (by omega))) (fun v_30 h_30 q_30 => ?_)
    obtain ⟨rfl, e1, p1⟩ := q_30
    have hW := e1.W hW
    refine r_iinc (1) (by decide) (ls2 := [_, some _, _]) dX6_copyFrom_33 rfl (by decide) rfl ?_
    refine r_goto 10 dX6_copyFrom_36 (by decide) ?_
    rw [nI_1]
    refine ih hlt _ hlt hW (he.tr (e1.wk (fun j zj => by unfold SB btw at *; omega))) (by rw [e1.I (by unfold btw; omega)]; exact h1) (fun p hp9 => ?_)
    by_cases e : p = i
    · rw [e]; exact p1
    · exact (hp p (by omega)).eqx e1 (fun j j1 j2 => by unfold btw; omega)

set_option maxRecDepth 100000 in
set_option maxHeartbeats 4000000 in
theorem c_X6_clear {l9 : Launch} {G : GC} {h : AH} {b : Nat} (hW : World h) (hk : kd b 6) : PM l9 G mX6_clear NT NT [.ref b] h (fun v h' => v = none ∧ eqx h h' (SB b) ∧ StR h' b (fun _ => 0) (fun _ => 0)) noX := by
  refine PM.of (by decide +kernel) rfl rfl (Nat.le_of_ble_eq_true rfl) (fun hst _ => ?_)
  refine r_aload_n dX6_clear_0 rfl ?_
  refine r_iconst (0) dX6_clear_1 (by decide) ?_
  refine q_putI fl_X6_25 hW hk rfl rfl dX6_clear_2 ?_
  refine r_aload_n dX6_clear_5 rfl ?_
  refine r_iconst (0) dX6_clear_6 (by decide) ?_
  refine q_putI fl_X6_29 hW hk rfl rfl dX6_clear_7 ?_
  refine r_aload_n dX6_clear_10 rfl ?_
  refine r_iconst (0) dX6_clear_11 (by decide) ?_
  refine q_putI fl_X6_32 hW hk rfl rfl dX6_clear_12 ?_
  refine r_aload_n dX6_clear_15 rfl ?_
  refine q_getR fl_X6_20 hW hk rfl (kl_6_4 hW hk) (Nat.succ_ne_zero _) dX6_clear_16 ?_
  refine r_iconst (0) dX6_clear_19 (by decide) ?_
  refine q_putI fl_X6_35 hW (kk_6_4 hk) rfl rfl dX6_clear_20 ?_
  refine r_vret dX6_clear_23 rfl ⟨Nat.zero_le _, Nat.zero_le _⟩ ?_
  refine ⟨rfl, ?_, ?_, ?_, ?_, ⟨?_, fun j j1 j2 => absurd j2 (Nat.not_lt_zero _)⟩, fun p hp => absurd hp (Nat.not_lt_zero _)⟩
  · repeat (first | exact eqx.rf | refine eqx.sI ?_ (by unfold SB; omega))
  · rw [sI_o (by omega), sI_k (by decide), sI_k (by decide), sI_s]
  · rw [sI_o (by omega), sI_k (by decide), sI_s]
  · rw [sI_o (by omega), sI_s]
  · rw [sI_s]; rfl

/-- the members that a new pool gets -/
def jnF : Nat → (Nat → Int32) → Nat → (Nat → Int32)
  | 0, f, _ => f
  | n + 1, f, x => joF (jnF n f x) (nI (x + n)) 0 0
/-- the row with one pool more -/
def apW (w : Nat → Int32) (a b c : Int32) : Nat → Int32 := setP (upd (upd w 0 (w 0 + 1)) 2 (nI (nn (w 2) + nn a))) (nn (w 0)) (jnF (nn a) (begF a b c) (nn (w 2)))
theorem jnF_ok {g : Nat → Int64} {c t : Nat} {f : Nat → Int32} {x : Nat} (hO : PoOK f g c t) (h0 : f 23 = 0) : ∀ n, n ≤ 20 → PoOK (jnF n f x) g c t ∧ jnF n f x 23 = nI n ∧ ∀ k, k < 23 ∨ 23 < k ∧ k < 100 → jnF n f x k = f k
  | 0, _ => ⟨hO, h0, fun _ _ => rfl⟩
  | n + 1, hn => by
    obtain ⟨i1, i2, i3⟩ := jnF_ok (x := x) hO h0 n (by omega)
    have e : nn (jnF n f x 23) = n := by rw [i2]; exact nn_I (by omega)
    refine ⟨i1.jo (by omega), ?_, fun k hk => (joF_o hk).trans (i3 k hk)⟩
    show joF (jnF n f x) (nI (x + n)) 0 0 23 = _
    unfold joF
    rw [pk_us, i2, nI_1]
theorem begF_ok {a b c : Int32} (ha : rg a 0 20) (hb : rg b 1 20) (hc : rg c 1 100) (hab : nn a ≤ nn b) : PoOK (begF a b c) (fun _ => 0) 0 0 := by
  have e24 : nn (begF a b c 24) = 0 := rfl
  have e23 : nn (begF a b c 23) = 0 := rfl
  refine ⟨fun k hk => ?_, ⟨fun q => absurd (show (0 : Int32) = 2 from q) (by decide), hab⟩, fun k hk => absurd hk (by rw [e23]; omega), fun j hj => absurd hj (by rw [e24]; omega), ⟨rfl, by decide, by decide⟩, fun j h1 h2 => absurd h2 (Nat.not_lt_zero _), fun u h1 h2 h3 => absurd h2 (by omega), rfl⟩
  have hlt := bOk_lt hk
  have r : ∀ n a b : Nat, a ≤ n → n ≤ b → b < 2 ^ 31 → rg (nI n) a b := fun n a b h1 h2 h3 => rg_I h1 h2 h3
  obtain ⟨h25, h17, h18, h19, h21, h22⟩ := hlt
  have h : k = 0 ∨ k = 1 ∨ k = 2 ∨ k = 3 ∨ k = 4 ∨ k = 5 ∨ k = 6 ∨ k = 7 ∨ k = 8 ∨ k = 9 ∨ k = 10 ∨ k = 11 ∨ k = 12 ∨ k = 13 ∨ k = 14 ∨ k = 15 ∨ k = 16 ∨ k = 20 ∨ k = 23 ∨ k = 24 := by omega
  rcases h with rfl | rfl | rfl | rfl | rfl | rfl | rfl | rfl | rfl | rfl | rfl | rfl | rfl | rfl | rfl | rfl | rfl | rfl | rfl | rfl
  · exact ha
  · exact hb
  · exact hc
  · exact r 70 10 100 (by decide) (by decide) (by decide)
  · exact r 2 0 9 (by decide) (by decide) (by decide)
  · exact r 4 1 8 (by decide) (by decide) (by decide)
  · exact r 2 1 8 (by decide) (by decide) (by decide)
  · exact r 0 0 2 (by decide) (by decide) (by decide)
  · exact r 0 0 24 (by decide) (by decide) (by decide)
  · exact r 0 0 2 (by decide) (by decide) (by decide)
  · exact r 1 1 5 (by decide) (by decide) (by decide)
  · exact r 1 1 5 (by decide) (by decide) (by decide)
  · exact r 3 0 30 (by decide) (by decide) (by decide)
  · exact r 5 0 30 (by decide) (by decide) (by decide)
  · exact r 1 0 99 (by decide) (by decide) (by decide)
  · exact r 1 0 99 (by decide) (by decide) (by decide)
  · exact r 0 0 1 (by decide) (by decide) (by decide)
  · exact r 0 0 999 (by decide) (by decide) (by decide)
  · exact r 0 0 20 (by decide) (by decide) (by decide)
  · exact r 0 0 24 (by decide) (by decide) (by decide)
set_option maxRecDepth 100000 in
set_option maxHeartbeats 4000000 in
theorem c_X6_addPool {l9 : Launch} {G : GC} {h : AH} {b : Nat} {w : Nat → Int32} {v9 : Nat → Int64} {x y z : Int32} (hW : World h) (hk : kd b 6) (hs : StR h b w v9) (hw0 : rg (w 0) 0 3) (hw1 : w 1 = 0) (hw2 : rg (w 2) 0 100) (hz : getG v9 (nn (w 0)) = fun _ => 0) (ha : rg x 0 20) (hb : rg y 1 20) (hc : rg z 1 100) (hab : nn x ≤ nn y) : PM l9 G mX6_addPool NT NT [.ref b, .int x, .int y, .int z] h (fun v h' => v = none ∧ eqx h h' (SB b) ∧ StR h' b (apW w x y z) v9) noX := by
  refine PM.of (by decide +kernel) rfl rfl (Nat.le_of_ble_eq_true rfl) (fun hst _ => ?_)
  obtain ⟨n, n1, n2, n3⟩ := hw0.nat
  obtain ⟨a, a1, a2, a3⟩ := ha.nat
  obtain ⟨m, m1, m2, m3⟩ := hw2.nat
  have en : nn (w 0) = n := by rw [n3]; exact nn_I (by omega)
  have ea : nn x = a := by rw [a3]; exact nn_I (by omega)
  have em : nn (w 2) = m := by rw [m3]; exact nn_I (by omega)
  have hn4 : n < 4 := by omega
  refine r_aload_n dX6_addPool_0 rfl ?_
  refine q_getI fl_X6_25 hW hk rfl dX6_addPool_1 ?_
  rw [hs.1, n3]
  refine r_iconst (4) dX6_addPool_4 (by decide) ?_
  refine r_icmp_lt 9 dX6_addPool_5 (by decide) (fun c_5 => ?_) (fun c_5 => ?_)
  · refine r_aload_n dX6_addPool_9 rfl ?_
    refine q_getR fl_X6_11 hW hk rfl (kl_6_0 hW hk) (Nat.succ_ne_zero _) dX6_addPool_10 ?_
    refine r_aload_n dX6_addPool_13 rfl ?_
    refine q_getI fl_X6_25 hW hk rfl dX6_addPool_14 ?_
    rw [hs.1, n3]
    refine q_pald hW (kk_6_0 hk) rfl hn4 dX6_addPool_17 ?_
    refine r_astore (ls2 := [_, _, _, some _, _, _]) dX6_addPool_18 (by decide) rfl ?_
    refine r_aload_n dX6_addPool_20 rfl ?_
    refine r_dup dX6_addPool_21 rfl ?_
    refine q_getI fl_X6_25 hW hk rfl dX6_addPool_22 ?_
    rw [hs.1, n3]
    refine r_iconst (1) dX6_addPool_25 (by decide) ?_
    refine r_iadd dX6_addPool_26 ?_
    rw [nI_1]
    refine q_putI fl_X6_25 hW hk rfl rfl dX6_addPool_27 ?_
    refine r_aload dX6_addPool_30 rfl ?_
    refine r_iload_n dX6_addPool_32 rfl ?_
    refine r_iload_n dX6_addPool_33 rfl ?_
    refine r_iload_n dX6_addPool_34 rfl ?_
    refine q_callV3 (cv_X3_begin ml_X6_45) hW (kk_14 (kk_6_0 hk).1 hn4) (by decide) rfl ⟨rfl, rfl⟩ rfl (Nat.le_of_ble_eq_true rfl) dX6_addPool_35 (c_X3_begin hW (kk_14 (kk_6_0 hk).1 hn4)) (fun v_35 h_35 q_35 => ?_)
    obtain ⟨rfl, e1, p1⟩ := q_35
    have hW := e1.W hW
    refine r_iconst (0) dX6_addPool_38 (by decide) ?_
    refine r_istore (ls2 := [_, _, _, _, some _, _]) dX6_addPool_39 (by decide) rfl ?_
    have e0 : eqx h (sI h b 1 (nI (n + 1))) (SB b) := eqx.rf.sI (by unfold SB; omega)
    have e35 : eqx h h_35 (SB b) := e0.tr (e1.wk (fun i zi => by unfold btw SB at *; omega))
    have hbO := begF_ok ha hb hc hab
    refine loopN (P := fun i => ∀ H : AH, i ≤ a → World H → eqx h H (SB b) → aI H b = upd (upd (aI h b) 1 (nI (n + 1))) 3 (nI (m + i)) → (∀ j, j < b + 7 + 12 * n ∨ b + 7 + 12 * n + 11 < j → j ≠ b → aI H j = aI h j ∧ aJ H j = aJ h j) → PoR H (b + 7 + 12 * n) 0 0 (jnF i (begF x y z) m) (fun _ => 0) → PW l9 G mX6_addPool _ _ NT 41 [some (.ref b), some (.int x), some (.int y), some (.int z), some (.ref (b + 1 + 6 + 12 * n)), some (.int (nI i))] [] (0, 0) H) a (fun i ih H hi hW he hb9 ho hp => ?_) 0 h_35 (Nat.zero_le _) hW e35 ?_ (fun j j1 j2 => ⟨by rw [e1.I (by unfold btw; omega), sI_o j2], by rw [e1.J (by unfold btw; omega)]; rfl⟩) p1
    rotate_left
    · rw [e1.I (by unfold btw; omega), sI_r]
      funext k
      by_cases e : k = 3
      · rw [e, pk_us, pk_un (by decide), hs.2.2.1, m3]; rfl
      · rw [pk_un e]
    obtain ⟨i1, i2, i3⟩ := jnF_ok (x := m) hbO rfl i (by omega)
    have zm := hp.2.1
    have el : (mbs (jnF i (begF x y z) m)).length = i := by rw [mbs_len, i2]; exact nn_I (by omega)
    refine r_iload dX6_addPool_41 rfl ?_
    refine r_iload_n dX6_addPool_43 rfl ?_
    refine r_icmp_ge 77 dX6_addPool_44 (by decide) (fun c_44 => ?_) (fun c_44 => ?_)
    · have hge : a = i := by
        have c9 := c_44
        rw [a3] at c9
        have := (nI_leI (by omega) (by omega)).mp c9
        omega
      subst hge
      refine r_vret dX6_addPool_77 rfl ⟨Nat.zero_le _, Nat.zero_le _⟩ ?_
      have hO9 : PoOK (jnF a (begF x y z) m) (fun _ => 0) 0 0 := i1
      have q0 : nn (apW w x y z 0) = n + 1 := by
        unfold apW
        rw [setP_lo (by decide), pk_un (by decide), pk_us, n3, nI_1]
        exact nn_I (by omega)
      have q1 : apW w x y z 1 = 0 := by
        unfold apW
        rw [setP_lo (by decide), pk_un (by decide), pk_un (by decide)]; exact hw1
      have q3 : apW w x y z 3 = w 3 := by
        unfold apW
        rw [setP_lo (by decide), pk_un (by decide), pk_un (by decide)]
      refine ⟨rfl, he, ?_, ?_, ?_, ?_, fun p hp9 => ?_⟩
      · rw [hb9, pk_un (by decide), pk_us]
        unfold apW
        rw [setP_lo (by decide), pk_un (by decide), pk_us, n3, nI_1]
      · rw [hb9, pk_un (by decide), pk_un (by decide), q1, hs.2.1]; exact hw1
      · rw [hb9, pk_us]
        unfold apW
        rw [setP_lo (by decide), pk_us, em, ea]
      · rw [q3]
        have hev := hs.2.2.2.1
        unfold EvW at hev ⊢
        rw [(ho (b + 2) (by omega) (by omega)).1, (ho (b + 2 + 1) (by omega) (by omega)).1, (ho (b + 2 + 2) (by omega) (by omega)).1, (ho (b + 2 + 3) (by omega) (by omega)).1, (ho (b + 2 + 4) (by omega) (by omega)).1]
        refine ⟨hev.1, fun j j1 j2 => ?_⟩
        have e9 : ∀ k, 4 ≤ k → k < 244 → apW w x y z k = w k := fun k k1 k2 => by
          unfold apW
          rw [setP_lo k2, pk_un (by omega), pk_un (by omega)]
        rw [e9 _ (by omega) (by omega), e9 _ (by omega) (by omega), e9 _ (by omega) (by omega), e9 _ (by omega) (by omega)]
        exact hev.2 j j1 j2
      · rw [q1]
        rw [q0] at hp9
        by_cases e : p = n
        · subst e
          have e1' : getP (apW w x y z) p = trP (jnF a (begF x y z) m) := by
            unfold apW
            rw [en, ea, em, getP_set]
          rw [e1', ← en, hz]
          rw [en]
          exact hp.cgF (hO9.at 23).2.2 (hO9.at 24).2.2 (fun k hk9 => trP_k hk9) (fun k hk9 => rfl)
        · have e1' : getP (apW w x y z) p = getP w p := by
            unfold apW
            rw [en, getP_ne e]
            exact getP_cg (fun k hk9 => by rw [pk_un (by omega), pk_un (by omega)])
          rw [e1']
          have h5 := hs.2.2.2.2 p (by omega)
          rw [hw1] at h5
          exact h5.cg (fun j j1 j2 => (ho j (by omega) (by omega)).1) (ho _ (by omega) (by omega)).2
    · have hlt : i < a := by
        have c9 := c_44
        rw [a3] at c9
        exact (nI_ltI (by omega) (by omega)).mp (i_lt.mp c9)
      refine r_aload dX6_addPool_47 rfl ?_
      refine q_getR fl_X6_49 hW (kk_14 (kk_6_0 hk).1 hn4) rfl (kl_3_1 hW (kk_14 (kk_6_0 hk).1 hn4)) (Nat.succ_ne_zero _) dX6_addPool_49 ?_
      refine r_aload_n dX6_addPool_52 rfl ?_
      refine q_getI fl_X6_32 hW hk rfl dX6_addPool_53 ?_
      rw [show aI H b 3 = nI (m + i) from by rw [hb9, pk_us]]
      refine r_iconst (0) dX6_addPool_56 (by decide) ?_
      refine r_iconst (0) dX6_addPool_57 (by decide) ?_
      refine q_callV3 (cv_X1_add ml_X6_53) hW (kk_3_1 (kk_14 (kk_6_0 hk).1 hn4)) (by decide) rfl ⟨rfl, rfl⟩ rfl (Nat.le_of_ble_eq_true rfl) dX6_addPool_58 (c_X1_add hW (kk_3_1 (kk_14 (kk_6_0 hk).1 hn4)) zm (by omega)) (fun v_58 h_58 q_58 => ?_)
      obtain ⟨rfl, e58, p58⟩ := q_58
      have hW := e58.W hW
      refine r_aload_n dX6_addPool_61 rfl ?_
      refine r_dup dX6_addPool_62 rfl ?_
      refine q_getI fl_X6_32 hW hk rfl dX6_addPool_63 ?_
      rw [show aI h_58 b 3 = nI (m + i) from by rw [e58.I (by unfold btw; omega), hb9, pk_us]]
      refine r_iconst (1) dX6_addPool_66 (by decide) ?_
      refine r_iadd dX6_addPool_67 ?_
      rw [nI_1]
      refine q_putI fl_X6_32 hW hk rfl rfl dX6_addPool_68 ?_
      refine r_iinc (1) (by decide) (ls2 := [_, _, _, _, some _, _]) dX6_addPool_71 rfl (by decide) rfl ?_
      refine r_goto 41 dX6_addPool_74 (by decide) ?_
      rw [nI_1]
      have es : eqx h_58 (sI h_58 b 3 (nI (m + i + 1))) (fun j => j = b) := eqx.rf.sI rfl
      have p2 : PoR h_58 (b + 7 + 12 * n) 0 0 (joF (jnF i (begF x y z) m) (nI (m + i)) 0 0) (fun _ => 0) := po_mem hp (i1.at 24).2.2 (e58.wk (fun j zj => by unfold btw at *; omega)) (by rw [mbs_joF ⟨(i1.at 23).1, Nat.zero_le _, by rw [i2, nn_I (by omega)]; omega⟩]; exact p58) (fun k hk9 => joF_o hk9)
      refine ih hlt _ hlt (es.W hW) ((he.tr (e58.wk (fun j zj => by unfold btw SB at *; omega))).tr (es.wk (fun j zj => by unfold SB; omega))) ?_ (fun j j1 j2 => ⟨by rw [sI_o j2, e58.I (by unfold btw; omega)]; exact (ho j j1 j2).1, by rw [sIJ, e58.J (by unfold btw; omega)]; exact (ho j j1 j2).2⟩) (p2.eqx es (fun j j1 j2 => by omega))
      rw [sI_r, e58.I (by unfold btw; omega), hb9]
      funext k
      by_cases e : k = 3
      · rw [e, pk_us, pk_us]; rfl
      · rw [pk_un e, pk_un e, pk_un e]
  · exact absurd ((nI_ltI (b := 4) (by omega) (by omega)).mpr hn4) c_5
