-- .. and the row with it
def TI (ts : Nat → Bool) (w : Nat → Int32) : Prop := 0 < nn (w 0) → ts 7 = false → getP w (nn (w 0) - 1) 7 = 0
theorem tw_78 {b : Nat → Int32} {n k : Nat} {e : ER} {lo hi : Int32} {f : Nat → Int32} {i : Nat} (h : i ≠ k ∧ i ≠ k + 1) : twF b n e lo hi k f i = f i := by unfold twF; rw [pk_un h.2, pk_un h.1]
theorem on_78 {b : Nat → Int32} {n k : Nat} {e : ER} {lo hi : Int32} {f : Nat → Int32} {i : Nat} (h : i ≠ k) : onF b n e lo hi k f i = f i := by unfold onF; rw [pk_un h]
theorem se_78 {b : Nat → Int32} {n j : Nat} {e : ER} {f : Nat → Int32} {i : Nat} (h : i = 7 ∨ i = 8) : seF b n e j f i = f i := by
  unfold seF
  split
  · exact tw_78 (by omega)
  · split
    · exact tw_78 (by omega)
    · split
      · exact on_78 (by omega)
      · split
        · exact on_78 (by omega)
        · split
          · exact on_78 (by omega)
          · split
            · exact on_78 (by omega)
            · exact tw_78 (by omega)
theorem ldU_k {f : Nat → Int32} {i j : Nat} {x : Int32} (h1 : j ≠ 24) (h2 : j < 36 ∨ 60 ≤ j) (h24 : i < 24) : ldU f i x j = f j := by unfold ldU; rw [pk_un h1, pk_un (by omega)]
theorem ldR_78 {b : Nat → Int32} {n j : Nat} (h1 : j ≠ 24) (h2 : j < 36) : ∀ (k i : Nat) (e : ER) (f : Nat → Int32), i + k ≤ 24 → (ldR b n k i e f).2 j = f j
  | 0, _, _, _, _ => rfl
  | k + 1, i, e, f, h24 => by
    by_cases q : e.1 = 0 ∧ ¬ tC b n e.2 = 3
    · rw [ldR_st q.1 q.2, ldR_78 h1 h2 k (i + 1) _ _ (by omega), ldU_k h1 (Or.inl h2) (by omega)]
    · have e9 : ldR b n (k + 1) i e f = (smiS b n e, f) := if_neg q
      rw [e9]
theorem bdy_78 {b : Nat → Int32} {n p j : Nat} {f : Nat → Int32} {i : Nat} (h : i = 7 ∨ i = 8) (hj : j ≠ 7) (hf : PoOK f (fun _ => 0) 0 0) : (bdy b n p j f).2 i = f i := by
  unfold bdy
  split
  · show (loE b n (0, p) f).2 i = _
    unfold loE
    rw [ldR_78 (by omega) (by omega) _ _ _ _ (by decide), ldU_k (by omega) (by omega) (by decide)]
  · split
    · show prU b n p f i = _
      unfold prU
      split
      · exact pk_un (by omega)
      · rfl
    · split
      · show ruF b n p f i = _
        unfold ruF
        split
        · exact pk_un (by omega)
        · split
          · exact pk_un (by omega)
          · split
            · exact pk_un (by omega)
            · rfl
      · exact se_78 h
theorem bdy_PlF {b : Nat → Int32} {n p j : Nat} {f : Nat → Int32} (hl : PlF f) (hf : PoOK f (fun _ => 0) 0 0) (h7 : j = 7 → f 7 = 0) : PlF (bdy b n p j f).2 := by
  by_cases e : j = 7
  · subst e
    have e7 := h7 rfl
    have e8 : f 8 = 0 := hl (by rw [e7]; decide)
    show PlF (plF b n p f)
    unfold plF
    split
    · exact fun _ => (pk_un (by decide)).trans e8
    · split
      · exact fun _ => (pk_un (by decide)).trans e8
      · split
        · intro q
          rw [pk_un (by decide), pk_us] at q
          exact absurd rfl q
        · exact hl
  · exact hl.cg (bdy_78 (Or.inl rfl) e hf) (bdy_78 (Or.inr rfl) e hf)
theorem pi_set {w : Nat → Int32} {u : Nat} {f' : Nat → Int32} (h : PI w) (hu : u < nn (w 0)) (hb : Bd (getP w u) f') (hl : PlF f') : PI (setP w u f') := by
  have e0 : ∀ k, k < 244 → setP w u f' k = w k := fun k hk => setP_lo hk
  have e1 : nn (w 1) = 0 := by rw [h.2.1]; rfl
  have y23 : nn (getP w u 23) ≤ 20 := ((h.ok hu).at 23).2.2
  have hz : OK2 (upP (w, ZG) u f') 0 := by
    refine ok2_up h.1 hu ?_ ?_ hl
    · show PoOK f' (getG ZG u) (nn (w 1)) (nn (w 1))
      rw [e1, getG_Z]; exact hb.1
    · intro k hk
      rw [hb.2.1] at hk
      rw [(hb.2.2.2 k (by omega)).1, (hb.2.2.2 k (by omega)).2]
      exact (h.1.2 u hu).1 k hk
  refine ⟨hz, (e0 1 (by decide)).trans h.2.1, (e0 3 (by decide)).trans h.2.2.1, fun p hp => ?_, fun p hp h4 => ?_, ?_⟩
  · rw [e0 0 (by decide)] at hp
    by_cases q : p = u
    · subst q
      rw [getP_set, trP_k (by decide), trP_k (by decide), hb.2.1, hb.2.2.1]
      exact h.2.2.2.1 p hp
    · rw [getP_ne q]; exact h.2.2.2.1 p hp
  · rw [e0 0 (by decide)] at hp
    rw [getP_ne (by omega)]; exact h.2.2.2.2.1 p hp h4
  · rw [e0 0 (by decide), e0 2 (by decide)]; exact h.2.2.2.2.2
theorem mb_jn {f : Nat → Int32} {g : Nat → Int64} {c t x : Nat} (hO : PoOK f g c t) (h0 : f 23 = 0) (hx : x + 20 < 2 ^ 31) : ∀ n, n ≤ 20 → MbF (jnF n f x) (x + n) 0
  | 0, _ => fun k hk => by
    have e : nn (jnF 0 f x 23) = 0 := by show nn (f 23) = 0; rw [h0]; rfl
    rw [e] at hk; omega
  | n + 1, hn => by
    have i1 := mb_jn hO h0 hx n (by omega)
    have e23 := (jnF_ok (x := x) hO h0 n (by omega)).2.1
    show MbF (joF (jnF n f x) (nI (x + n)) (nI 0) 0) (x + (n + 1)) 0
    exact (i1.wk (by omega) (Nat.le_refl _)).jo e23 (by omega) (by omega) (Nat.le_refl _) (by omega) (by decide)
theorem ap_lo {w : Nat → Int32} {a b c : Int32} {k : Nat} (hk : k < 244) (h0 : k ≠ 0) (h2 : k ≠ 2) : apW w a b c k = w k := by
  unfold apW
  rw [setP_lo hk, pk_un h2, pk_un h0]
theorem ap_0 {w : Nat → Int32} {a b c : Int32} : apW w a b c 0 = w 0 + 1 := by
  unfold apW
  rw [setP_lo (by decide), pk_un (by decide), pk_us]
theorem ap_2 {w : Nat → Int32} {a b c : Int32} : apW w a b c 2 = nI (nn (w 2) + nn a) := by
  unfold apW
  rw [setP_lo (by decide), pk_us]
theorem ap_p {w : Nat → Int32} {a b c : Int32} : getP (apW w a b c) (nn (w 0)) = trP (jnF (nn a) (begF a b c) (nn (w 2))) := by
  unfold apW
  rw [getP_set]
theorem ap_o {w : Nat → Int32} {a b c : Int32} {p : Nat} (h : p ≠ nn (w 0)) : getP (apW w a b c) p = getP w p := by
  unfold apW
  rw [getP_ne h]
  exact getP_cg (fun k hk9 => by rw [pk_un (by omega), pk_un (by omega)])
theorem pi_ap {w : Nat → Int32} {A B C : Int32} (h : PI w) (h4 : nn (w 0) < 4) (ha : rg A 0 20) (hb : rg B 1 20) (hc : rg C 1 100) (hab : nn A ≤ nn B) : PI (apW w A B C) ∧ nn (apW w A B C 0) = nn (w 0) + 1 ∧ getP (apW w A B C) (nn (w 0)) 7 = 0 := by
  obtain ⟨a, a1, a2, a3⟩ := ha.nat
  have ea : nn A = a := by rw [a3]; exact nn_I (by omega)
  have hw2 := h.1.1.1.2.2.1
  have h220 := h.2.2.2.2.2
  have hbO := begF_ok ha hb hc hab
  obtain ⟨j1, j2, j3⟩ := jnF_ok (x := nn (w 2)) hbO rfl a a2
  have hmb := mb_jn (x := nn (w 2)) hbO rfl (by omega) a a2
  have e0 : nn (apW w A B C 0) = nn (w 0) + 1 := by
    rw [ap_0, h.n4.1, nI_1, nn_I (by omega), nn_I (by omega)]
  have e1 : apW w A B C 1 = 0 := (ap_lo (by decide) (by decide) (by decide)).trans h.2.1
  have e3 : apW w A B C 3 = 0 := (ap_lo (by decide) (by decide) (by decide)).trans h.2.2.1
  have e2 : apW w A B C 2 = nI (nn (w 2) + a) := by rw [ap_2, ea]
  have e2n : nn (apW w A B C 2) = nn (w 2) + a := by rw [e2]; exact nn_I (by omega)
  have ep : getP (apW w A B C) (nn (w 0)) = trP (jnF a (begF A B C) (nn (w 2))) := by rw [ap_p, ea]
  have hp9 : ∀ p, p < nn (w 0) + 1 → p ≠ nn (w 0) → p < nn (w 0) := fun p h1 h2 => by omega
  have e1n : nn (w 1) = 0 := by rw [h.2.1]; rfl
  refine ⟨⟨⟨⟨⟨?_, ?_, ?_, ?_⟩, fun p hp => ?_⟩, fun p hp => ?_⟩, e1, e3, fun p hp => ?_, fun p hp hp4 => ?_, ?_⟩, e0, ?_⟩
  · show rg (apW w A B C 0) 0 4
    rw [ap_0, h.n4.1, nI_1]; exact rg_I (Nat.zero_le _) (by omega) (by decide)
  · show rg (apW w A B C 1) 0 0
    rw [e1]; exact rg_I (k := 0) (by decide) (by decide) (by decide)
  · show rg (apW w A B C 2) 0 (100 + 20 * 0)
    rw [e2]; exact rg_I (Nat.zero_le _) (by omega) (by decide)
  · show rg (apW w A B C 3) 0 (100 + 20 * 0)
    rw [e3]; exact rg_I (k := 0) (by decide) (by decide) (by decide)
  · show PoOK (getP (apW w A B C) p) (getG ZG p) (nn (apW w A B C 1)) (nn (apW w A B C 1))
    have hp' : p < nn (w 0) + 1 := by rw [← e0]; exact hp
    rw [e1, getG_Z]
    by_cases q : p = nn (w 0)
    · subst q
      rw [ep]
      exact j1.cgF (fun k hk => trP_k hk) (fun k hk => rfl)
    · rw [ap_o q]; exact h.ok (hp9 p hp' q)
  · show IvF (getP (apW w A B C) p) (getG ZG p) (nn (apW w A B C 2)) (nn (apW w A B C 1)) 0
    have hp' : p < nn (w 0) + 1 := by rw [← e0]; exact hp
    rw [e1, e2n]
    by_cases q : p = nn (w 0)
    · subst q
      rw [ep]
      refine ⟨hmb.cg (j1.at 23).2.2 (trP_k (by decide)) (fun k _ hk => trP_k hk), ?_, 0, Nat.zero_le _, ?_⟩
      · refine PlF.cg (f := begF A B C) (fun _ => rfl) ?_ ?_
        · rw [trP_k (by decide)]; exact j3 7 (by decide)
        · rw [trP_k (by decide)]; exact j3 8 (by decide)
      · rw [getG_Z]; rfl
    · rw [ap_o q]
      have z := h.1.2 p (hp9 p hp' q)
      have z1 : IvF (getP w p) (getG ZG p) (nn (w 2)) (nn (w 1)) 0 := z
      rw [e1n] at z1
      exact z1.wk (by omega) (Nat.le_refl _) (Nat.le_refl _)
  · have hp' : p < nn (w 0) + 1 := by rw [← e0]; exact hp
    by_cases q : p = nn (w 0)
    · subst q
      rw [ep, trP_k (by decide), trP_k (by decide), j2, j3 0 (by decide), ← a3]
      rfl
    · rw [ap_o q]; exact h.2.2.2.1 p (hp9 p hp' q)
  · rw [e0] at hp
    rw [ap_o (by omega)]; exact h.2.2.2.2.1 p (by omega) hp4
  · rw [e0, e2n]; omega
  · rw [ep, trP_k (by decide), j3 7 (by decide)]; rfl
theorem stm_pi {b : Nat → Int32} {n p : Nat} {ts : Nat → Bool} {w : Nat → Int32} (h : PI w) (hT : TI ts w) (hc : (stmE b n ts w p).1 = 0) : PI (stmW b n w p) ∧ TI (stmT b n ts p) (stmW b n w p) ∧ 0 < nn (stmW b n w p 0) := by
  unfold stmE at hc
  unfold stmW stmT
  by_cases j0 : stW b n p = 0
  · rw [if_pos j0] at hc
    rw [if_pos j0, if_pos j0]
    by_cases h4 : nn (w 0) < 4
    · obtain ⟨k1, k2, k3⟩ := pi_ap h h4 (vlS_rg (b := b) (n := n) (e := (0, tE b n p)) (lo := 0) (hi := 20) (by decide) (by decide)) (poB_rg (b := b) (n := n) (p := tE b n p)).1 (vlS_rg (b := b) (n := n) (e := poE2 b n (tE b n p)) (lo := 1) (hi := 100) (by decide) (by decide)) (poB_rg (b := b) (n := n) (p := tE b n p)).2
      have e : ∀ x y z : Int32, nn (apW w x y z 0) = nn (w 0) + 1 → getP (apW w x y z) (nn (w 0)) 7 = 0 → TI (fun _ => false) (apW w x y z) ∧ 0 < nn (apW w x y z 0) := fun x y z q1 q2 => ⟨fun _ _ => by rw [q1, Nat.add_sub_cancel]; exact q2, by rw [q1]; exact Nat.succ_pos _⟩
      exact ⟨k1, e _ _ _ k2 k3⟩
    · rw [if_neg h4] at hc; exact absurd hc (by show ¬ (4 : Nat) = 0; decide)
  · rw [if_neg j0] at hc
    rw [if_neg j0, if_neg j0]
    by_cases h12 : stW b n p = 12 ∨ nn (w 0) = 0
    · rw [if_pos h12] at hc; exact absurd hc (by show ¬ (1 : Nat) = 0; decide)
    · rw [if_neg h12] at hc
      by_cases h3 : stW b n p ≠ 11 ∧ ts (stW b n p) = true
      · rw [if_pos h3] at hc; exact absurd hc (by show ¬ (3 : Nat) = 0; decide)
      · rw [if_neg h3] at hc
        have hn0 : 0 < nn (w 0) := by omega
        have hu : nn (w 0) - 1 < nn (w 0) := by omega
        have hO := h.ok hu
        have h7 : stW b n p = 7 → getP w (nn (w 0) - 1) 7 = 0 := fun q => hT hn0 (by
          cases z : ts 7 with
          | false => rfl
          | true => exact absurd ⟨by omega, by rw [q]; exact z⟩ h3)
        have hb := bd_bdy (b := b) (n := n) (p := tE b n p) (j := stW b n p) hO (h.2.2.2.1 _ hu)
        have hl := bdy_PlF (b := b) (n := n) (p := tE b n p) (j := stW b n p) (h.1.2 _ hu).2.1 hO h7
        have e0 : ∀ f', setP w (nn (w 0) - 1) f' 0 = w 0 := fun _ => setP_lo (by decide)
        refine ⟨pi_set h hu hb hl, ?_, by rw [e0]; exact hn0⟩
        intro _ q
        rw [e0, getP_set, trP_k (by decide)]
        obtain ⟨q1, q2⟩ := Bool.or_eq_false_iff.mp q
        have hj : stW b n p ≠ 7 := fun z => absurd q2 (by rw [z]; decide)
        rw [bdy_78 (Or.inl rfl) hj hO]
        exact hT hn0 q1
