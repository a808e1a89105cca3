-- the reader goes forward
theorem nmS_go {b : Nat → Int32} {n : Nat} {e : ER} {lo hi : Int32} (h : (nmS b n e lo hi).1 = 0) : e.2 ≤ (nmS b n e lo hi).2 := by
  unfold nmS at h ⊢
  split
  · next q =>
    rw [if_pos q] at h
    split
    · exact Nat.le_trans tS_ge tE_ge
    · next q2 => rw [if_neg q2] at h; exact absurd h q2
  · exact Nat.le_refl _
theorem smiS_go {b : Nat → Int32} {n : Nat} {e : ER} (h : (smiS b n e).1 = 0) : e.2 ≤ (smiS b n e).2 := by
  unfold smiS at h ⊢
  split
  · next q =>
    rw [if_pos q] at h
    split
    · exact Nat.le_trans tS_ge tE_ge
    · next q2 => rw [if_neg q2] at h; exact absurd h (by show ¬ (1 : Nat) = 0; decide)
  · exact Nat.le_refl _
theorem ldR_go {b : Nat → Int32} {n : Nat} : ∀ (k i : Nat) (e : ER) (f : Nat → Int32), (ldR b n k i e f).1.1 = 0 → e.2 ≤ (ldR b n k i e f).1.2
  | 0, _, _, _, h => smiS_go h
  | k + 1, i, e, f, h => by
    by_cases q : e.1 = 0 ∧ ¬ tC b n e.2 = 3
    · rw [ldR_st q.1 q.2] at h ⊢
      have z := ldR_go k (i + 1) _ _ h
      have z1 : (nmS b n e 0 999).1 = 0 := by
        refine Classical.byContradiction fun q9 => ?_
        rw [ldR_er q9] at h
        exact q9 h
      exact Nat.le_trans (nmS_go z1) z
    · have e9 : ldR b n (k + 1) i e f = (smiS b n e, f) := if_neg q
      rw [e9] at h ⊢
      exact smiS_go h
theorem ldR_0 {b : Nat → Int32} {n k i : Nat} {e : ER} {f : Nat → Int32} (h : (ldR b n k i e f).1.1 = 0) : e.1 = 0 := by
  refine Classical.byContradiction fun q9 => ?_
  rw [ldR_er q9] at h
  exact q9 h
theorem bdy_go {b : Nat → Int32} {n p j : Nat} {f : Nat → Int32} (h : (bdy b n p j f).1.1 = 0) : p ≤ (bdy b n p j f).1.2 := by
  unfold bdy at h ⊢
  split
  · next q =>
    rw [if_pos q] at h
    unfold loE at h ⊢
    have z := ldR_0 h
    have z1 : (0, p).2 ≤ _ := nmS_go z
    exact Nat.le_trans z1 (ldR_go _ _ _ _ h)
  · next q =>
    rw [if_neg q] at h
    split
    · next q =>
      rw [if_pos q] at h
      refine Nat.le_trans ?_ (smiS_go h)
      have z := smiS_0 h
      unfold prE at z ⊢
      split
      · next q => rw [if_pos q] at z; exact absurd z (by show ¬ (3 : Nat) = 0; decide)
      · next q => rw [if_neg q] at z; exact nmS_go z
    · next q =>
      rw [if_neg q] at h
      split
      · next q =>
        rw [if_pos q] at h
        refine Nat.le_trans ?_ (smiS_go h)
        have z := smiS_0 h
        have hE : p ≤ tE b n p := Nat.le_trans tS_ge tE_ge
        unfold plE at z ⊢
        split
        · exact hE
        · next q1 =>
          rw [if_neg q1] at z
          split
          · exact hE
          · next q2 =>
            rw [if_neg q2] at z
            split
            · next q3 =>
              rw [if_pos q3] at z
              exact Nat.le_trans hE (nmS_go z)
            · next q3 => rw [if_neg q3] at z; exact absurd z (by show ¬ (1 : Nat) = 0; decide)
      · next q =>
        rw [if_neg q] at h
        split
        · next q =>
          rw [if_pos q] at h
          refine Nat.le_trans ?_ (smiS_go h)
          have z := smiS_0 h
          have hE : p ≤ tE b n p := Nat.le_trans tS_ge tE_ge
          unfold ruE at z ⊢
          split
          · exact hE
          · next q1 =>
            rw [if_neg q1] at z
            split
            · exact hE
            · next q2 =>
              rw [if_neg q2] at z
              split
              · exact hE
              · next q3 => rw [if_neg q3] at z; exact absurd z (by show ¬ (1 : Nat) = 0; decide)
        · next q =>
          rw [if_neg q] at h
          refine Nat.le_trans ?_ (smiS_go h)
          have z := smiS_0 h
          have tw : ∀ lo hi, (twE b n (0, p) lo hi).1 = 0 → p ≤ (twE b n (0, p) lo hi).2 := fun lo hi q => by
            unfold twE at q ⊢
            have z1 : (0, p).2 ≤ _ := nmS_go (nmS_0 q)
            exact Nat.le_trans z1 (nmS_go q)
          have on : ∀ lo hi, (nmS b n (0, p) lo hi).1 = 0 → p ≤ (nmS b n (0, p) lo hi).2 := fun lo hi q => nmS_go q
          unfold seE at z ⊢
          split
          · next q => rw [if_pos q] at z; exact tw _ _ z
          · next q =>
            rw [if_neg q] at z
            split
            · next q => rw [if_pos q] at z; exact tw _ _ z
            · next q =>
              rw [if_neg q] at z
              split
              · next q => rw [if_pos q] at z; exact on _ _ z
              · next q =>
                rw [if_neg q] at z
                split
                · next q => rw [if_pos q] at z; exact on _ _ z
                · next q =>
                  rw [if_neg q] at z
                  split
                  · next q => rw [if_pos q] at z; exact on _ _ z
                  · next q =>
                    rw [if_neg q] at z
                    split
                    · next q => rw [if_pos q] at z; exact on _ _ z
                    · next q => rw [if_neg q] at z; exact tw _ _ z
theorem pooE_go {b : Nat → Int32} {n p : Nat} (h : (pooE b n p).1 = 0) : p ≤ (pooE b n p).2 := by
  unfold pooE at h ⊢
  have z3 := smiS_0 h
  have z2 : (poE2 b n p).1 = 0 := nmS_0 (by unfold poE3 at z3; exact z3)
  have z1 : (poE1 b n p).1 = 0 := nmS_0 (by unfold poE2 at z2; exact z2)
  have g1 : (0, p).2 ≤ (poE1 b n p).2 := nmS_go z1
  have g2 : (poE1 b n p).2 ≤ (poE2 b n p).2 := nmS_go z2
  have g3 : (poE2 b n p).2 ≤ (poE3 b n p).2 := nmS_go z3
  exact Nat.le_trans g1 (Nat.le_trans g2 (Nat.le_trans g3 (smiS_go h)))
theorem stmE_go {b : Nat → Int32} {n p : Nat} {ts : Nat → Bool} {w : Nat → Int32} (hk : tK b n p ≠ 0) (hc : (stmE b n ts w p).1 = 0) : p + 1 ≤ (stmE b n ts w p).2 := by
  have h1 := tE_gt hk
  have h2 := tS_ge (b := b) (n := n) (p := p)
  unfold stmE at hc ⊢
  by_cases j0 : stW b n p = 0
  · rw [if_pos j0] at hc ⊢
    by_cases h4 : nn (w 0) < 4
    · rw [if_pos h4] at hc ⊢
      have := pooE_go hc
      omega
    · rw [if_neg h4] at hc; exact absurd hc (by show ¬ (4 : Nat) = 0; decide)
  · rw [if_neg j0] at hc ⊢
    by_cases h12 : stW b n p = 12 ∨ nn (w 0) = 0
    · rw [if_pos h12] at hc; exact absurd hc (by show ¬ (1 : Nat) = 0; decide)
    · rw [if_neg h12] at hc ⊢
      by_cases h3 : stW b n p ≠ 11 ∧ ts (stW b n p) = true
      · rw [if_pos h3] at hc; exact absurd hc (by show ¬ (3 : Nat) = 0; decide)
      · rw [if_neg h3] at hc ⊢
        have := bdy_go hc
        omega
/-- the whole text: the error, or 0; the row -/
def rdA (b : Nat → Int32) (n : Nat) : Nat → (Nat → Bool) → (Nat → Int32) → Nat → ER × (Nat → Int32)
  | 0, _, w, p => ((0, p), w)
  | k + 1, ts, w, p => if tK b n p = 0 then ((if nn (w 0) = 0 then (5, tS b n p) else (0, tE b n p)), w) else if (stmE b n ts w p).1 = 0 then rdA b n k (stmT b n ts p) (stmW b n w p) (stmE b n ts w p).2 else (stmE b n ts w p, w)
def noT : Nat → Bool := fun _ => false
def noW : Nat → Int32 := fun _ => 0
def rdS (b : Nat → Int32) (n : Nat) : ER × (Nat → Int32) := rdA b n (n + 1) noT noW 0
theorem pi_0 : PI noW := by
  have h0 : nn (noW 0) = 0 := rfl
  have g0 : ∀ p, getP noW p = fun _ => 0 := fun p => by
    funext k
    unfold getP noW
    split <;> rfl
  refine ⟨⟨⟨⟨?_, ?_, ?_, ?_⟩, fun p hp => absurd (show p < nn (noW 0) from hp) (by rw [h0]; omega)⟩, fun p hp => absurd (show p < nn (noW 0) from hp) (by rw [h0]; omega)⟩, rfl, rfl, fun p hp => absurd hp (by rw [h0]; omega), fun p _ _ => g0 p, by rw [h0]; exact Nat.zero_le _⟩
  · exact rg_I (k := 0) (by decide) (by decide) (by decide)
  · exact rg_I (k := 0) (by decide) (by decide) (by decide)
  · exact rg_I (k := 0) (by decide) (by decide) (by decide)
  · exact rg_I (k := 0) (by decide) (by decide) (by decide)
