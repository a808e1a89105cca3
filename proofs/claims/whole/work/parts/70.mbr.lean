-- every pool's: members' numbers and coming small, no period without the season, the missed load small
theorem mb_act {p t c u : Nat} {g : Nat → Int64} {f : Nat → Int32} {q : Q4} (h : MbF (qF q) (qX q) t) (hO : PoOK (qF q) g c u) (hN : grN f ≤ 5 ∧ shN f ≤ 5 ∧ nn (qF q 23) + grN f ≤ 20) (ht : t < 2 ^ 31) (hX : qX q + 5 < 2 ^ 31) : MbF (qF (actQ p t f q)) (qX (actQ p t f q)) t ∧ qX q ≤ qX (actQ p t f q) := by
  rw [actQ_e]
  by_cases d0 : deF f t = 0
  · rw [if_pos d0]
    have z3 := (zr_ok (p := p) (t := t) (n := grN f) (r := nI t + 1 + f 4) hO hN.2.2).2.2.1
    rw [z3]
    exact ⟨mb_gr h hO ht (grN f) hN.2.2 (by omega), Nat.le_add_right _ _⟩
  · rw [if_neg d0]
    by_cases d1 : deF f t = 1
    · rw [if_pos d1]
      have z3 := (sh_ok (p := p) (t := t) (n := shN f) hO).2.2.1
      rw [z3]
      exact ⟨mb_sh h hO (shN f), Nat.le_refl _⟩
    · rw [if_neg d1]; exact ⟨h, Nat.le_refl _⟩
theorem mb_act2 {p t c u X E : Nat} {g : Nat → Int64} {f F W : Nat → Int32} (h : MbF F X t) (hO : PoOK F g c u) (hN : grN f ≤ 5 ∧ shN f ≤ 5 ∧ nn (F 23) + grN f ≤ 20) (ht : t < 2 ^ 31) (hX : X + 5 < 2 ^ 31) : MbF (qF (actQ p t f (F, W, X, E))) (qX (actQ p t f (F, W, X, E))) t ∧ X ≤ qX (actQ p t f (F, W, X, E)) :=
  mb_act (q := (F, W, X, E)) h hO hN ht hX
theorem mb_pas {p t : Nat} {g : Nat → Int64} {q : Q4} (h : MbF (qF q) (qX q) t) (hO : PoOK (qF q) g t t) (ht : t + 1 < 2 ^ 30) (hX : qX q + 5 < 2 ^ 31) : MbF (qF (pasQ p t q)) (qX (pasQ p t q)) t ∧ qX q ≤ qX (pasQ p t q) := by
  have hO1 := hO.pas ht
  have y23 : nn (qF q 23) ≤ 20 := (hO.at 23).2.2
  have hd : MbF (decF (pasF (qF q) t) t) (qX q) t := h.cg y23 ((decF_hi (Or.inr rfl)).trans (pasF_hi (Or.inr rfl))) (fun k h1 _ => (decF_hi (Or.inl h1)).trans (pasF_hi (Or.inl h1)))
  obtain ⟨n1, n2, n3⟩ := gr_lim hO1 (pasF_19 hO ht)
  rw [pasQ_e]
  have e23 : decF (pasF (qF q) t) t 23 = pasF (qF q) t 23 := decF_hi (Or.inr rfl)
  exact mb_act2 hd hO1.dec ⟨n1, n2, by rw [e23]; exact n3⟩ (by omega) hX
