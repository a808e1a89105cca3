-- the ticks of one pool alone are those of all
theorem metG_k {f : Nat → Int32} {g g' : Nat → Int64} {t : Nat} (h : ∀ k, k < 6 → g k = g' k) : ∀ k, k < 6 → metG f g t k = metG f g' t k := fun k hk => by
  obtain rfl | rfl | rfl | rfl | rfl | rfl : k = 0 ∨ k = 1 ∨ k = 2 ∨ k = 3 ∨ k = 4 ∨ k = 5 := by omega
  · show g 0 + _ = g' 0 + _; rw [h 0 (by decide)]
  · show g 1 + _ = g' 1 + _; rw [h 1 (by decide)]
  · show g 2 + _ = g' 2 + _; rw [h 2 (by decide)]
  · show g 3 = g' 3; exact h 3 (by decide)
  · show g 4 + _ = g' 4 + _; rw [h 4 (by decide)]
  · show g 5 + _ = g' 5 + _; rw [h 5 (by decide)]
theorem erG_k {f : Nat → Int32} {g g' : Nat → Int64} {t : Nat} {d : Int32} (h : ∀ k, k < 6 → g k = g' k) : ∀ k, k < 6 → erG f g t d k = erG f g' t d k := fun k hk => by
  unfold erG
  split
  · exact h k hk
  · unfold vp_updL
    split
    · rw [h 3 (by decide)]
    · exact h k hk
theorem pasG_k {f : Nat → Int32} {g g' : Nat → Int64} {t : Nat} (h : ∀ k, k < 6 → g k = g' k) : ∀ k, k < 6 → pasG f g t k = pasG f g' t k := fun k hk => by
  rw [pasG_e, pasG_e]
  exact erG_k (metG_k h) k hk
theorem eqN.trP {f f' : Nat → Int32} (h : eqN f f') : eqN (trP f) f' := fun k hk hk2 => (trP_k hk).trans (h k hk hk2)
theorem tkN_s {n : Nat} {r : Row} : tkN (n + 1) r = tickW (tkN n r) := rfl
/-- what is alike of the pool p after all pools' ticks, and after its own alone -/
def SimT (R : Row) (p t : Nat) (s : Tr) : Prop := eqN (getP R.1 p) (qF s.1) ∧ (∀ k, k < 6 → getG R.2 p k = s.2 k) ∧ R.1 1 = nI t ∧ p < nn (R.1 0)
theorem sim_1 {R : Row} {m p t : Nat} {s : Tr} (hO : RoOK R.1 R.2 m) (hb : 100 + 20 * (m + 1) < 2 ^ 28) (ht : t + 1 < 2 ^ 30) (h : SimT R p t s) : SimT (tickW R) p (t + 1) (tk1 p t s) := by
  obtain ⟨h1, h2, h3, h4⟩ := h
  have et : nn (R.1 1) = t := by rw [h3]; exact nn_I (by omega)
  obtain ⟨i1, i2⟩ := tick_p h4
  obtain ⟨j1, j2⟩ := tkS_q (t := nn (R.1 1)) (p := p) (r := R) p (Nat.le_refl _)
  have hP := hO.2 p h4
  rw [et] at i1 i2 j1 j2 hP
  have e1 : qF (rowQ (tkS t p R).1 p) = getP R.1 p := j1
  have e2 : PoOK (qF (rowQ (tkS t p R).1 p)) (getG R.2 p) t t := by rw [e1]; exact hP
  obtain ⟨k1, -⟩ := sim_pas (p := p) (q := rowQ (tkS t p R).1 p) (q' := s.1) (by rw [e1]; exact h1) e2 ht (e := qE (rowQ (tkS t p R).1 p)) (e' := qE s.1) (Nat.add_comm _ _)
  refine ⟨?_, fun k hk => ?_, ?_, ?_⟩
  · rw [i1, tk1_1]; exact k1.trP
  · rw [i2, trG_k hk, tk1_2, ← h1.pasG (hP.at 23).2.2 (hP.at 24).2.2]
    exact pasG_k h2 k hk
  · rw [tickW_1, pk_us, et]
  · rw [tickW_0 hO hb]; exact h4
theorem sim_0 {r : Row} {m p : Nat} (hO : RoOK r.1 r.2 m) (hp : p < nn (r.1 0)) : SimT r p (nn (r.1 1)) (T0 r p) := ⟨fun _ _ _ => rfl, fun _ _ => rfl, hO.1.2.1.1, hp⟩
theorem sim_N {R : Row} {m p t : Nat} {s : Tr} (hO : RoOK R.1 R.2 m) (h : SimT R p t s) : ∀ n, 100 + 20 * (m + n) < 2 ^ 28 → t + n + 1 < 2 ^ 30 → SimT (tkN n R) p (t + n) (trT p t n s)
  | 0, _, _ => h
  | n + 1, hb, ht => by
    have i1 := sim_N hO h n (by omega) (by omega)
    have hn := tkN_ok hO n (by omega)
    rw [tkN_s, trT_s]
    exact sim_1 (t := t + n) hn (by omega) (by omega) i1
