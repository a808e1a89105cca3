-- .. through all pools of a tick
def MbR (r : Row) : Prop := ∀ p, p < nn (r.1 0) → MbF (getP r.1 p) (nn (r.1 2)) (nn (r.1 1))
theorem pasW_1 {n t : Nat} {R : Row} : (pasW n t R).1 = putQ n (pasQ n t (rowQ R.1 n)) := by simp only [pasW]
theorem tkS_s {n t : Nat} {r : Row} : tkS t (n + 1) r = pasW n t (tkS t n r) := by rw [tkS]
theorem mb_put {W : Nat → Int32} {n t np : Nat} {q : Q4} (hM : ∀ p, p < np → MbF (getP W p) (nn (W 2)) t) (hq : MbF (qF q) (qX q) t) (h23 : nn (qF q 23) ≤ 20) (hX : nn (W 2) ≤ qX q) (hX2 : qX q < 2 ^ 31) (hW : ∀ k, k < 4 ∨ 244 ≤ k → qW q k = W k) : ∀ p, p < np → MbF (getP (putQ n q) p) (nn (putQ n q 2)) t := fun p hp => by
  have e2 : nn (putQ n q 2) = qX q := by rw [putQ_2]; exact nn_I hX2
  rw [e2]
  by_cases e : p = n
  · subst e
    rw [putQ_p]
    exact hq.cg h23 (trP_k (by decide)) (fun k _ hk => trP_k hk)
  · rw [putQ_o e, getP_cg (w := W) (fun k hk => hW _ (Or.inr (by omega)))]
    exact (hM p hp).wk hX (Nat.le_refl _)
theorem mb_pasW {n t np : Nat} {R : Row} (hM : ∀ p, p < np → MbF (getP R.1 p) (nn (R.1 2)) t) (hn : n < np) (hO : PoOK (getP R.1 n) (getG R.2 n) t t) (ht : t + 1 < 2 ^ 30) (hX : nn (R.1 2) + 5 < 2 ^ 31) : ∀ p, p < np → MbF (getP (pasW n t R).1 p) (nn ((pasW n t R).1 2)) t := by
  rw [pasW_1]
  have h1 : MbF (qF (rowQ R.1 n)) (qX (rowQ R.1 n)) t := hM n hn
  have hO1 : PoOK (qF (rowQ R.1 n)) (getG R.2 n) t t := hO
  have eX : qX (rowQ R.1 n) = nn (R.1 2) := rfl
  have hW1 : ∀ k, qW (rowQ R.1 n) k = R.1 k := fun _ => rfl
  generalize hq : rowQ R.1 n = q at h1 hO1 eX hW1
  obtain ⟨j1, j2⟩ := mb_pas (p := n) h1 hO1 ht (by omega)
  obtain ⟨k1, k2, k3, -⟩ := pas_ok (p := n) hO1 ht
  have y23 := (k1.at 23).2.2
  have hW2 : ∀ k, k < 4 ∨ 244 ≤ k → qW (pasQ n t q) k = R.1 k := fun k hk => (pas_W hk).trans (hW1 k)
  generalize pasQ n t q = q' at j1 j2 k1 k2 y23 hW2
  exact mb_put hM j1 y23 (by omega) (by omega) hW2
theorem mb_tkS {t np m : Nat} {r : Row} (h : RoOK r.1 r.2 m) (ht : nn (r.1 1) = t) (hn : nn (r.1 0) = np) (hm : 100 + 20 * (m + 1) < 2 ^ 28) (hM : ∀ p, p < np → MbF (getP r.1 p) (nn (r.1 2)) t) : ∀ n, n ≤ np → ∀ p, p < np → MbF (getP (tkS t n r).1 p) (nn ((tkS t n r).1 2)) t
  | 0, _ => hM
  | n + 1, hn1 => by
    have ih := mb_tkS h ht hn hm hM n (by omega)
    obtain ⟨i1, i2, i3, i4, i5, i6⟩ := tk_inv h ht hn hm n (by omega)
    have htm : t ≤ m := by rw [← ht]; exact h.1.2.1.2.2
    have h4 : np ≤ 4 := by rw [← hn]; exact h.1.1.2.2
    have k2 := i3.2.2
    have hP := h.2 n (by omega)
    rw [ht] at hP
    have hO : PoOK (getP (tkS t n r).1 n) (getG (tkS t n r).2 n) t t := by
      rw [(i6 n (Nat.le_refl n)).1, (i6 n (Nat.le_refl n)).2]
      exact hP
    rw [tkS_s]
    generalize tkS t n r = R at ih hO k2
    exact mb_pasW ih (by omega) hO (by omega) (by omega)
theorem mb_tick {m : Nat} {r : Row} (h : RoOK r.1 r.2 m) (hm : 100 + 20 * (m + 1) < 2 ^ 28) (hM : MbR r) : MbR (tickW r) := fun p hp => by
  have e0 := tickW_0 h hm
  rw [e0] at hp
  have z := mb_tkS h rfl rfl hm (fun p hp => hM p hp) (nn (r.1 0)) (Nat.le_refl _) p hp
  have ht : nn (r.1 1) ≤ m := h.1.2.1.2.2
  have e1 : nn ((tickW r).1 1) = nn (r.1 1) + 1 := by rw [tickW_1, pk_us]; exact nn_I (by omega)
  have e2 : (tickW r).1 2 = (tkS (nn (r.1 1)) (nn (r.1 0)) r).1 2 := by rw [tickW_1, pk_un (by decide)]
  have e3 : getP (tickW r).1 p = getP (tkS (nn (r.1 1)) (nn (r.1 0)) r).1 p := by rw [tickW_1]; exact getP_cg (fun k hk => pk_un (by omega))
  rw [e1, e2, e3]
  exact z.wk (Nat.le_refl _) (Nat.le_succ _)
