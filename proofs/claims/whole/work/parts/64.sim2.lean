-- ticks keep rows equal but for the numbers
theorem pasF_e {f : Nat → Int32} {t : Nat} : pasF f t = looF (erF (metF f t) t (metF f t (60 + t % 24))) (t + 1) t := by unfold pasF; exact rfl
theorem pasG_e {f : Nat → Int32} {g : Nat → Int64} {t : Nat} : pasG f g t = erG (metF f t) (metG f g t) t (metF f t (60 + t % 24)) := by unfold pasG; exact rfl
theorem actQ_e {p t : Nat} {f : Nat → Int32} {q : Q4} : actQ p t f q = if deF f t = 0 then grS p t (nI t + 1 + f 4) (grN f) q else if deF f t = 1 then shS p t (shN f) q else q := by unfold actQ; exact rfl
theorem pasQ_e {p t : Nat} {q : Q4} : pasQ p t q = actQ p t (pasF (qF q) t) (decF (pasF (qF q) t) t, qW q, qX q, qE q) := by unfold pasQ; exact rfl
theorem eqN.pas {f f' : Nat → Int32} (h : eqN f f') (h23 : nn (f 23) ≤ 20) (h24 : nn (f 24) ≤ 24) (t : Nat) : eqN (pasF f t) (pasF f' t) := by
  have hm := Nat.mod_lt t (show 0 < 24 by decide)
  have h1 := h.met h23 h24 t
  rw [pasF_e, pasF_e, ← h1.lo (k := 60 + t % 24) (by omega)]
  exact (h1.er t _).loo (t + 1) t
theorem eqN.pasG {f f' : Nat → Int32} (h : eqN f f') (h23 : nn (f 23) ≤ 20) (h24 : nn (f 24) ≤ 24) (g : Nat → Int64) (t : Nat) : pasG f g t = pasG f' g t := by
  have hm := Nat.mod_lt t (show 0 < 24 by decide)
  have h1 := h.met h23 h24 t
  rw [pasG_e, pasG_e, ← h1.lo (k := 60 + t % 24) (by omega), h.metG h23 h24]
  exact h1.erG _ t _
theorem sim_gr {p t : Nat} {rd : Int32} {q q' : Q4} (h : eqN (qF q) (qF q')) {e e' : Nat} (he : qE q + e' = qE q' + e) : ∀ n, eqN (qF (grS p t rd n q)) (qF (grS p t rd n q')) ∧ qE (grS p t rd n q) + e' = qE (grS p t rd n q') + e
  | 0 => ⟨h, he⟩
  | n + 1 => by
    obtain ⟨i1, i2⟩ := sim_gr h he n
    show eqN (joF (qF (grS p t rd n q)) (nI (qX (grS p t rd n q))) (nI t) rd) (joF (qF (grS p t rd n q')) (nI (qX (grS p t rd n q'))) (nI t) rd) ∧ qE (grS p t rd n q) + 1 + e' = qE (grS p t rd n q') + 1 + e
    exact ⟨i1.jo, by omega⟩
theorem shS_none {p t n : Nat} {q : Q4} (h : nxQ (shS p t n q) = none) : shS p t (n + 1) q = shS p t n q := by
  show (match nxQ (shS p t n q) with | none => shS p t n q | some k => goQ p t k (shS p t n q)) = _
  rw [h]
theorem sim_sh {p t c u : Nat} {g : Nat → Int64} {q q' : Q4} (h : eqN (qF q) (qF q')) (hO : PoOK (qF q) g c u) {e e' : Nat} (he : qE q + e' = qE q' + e) : ∀ n, eqN (qF (shS p t n q)) (qF (shS p t n q')) ∧ qE (shS p t n q) + e' = qE (shS p t n q') + e
  | 0 => ⟨h, he⟩
  | n + 1 => by
    obtain ⟨i1, i2⟩ := sim_sh h hO he n
    have hOn : PoOK (qF (shS p t n q)) g c u := (sh_ok (p := p) (t := t) (n := n) hO).1
    have y23 : nn (qF (shS p t n q) 23) ≤ 20 := (hOn.at 23).2.2
    have en : nxQ (shS p t n q) = nxQ (shS p t n q') := i1.ng y23
    cases hk : nxQ (shS p t n q) with
    | none =>
      rw [shS_none hk, shS_none (en.symm.trans hk)]
      exact ⟨i1, i2⟩
    | some k =>
      rw [shS_go hk, shS_go (en.symm.trans hk)]
      show eqN (goF (qF (shS p t n q)) k) (goF (qF (shS p t n q')) k) ∧ qE (shS p t n q) + 1 + e' = qE (shS p t n q') + 1 + e
      exact ⟨i1.go y23 k, by omega⟩
theorem eqN.gn {f f' : Nat → Int32} (h : eqN f f') : grN f = grN f' := by
  unfold grN
  rw [h.lo (k := 10) (by decide), h.lo (k := 19) (by decide), h.lo (k := 23) (by decide)]
theorem eqN.sn {f f' : Nat → Int32} (h : eqN f f') : shN f = shN f' := by
  unfold shN
  rw [h.lo (k := 11) (by decide), h.lo (k := 19) (by decide), h.lo (k := 23) (by decide)]
theorem sim_act {p t c u : Nat} {g : Nat → Int64} {f f' : Nat → Int32} {q q' : Q4} (hf : eqN f f') (h23 : nn (f 23) ≤ 20) (h : eqN (qF q) (qF q')) (hO : PoOK (qF q) g c u) {e e' : Nat} (he : qE q + e' = qE q' + e) : eqN (qF (actQ p t f q)) (qF (actQ p t f' q')) ∧ qE (actQ p t f q) + e' = qE (actQ p t f' q') + e := by
  rw [actQ_e, actQ_e, ← hf.de h23, ← hf.gn, ← hf.sn, ← hf.lo (k := 4) (by decide)]
  split
  · exact sim_gr h he _
  · split
    · exact sim_sh h hO he _
    · exact ⟨h, he⟩
theorem sim_pas {p t : Nat} {g : Nat → Int64} {q q' : Q4} (h : eqN (qF q) (qF q')) (hO : PoOK (qF q) g t t) (ht : t + 1 < 2 ^ 30) {e e' : Nat} (he : qE q + e' = qE q' + e) : eqN (qF (pasQ p t q)) (qF (pasQ p t q')) ∧ qE (pasQ p t q) + e' = qE (pasQ p t q') + e := by
  have y23 : nn (qF q 23) ≤ 20 := (hO.at 23).2.2
  have y24 : nn (qF q 24) ≤ 24 := (hO.at 24).2.2
  have h1 := h.pas y23 y24 t
  have hO1 := hO.pas ht
  have z23 : nn (pasF (qF q) t 23) ≤ 20 := (hO1.at 23).2.2
  rw [pasQ_e, pasQ_e]
  exact sim_act (q := (decF (pasF (qF q) t) t, qW q, qX q, qE q)) (q' := (decF (pasF (qF q') t) t, qW q', qX q', qE q')) h1 z23 (h1.dec z23 t) hO1.dec he
/-- pools after the pool's own part of a tick -/
theorem tkS_q {t p : Nat} {r : Row} : ∀ n, n ≤ p → getP (tkS t n r).1 p = getP r.1 p ∧ getG (tkS t n r).2 p = getG r.2 p
  | 0, _ => ⟨rfl, rfl⟩
  | n + 1, hn => by
    obtain ⟨i1, i2⟩ := tkS_q (t := t) (p := p) (r := r) n (by omega)
    show getP (putQ n (pasQ n t (rowQ (tkS t n r).1 n))) p = _ ∧ getG (setG (tkS t n r).2 n (pasG (getP (tkS t n r).1 n) (getG (tkS t n r).2 n) t)) p = _
    rw [putQ_o (by omega), getG_ne (by omega), getP_cg (w := (tkS t n r).1) (fun k hk => pas_W (by omega))]
    exact ⟨i1, i2⟩
theorem tkS_p {t p : Nat} {r : Row} : ∀ n, p < n → getP (tkS t n r).1 p = trP (qF (pasQ p t (rowQ (tkS t p r).1 p))) ∧ getG (tkS t n r).2 p = trG (pasG (getP r.1 p) (getG r.2 p) t)
  | 0, hn => absurd hn (Nat.not_lt_zero _)
  | n + 1, hn => by
    show getP (putQ n (pasQ n t (rowQ (tkS t n r).1 n))) p = _ ∧ getG (setG (tkS t n r).2 n (pasG (getP (tkS t n r).1 n) (getG (tkS t n r).2 n) t)) p = _
    by_cases e : p = n
    · subst e
      obtain ⟨j1, j2⟩ := tkS_q (t := t) (p := p) (r := r) p (Nat.le_refl _)
      rw [putQ_p, getG_set, j1, j2]
      exact ⟨rfl, rfl⟩
    · obtain ⟨i1, i2⟩ := tkS_p (t := t) (p := p) (r := r) n (by omega)
      rw [putQ_o e, getG_ne e, getP_cg (w := (tkS t n r).1) (fun k hk => pas_W (by omega))]
      exact ⟨i1, i2⟩
theorem tick_p {r : Row} {p : Nat} (hp : p < nn (r.1 0)) : getP (tickW r).1 p = trP (qF (pasQ p (nn (r.1 1)) (rowQ (tkS (nn (r.1 1)) p r).1 p))) ∧ getG (tickW r).2 p = trG (pasG (getP r.1 p) (getG r.2 p) (nn (r.1 1))) := by
  obtain ⟨i1, i2⟩ := tkS_p (t := nn (r.1 1)) (p := p) (r := r) (nn (r.1 0)) hp
  refine ⟨?_, i2⟩
  rw [tickW_1, getP_cg (w := (tkS (nn (r.1 1)) (nn (r.1 0)) r).1) (fun k hk => pk_un (by omega))]
  exact i1
