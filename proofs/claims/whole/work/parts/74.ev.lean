-- the events of one pool in a tick
def slE (w : Nat → Int32) (e : Nat) : Int32 := w (6 + 4 * (e % 60))
/-- from w to w' come the events E .. E' - 1, all of the pool P -/
def EvK (w w' : Nat → Int32) (E E' : Nat) (P : Int32) : Prop := E ≤ E' ∧ ∀ e, e < E' → E' ≤ e + 60 → slE w' e = if E ≤ e then P else slE w e
theorem EvK.rf {w : Nat → Int32} {E : Nat} {P : Int32} : EvK w w E E P := ⟨Nat.le_refl _, fun e h _ => by rw [if_neg (by omega)]⟩
theorem EvK.tr {w w' w'' : Nat → Int32} {E E' E'' : Nat} {P : Int32} (h : EvK w w' E E' P) (h' : EvK w' w'' E' E'' P) : EvK w w'' E E'' P := by
  refine ⟨Nat.le_trans h.1 h'.1, fun e h1 h2 => ?_⟩
  rw [h'.2 e h1 h2]
  have := h.1
  by_cases q : E' ≤ e
  · rw [if_pos q, if_pos (by omega)]
  · have := h'.1
    rw [if_neg q, h.2 e (by omega) (by omega)]
theorem EvK.st {w : Nat → Int32} {E : Nat} {a b P d : Int32} : EvK w (evP w E a b P d) E (E + 1) P := by
  refine ⟨Nat.le_succ _, fun e h1 h2 => ?_⟩
  have z1 := Nat.mod_lt e (show 0 < 60 by decide)
  have z2 := Nat.mod_lt E (show 0 < 60 by decide)
  unfold slE evP
  by_cases q : E ≤ e
  · have e1 : e = E := by omega
    subst e1
    rw [if_pos q, pk_un (by omega), pk_us]
  · have e1 : ¬ e % 60 = E % 60 := by omega
    rw [if_neg q, pk_un (by omega), pk_un (by omega), pk_un (by omega), pk_un (by omega)]
theorem ek_gr {p t : Nat} {rd : Int32} {q : Q4} : ∀ n, EvK (qW q) (qW (grS p t rd n q)) (qE q) (qE (grS p t rd n q)) (nI p)
  | 0 => EvK.rf
  | n + 1 => (ek_gr n).tr EvK.st
theorem ek_sh {p t : Nat} {q : Q4} : ∀ n, EvK (qW q) (qW (shS p t n q)) (qE q) (qE (shS p t n q)) (nI p)
  | 0 => EvK.rf
  | n + 1 => by
    have i1 := ek_sh (p := p) (t := t) (q := q) n
    cases hk : nxQ (shS p t n q) with
    | none => rw [shS_none hk]; exact i1
    | some k =>
      rw [shS_go hk]
      exact i1.tr EvK.st
theorem ek_act {p t : Nat} {f : Nat → Int32} {q : Q4} : EvK (qW q) (qW (actQ p t f q)) (qE q) (qE (actQ p t f q)) (nI p) := by
  rw [actQ_e]
  by_cases d0 : deF f t = 0
  · rw [if_pos d0]; exact ek_gr _
  · rw [if_neg d0]
    by_cases d1 : deF f t = 1
    · rw [if_pos d1]; exact ek_sh _
    · rw [if_neg d1]; exact EvK.rf
theorem ek_act2 {p t X E : Nat} {f F W : Nat → Int32} : EvK W (qW (actQ p t f (F, W, X, E))) E (qE (actQ p t f (F, W, X, E))) (nI p) := ek_act (q := (F, W, X, E))
theorem ek_pas {p t : Nat} {q : Q4} : EvK (qW q) (qW (pasQ p t q)) (qE q) (qE (pasQ p t q)) (nI p) := by
  rw [pasQ_e]
  exact ek_act2
def cnE (w : Nat → Int32) (P : Int32) (a : Nat) : Nat → Nat
  | 0 => 0
  | n + 1 => cnE w P a n + (if slE w (a + n) = P then 1 else 0)
theorem cnE_cg {w w' : Nat → Int32} {P : Int32} {a : Nat} : ∀ n, (∀ e, a ≤ e → e < a + n → slE w' e = slE w e) → cnE w' P a n = cnE w P a n
  | 0, _ => rfl
  | n + 1, h => by
    show cnE w' P a n + _ = cnE w P a n + _
    rw [cnE_cg n (fun e h1 h2 => h e h1 (by omega)), h (a + n) (by omega) (by omega)]
theorem cnE_add {w : Nat → Int32} {P Q : Int32} {a m : Nat} : ∀ n, (∀ e, a + m ≤ e → e < a + m + n → slE w e = Q) → cnE w P a (m + n) = cnE w P a m + (if Q = P then n else 0)
  | 0, _ => by
    show cnE w P a m = _
    split <;> rfl
  | n + 1, h => by
    show cnE w P a (m + n) + (if slE w (a + (m + n)) = P then 1 else 0) = _
    rw [cnE_add n (fun e h1 h2 => h e h1 (by omega)), h (a + (m + n)) (by omega) (by omega)]
    by_cases q : Q = P
    · rw [if_pos q, if_pos q, if_pos q]; omega
    · rw [if_neg q, if_neg q, if_neg q]
theorem sl_put {p : Nat} {q : Q4} {e : Nat} : slE (putQ p q) e = slE (qW q) e := by
  have z1 := Nat.mod_lt e (show 0 < 60 by decide)
  unfold slE
  exact putQ_k (by omega) (by omega) (by omega)
theorem nI_eqI {a b : Nat} (ha : a < 2 ^ 31) (hb : b < 2 ^ 31) : nI a = nI b ↔ a = b := ⟨fun q => by rw [← nn_I ha, ← nn_I hb, q], fun q => by rw [q]⟩
theorem ev_pas {R : Row} {n t p a E D : Nat} (hE : nn (R.1 3) = E) (haE : a ≤ E) (hE' : qE (pasQ n t (rowQ R.1 n)) ≤ a + 60) (hp : p < 2 ^ 31) (hn : n < 2 ^ 31) (hD : D = qE (pasQ n t (rowQ R.1 n)) - E) : E ≤ qE (pasQ n t (rowQ R.1 n)) ∧ cnE (pasW n t R).1 (nI p) a (qE (pasQ n t (rowQ R.1 n)) - a) = cnE R.1 (nI p) a (E - a) + (if n = p then D else 0) := by
  have hk := ek_pas (p := n) (t := t) (q := rowQ R.1 n)
  have hE2 : qE (rowQ R.1 n) = E := hE
  have hW2 : qW (rowQ R.1 n) = R.1 := rfl
  rw [hE2, hW2] at hk
  rw [pasW_1]
  generalize pasQ n t (rowQ R.1 n) = q at hk hE' hD
  obtain ⟨k1, k2⟩ := hk
  refine ⟨k1, ?_⟩
  have e1 : qE q - a = (E - a) + D := by omega
  have z1 : cnE (putQ n q) (nI p) a (E - a) = cnE R.1 (nI p) a (E - a) := cnE_cg _ (fun e h1 h2 => by
    rw [sl_put, k2 e (by omega) (by omega), if_neg (by omega)])
  have z2 := cnE_add (w := putQ n q) (P := nI p) (Q := nI n) (a := a) (m := E - a) D (fun e h1 h2 => by
    rw [sl_put, k2 e (by omega) (by omega), if_pos (by omega)])
  rw [e1, z2, z1]
  by_cases e : n = p
  · rw [if_pos e, if_pos (by rw [e])]
  · rw [if_neg e, if_neg (fun q => e ((nI_eqI hn hp).mp q))]
theorem pasW_3 {n t : Nat} {R : Row} (h : qE (pasQ n t (rowQ R.1 n)) < 2 ^ 31) : nn ((pasW n t R).1 3) = qE (pasQ n t (rowQ R.1 n)) := by
  rw [pasW_1, putQ_3]; exact nn_I h
theorem ev_tkS {t np m p : Nat} {r : Row} (h : RoOK r.1 r.2 m) (ht : nn (r.1 1) = t) (hn : nn (r.1 0) = np) (hm : 100 + 20 * (m + 1) < 2 ^ 28) (hp : p < np) : ∀ n, n ≤ np → nn (r.1 3) ≤ nn ((tkS t n r).1 3) ∧ nn ((tkS t n r).1 3) ≤ nn (r.1 3) + 5 * n ∧
    cnE (tkS t n r).1 (nI p) (nn (r.1 3)) (nn ((tkS t n r).1 3) - nn (r.1 3)) = if p < n then qE (pasQ p t (rowQ (tkS t p r).1 p)) - nn ((tkS t p r).1 3) else 0
  | 0, _ => by
    refine ⟨Nat.le_refl _, Nat.le_refl _, ?_⟩
    show cnE r.1 (nI p) (nn (r.1 3)) (nn (r.1 3) - nn (r.1 3)) = _
    rw [if_neg (by omega), Nat.sub_self]; rfl
  | n + 1, hn1 => by
    obtain ⟨j1, j2, j3⟩ := ev_tkS h ht hn hm hp n (by omega)
    obtain ⟨i1, i2, i3, i4, i5, i6⟩ := tk_inv h ht hn hm n (by omega)
    have htm : t ≤ m := by rw [← ht]; exact h.1.2.1.2.2
    have h4 : np ≤ 4 := by rw [← hn]; exact h.1.1.2.2
    have h3 := h.1.2.2.2.2.2
    have hP := h.2 n (by omega)
    rw [ht] at hP
    have hO : PoOK (qF (rowQ (tkS t n r).1 n)) (getG (tkS t n r).2 n) t t := by
      show PoOK (getP (tkS t n r).1 n) _ t t
      rw [(i6 n (Nat.le_refl n)).1, (i6 n (Nat.le_refl n)).2]
      exact hP
    obtain ⟨k1, k2, k3, -⟩ := pas_ok (p := n) (t := t) hO (by omega)
    have eE : qE (rowQ (tkS t n r).1 n) = nn ((tkS t n r).1 3) := rfl
    rw [eE] at k3
    obtain ⟨l1, l2⟩ := ev_pas (R := tkS t n r) (n := n) (t := t) (p := p) (a := nn (r.1 3)) rfl j1 (by omega) (by omega) (by omega) rfl
    have l3 := pasW_3 (R := tkS t n r) (n := n) (t := t) (by omega)
    rw [tkS_s, l3]
    refine ⟨by omega, by omega, ?_⟩
    rw [l2, j3]
    by_cases e : n = p
    · subst e
      rw [if_neg (by omega), if_pos rfl, if_pos (by omega)]; omega
    · rw [if_neg e]
      by_cases q : p < n
      · rw [if_pos q, if_pos (by omega)]; rfl
      · rw [if_neg q, if_neg (by omega)]
/-- the new events of the pool p in a tick, as its own ticks alone count them -/
theorem ev_tick {R : Row} {m p t : Nat} {s : Tr} (hO : RoOK R.1 R.2 m) (hb : 100 + 20 * (m + 1) < 2 ^ 28) (ht : t + 1 < 2 ^ 30) (h : SimT R p t s) : nn (R.1 3) ≤ nn ((tickW R).1 3) ∧ nn ((tickW R).1 3) ≤ nn (R.1 3) + 20 ∧ cnE (tickW R).1 (nI p) (nn (R.1 3)) (nn ((tickW R).1 3) - nn (R.1 3)) + qE s.1 = qE (tk1 p t s).1 := by
  obtain ⟨h1, h2, h3, h4⟩ := h
  have et : nn (R.1 1) = t := by rw [h3]; exact nn_I (by omega)
  obtain ⟨j1, j2⟩ := tkS_q (t := t) (p := p) (r := R) p (Nat.le_refl _)
  have hP := hO.2 p h4
  rw [et] at hP
  have e1 : qF (rowQ (tkS t p R).1 p) = getP R.1 p := j1
  have e2 : PoOK (qF (rowQ (tkS t p R).1 p)) (getG R.2 p) t t := by rw [e1]; exact hP
  obtain ⟨-, k2⟩ := sim_pas (p := p) (q := rowQ (tkS t p R).1 p) (q' := s.1) (by rw [e1]; exact h1) e2 ht (e := qE (rowQ (tkS t p R).1 p)) (e' := qE s.1) (Nat.add_comm _ _)
  have h44 : nn (R.1 0) ≤ 4 := hO.1.1.2.2
  obtain ⟨l1, l2, l3⟩ := ev_tkS hO et rfl hb h4 (nn (R.1 0)) (Nat.le_refl _)
  obtain ⟨n1, n2, n3⟩ := ev_tkS hO et rfl hb h4 p (by omega)
  have hk := (ek_pas (p := p) (t := t) (q := rowQ (tkS t p R).1 p)).1
  have e5 : (tickW R).1 3 = (tkS t (nn (R.1 0)) R).1 3 := by rw [tickW_1, pk_un (by decide), et]
  have e6 : ∀ a n, cnE (tickW R).1 (nI p) a n = cnE (tkS t (nn (R.1 0)) R).1 (nI p) a n := fun a n => cnE_cg n (fun e _ _ => by
    unfold slE
    rw [tickW_1, pk_un (by omega), et])
  rw [e5, e6, l3, if_pos h4, tk1_1]
  have e7 : qE (rowQ (tkS t p R).1 p) = nn ((tkS t p R).1 3) := rfl
  rw [e7] at k2 hk
  exact ⟨l1, by omega, by omega⟩
