-- the members' comings and goings at a pool: its row, the row with the events, the next number, the events so far
abbrev Q4 : Type := (Nat → Int32) × (Nat → Int32) × Nat × Nat
def qF (q : Q4) : Nat → Int32 := q.1
def qW (q : Q4) : Nat → Int32 := q.2.1
def qX (q : Q4) : Nat := q.2.2.1
def qE (q : Q4) : Nat := q.2.2.2
def comQ (p t : Nat) (r : Int32) (q : Q4) : Q4 := (joF (qF q) (nI (qX q)) (nI t) r, evP (qW q) (qE q) (nI t) 0 (nI p) (nI (qX q)), qX q + 1, qE q + 1)
def goQ (p t k : Nat) (q : Q4) : Q4 := (goF (qF q) k, evP (qW q) (qE q) (nI t) 1 (nI p) (qF q (100 + 4 * k)), qX q, qE q + 1)
def grS (p t : Nat) (r : Int32) : Nat → Q4 → Q4
  | 0, q => q
  | n + 1, q => comQ p t r (grS p t r n q)
def nxQ (q : Q4) : Option Nat := ng (mbs (qF q)) (qF q 9) (mbs (qF q)).length
def shS (p t : Nat) : Nat → Q4 → Q4
  | 0, q => q
  | n + 1, q => match nxQ (shS p t n q) with
    | none => shS p t n q
    | some k => goQ p t k (shS p t n q)
theorem shS_stop {p t i : Nat} {q : Q4} (h : nxQ (shS p t i q) = none) : ∀ n, i ≤ n → shS p t n q = shS p t i q := by
  intro n hn
  induction n with
  | zero => congr 1; omega
  | succ n ih =>
    rcases Nat.lt_or_ge n i with z | z
    · congr 1; omega
    · have e := ih z
      show (match nxQ (shS p t n q) with | none => shS p t n q | some k => goQ p t k (shS p t n q)) = _
      rw [e, h]
theorem shS_go {p t n k : Nat} {q : Q4} (h : nxQ (shS p t n q) = some k) : shS p t (n + 1) q = goQ p t k (shS p t n q) := by
  show (match nxQ (shS p t n q) with | none => shS p t n q | some k => goQ p t k (shS p t n q)) = _
  rw [h]
/-- the pool's part of a State, at b, in its own counting -/
def SQ (h : AH) (b p c t : Nat) (q : Q4) (g : Nat → Int64) : Prop := aI h b 3 = nI (qX q) ∧ EvW h (b + 2) (qW q) (qE q) ∧ PoR h (b + 7 + 12 * p) c t (qF q) g
def SS (b p : Nat) : Nat → Prop := fun i => i = b ∨ btw (b + 2) (b + 6) i ∨ btw (b + 7 + 12 * p) (b + 7 + 12 * p + 11) i
theorem po_mem {h h' : AH} {o c t : Nat} {f f' : Nat → Int32} {g : Nat → Int64} (hp : PoR h o c t f g) (y24 : nn (f 24) ≤ 24) (he : eqx h h' (btw (o + 3) (o + 7))) (hm : MemR h' (o + 3) (mbs f')) (hf : ∀ k, k < 23 ∨ 23 < k ∧ k < 100 → f' k = f k) : PoR h' o c t f' g := by
  obtain ⟨zs, zm, zt, ⟨zd, zc⟩, zf, z20, z18, z19, z17, z21, z22, z16⟩ := hp
  have hI : ∀ i, i < o + 3 ∨ o + 7 < i → aI h' i = aI h i := fun i h1 => he.I (by unfold btw; omega)
  refine ⟨(zs.sub (fun k hk => (hf k (by omega)).symm) (lds_cg (hf 24 (by omega)) (fun k hk => hf _ (by omega))).symm).cg (hI _ (by omega)) (hI _ (by omega)), hm, ?_, ⟨fun j h1 h2 => ?_, ?_⟩, fun u h1 h2 => ?_, ?_, ?_, ?_, ?_, ?_, ?_, ?_⟩
  · refine zt.sub (hI _ (by omega)) (he.J (by unfold btw; omega)) (hI _ (by omega)) (fun k hk => rfl) (fun k h1 h2 => ?_) (fun k hk => ?_)
    · obtain rfl | rfl | rfl | rfl : k = 5 ∨ k = 6 ∨ k = 7 ∨ k = 8 := by omega
      · exact (hf 28 (by omega)).symm
      · exact (hf 25 (by omega)).symm
      · exact (hf 26 (by omega)).symm
      · exact (hf 27 (by omega)).symm
    · exact (hf (30 + k) (by omega)).symm
  · rw [hI _ (by omega), hf _ (by omega)]; exact zd j h1 h2
  · rw [hI _ (by omega)]; exact zc
  · rw [hf 6 (by omega)] at h2 ⊢
    rw [hI _ (by omega), hf _ (by omega)]
    exact zf u h1 h2
  all_goals (rw [hI _ (by omega), hf _ (by omega)]; assumption)
theorem PoOK.jo {f : Nat → Int32} {g : Nat → Int64} {c t : Nat} {a b r : Int32} (h : PoOK f g c t) (h19 : nn (f 23) ≤ 19) : PoOK (joF f a b r) g c t := by
  have e23 : joF f a b r 23 = nI (nn (f 23) + 1) := by unfold joF; rw [pk_us, (h.at 23).1, nI_1, nn_I (by omega)]
  have n23 : nn (joF f a b r 23) = nn (f 23) + 1 := by rw [e23]; exact nn_I (by omega)
  have y24 : nn (f 24) ≤ 24 := (h.at 24).2.2
  refine ⟨fun k hk => ?_, ⟨fun q => ?_, ?_⟩, fun k hk => ?_, fun j hj => ?_, ⟨?_, h.2.2.2.2.1.2⟩, fun j h1 h2 => ?_, fun u h1 h2 h3 => ?_, h.2.2.2.2.2.2.2⟩
  · have hb := bOk_lt hk
    by_cases e : k = 23
    · subst e; rw [e23]; exact rg_I (Nat.zero_le _) (show nn (f 23) + 1 ≤ 20 by omega) (by decide)
    · rw [joF_o (by omega)]; exact h.1 k hk
  · rw [joF_o (by omega)] at q ⊢; exact h.2.1.1 q
  · rw [joF_o (by omega), joF_o (by omega)]; exact h.2.1.2
  · rw [n23] at hk
    by_cases e : k = nn (f 23)
    · left
      unfold joF
      rw [e, pk_un (by omega), pk_us]
    · have : joF f a b r (103 + 4 * k) = f (103 + 4 * k) := by
        unfold joF
        rw [pk_un (by omega), pk_un (by omega), pk_un (by omega), pk_un (by omega), pk_un (by omega)]
      rw [this]; exact h.2.2.1 k (by omega)
  · rw [joF_o (by omega)] at hj
    rw [joF_o (by omega)]; exact h.2.2.2.1 j hj
  · rw [joF_o (by omega)]; exact h.2.2.2.2.1.1
  · rw [joF_o (by omega)]; exact h.2.2.2.2.2.1 j h1 (by omega)
  · rw [joF_o (by omega)] at h2 h3
    rw [joF_o (by omega)]; exact h.2.2.2.2.2.2.1 u h1 h2 h3
theorem PoOK.go {f : Nat → Int32} {g : Nat → Int64} {c t x : Nat} (h : PoOK f g c t) (hx : x < nn (f 23)) : PoOK (goF f x) g c t := by
  have y23 : nn (f 23) ≤ 20 := (h.at 23).2.2
  have e230 : goF f x 23 = f 23 - 1 := if_pos rfl
  have e23 : goF f x 23 = nI (nn (f 23) - 1) := e230.trans ((congrArg (fun y => y - 1) (h.at 23).1).trans (nI_s1 (by omega)))
  have n23 : nn (goF f x 23) = nn (f 23) - 1 := by rw [e23]; exact nn_I (by omega)
  have y24 : nn (f 24) ≤ 24 := (h.at 24).2.2
  refine ⟨fun k hk => ?_, ⟨fun q => ?_, ?_⟩, fun k hk => ?_, fun j hj => ?_, ⟨?_, h.2.2.2.2.1.2⟩, fun j h1 h2 => ?_, fun u h1 h2 h3 => ?_, h.2.2.2.2.2.2.2⟩
  · have hb := bOk_lt hk
    by_cases e : k = 23
    · subst e; rw [e23]; exact rg_I (Nat.zero_le _) (show nn (f 23) - 1 ≤ 20 by omega) (by decide)
    · rw [goF_o (by omega)]; exact h.1 k hk
  · rw [goF_o (by omega)] at q ⊢; exact h.2.1.1 q
  · rw [goF_o (by omega), goF_o (by omega)]; exact h.2.1.2
  · rw [n23] at hk
    unfold goF
    rw [if_neg (by omega)]
    split
    · rw [show 103 + 4 * k + 4 = 103 + 4 * (k + 1) from by omega]; exact h.2.2.1 (k + 1) (by omega)
    · exact h.2.2.1 k (by omega)
  · rw [goF_o (by omega)] at hj
    rw [goF_o (by omega)]; exact h.2.2.2.1 j hj
  · rw [goF_o (by omega)]; exact h.2.2.2.2.1.1
  · rw [goF_o (by omega)]; exact h.2.2.2.2.2.1 j h1 (by omega)
  · rw [goF_o (by omega)] at h2 h3
    rw [goF_o (by omega)]; exact h.2.2.2.2.2.2.1 u h1 h2 h3
theorem joF_23 {f : Nat → Int32} {a b r : Int32} {n : Nat} (h : f 23 = nI n) (hn : n ≤ 20) : nn (joF f a b r 23) = n + 1 := by
  unfold joF; rw [pk_us, h, nI_1, nn_I (by omega)]
theorem goF_23 {f : Nat → Int32} {x n : Nat} (h : f 23 = nI n) (hn : n ≤ 20) (h0 : 1 ≤ n) : nn (goF f x 23) = n - 1 := by
  unfold goF; rw [if_pos rfl, h, nI_s1 h0, nn_I (by omega)]
theorem nxQ_lt {q : Q4} {k : Nat} (h : nxQ q = some k) : k < nn (qF q 23) := by
  have := ng_lt h
  rwa [mbs_len] at this
/-- how many come, go -/
def grN (f : Nat → Int32) : Nat := min (nn (f 10)) (nn (f 19) - nn (f 23))
def shN (f : Nat → Int32) : Nat := min (nn (f 11)) (nn (f 23) - nn (f 19))
theorem zr_ok {p t n c u : Nat} {r : Int32} {q : Q4} {g : Nat → Int64} (hO : PoOK (qF q) g c u) (hn : nn (qF q 23) + n ≤ 20) : PoOK (qF (grS p t r n q)) g c u ∧ nn (qF (grS p t r n q) 23) = nn (qF q 23) + n ∧ qX (grS p t r n q) = qX q + n ∧ qE (grS p t r n q) = qE q + n ∧ ∀ k, k < 23 ∨ 23 < k ∧ k < 100 → qF (grS p t r n q) k = qF q k := by
  induction n with
  | zero => exact ⟨hO, rfl, rfl, rfl, fun _ _ => rfl⟩
  | succ n ih =>
    obtain ⟨i1, i2, i3, i4, i5⟩ := ih (by omega)
    refine ⟨i1.jo (by omega), ?_, ?_, ?_, fun k hk => ?_⟩
    · show nn (joF (qF (grS p t r n q)) (nI (qX (grS p t r n q))) (nI t) r 23) = _
      rw [joF_23 (i1.at 23).1 (by omega)]; omega
    · show qX (grS p t r n q) + 1 = _; omega
    · show qE (grS p t r n q) + 1 = _; omega
    · exact (joF_o hk).trans (i5 k hk)
theorem sh_ok {p t n c u : Nat} {q : Q4} {g : Nat → Int64} (hO : PoOK (qF q) g c u) : PoOK (qF (shS p t n q)) g c u ∧ nn (qF (shS p t n q) 23) ≤ nn (qF q 23) ∧ qX (shS p t n q) = qX q ∧ qE (shS p t n q) ≤ qE q + n ∧ ∀ k, k < 23 ∨ 23 < k ∧ k < 100 → qF (shS p t n q) k = qF q k := by
  induction n with
  | zero => exact ⟨hO, Nat.le_refl _, rfl, Nat.le_refl _, fun _ _ => rfl⟩
  | succ n ih =>
    obtain ⟨i1, i2, i3, i4, i5⟩ := ih
    cases hq : nxQ (shS p t n q) with
    | none => rw [shS_stop hq (n + 1) (by omega)]; exact ⟨i1, i2, i3, by omega, i5⟩
    | some k =>
      have hk := nxQ_lt hq
      have y20 : nn (qF (shS p t n q) 23) ≤ 20 := (i1.at 23).2.2
      rw [shS_go hq]
      refine ⟨i1.go hk, ?_, i3, ?_, fun j hj => ?_⟩
      · exact Nat.le_trans (Nat.le_of_eq (goF_23 (x := k) (i1.at 23).1 y20 (by omega))) (by omega)
      · show qE (shS p t n q) + 1 ≤ _; omega
      · exact (goF_o hj).trans (i5 j hj)
/-- the phases of a tick for one pool -/
def pasF (f : Nat → Int32) (t : Nat) : Nat → Int32 := looF (erF (metF f t) t (metF f t (60 + t % 24))) (t + 1) t
def pasG (f : Nat → Int32) (g : Nat → Int64) (t : Nat) : Nat → Int64 := erG (metF f t) (metG f g t) t (metF f t (60 + t % 24))
def actQ (p t : Nat) (f : Nat → Int32) (q : Q4) : Q4 :=
  if deF f t = 0 then grS p t (nI t + 1 + f 4) (grN f) q else if deF f t = 1 then shS p t (shN f) q else q
def pasQ (p t : Nat) (q : Q4) : Q4 := actQ p t (pasF (qF q) t) (decF (pasF (qF q) t) t, qW q, qX q, qE q)
theorem PoOK.pas {f : Nat → Int32} {g : Nat → Int64} {t : Nat} (h : PoOK f g t t) (ht : t + 1 < 2 ^ 30) : PoOK (pasF f t) (pasG f g t) (t + 1) (t + 1) := ((h.met ht).er).loo
theorem gr_lim {f : Nat → Int32} {g : Nat → Int64} {c t : Nat} (hO : PoOK f g c t) (h19 : rg (f 19) 0 20) : grN f ≤ 5 ∧ shN f ≤ 5 ∧ nn (f 23) + grN f ≤ 20 := by
  have h10 : nn (f 10) ≤ 5 := (hO.at 10).2.2
  have h11 : nn (f 11) ≤ 5 := (hO.at 11).2.2
  have h23 : nn (f 23) ≤ 20 := (hO.at 23).2.2
  have := h19.2.2
  unfold grN shN
  omega
theorem act_ok {p t c u : Nat} {f : Nat → Int32} {q : Q4} {g : Nat → Int64} (hO : PoOK (qF q) g c u) (hN : grN f ≤ 5 ∧ shN f ≤ 5 ∧ nn (qF q 23) + grN f ≤ 20) : PoOK (qF (actQ p t f q)) g c u ∧ qX (actQ p t f q) ≤ qX q + 5 ∧ qE (actQ p t f q) ≤ qE q + 5 ∧ ∀ k, k < 23 ∨ 23 < k ∧ k < 100 → qF (actQ p t f q) k = qF q k := by
  unfold actQ
  split
  · obtain ⟨i1, i2, i3, i4, i5⟩ := zr_ok (p := p) (t := t) (r := nI t + 1 + f 4) hO hN.2.2
    exact ⟨i1, by omega, by omega, i5⟩
  · split
    · obtain ⟨i1, i2, i3, i4, i5⟩ := sh_ok (p := p) (t := t) (n := shN f) hO
      exact ⟨i1, by omega, by omega, i5⟩
    · exact ⟨hO, by omega, by omega, fun _ _ => rfl⟩
theorem pasF_19 {f : Nat → Int32} {g : Nat → Int64} {t : Nat} (h : PoOK f g t t) (ht : t + 1 < 2 ^ 30) : rg (pasF f t 19) 0 20 := by
  unfold pasF
  rw [looF_19]
  exact szF_rg ((h.met ht).er (u := t) (d := metF f t (60 + t % 24)))
theorem dec_act {p t c u : Nat} {F W : Nat → Int32} {X E : Nat} {g : Nat → Int64} (h1 : PoOK F g c u) (h2 : grN F ≤ 5 ∧ shN F ≤ 5 ∧ nn (F 23) + grN F ≤ 20) : PoOK (qF (actQ p t F (decF F t, W, X, E))) g c u ∧ qX (actQ p t F (decF F t, W, X, E)) ≤ X + 5 ∧ qE (actQ p t F (decF F t, W, X, E)) ≤ E + 5 ∧ ∀ k, k < 23 ∨ 23 < k ∧ k < 100 → qF (actQ p t F (decF F t, W, X, E)) k = decF F t k := by
  have h3 : qF (decF F t, W, X, E) 23 = F 23 := decF_o (f := F) (t := t) (k := 23) (by omega)
  exact act_ok (q := (decF F t, W, X, E)) h1.dec ⟨h2.1, h2.2.1, by rw [h3]; exact h2.2.2⟩
theorem pas_ok {p t : Nat} {q : Q4} {g : Nat → Int64} (hO : PoOK (qF q) g t t) (ht : t + 1 < 2 ^ 30) : PoOK (qF (pasQ p t q)) (pasG (qF q) g t) (t + 1) (t + 1) ∧ qX (pasQ p t q) ≤ qX q + 5 ∧ qE (pasQ p t q) ≤ qE q + 5 ∧ ∀ k, k < 23 ∨ 23 < k ∧ k < 100 → qF (pasQ p t q) k = decF (pasF (qF q) t) t k :=
  dec_act (hO.pas ht) (gr_lim (hO.pas ht) (pasF_19 hO ht))
