-- the row of the whole: w (964 ints), v (24 longs)
def getP (w : Nat → Int32) (p : Nat) : Nat → Int32 := fun k => if k < 180 then w (244 + 180 * p + k) else 0
def getG (v : Nat → Int64) (p : Nat) : Nat → Int64 := fun k => if k < 6 then v (6 * p + k) else 0
def setP (w : Nat → Int32) (p : Nat) (f : Nat → Int32) : Nat → Int32 := fun j => if 244 + 180 * p ≤ j ∧ j < 244 + 180 * p + 180 then f (j - (244 + 180 * p)) else w j
def setG (v : Nat → Int64) (p : Nat) (g : Nat → Int64) : Nat → Int64 := fun j => if 6 * p ≤ j ∧ j < 6 * p + 6 then g (j - 6 * p) else v j
def trP (f : Nat → Int32) : Nat → Int32 := fun k => if k < 180 then f k else 0
def trG (g : Nat → Int64) : Nat → Int64 := fun k => if k < 6 then g k else 0
theorem getP_k {w : Nat → Int32} {p k : Nat} (h : k < 180) : getP w p k = w (244 + 180 * p + k) := if_pos h
theorem getG_k {v : Nat → Int64} {p k : Nat} (h : k < 6) : getG v p k = v (6 * p + k) := if_pos h
theorem getP_set {w : Nat → Int32} {p : Nat} {f : Nat → Int32} : getP (setP w p f) p = trP f := by
  funext k
  unfold getP trP setP
  split
  · rw [if_pos (by omega)]; congr 1; omega
  · rfl
theorem getP_ne {w : Nat → Int32} {p j : Nat} {f : Nat → Int32} (h : j ≠ p) : getP (setP w p f) j = getP w j := by
  funext k
  unfold getP setP
  split
  · rw [if_neg (by omega)]
  · rfl
theorem getG_set {v : Nat → Int64} {p : Nat} {g : Nat → Int64} : getG (setG v p g) p = trG g := by
  funext k
  unfold getG trG setG
  split
  · rw [if_pos (by omega)]; congr 1; omega
  · rfl
theorem getG_ne {v : Nat → Int64} {p j : Nat} {g : Nat → Int64} (h : j ≠ p) : getG (setG v p g) j = getG v j := by
  funext k
  unfold getG setG
  split
  · rw [if_neg (by omega)]
  · rfl
theorem getP_cg {w w' : Nat → Int32} {p : Nat} (h : ∀ k, k < 180 → w' (244 + 180 * p + k) = w (244 + 180 * p + k)) : getP w' p = getP w p := by
  funext k
  unfold getP
  split
  · next q => exact h k q
  · rfl
theorem setP_lo {w : Nat → Int32} {p k : Nat} {f : Nat → Int32} (h : k < 244) : setP w p f k = w k := by
  unfold setP; rw [if_neg (by omega)]
theorem trP_k {f : Nat → Int32} {k : Nat} (h : k < 180) : trP f k = f k := if_pos h
theorem trG_k {g : Nat → Int64} {k : Nat} (h : k < 6) : trG g k = g k := if_pos h
theorem PoOK.cgF {f f' : Nat → Int32} {g g' : Nat → Int64} {c t : Nat} (h : PoOK f g c t) (e : ∀ k, k < 180 → f' k = f k) (e2 : ∀ k, k < 6 → g' k = g k) : PoOK f' g' c t := by
  have y23 : nn (f 23) ≤ 20 := (h.at 23).2.2
  have y24 : nn (f 24) ≤ 24 := (h.at 24).2.2
  refine ⟨fun k hk => ?_, ⟨fun q => ?_, ?_⟩, fun k hk => ?_, fun j hj => ?_, ⟨?_, h.2.2.2.2.1.2⟩, fun j h1 h2 => ?_, fun u h1 h2 h3 => ?_, ?_⟩
  · have hb := bOk_lt hk
    rw [e _ (by omega)]; exact h.1 k hk
  · rw [e _ (by omega)] at q ⊢; exact h.2.1.1 q
  · rw [e _ (by omega), e _ (by omega)]; exact h.2.1.2
  · rw [e _ (by omega)] at hk
    rw [e _ (by omega)]; exact h.2.2.1 k hk
  · rw [e _ (by omega)] at hj
    rw [e _ (by omega)]; exact h.2.2.2.1 j hj
  · rw [e _ (by omega)]; exact h.2.2.2.2.1.1
  · rw [e _ (by omega)]; exact h.2.2.2.2.2.1 j h1 (by omega)
  · rw [e _ (by omega)] at h2 h3
    rw [e _ (by omega)]; exact h.2.2.2.2.2.2.1 u h1 h2 h3
  · rw [e2 4 (by decide), e2 0 (by decide), e2 1 (by decide)]; exact h.2.2.2.2.2.2.2
theorem PoR.cgF {h : AH} {o c t : Nat} {f f' : Nat → Int32} {g g' : Nat → Int64} (hp : PoR h o c t f g) (y23 : nn (f 23) ≤ 20) (y24 : nn (f 24) ≤ 24) (e : ∀ k, k < 180 → f' k = f k) (e2 : ∀ k, k < 6 → g' k = g k) : PoR h o c t f' g' := by
  obtain ⟨zs, zm, zt, ⟨zd, zc⟩, zf, z20, z18, z19, z17, z21, z22, z16⟩ := hp
  refine ⟨zs.sub (fun k hk => (e k (by omega)).symm) (lds_cg (e 24 (by omega)) (fun k hk => e _ (by omega))).symm, ?_, ?_, ⟨fun j h1 h2 => ?_, zc⟩, fun u h1 h2 => ?_, ?_, ?_, ?_, ?_, ?_, ?_, ?_⟩
  · rw [mbs_cg (e 23 (by omega)) (fun k hk => e _ (by omega))]; exact zm
  · refine zt.sub rfl rfl rfl (fun k hk => ?_) (fun k h1 h2 => ?_) (fun k hk => ?_)
    · obtain rfl | rfl | rfl | rfl | rfl : k = 0 ∨ k = 1 ∨ k = 2 ∨ k = 3 ∨ k = 4 := by omega
      · exact (e2 0 (by omega)).symm
      · exact (e2 1 (by omega)).symm
      · exact (e2 2 (by omega)).symm
      · exact (e2 5 (by omega)).symm
      · exact (e2 3 (by omega)).symm
    · obtain rfl | rfl | rfl | rfl : k = 5 ∨ k = 6 ∨ k = 7 ∨ k = 8 := by omega
      · exact (e 28 (by omega)).symm
      · exact (e 25 (by omega)).symm
      · exact (e 26 (by omega)).symm
      · exact (e 27 (by omega)).symm
    · exact (e (30 + k) (by omega)).symm
  · rw [e _ (by omega)]; exact zd j h1 h2
  · rw [e 6 (by omega)] at h2 ⊢
    rw [e _ (by omega)]
    exact zf u h1 h2
  all_goals (rw [e _ (by omega)]; assumption)
theorem PoR.tr {h : AH} {o c t : Nat} {f : Nat → Int32} {g : Nat → Int64} (hp : PoR h o c t f g) (hO : PoOK f g c t) : PoR h o c t (trP f) (trG g) := hp.cgF (hO.at 23).2.2 (hO.at 24).2.2 (fun k hk => trP_k hk) (fun k hk => trG_k hk)
theorem PoOK.tr {c t : Nat} {f : Nat → Int32} {g : Nat → Int64} (hO : PoOK f g c t) : PoOK (trP f) (trG g) c t := hO.cgF (fun k hk => trP_k hk) (fun k hk => trG_k hk)
/-- the State at b holds the row -/
def StR (h : AH) (b : Nat) (w : Nat → Int32) (v : Nat → Int64) : Prop :=
  aI h b 1 = w 0 ∧ aI h b 2 = w 1 ∧ aI h b 3 = w 2 ∧ EvW h (b + 2) w (nn (w 3)) ∧ ∀ p, p < nn (w 0) → PoR h (b + 7 + 12 * p) (nn (w 1)) (nn (w 1)) (getP w p) (getG v p)
/-- what a row keeps to, after at most m ticks' worth of acts -/
def RoOK (w : Nat → Int32) (v : Nat → Int64) (m : Nat) : Prop :=
  (rg (w 0) 0 4 ∧ rg (w 1) 0 m ∧ rg (w 2) 0 (100 + 20 * m) ∧ rg (w 3) 0 (100 + 20 * m)) ∧ ∀ p, p < nn (w 0) → PoOK (getP w p) (getG v p) (nn (w 1)) (nn (w 1))
theorem RoOK.wk {w : Nat → Int32} {v : Nat → Int64} {m m' : Nat} (h : RoOK w v m) (hm : m ≤ m') : RoOK w v m' :=
  ⟨⟨h.1.1, h.1.2.1.wk (Nat.le_refl _) hm, h.1.2.2.1.wk (Nat.le_refl _) (by omega), h.1.2.2.2.wk (Nat.le_refl _) (by omega)⟩, h.2⟩
def rowQ (w : Nat → Int32) (p : Nat) : Q4 := (getP w p, w, nn (w 2), nn (w 3))
def putQ (p : Nat) (q : Q4) : Nat → Int32 := setP (upd (upd (qW q) 2 (nI (qX q))) 3 (nI (qE q))) p (qF q)
theorem putQ_p {p : Nat} {q : Q4} : getP (putQ p q) p = trP (qF q) := getP_set
theorem putQ_o {p j : Nat} {q : Q4} (h : j ≠ p) : getP (putQ p q) j = getP (qW q) j := by
  unfold putQ
  rw [getP_ne h]
  exact getP_cg (fun k hk => by rw [pk_un (by omega), pk_un (by omega)])
theorem putQ_2 {p : Nat} {q : Q4} : putQ p q 2 = nI (qX q) := by
  unfold putQ; rw [setP_lo (by decide), pk_un (by decide), pk_us]
theorem putQ_3 {p : Nat} {q : Q4} : putQ p q 3 = nI (qE q) := by
  unfold putQ; rw [setP_lo (by decide), pk_us]
theorem putQ_k {p k : Nat} {q : Q4} (h : k < 244) (h2 : k ≠ 2) (h3 : k ≠ 3) : putQ p q k = qW q k := by
  unfold putQ; rw [setP_lo h, pk_un h3, pk_un h2]
theorem evP_o {w : Nat → Int32} {n k : Nat} {a b c d : Int32} (h : k < 4 ∨ 244 ≤ k) : evP w n a b c d k = w k := by
  unfold evP
  rw [pk_un (by omega), pk_un (by omega), pk_un (by omega), pk_un (by omega)]
theorem gr_W {p t n k : Nat} {r : Int32} {q : Q4} (h : k < 4 ∨ 244 ≤ k) : qW (grS p t r n q) k = qW q k := by
  induction n with
  | zero => rfl
  | succ n ih => exact (evP_o h).trans ih
theorem sh_W {p t n k : Nat} {q : Q4} (h : k < 4 ∨ 244 ≤ k) : qW (shS p t n q) k = qW q k := by
  induction n with
  | zero => rfl
  | succ n ih =>
    cases hq : nxQ (shS p t n q) with
    | none => rw [shS_stop hq (n + 1) (by omega)]; exact ih
    | some j => rw [shS_go hq]; exact (evP_o h).trans ih
theorem act_W {p t k : Nat} {f : Nat → Int32} {q : Q4} (h : k < 4 ∨ 244 ≤ k) : qW (actQ p t f q) k = qW q k := by
  unfold actQ
  split
  · exact gr_W h
  · split
    · exact sh_W h
    · rfl
theorem pas_W {p t k : Nat} {q : Q4} (h : k < 4 ∨ 244 ≤ k) : qW (pasQ p t q) k = qW q k := by
  unfold pasQ
  exact act_W (q := (decF (pasF (qF q) t) t, qW q, qX q, qE q)) h
abbrev Row : Type := (Nat → Int32) × (Nat → Int64)
/-- the phases of a tick for the pools below n -/
def pasW (p t : Nat) (r : Row) : Row := (putQ p (pasQ p t (rowQ r.1 p)), setG r.2 p (pasG (getP r.1 p) (getG r.2 p) t))
def tkS (t : Nat) : Nat → Row → Row
  | 0, r => r
  | n + 1, r => pasW n t (tkS t n r)
def tickW (r : Row) : Row := (upd (tkS (nn (r.1 1)) (nn (r.1 0)) r).1 1 (nI (nn (r.1 1) + 1)), (tkS (nn (r.1 1)) (nn (r.1 0)) r).2)
theorem tk_inv {t np m : Nat} {r : Row} (h : RoOK r.1 r.2 m) (ht : nn (r.1 1) = t) (hn : nn (r.1 0) = np) (hm : 100 + 20 * (m + 1) < 2 ^ 28) : ∀ n, n ≤ np →
    (tkS t n r).1 0 = r.1 0 ∧ (tkS t n r).1 1 = r.1 1 ∧ rg ((tkS t n r).1 2) 0 (100 + 20 * m + 5 * n) ∧ rg ((tkS t n r).1 3) 0 (100 + 20 * m + 5 * n) ∧
    (∀ p, p < n → PoOK (getP (tkS t n r).1 p) (getG (tkS t n r).2 p) (t + 1) (t + 1)) ∧ ∀ p, n ≤ p → getP (tkS t n r).1 p = getP r.1 p ∧ getG (tkS t n r).2 p = getG r.2 p := by
  intro n
  have htm : t ≤ m := by rw [← ht]; exact h.1.2.1.2.2
  have hn4 : np ≤ 4 := by rw [← hn]; exact h.1.1.2.2
  induction n with
  | zero => exact fun _ => ⟨rfl, rfl, h.1.2.2.1, h.1.2.2.2, fun p hp => absurd hp (Nat.not_lt_zero _), fun p _ => ⟨rfl, rfl⟩⟩
  | succ n ih =>
    intro hn1
    obtain ⟨i1, i2, i3, i4, i5, i6⟩ := ih (by omega)
    have hO : PoOK (getP (tkS t n r).1 n) (getG (tkS t n r).2 n) t t := by
      rw [(i6 n (Nat.le_refl n)).1, (i6 n (Nat.le_refl n)).2, ← ht]
      exact h.2 n (by omega)
    obtain ⟨j1, j2, j3, -⟩ := pas_ok (p := n) (q := rowQ (tkS t n r).1 n) hO (by omega)
    have j2' : qX (pasQ n t (rowQ (tkS t n r).1 n)) ≤ nn ((tkS t n r).1 2) + 5 := j2
    have j3' : qE (pasQ n t (rowQ (tkS t n r).1 n)) ≤ nn ((tkS t n r).1 3) + 5 := j3
    have k2 := i3.2.2
    have k3 := i4.2.2
    refine ⟨?_, ?_, ?_, ?_, fun p hp => ?_, fun p hp => ?_⟩
    · exact ((putQ_k (by decide) (by decide) (by decide)).trans (pas_W (by omega))).trans i1
    · exact ((putQ_k (by decide) (by decide) (by decide)).trans (pas_W (by omega))).trans i2
    · show rg (putQ n (pasQ n t (rowQ (tkS t n r).1 n)) 2) _ _
      rw [putQ_2]; exact rg_I (Nat.zero_le _) (by omega) (by omega)
    · show rg (putQ n (pasQ n t (rowQ (tkS t n r).1 n)) 3) _ _
      rw [putQ_3]; exact rg_I (Nat.zero_le _) (by omega) (by omega)
    · by_cases e : p = n
      · subst e
        show PoOK (getP (putQ p (pasQ p t (rowQ (tkS t p r).1 p))) p) (getG (setG (tkS t p r).2 p (pasG (getP (tkS t p r).1 p) (getG (tkS t p r).2 p) t)) p) (t + 1) (t + 1)
        rw [putQ_p, getG_set]
        exact j1.tr
      · show PoOK (getP (putQ n (pasQ n t (rowQ (tkS t n r).1 n))) p) (getG (setG (tkS t n r).2 n (pasG (getP (tkS t n r).1 n) (getG (tkS t n r).2 n) t)) p) (t + 1) (t + 1)
        rw [putQ_o e, getG_ne e, getP_cg (w := (tkS t n r).1) (fun k hk => pas_W (by omega))]
        exact i5 p (by omega)
    · show getP (putQ n (pasQ n t (rowQ (tkS t n r).1 n))) p = _ ∧ getG (setG (tkS t n r).2 n (pasG (getP (tkS t n r).1 n) (getG (tkS t n r).2 n) t)) p = _
      rw [putQ_o (by omega), getG_ne (by omega), getP_cg (w := (tkS t n r).1) (fun k hk => pas_W (by omega))]
      exact i6 p (by omega)
theorem tickW_1 (r : Row) : (tickW r).1 = upd (tkS (nn (r.1 1)) (nn (r.1 0)) r).1 1 (nI (nn (r.1 1) + 1)) := rfl
theorem tick_ok {m : Nat} {r : Row} (h : RoOK r.1 r.2 m) (hm : 100 + 20 * (m + 1) < 2 ^ 28) : RoOK (tickW r).1 (tickW r).2 (m + 1) := by
  obtain ⟨i1, i2, i3, i4, i5, i6⟩ := tk_inv h rfl rfl hm (nn (r.1 0)) (Nat.le_refl _)
  have h4 : nn (r.1 0) ≤ 4 := h.1.1.2.2
  have ht : nn (r.1 1) ≤ m := h.1.2.1.2.2
  have e0 : (tickW r).1 0 = r.1 0 := by rw [tickW_1, pk_un (by decide)]; exact i1
  have e1 : (tickW r).1 1 = nI (nn (r.1 1) + 1) := by rw [tickW_1, pk_us]
  have e1n : nn ((tickW r).1 1) = nn (r.1 1) + 1 := by rw [e1]; exact nn_I (by omega)
  refine ⟨⟨?_, ?_, ?_, ?_⟩, fun p hp => ?_⟩
  · rw [e0]; exact h.1.1
  · rw [e1]; exact rg_I (Nat.zero_le _) (by omega) (by omega)
  · rw [tickW_1, pk_un (by decide)]; exact i3.wk (Nat.le_refl _) (by omega)
  · rw [tickW_1, pk_un (by decide)]; exact i4.wk (Nat.le_refl _) (by omega)
  · rw [e0] at hp
    rw [e1n]
    have := i5 p hp
    rw [tickW_1, getP_cg (w := (tkS (nn (r.1 1)) (nn (r.1 0)) r).1) (fun k hk => pk_un (by omega))]
    exact this
