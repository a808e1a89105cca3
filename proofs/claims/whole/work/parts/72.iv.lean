-- what is of every pool besides: the invariant of a row
theorem lN_ltB {a b : Nat} (ha : a < 2 ^ 62) (hb : b < 2 ^ 62) : lN a < lN b ↔ a < b := by
  have e1 : (lN a).toInt = a := lg_ofNat_toInt (by omega)
  have e2 : (lN b).toInt = b := lg_ofNat_toInt (by omega)
  rw [Int64.lt_iff_toInt_lt, e1, e2]; omega
theorem lN_eqB {a b : Nat} (ha : a < 2 ^ 62) (hb : b < 2 ^ 62) : lN a = lN b ↔ a = b := by
  have e1 : (lN a).toInt = a := lg_ofNat_toInt (by omega)
  have e2 : (lN b).toInt = b := lg_ofNat_toInt (by omega)
  rw [← Int64.toInt_inj, e1, e2]; omega
def MsG (g : Nat → Int64) (m : Nat) : Prop := ∃ a : Nat, a ≤ 1998 * m ∧ g 1 = lN a
theorem MsG.wk {g : Nat → Int64} {m m' : Nat} (h : MsG g m) (hm : m ≤ m') : MsG g m' := by
  obtain ⟨a, h1, h2⟩ := h
  exact ⟨a, Nat.le_trans h1 (Nat.mul_le_mul_left _ hm), h2⟩
theorem pasG_1 {f : Nat → Int32} {g : Nat → Int64} {t : Nat} : pasG f g t 1 = g 1 + (lkF f t).toInt64 := by
  rw [pasG_e]
  unfold erG
  split
  · rfl
  · unfold vp_updL
    rw [if_neg (by decide)]
    rfl
theorem lk_nat {f : Nat → Int32} {g : Nat → Int64} {c u : Nat} (t : Nat) (h : PoOK f g c u) : ∃ k, k ≤ 1998 ∧ (lkF f t).toInt64 = lN k := by
  obtain ⟨m, k, m1, m2, m3, m4⟩ := lk_split (dmA_rg (u := t) (a := 0) h) (pwF_rg (x := nI t) h)
  have m5 : lkF f t = nI m := m4
  exact ⟨m, by omega, by rw [m5]; exact nI_l (by omega)⟩
theorem MsG.pas {f : Nat → Int32} {g : Nat → Int64} {t m c u : Nat} (h : MsG g m) (hO : PoOK f g c u) : MsG (pasG f g t) (m + 1) := by
  obtain ⟨a, h1, h2⟩ := h
  obtain ⟨k, k1, k2⟩ := lk_nat t hO
  exact ⟨a + k, by omega, by rw [pasG_1, h2, k2, lN_add]⟩
theorem pasF_lo {f : Nat → Int32} {t k : Nat} (hk : k < 16) : pasF f t k = f k := by
  have h1 := Nat.mod_lt t (show 0 < 24 by decide)
  have h2 := Nat.mod_lt (t + nn (erF (metF f t) t (metF f t (60 + t % 24)) 6)) (show 0 < 16 by decide)
  rw [pasF_e]
  unfold looF
  rw [pk_un (by omega), pk_un (by omega), pk_un (by omega)]
  have e2 : erF (metF f t) t (metF f t (60 + t % 24)) k = metF f t k := by
    unfold erF
    split
    · rfl
    · exact pk_un (by omega)
  rw [e2]
  unfold metF
  rw [pk_un (by omega), pk_un (by omega), pk_un (by omega), pk_un (by omega), pk_un (by omega), pk_un (by omega)]
theorem decF_lo {f : Nat → Int32} {t k : Nat} (hk : k < 16) : decF f t k = f k := by
  have := deF_lt f t
  unfold decF
  rw [if_neg (by omega), if_neg (by omega), if_neg (by omega), if_neg (by omega)]
theorem PlF.cg {f f' : Nat → Int32} (h : PlF f) (e7 : f' 7 = f 7) (e8 : f' 8 = f 8) : PlF f' := by
  intro q
  rw [e8]
  exact h (by rw [← e7]; exact q)
theorem PlF.pas {p t : Nat} {q : Q4} {g : Nat → Int64} (h : PlF (qF q)) (hO : PoOK (qF q) g t t) (ht : t + 1 < 2 ^ 30) : PlF (qF (pasQ p t q)) := by
  obtain ⟨-, -, -, i4⟩ := pas_ok (p := p) hO ht
  generalize pasQ p t q = q' at i4
  exact h.cg ((i4 7 (by omega)).trans ((decF_lo (by omega)).trans (pasF_lo (by omega)))) ((i4 8 (by omega)).trans ((decF_lo (by omega)).trans (pasF_lo (by omega))))
def IvF (f : Nat → Int32) (g : Nat → Int64) (X t m : Nat) : Prop := MbF f X t ∧ PlF f ∧ MsG g m
theorem IvF.wk {f : Nat → Int32} {g : Nat → Int64} {X t m X' t' m' : Nat} (h : IvF f g X t m) (h1 : X ≤ X') (h2 : t ≤ t') (h3 : m ≤ m') : IvF f g X' t' m' := ⟨h.1.wk h1 h2, h.2.1, h.2.2.wk h3⟩
theorem IvF.cg {f f' : Nat → Int32} {g : Nat → Int64} {X t m : Nat} (h : IvF f g X t m) (h23 : nn (f 23) ≤ 20) (e : ∀ k, k < 180 → f' k = f k) : IvF f' g X t m := ⟨h.1.cg h23 (e 23 (by decide)) (fun k _ hk => e k hk), h.2.1.cg (e 7 (by decide)) (e 8 (by decide)), h.2.2⟩
def IvR (r : Row) (m : Nat) : Prop := ∀ p, p < nn (r.1 0) → IvF (getP r.1 p) (getG r.2 p) (nn (r.1 2)) (nn (r.1 1)) m
theorem IvR.wk {r : Row} {m m' : Nat} (h : IvR r m) (hm : m ≤ m') : IvR r m' := fun p hp => (h p hp).wk (Nat.le_refl _) (Nat.le_refl _) hm
theorem iv_tick {m : Nat} {r : Row} (h : RoOK r.1 r.2 m) (hm : 100 + 20 * (m + 1) < 2 ^ 28) (hM : IvR r m) : IvR (tickW r) (m + 1) := fun p hp => by
  have e0 := tickW_0 h hm
  have hb := mb_tick h hm (fun p hp => (hM p hp).1) p hp
  rw [e0] at hp
  obtain ⟨i1, i2⟩ := tick_p hp
  obtain ⟨j1, j2⟩ := tkS_q (t := nn (r.1 1)) (p := p) (r := r) p (Nat.le_refl _)
  have ht : nn (r.1 1) ≤ m := h.1.2.1.2.2
  have hP := h.2 p hp
  refine ⟨hb, ?_, ?_⟩
  · rw [i1]
    have e1 : qF (rowQ (tkS (nn (r.1 1)) p r).1 p) = getP r.1 p := j1
    generalize rowQ (tkS (nn (r.1 1)) p r).1 p = q at e1
    rw [← e1] at hP
    have z : PlF (qF (pasQ p (nn (r.1 1)) q)) := PlF.pas (by rw [e1]; exact (hM p hp).2.1) hP (by omega)
    generalize pasQ p (nn (r.1 1)) q = q' at z
    exact z.cg (trP_k (by decide)) (trP_k (by decide))
  · obtain ⟨a, a1, a2⟩ := (hM p hp).2.2.pas (t := nn (r.1 1)) hP
    refine ⟨a, a1, ?_⟩
    rw [i2, trG_k (by decide), a2]
theorem iv_tkN {m : Nat} {r : Row} (h : RoOK r.1 r.2 m) (hM : IvR r m) : ∀ n, 100 + 20 * (m + n) < 2 ^ 28 → IvR (tkN n r) (m + n)
  | 0, _ => hM
  | n + 1, hb => by
    rw [tkN_s]
    exact iv_tick (tkN_ok h n (by omega)) (by omega) (iv_tkN h hM n (by omega))
theorem iv_up {r : Row} {m p : Nat} {f : Nat → Int32} (hM : IvR r m) (hf : IvF f (getG r.2 p) (nn (r.1 2)) (nn (r.1 1)) m) (h23 : nn (f 23) ≤ 20) : IvR (upP r p f) m := fun j hj => by
  rw [upP_lo (by decide)] at hj
  rw [upP_lo (by decide), upP_lo (by decide)]
  by_cases e : j = p
  · subst e
    rw [upP_p]
    exact hf.cg h23 (fun k hk => trP_k hk)
  · have e1 : getP (upP r p f).1 j = getP r.1 j := getP_ne e
    rw [e1]
    exact hM j hj
theorem iv_q {r : Row} {m p : Nat} {q : Q4} (hM : IvR r m) (hq : MbF (qF q) (qX q) (nn (r.1 1))) (h7 : qF q 7 = getP r.1 p 7) (h8 : qF q 8 = getP r.1 p 8) (h23 : nn (qF q 23) ≤ 20) (hp : p < nn (r.1 0)) (hX : nn (r.1 2) ≤ qX q) (hX2 : qX q < 2 ^ 31) (hW : ∀ k, k < 4 ∨ 244 ≤ k → qW q k = r.1 k) : IvR (putQ p q, r.2) m := fun j hj => by
  have e0 : putQ p q 0 = r.1 0 := (putQ_k (by decide) (by decide) (by decide)).trans (hW 0 (by omega))
  have e1 : putQ p q 1 = r.1 1 := (putQ_k (by decide) (by decide) (by decide)).trans (hW 1 (by omega))
  have hj' : j < nn (r.1 0) := by rw [← e0]; exact hj
  show IvF (getP (putQ p q) j) (getG r.2 j) (nn (putQ p q 2)) (nn (putQ p q 1)) m
  have hmb := mb_put (n := p) (fun p hp => (hM p hp).1) hq h23 hX hX2 hW j hj'
  rw [e1]
  refine ⟨hmb, ?_, (hM j hj').2.2⟩
  by_cases e : j = p
  · subst e
    rw [putQ_p]
    exact ((hM j hj').2.1.cg h7 h8).cg (trP_k (by decide)) (trP_k (by decide))
  · rw [putQ_o e, getP_cg (w := r.1) (fun k hk => hW _ (Or.inr (by omega)))]
    exact (hM j hj').2.1
