-- .. kept by every change
theorem cd1_0 {a : Bool} (h : cd1 a = 0) : a = true := by cases a with
  | true => rfl
  | false => exact absurd h (by decide)
theorem cd2_0 {a b : Bool} (h : cd2 a b = 0) : a = true ∧ b = true := by cases a with
  | true => cases b with
    | true => exact ⟨rfl, rfl⟩
    | false => exact absurd h (by decide)
  | false => cases b with
    | true => exact absurd h (by decide)
    | false => exact absurd h (by decide)
theorem cd3_0 {a b c : Bool} (h : cd3 a b c = 0) : a = true ∧ b = true ∧ c = true := by cases a with
  | true => cases b with
    | true => cases c with
      | true => exact ⟨rfl, rfl, rfl⟩
      | false => exact absurd h (by decide)
    | false => cases c with
      | true => exact absurd h (by decide)
      | false => exact absurd h (by decide)
  | false => cases b with
    | true => cases c with
      | true => exact absurd h (by decide)
      | false => exact absurd h (by decide)
    | false => cases c with
      | true => exact absurd h (by decide)
      | false => exact absurd h (by decide)
def OK2 (r : Row) (m : Nat) : Prop := RoOK r.1 r.2 m ∧ IvR r m
theorem OK2.wk {r : Row} {m m' : Nat} (h : OK2 r m) (hm : m ≤ m') : OK2 r m' := ⟨h.1.wk hm, h.2.wk hm⟩
theorem ok2_up {r : Row} {m p : Nat} {f : Nat → Int32} (h : OK2 r m) (hp : p < nn (r.1 0)) (hf : PoOK f (getG r.2 p) (nn (r.1 1)) (nn (r.1 1))) (hm : MbF f (nn (r.1 2)) (nn (r.1 1))) (hl : PlF f) : OK2 (upP r p f) m :=
  ⟨ro_up h.1 hp hf, iv_up h.2 ⟨hm, hl, (h.2 p hp).2.2⟩ (hf.at 23).2.2⟩
theorem ok2_1 {r : Row} {m p k : Nat} {y : Int32} (h : OK2 r m) (hp : p < nn (r.1 0)) (hk : k < 21) (hx : rg y (bLo k) (bHi k)) (h0 : k ≠ 0) (h1 : k ≠ 1) (h6 : k ≠ 6) (h7 : k ≠ 7) (h8 : k ≠ 8) : OK2 (upP r p (upd (getP r.1 p) k y)) m := by
  have hO := h.1.2 p hp
  refine ok2_up h hp (hO.st (fun j hj => pk_un (by omega)) (pk_un (by omega)) (hO.1.upd (fun _ => hx)) ?_ ?_) ((h.2 p hp).1.cg (hO.at 23).2.2 (pk_un (by omega)) (fun j h1 _ => pk_un (by omega))) ((h.2 p hp).2.1.cg (pk_un (by omega)) (pk_un (by omega)))
  · rw [pk_un (by omega), pk_un (by omega)]; exact hO.2.1.1
  · rw [pk_un (by omega), pk_un (by omega)]; exact hO.2.1.2
theorem ok2_2 {r : Row} {m p : Nat} {k l : Nat} {y z : Int32} (h : OK2 r m) (hp : p < nn (r.1 0)) (hk : k < 21 ∧ k ≠ 6) (hl : l < 21 ∧ l ≠ 6) (hy : rg y (bLo k) (bHi k)) (hz : rg z (bLo l) (bHi l)) (h7 : upd (upd (getP r.1 p) k y) l z 7 = 2 → 1 ≤ nn (upd (upd (getP r.1 p) k y) l z 8)) (h01 : nn (upd (upd (getP r.1 p) k y) l z 0) ≤ nn (upd (upd (getP r.1 p) k y) l z 1)) (hPl : PlF (upd (upd (getP r.1 p) k y) l z)) : OK2 (upP r p (upd (upd (getP r.1 p) k y) l z)) m := by
  have hO := h.1.2 p hp
  exact ok2_up h hp (hO.st (fun j hj => by rw [pk_un (by omega), pk_un (by omega)]) (by rw [pk_un (by omega), pk_un (by omega)]) ((hO.1.upd (fun _ => hy)).upd (fun _ => hz)) h7 h01) ((h.2 p hp).1.cg (hO.at 23).2.2 (by rw [pk_un (by omega), pk_un (by omega)]) (fun j h1 _ => by rw [pk_un (by omega), pk_un (by omega)])) hPl
theorem ok2_push {r : Row} {m : Nat} {x y : Int32} (h : OK2 r m) (hc : cd2 (okP r x) (rgB 0 999 y) = 0) : OK2 (upP r (nn x) (puF r x y)) m := by
  obtain ⟨k1, k2⟩ := cd2_0 hc
  obtain ⟨p, hp, pn, hx⟩ := okP_t h.1 k1
  have ex : nn x = p := by rw [hx]; exact nn_I (by omega)
  obtain ⟨j, j1, j2, hy⟩ := rgB_t (a := 0) (b := 999) k2 (by decide) (by decide)
  obtain ⟨a, a1, a2, a3⟩ := ((h.1.2 p pn).at 20).nat
  have a2' : a ≤ 999 := a2
  unfold puF fP
  rw [ex]
  refine ok2_1 h pn (by decide) ?_ (by decide) (by decide) (by decide) (by decide) (by decide)
  rw [a3, hy, nI_add]
  unfold imn
  split
  · next z =>
    have z9 := (nI_ltI (a := a + j) (b := 999) (by omega) (by omega)).mp z
    exact rg_I (a := 0) (b := 999) (Nat.zero_le _) (by omega) (by decide)
  · exact rg_I (k := 999) (a := 0) (b := 999) (by decide) (by decide) (by decide)
theorem ok2_pause {r : Row} {m : Nat} {x z : Int32} (h : OK2 r m) (hc : cd1 (okP r x) = 0) (hz : z = 0 ∨ z = 1) : OK2 (upP r (nn x) (upd (fP r x) 16 z)) m := by
  obtain ⟨p, hp, pn, hx⟩ := okP_t h.1 (cd1_0 hc)
  have ex : nn x = p := by rw [hx]; exact nn_I (by omega)
  unfold fP
  rw [ex]
  refine ok2_1 h pn (by decide) ?_ (by decide) (by decide) (by decide) (by decide) (by decide)
  rcases hz with rfl | rfl
  · exact rg_I (k := 0) (a := 0) (b := 1) (by decide) (by decide) (by decide)
  · exact rg_I (k := 1) (a := 0) (b := 1) (by decide) (by decide) (by decide)
theorem ok2_target {r : Row} {m : Nat} {x y : Int32} (h : OK2 r m) (hc : cd2 (okP r x) (rgB 10 100 y) = 0) : OK2 (upP r (nn x) (upd (fP r x) 3 y)) m := by
  obtain ⟨k1, k2⟩ := cd2_0 hc
  obtain ⟨p, hp, pn, hx⟩ := okP_t h.1 k1
  have ex : nn x = p := by rw [hx]; exact nn_I (by omega)
  obtain ⟨j, j1, j2, hy⟩ := rgB_t (a := 10) (b := 100) k2 (by decide) (by decide)
  unfold fP
  rw [ex]
  refine ok2_1 h pn (by decide) ?_ (by decide) (by decide) (by decide) (by decide) (by decide)
  rw [hy]; exact rg_I (a := 10) (b := 100) j1 j2 (by decide)
theorem ok2_cool {r : Row} {m : Nat} {x y z : Int32} (h : OK2 r m) (hc : cd2 (okP r x) (rgB 0 30 y && rgB 0 30 z) = 0) : OK2 (upP r (nn x) (upd (upd (fP r x) 12 y) 13 z)) m := by
  obtain ⟨k1, k2⟩ := cd2_0 hc
  obtain ⟨k2, k3⟩ := Bool.and_eq_true_iff.mp k2
  obtain ⟨p, hp, pn, hx⟩ := okP_t h.1 k1
  have ex : nn x = p := by rw [hx]; exact nn_I (by omega)
  obtain ⟨j, j1, j2, hy⟩ := rgB_t (a := 0) (b := 30) k2 (by decide) (by decide)
  obtain ⟨i, i1, i2, hz⟩ := rgB_t (a := 0) (b := 30) k3 (by decide) (by decide)
  have hO := h.1.2 p pn
  unfold fP
  rw [ex]
  refine ok2_2 h pn ⟨by decide, by decide⟩ ⟨by decide, by decide⟩ ?_ ?_ ?_ ?_ ?_
  · rw [hy]; exact rg_I (a := 0) (b := 30) j1 j2 (by decide)
  · rw [hz]; exact rg_I (a := 0) (b := 30) i1 i2 (by decide)
  · rw [pk_un (by decide), pk_un (by decide), pk_un (by decide), pk_un (by decide)]; exact hO.2.1.1
  · rw [pk_un (by decide), pk_un (by decide), pk_un (by decide), pk_un (by decide)]; exact hO.2.1.2
  · exact (h.2 p pn).2.1.cg (by rw [pk_un (by decide), pk_un (by decide)]) (by rw [pk_un (by decide), pk_un (by decide)])
theorem ok2_bounds {r : Row} {m : Nat} {x y z : Int32} (h : OK2 r m) (hc : cd2 (okP r x) (rgB 0 20 y && rgB (imx 1 y) 20 z) = 0) : OK2 (upP r (nn x) (upd (upd (fP r x) 0 y) 1 z)) m := by
  obtain ⟨k1, k2⟩ := cd2_0 hc
  obtain ⟨k2, k3⟩ := Bool.and_eq_true_iff.mp k2
  obtain ⟨p, hp, pn, hx⟩ := okP_t h.1 k1
  have ex : nn x = p := by rw [hx]; exact nn_I (by omega)
  obtain ⟨j, j1, j2, hy⟩ := rgB_t (a := 0) (b := 20) k2 (by decide) (by decide)
  have e1 : imx 1 y = nI (max 1 j) := by rw [hy]; exact imx_I (a := 1) (by decide) (by omega)
  rw [e1] at k3
  obtain ⟨i, i1, i2, hz⟩ := rgB_t (a := max 1 j) (b := 20) k3 (by decide) (by omega)
  have hO := h.1.2 p pn
  unfold fP
  rw [ex]
  refine ok2_2 h pn ⟨by decide, by decide⟩ ⟨by decide, by decide⟩ ?_ ?_ ?_ ?_ ?_
  · rw [hy]; exact rg_I (a := 0) (b := 20) j1 j2 (by decide)
  · rw [hz]; exact rg_I (a := 1) (b := 20) (by omega) i2 (by decide)
  · rw [pk_un (by decide), pk_un (by decide), pk_un (by decide), pk_un (by decide)]; exact hO.2.1.1
  · rw [pk_un (by decide), pk_us, pk_us, hy, hz, nn_I (by omega), nn_I (by omega)]; omega
  · exact (h.2 p pn).2.1.cg (by rw [pk_un (by decide), pk_un (by decide)]) (by rw [pk_un (by decide), pk_un (by decide)])
theorem ok2_policy {r : Row} {m : Nat} {x y z : Int32} (h : OK2 r m) (hc : cd2 (okP r x) (rgB 0 2 y && plB y z) = 0) : OK2 (upP r (nn x) (upd (upd (fP r x) 7 y) 8 z)) m := by
  obtain ⟨k1, k2⟩ := cd2_0 hc
  obtain ⟨k2, k3⟩ := Bool.and_eq_true_iff.mp k2
  obtain ⟨p, hp, pn, hx⟩ := okP_t h.1 k1
  have ex : nn x = p := by rw [hx]; exact nn_I (by omega)
  obtain ⟨j, j1, j2, hy⟩ := rgB_t (a := 0) (b := 2) k2 (by decide) (by decide)
  have hO := h.1.2 p pn
  have hz : (y = 2 → ∃ i, 2 ≤ i ∧ i ≤ 24 ∧ z = nI i) ∧ (¬ y = 2 → z = 0) := by
    unfold plB at k3
    refine ⟨fun q => ?_, fun q => ?_⟩
    · rw [if_pos q] at k3
      exact rgB_t (a := 2) (b := 24) k3 (by decide) (by decide)
    · rw [if_neg q] at k3
      obtain ⟨i, i1, i2, i3⟩ := rgB_t (a := 0) (b := 0) k3 (by decide) (by decide)
      rw [i3, Nat.le_zero.mp i2]; rfl
  have hzr : rg z 0 24 := by
    by_cases q : y = 2
    · obtain ⟨i, i1, i2, i3⟩ := hz.1 q
      rw [i3]; exact rg_I (Nat.zero_le _) i2 (by decide)
    · rw [hz.2 q]; exact rg_I (k := 0) (by decide) (by decide) (by decide)
  unfold fP
  rw [ex]
  refine ok2_2 h pn ⟨by decide, by decide⟩ ⟨by decide, by decide⟩ ?_ hzr ?_ ?_ ?_
  · rw [hy]; exact rg_I (a := 0) (b := 2) j1 j2 (by decide)
  · rw [pk_un (by decide), pk_us, pk_us]
    intro q
    obtain ⟨i, i1, i2, i3⟩ := hz.1 q
    rw [i3, nn_I (by omega)]; omega
  · rw [pk_un (by decide), pk_un (by decide), pk_un (by decide), pk_un (by decide)]; exact hO.2.1.2
  · intro q
    rw [pk_un (by decide), pk_us] at q
    rw [pk_us]; exact hz.2 q
theorem PoOK.pr {f : Nat → Int32} {g : Nat → Int64} {c t k : Nat} {z : Int32} (h : PoOK f g c t) (hk : k < nn (f 23)) (hz : z = 0 ∨ z = 1) : PoOK (prF f k z) g c t := by
  have y23 : nn (f 23) ≤ 20 := (h.at 23).2.2
  have y24 : nn (f 24) ≤ 24 := (h.at 24).2.2
  have e : ∀ i, i < 103 → prF f k z i = f i := fun i hi => pk_un (by omega)
  refine ⟨fun i hi => ?_, ⟨fun q => ?_, ?_⟩, fun i hi => ?_, fun i hi => ?_, ⟨?_, h.2.2.2.2.1.2⟩, fun i h1 h2 => ?_, fun u h1 h2 h3 => ?_, h.2.2.2.2.2.2.2⟩
  · rw [e i (by have := bOk_lt hi; omega)]; exact h.1 i hi
  · rw [e 7 (by omega)] at q
    rw [e 8 (by omega)]; exact h.2.1.1 q
  · rw [e 0 (by omega), e 1 (by omega)]; exact h.2.1.2
  · rw [e 23 (by omega)] at hi
    by_cases q : i = k
    · subst q; unfold prF; rw [pk_us]; exact hz
    · unfold prF; rw [pk_un (by omega)]; exact h.2.2.1 i hi
  · rw [e 24 (by omega)] at hi
    rw [e _ (by omega)]; exact h.2.2.2.1 i hi
  · rw [e 29 (by omega)]; exact h.2.2.2.2.1.1
  · rw [e _ (by omega)]; exact h.2.2.2.2.2.1 i h1 h2
  · rw [e 6 (by omega)] at h2 h3
    rw [e _ (by omega)]; exact h.2.2.2.2.2.2.1 u h1 h2 h3
theorem ok2_load {r : Row} {m : Nat} {x y z : Int32} (h : OK2 r m) (hc : cd3 (okP r x) (rgB 0 999 z) (ltB (fP r x 24) y) = 0) : OK2 (upP r (nn x) (upd (fP r x) (36 + nn y) z)) m := by
  obtain ⟨k1, k2, k3⟩ := cd3_0 hc
  obtain ⟨p, hp, pn, hx⟩ := okP_t h.1 k1
  have ex : nn x = p := by rw [hx]; exact nn_I (by omega)
  obtain ⟨j, j1, j2, hz⟩ := rgB_t (a := 0) (b := 999) k2 (by decide) (by decide)
  have hO := h.1.2 p pn
  have y24 : nn (getP r.1 p 24) ≤ 24 := (hO.at 24).2.2
  unfold fP at k3 ⊢
  rw [ex] at k3 ⊢
  obtain ⟨i, i1, i2⟩ := ltB_t (hO.at 24).1 (by omega) k3
  have ey : nn y = i := by rw [i2]; exact nn_I (by omega)
  rw [ey]
  exact ok2_up h pn (hO.ld (by omega) (by rw [hz]; exact rg_I (a := 0) (b := 999) (Nat.zero_le _) j2 (by decide))) ((h.2 p pn).1.cg (hO.at 23).2.2 (pk_un (by omega)) (fun k h1 _ => pk_un (by omega))) ((h.2 p pn).2.1.cg (pk_un (by omega)) (pk_un (by omega)))
theorem ok2_prot {r : Row} {m : Nat} {x : Int32} {b : Bool} (h : OK2 r m) : OK2 (prR r x (bI b)) m := by
  cases h1 : mbP r x with
  | none => unfold prR; rw [h1]; exact h
  | some p =>
    obtain ⟨pn, k, h2, h3⟩ := mb_some h1
    have hk := plS_lt h3
    have hO := h.1.2 p pn
    rw [prR_s h1 h2]
    refine ok2_up h pn (hO.pr hk (bI_01 b)) (fun i hi => ?_) ((h.2 p pn).2.1.cg (pk_un (by omega)) (pk_un (by omega)))
    have e : nn (prF (getP r.1 p) k (bI b) 23) = nn (getP r.1 p 23) := by unfold prF; rw [pk_un (by omega)]
    rw [e] at hi
    have z := (h.2 p pn).1 i hi
    unfold prF
    rw [pk_un (by omega), pk_un (by omega)]
    exact z
theorem ok2_run {r : Row} {m : Nat} {x : Int32} (h : OK2 r m) (hc : cd1 (rgB 1 300 x) = 0) (hb : m + 300 < 2 ^ 23) : OK2 (tkN (nn x) r) (m + 300) := by
  obtain ⟨j, j1, j2, hx⟩ := rgB_t (a := 1) (b := 300) (cd1_0 hc) (by decide) (by decide)
  have ex : nn x = j := by rw [hx]; exact nn_I (by omega)
  rw [ex]
  have z : OK2 (tkN j r) (m + j) := ⟨tkN_ok h.1 j (by omega), iv_tkN h.1 h.2 j (by omega)⟩
  exact z.wk (by omega)
theorem ok2_hurry {r : Row} {m : Nat} {x : Int32} (h : OK2 r m) (hc : cd1 (okP r x) = 0) (hb : m + 300 < 2 ^ 23) : OK2 (huR r (nn x)) (m + 1) := by
  obtain ⟨p, hp, pn, hx⟩ := okP_t h.1 (cd1_0 hc)
  have ex : nn x = p := by rw [hx]; exact nn_I (by omega)
  rw [ex]
  have hO := h.1.2 p pn
  obtain ⟨t1, t2, t3⟩ := huR_ok h.1 pn (by omega)
  have hz : OK2 (hz0 r p) m := by
    refine ok2_2 h pn ⟨by decide, by decide⟩ ⟨by decide, by decide⟩ ?_ ?_ ?_ ?_ ?_
    · exact rg_I (k := 0) (a := 0) (b := 30) (by decide) (by decide) (by decide)
    · exact rg_I (k := 0) (a := 0) (b := 30) (by decide) (by decide) (by decide)
    · rw [pk_un (by decide), pk_un (by decide), pk_un (by decide), pk_un (by decide)]; exact hO.2.1.1
    · rw [pk_un (by decide), pk_un (by decide), pk_un (by decide), pk_un (by decide)]; exact hO.2.1.2
    · exact (h.2 p pn).2.1.cg (by rw [pk_un (by decide), pk_un (by decide)]) (by rw [pk_un (by decide), pk_un (by decide)])
  have ht : IvR (tickW (hz0 r p)) (m + 1) := iv_tick hz.1 (by omega) hz.2
  refine ⟨t3, ?_⟩
  have hP := t1.2 p t2
  have hI := ht p t2
  unfold huR
  generalize tickW (hz0 r p) = R at ht hP hI t2
  exact iv_up ht ⟨hI.1.cg (hP.at 23).2.2 (by rw [pk_un (by decide), pk_un (by decide)]) (fun k h1 _ => by rw [pk_un (by omega), pk_un (by omega)]), hI.2.1.cg (by rw [pk_un (by decide), pk_un (by decide)]) (by rw [pk_un (by decide), pk_un (by decide)]), hI.2.2⟩ (by rw [pk_un (by decide), pk_un (by decide)]; exact (hP.at 23).2.2)
theorem ok2_go {r : Row} {m p k : Nat} (h : OK2 r m) (hp : p < nn (r.1 0)) (hk : k < nn (getP r.1 p 23)) (hb : m + 10 < 2 ^ 23) : OK2 (goR r p k) (m + 1) := by
  have hO := h.1.2 p hp
  have y23 : nn (getP r.1 p 23) ≤ 20 := (hO.at 23).2.2
  have h2 := h.1.1.2.2.1.2.2
  refine ⟨goR_ok h.1 hp hk (by omega), ?_⟩
  have hG : PoOK (goF (getP r.1 p) k) (getG r.2 p) (nn (r.1 1)) (nn (r.1 1)) := hO.go hk
  have hM : MbF (goF (getP r.1 p) k) (nn (r.1 2)) (nn (r.1 1)) := (h.2 p hp).1.go (hO.at 23).1 y23 hk
  refine IvR.wk ?_ (Nat.le_succ m)
  exact iv_q (q := goQ p (nn (r.1 1)) k (rowQ r.1 p)) h.2 hM (show goF (getP r.1 p) k 7 = getP r.1 p 7 from goF_o (by omega)) (show goF (getP r.1 p) k 8 = getP r.1 p 8 from goF_o (by omega)) (hG.at 23).2.2 hp (Nat.le_refl _) (show nn (r.1 2) < 2 ^ 31 by omega) (fun j hj => go_W (w := r.1) (fun _ _ => rfl) hj)
theorem ok2_gr {r : Row} {m p n : Nat} (h : OK2 r m) (hp : p < nn (r.1 0)) (hn : nn (getP r.1 p 23) + n ≤ 20) (hb : m + 10 < 2 ^ 23) : OK2 (grR r p n) (m + 1) := by
  have hO := h.1.2 p hp
  have h2 := h.1.1.2.2.1.2.2
  have ht := h.1.1.2.1.2.2
  refine ⟨(grR_ok h.1 hp hn (by omega)).1, IvR.wk ?_ (Nat.le_succ m)⟩
  obtain ⟨z1, z2, z3, z4, z5⟩ := zr_ok (p := p) (t := nn (r.1 1)) (n := n) (r := r.1 1 + getP r.1 p 4) (q := rowQ r.1 p) hO hn
  have z3' : qX (grS p (nn (r.1 1)) (r.1 1 + getP r.1 p 4) n (rowQ r.1 p)) = nn (r.1 2) + n := z3
  have hM : MbF (qF (grS p (nn (r.1 1)) (r.1 1 + getP r.1 p 4) n (rowQ r.1 p))) (nn (r.1 2) + n) (nn (r.1 1)) := mb_gr (q := rowQ r.1 p) (h.2 p hp).1 hO (by omega) n hn (show nn (r.1 2) + n < 2 ^ 31 by omega)
  rw [← z3'] at hM
  exact iv_q h.2 hM (z5 7 (by omega)) (z5 8 (by omega)) (z1.at 23).2.2 hp (by omega) (by omega) (fun j hj => gr_W hj)
theorem ok2_drop {r : Row} {m : Nat} {x : Int32} (h : OK2 r m) (hc : dpC r x = 0) (hb : m + 300 < 2 ^ 23) : OK2 (dpR r x) (m + 1) := by
  cases h1 : mbP r x with
  | none => rw [dpC_n h1] at hc; exact absurd hc (by decide)
  | some p =>
    obtain ⟨pn, k, h2, h3⟩ := mb_some h1
    rw [dpR_s h1 h2]
    exact ok2_go h pn (plS_lt h3) (by omega)
theorem ok2_grow {r : Row} {m : Nat} {x y : Int32} (h : OK2 r m) (hc : cd3 (okP r x) (rgB 1 5 y) (gwB (fP r x) y) = 0) (hb : m + 300 < 2 ^ 23) : OK2 (grR r (nn x) (nn y)) (m + 1) := by
  obtain ⟨k1, k2, k3⟩ := cd3_0 hc
  obtain ⟨p, hp, pn, hx⟩ := okP_t h.1 k1
  have ex : nn x = p := by rw [hx]; exact nn_I (by omega)
  obtain ⟨j, j1, j2, hy⟩ := rgB_t (a := 1) (b := 5) k2 (by decide) (by decide)
  have ey : nn y = j := by rw [hy]; exact nn_I (by omega)
  have hO := h.1.2 p pn
  unfold fP at k3
  rw [ex] at k3
  rw [ex, ey]
  obtain ⟨a, a1, a2, a3⟩ := (hO.at 23).nat
  obtain ⟨b, b1, b2, b3⟩ := (hO.at 1).nat
  have a2' : a ≤ 20 := a2
  have b2' : b ≤ 20 := b2
  have z := of_decide_eq_true k3
  rw [a3, b3, hy, nI_add] at z
  have z2 := (nI_leI (a := a + j) (b := b) (by omega) (by omega)).mp z
  exact ok2_gr h pn (by rw [a3, nn_I (by omega)]; omega) (by omega)
theorem ok2_trans {r : Row} {m : Nat} {x y : Int32} (h : OK2 r m) (hc : tfC r x y = 0) (hb : m + 300 < 2 ^ 23) : OK2 (tfR r x y) (m + 2) := by
  cases ky : okP r y with
  | false => rw [tfC_1 ky] at hc; exact absurd hc (by decide)
  | true =>
    obtain ⟨p', hp', pn', hy⟩ := okP_t h.1 ky
    have ey : nn y = p' := by rw [hy]; exact nn_I (by omega)
    cases h1 : mbP r x with
    | none =>
      rw [tfC_n ky h1] at hc
      split at hc
      · exact absurd hc (by decide)
      · exact absurd hc (by decide)
    | some p =>
      obtain ⟨pn, k, h2, h3⟩ := mb_some h1
      by_cases e : p = nn y
      · rw [tfC_2 ky (by rw [h1, e])] at hc; exact absurd hc (by decide)
      · rw [tfC_s ky h1 h2 e] at hc
        by_cases kf : (fuB (fP r y) && spB (getP r.1 p) k) = true
        · have z := of_decide_eq_true (Bool.and_eq_true_iff.mp kf).1
          have hO := h.1.2 p' pn'
          unfold fP at z
          rw [ey] at z e
          obtain ⟨a, a1, a2, a3⟩ := (hO.at 23).nat
          obtain ⟨b, b1, b2, b3⟩ := (hO.at 1).nat
          have a2' : a ≤ 20 := a2
          have b2' : b ≤ 20 := b2
          rw [a3, b3] at z
          have z2 := (nI_ltI (a := a) (b := b) (by omega) (by omega)).mp z
          have hg := ok2_go h pn (plS_lt h3) (by omega)
          rw [tfR_s h1 h2, ey]
          have e0 : nn ((goR r p k).1 0) = nn (r.1 0) := congrArg nn ((putQ_k (by decide) (by decide) (by decide)).trans (go_W (w := r.1) (fun _ _ => rfl) (Or.inl (by decide))))
          have e1 : getP (goR r p k).1 p' = getP r.1 p' := by
            show getP (putQ p _) p' = _
            rw [putQ_o (fun q => e q.symm)]
            exact getP_cg (fun i _ => go_W (w := r.1) (fun _ _ => rfl) (Or.inr (by omega)))
          have z9 := ok2_gr (p := p') (n := 1) hg (by rw [e0]; exact pn') (by rw [e1, a3, nn_I (by omega)]; omega) (by omega)
          exact z9
        · rw [if_neg kf] at hc; exact absurd hc (by decide)
theorem mb_dc {p tn X c' u T : Nat} {t : Int32} {g : Nat → Int64} : ∀ {c : Nat} {q : Q4}, MbF (qF q) X T → PoOK (qF q) g c' u → c ≤ nn (qF q 23) → MbF (qF (dcS p t tn c q)) X T ∧ qF (dcS p t tn c q) 7 = qF q 7 ∧ qF (dcS p t tn c q) 8 = qF q 8
  | 0, q, h, _, _ => ⟨h, rfl, rfl⟩
  | c + 1, q, h, hO, hc => by
    show MbF (qF (dcS p t tn c (if spB (qF q) c && clB (qF q) t c then goQ p tn c q else q))) X T ∧ qF (dcS p t tn c (if spB (qF q) c && clB (qF q) t c then goQ p tn c q else q)) 7 = _ ∧ qF (dcS p t tn c (if spB (qF q) c && clB (qF q) t c then goQ p tn c q else q)) 8 = _
    by_cases e : (spB (qF q) c && clB (qF q) t c) = true
    · rw [if_pos e]
      have y23 : nn (qF q 23) ≤ 20 := (hO.at 23).2.2
      have h2 : PoOK (qF (goQ p tn c q)) g c' u := hO.go (by omega)
      have h3 : nn (qF (goQ p tn c q) 23) = nn (qF q 23) - 1 := goF_23 (x := c) (hO.at 23).1 y23 (by omega)
      have h4 : MbF (qF (goQ p tn c q)) X T := h.go (hO.at 23).1 y23 (by omega)
      obtain ⟨i1, i2, i3⟩ := mb_dc (p := p) (tn := tn) (t := t) h4 h2 (show c ≤ nn (qF (goQ p tn c q) 23) by omega)
      exact ⟨i1, i2.trans (show goF (qF q) c 7 = qF q 7 from goF_o (by omega)), i3.trans (show goF (qF q) c 8 = qF q 8 from goF_o (by omega))⟩
    · rw [if_neg e]
      exact mb_dc h hO (by omega)
theorem ok2_dc {r : Row} {m : Nat} {x : Int32} (h : OK2 r m) (hc : cd1 (okP r x) = 0) (hb : m + 300 < 2 ^ 23) : OK2 (dcR r (nn x)) (m + 1) := by
  obtain ⟨p, hp, pn, hx⟩ := okP_t h.1 (cd1_0 hc)
  have ex : nn x = p := by rw [hx]; exact nn_I (by omega)
  rw [ex]
  have hO := h.1.2 p pn
  have h2 := h.1.1.2.2.1.2.2
  refine ⟨dcR_ok h.1 pn (by omega), IvR.wk ?_ (Nat.le_succ m)⟩
  obtain ⟨i1, i2, i3, i4⟩ := dcS_ok (p := p) (tn := nn (r.1 1)) (t := r.1 1) (q := rowQ r.1 p) hO (Nat.le_refl (nn (getP r.1 p 23)))
  obtain ⟨j1, j2, j3⟩ := mb_dc (p := p) (tn := nn (r.1 1)) (t := r.1 1) (q := rowQ r.1 p) (h.2 p pn).1 hO (Nat.le_refl (nn (getP r.1 p 23)))
  have i2' : qX (dcS p (r.1 1) (nn (r.1 1)) (nn (getP r.1 p 23)) (rowQ r.1 p)) = nn (r.1 2) := i2
  rw [← i2'] at j1
  exact iv_q h.2 j1 j2 j3 (i1.at 23).2.2 pn (by omega) (by omega) (fun j hj => (i4 j hj).trans rfl)
