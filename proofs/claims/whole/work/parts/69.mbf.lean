-- members' numbers and coming stay small
def MbF (f : Nat → Int32) (X t : Nat) : Prop := ∀ k, k < nn (f 23) → rg (f (100 + 4 * k)) 0 X ∧ rg (f (101 + 4 * k)) 0 t
theorem MbF.cg {f f' : Nat → Int32} {X t : Nat} (h : MbF f X t) (h23 : nn (f 23) ≤ 20) (e : f' 23 = f 23) (e2 : ∀ k, 100 ≤ k → k < 180 → f' k = f k) : MbF f' X t := fun k hk => by
  rw [e] at hk
  rw [e2 _ (by omega) (by omega), e2 _ (by omega) (by omega)]
  exact h k hk
theorem MbF.wk {f : Nat → Int32} {X t X' t' : Nat} (h : MbF f X t) (h1 : X ≤ X') (h2 : t ≤ t') : MbF f X' t' := fun k hk => ⟨(h k hk).1.wk (Nat.le_refl _) h1, (h k hk).2.wk (Nat.le_refl _) h2⟩
theorem MbF.jo {f : Nat → Int32} {X t a b n : Nat} {r : Int32} (h : MbF f X t) (h23 : f 23 = nI n) (hn : n < 20) (ha : a ≤ X) (hb : b ≤ t) (hX : X < 2 ^ 31) (ht : t < 2 ^ 31) : MbF (joF f (nI a) (nI b) r) X t := fun k hk => by
  have en : nn (f 23) = n := by rw [h23]; exact nn_I (by omega)
  have e1 : nn (joF f (nI a) (nI b) r 23) = n + 1 := joF_23 h23 (by omega)
  rw [e1] at hk
  unfold joF
  rw [en]
  by_cases q : k = n
  · subst q
    rw [pk_un (by omega), pk_un (by omega), pk_un (by omega), pk_un (by omega), pk_us, pk_un (by omega), pk_un (by omega), pk_un (by omega), pk_us]
    exact ⟨rg_I (Nat.zero_le _) ha hX, rg_I (Nat.zero_le _) hb ht⟩
  · rw [pk_un (by omega), pk_un (by omega), pk_un (by omega), pk_un (by omega), pk_un (by omega), pk_un (by omega), pk_un (by omega), pk_un (by omega), pk_un (by omega), pk_un (by omega)]
    exact h k (by omega)
theorem MbF.go {f : Nat → Int32} {X t n x : Nat} (h : MbF f X t) (h23 : f 23 = nI n) (hn : n ≤ 20) (hx : x < n) : MbF (goF f x) X t := fun k hk => by
  have en : nn (f 23) = n := by rw [h23]; exact nn_I (by omega)
  have e1 : nn (goF f x 23) = n - 1 := goF_23 h23 hn (by omega)
  rw [e1] at hk
  have gv : ∀ j, j ≠ 23 → goF f x j = if 100 + 4 * x ≤ j ∧ j < 100 + 4 * (n - 1) then f (j + 4) else f j := fun j hj => by
    unfold goF
    rw [if_neg hj, en]
  rw [gv _ (by omega), gv _ (by omega)]
  by_cases q : x ≤ k
  · rw [if_pos (show 100 + 4 * x ≤ 100 + 4 * k ∧ 100 + 4 * k < 100 + 4 * (n - 1) by omega), if_pos (show 100 + 4 * x ≤ 101 + 4 * k ∧ 101 + 4 * k < 100 + 4 * (n - 1) by omega)]
    have z := h (k + 1) (by omega)
    rw [show 100 + 4 * k + 4 = 100 + 4 * (k + 1) from by omega, show 101 + 4 * k + 4 = 101 + 4 * (k + 1) from by omega]
    exact z
  · rw [if_neg (show ¬ (100 + 4 * x ≤ 100 + 4 * k ∧ 100 + 4 * k < 100 + 4 * (n - 1)) by omega), if_neg (show ¬ (100 + 4 * x ≤ 101 + 4 * k ∧ 101 + 4 * k < 100 + 4 * (n - 1)) by omega)]
    exact h k (by omega)
theorem mb_gr {p t : Nat} {rd : Int32} {q : Q4} {c u : Nat} {g : Nat → Int64} (h : MbF (qF q) (qX q) t) (hO : PoOK (qF q) g c u) (ht : t < 2 ^ 31) : ∀ n, nn (qF q 23) + n ≤ 20 → qX q + n < 2 ^ 31 → MbF (qF (grS p t rd n q)) (qX q + n) t
  | 0, _, _ => h
  | n + 1, hn, hX => by
    have i1 := mb_gr (p := p) (rd := rd) h hO ht n (by omega) (by omega)
    obtain ⟨z1, z2, z3, z4, z5⟩ := zr_ok (p := p) (t := t) (n := n) (r := rd) hO (by omega)
    show MbF (joF (qF (grS p t rd n q)) (nI (qX (grS p t rd n q))) (nI t) rd) (qX q + (n + 1)) t
    rw [z3]
    exact (i1.wk (by omega) (Nat.le_refl _)).jo (n := nn (qF q 23) + n) (by rw [(z1.at 23).1, z2]) (by omega) (by omega) (Nat.le_refl _) hX ht
theorem mb_sh {p t : Nat} {q : Q4} {c u X t' : Nat} {g : Nat → Int64} (h : MbF (qF q) X t') (hO : PoOK (qF q) g c u) : ∀ n, MbF (qF (shS p t n q)) X t'
  | 0 => h
  | n + 1 => by
    have i1 := mb_sh (p := p) (t := t) h hO n
    have hOn : PoOK (qF (shS p t n q)) g c u := (sh_ok (p := p) (t := t) (n := n) hO).1
    cases hk : nxQ (shS p t n q) with
    | none => rw [shS_none hk]; exact i1
    | some k =>
      rw [shS_go hk]
      show MbF (goF (qF (shS p t n q)) k) X t'
      exact i1.go (n := nn (qF (shS p t n q) 23)) (hOn.at 23).1 (hOn.at 23).2.2 (nxQ_lt hk)
theorem pasF_hi {f : Nat → Int32} {t k : Nat} (hk : 100 ≤ k ∨ k = 23) : pasF f t k = f k := by
  have h1 := Nat.mod_lt t (show 0 < 24 by decide)
  have h2 := Nat.mod_lt (t + nn (erF (metF f t) t (metF f t (60 + t % 24)) 6)) (show 0 < 16 by decide)
  rw [pasF_e]
  unfold looF
  rw [pk_un (by omega), pk_un (by omega), pk_un (by omega)]
  have e2 : erF (metF f t) t (metF f t (60 + t % 24)) k = metF f t k := by
    unfold erF
    split
    · rfl
    · exact pk_un (by omega)
  rw [e2]
  unfold metF
  rw [pk_un (by omega), pk_un (by omega), pk_un (by omega), pk_un (by omega), pk_un (by omega), pk_un (by omega)]
theorem decF_hi {f : Nat → Int32} {t k : Nat} (hk : 100 ≤ k ∨ k = 23) : decF f t k = f k := by
  have := deF_lt f t
  unfold decF
  rw [if_neg (by omega), if_neg (by omega), if_neg (by omega), if_neg (by omega)]
