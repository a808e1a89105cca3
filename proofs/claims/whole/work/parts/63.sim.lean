-- rows that are equal but for the members' numbers
def eqN (f f' : Nat → Int32) : Prop := ∀ k, k < 180 → (k < 100 ∨ k % 4 ≠ 0) → f k = f' k
theorem eqN.lo {f f' : Nat → Int32} (h : eqN f f') {k : Nat} (hk : k < 100) : f k = f' k := h k (by omega) (Or.inl hk)
theorem eqN.upd {f f' : Nat → Int32} (h : eqN f f') {k : Nat} {x x' : Int32} (hx : x = x') : eqN (upd f k x) (upd f' k x') := fun j hj hj2 => by
  by_cases e : j = k
  · rw [e, pk_us, pk_us, hx]
  · rw [pk_un e, pk_un e]; exact h j hj hj2
theorem eqN.updN {f f' : Nat → Int32} (h : eqN f f') {k : Nat} {x x' : Int32} : eqN (CPoolScalerLaw_law_r4467_227dc4.upd f (100 + 4 * k) x) (CPoolScalerLaw_law_r4467_227dc4.upd f' (100 + 4 * k) x') := fun j hj hj2 => by
  have e : j ≠ 100 + 4 * k := by omega
  rw [pk_un e, pk_un e]; exact h j hj hj2
theorem eqN.pw {f f' : Nat → Int32} (h : eqN f f') (h23 : nn (f 23) ≤ 20) (t : Int32) : pwF f t = pwF f' t := by
  unfold pwF
  rw [pwN_eq, pwN_eq, ← h.lo (k := 23) (by decide), ← h.lo (k := 2) (by decide)]
  rw [cn_cg (fun k hk => by rw [h (102 + 4 * k) (by omega) (by omega)])]
theorem eqN.lds {f f' : Nat → Int32} (h : eqN f f') (h24 : nn (f 24) ≤ 24) : lds f' = lds f := lds_cg (h.lo (by decide)).symm (fun k hk => (h.lo (by omega)).symm)
theorem eqN.dm {f f' : Nat → Int32} (h : eqN f f') (h24 : nn (f 24) ≤ 24) (t a : Nat) : dmA f t a = dmA f' t a := by
  unfold dmA
  rw [h.lds h24, h.lo (k := 20) (by decide)]
theorem eqN.lk {f f' : Nat → Int32} (h : eqN f f') (h23 : nn (f 23) ≤ 20) (h24 : nn (f 24) ≤ 24) (t : Nat) : lkF f t = lkF f' t := by
  unfold lkF
  rw [h.dm h24, h.pw h23]
theorem eqN.met {f f' : Nat → Int32} (h : eqN f f') (h23 : nn (f 23) ≤ 20) (h24 : nn (f 24) ≤ 24) (t : Nat) : eqN (metF f t) (metF f' t) := by
  unfold metF
  rw [← h.dm h24, ← h.lk h23 h24, ← h.lo (k := 29) (by decide), ← h.lo (k := 25) (by decide), ← h.lo (k := 26) (by decide), ← h.lo (k := 27) (by decide)]
  exact (((((h.upd rfl).upd rfl).upd rfl).upd rfl).upd rfl).upd rfl
theorem eqN.metG {f f' : Nat → Int32} (h : eqN f f') (h23 : nn (f 23) ≤ 20) (h24 : nn (f 24) ≤ 24) (g : Nat → Int64) (t : Nat) : metG f g t = metG f' g t := by
  funext k
  unfold CPoolScalerLaw_law_r4467_227dc4.metG
  rw [← h.dm h24, ← h.lk h23 h24, ← h.pw h23, ← h.lo (k := 14) (by decide), ← h.lo (k := 15) (by decide), ← h.lo (k := 23) (by decide)]
theorem eqN.er {f f' : Nat → Int32} (h : eqN f f') (t : Nat) (d : Int32) : eqN (erF f t d) (erF f' t d) := by
  unfold erF
  rw [← h.lo (k := 6) (by decide), ← h.lo (k := 28) (by decide)]
  split
  · exact h
  · exact h.upd rfl
theorem eqN.erG {f f' : Nat → Int32} (h : eqN f f') (g : Nat → Int64) (t : Nat) (d : Int32) : erG f g t d = erG f' g t d := by
  unfold CPoolScalerLaw_law_r4467_227dc4.erG
  have hm := Nat.mod_lt t (show 0 < 16 by decide)
  rw [← h.lo (k := 6) (by decide), ← h.lo (k := 84 + t % 16) (by omega)]
theorem eqN.bk {f f' : Nat → Int32} (h : eqN f f') (c m : Nat) : bk f c m = bk f' c m := by
  unfold CPoolScalerLaw_law_r4467_227dc4.bk
  have hm := Nat.mod_lt (c - 1 - m) (show 0 < 24 by decide)
  exact h.lo (by omega)
theorem eqN.wn {f f' : Nat → Int32} (h : eqN f f') (c : Nat) : wn f c = wn f' c := by
  unfold CPoolScalerLaw_law_r4467_227dc4.wn
  rw [h.lo (k := 5) (by decide)]
theorem eqN.ws {f f' : Nat → Int32} (h : eqN f f') (c : Nat) : ∀ n, ws f c n = ws f' c n
  | 0 => rfl
  | n + 1 => by
    show CPoolScalerLaw_law_r4467_227dc4.ws f c n + CPoolScalerLaw_law_r4467_227dc4.bk f c n = CPoolScalerLaw_law_r4467_227dc4.ws f' c n + CPoolScalerLaw_law_r4467_227dc4.bk f' c n
    rw [h.ws c n, h.bk c n]
theorem eqN.fo {f f' : Nat → Int32} (h : eqN f f') (c : Nat) : foF f c = foF f' c := by
  unfold foF
  simp only [h.bk, h.wn, h.ws, h.lo (k := 6) (by decide), h.lo (k := 7) (by decide), h.lo (k := 8) (by decide)]
theorem eqN.sz {f f' : Nat → Int32} (h : eqN f f') (x : Int32) : szF f x = szF f' x := by
  unfold szF
  rw [h.lo (k := 0) (by decide), h.lo (k := 1) (by decide), h.lo (k := 2) (by decide), h.lo (k := 3) (by decide)]
theorem eqN.loo {f f' : Nat → Int32} (h : eqN f f') (c t : Nat) : eqN (looF f c t) (looF f' c t) := by
  unfold looF
  rw [← h.fo, ← h.sz, ← h.lo (k := 6) (by decide)]
  exact ((h.upd rfl).upd rfl).upd rfl
theorem ng_cg {l l' : List Mb} {rule : Int32} : ∀ {n : Nat}, (∀ k, k < n → mPrt l k = mPrt l' k ∧ mRdy l k = mRdy l' k) → ng l rule n = ng l' rule n
  | 0, _ => rfl
  | n + 1, h => by
    have i1 := ng_cg (rule := rule) (n := n) (fun k hk => h k (by omega))
    show (if mPrt l n then ng l rule n else match ng l rule n with | none => some n | some b => if ngB l rule n b then some n else some b) = (if mPrt l' n then ng l' rule n else match ng l' rule n with | none => some n | some b => if ngB l' rule n b then some n else some b)
    rw [i1, (h n (by omega)).1]
    cases hq : ng l' rule n with
    | none => rfl
    | some b =>
      have hb := ng_lt hq
      have e : ngB l rule n b = ngB l' rule n b := by
        unfold ngB
        rw [(h n (by omega)).2, (h b (by omega)).2]
      show (if mPrt l' n then some b else if ngB l rule n b then some n else some b) = (if mPrt l' n then some b else if ngB l' rule n b then some n else some b)
      rw [e]
theorem eqN.ng {f f' : Nat → Int32} (h : eqN f f') (h23 : nn (f 23) ≤ 20) : ng (mbs f) (f 9) (mbs f).length = ng (mbs f') (f' 9) (mbs f').length := by
  rw [mbs_len, mbs_len, ← h.lo (k := 23) (by decide), ← h.lo (k := 9) (by decide)]
  refine ng_cg (fun k hk => ?_)
  have hk' : k < nn (f' 23) := by rw [← h.lo (k := 23) (by decide)]; exact hk
  rw [mbs_prt hk, mbs_prt hk', mbs_rdy hk, mbs_rdy hk', h (102 + 4 * k) (by omega) (by omega), h (103 + 4 * k) (by omega) (by omega)]
  exact ⟨rfl, rfl⟩
theorem eqN.de {f f' : Nat → Int32} (h : eqN f f') (h23 : nn (f 23) ≤ 20) (t : Nat) : deF f t = deF f' t := by
  unfold deF
  rw [h.ng h23]
  simp only [h.lo (k := 16) (by decide), h.lo (k := 19) (by decide), h.lo (k := 23) (by decide), h.lo (k := 21) (by decide), h.lo (k := 22) (by decide), h.lo (k := 12) (by decide), h.lo (k := 13) (by decide)]
theorem eqN.dec {f f' : Nat → Int32} (h : eqN f f') (h23 : nn (f 23) ≤ 20) (t : Nat) : eqN (decF f t) (decF f' t) := fun k hk hk2 => by
  unfold decF
  rw [h.de h23, h k hk hk2]
theorem eqN.jo {f f' : Nat → Int32} (h : eqN f f') {a a' b r : Int32} : eqN (joF f a b r) (joF f' a' b r) := by
  unfold joF
  rw [← h.lo (k := 23) (by decide)]
  exact ((((h.updN).upd rfl).upd rfl).upd rfl).upd rfl
theorem eqN.go {f f' : Nat → Int32} (h : eqN f f') (h23 : nn (f 23) ≤ 20) (x : Nat) : eqN (goF f x) (goF f' x) := fun k hk hk2 => by
  unfold goF
  rw [← h.lo (k := 23) (by decide)]
  by_cases e1 : k = 23
  · rw [if_pos e1, if_pos e1]
  · rw [if_neg e1, if_neg e1]
    by_cases e2 : 100 + 4 * x ≤ k ∧ k < 100 + 4 * (nn (f 23) - 1)
    · rw [if_pos e2, if_pos e2]; exact h (k + 4) (by omega) (by omega)
    · rw [if_neg e2, if_neg e2]; exact h k hk hk2
