-- a row while it is told stays good
theorem PoOK.st0 {f f' : Nat → Int32} {g : Nat → Int64} (h : PoOK f g 0 0) (e : ∀ j, 21 ≤ j → f' j = f j) (hb : PoB f') (h7 : f' 7 = 2 → 1 ≤ nn (f' 8)) (h01 : nn (f' 0) ≤ nn (f' 1)) : PoOK f' g 0 0 := by
  obtain ⟨p1, p2, p3, p4, ⟨p5, p5b⟩, p6, p7, p8⟩ := h
  refine ⟨hb, ⟨h7, h01⟩, fun k hk => ?_, fun j hj => ?_, ⟨(e _ (by decide)).trans p5, p5b⟩, fun j h1 h2 => absurd h2 (Nat.not_lt_zero _), fun u h1 h2 h3 => ?_, p8⟩
  · rw [e _ (by omega)]; exact p3 k (by rw [← e 23 (by decide)]; exact hk)
  · rw [e _ (by omega)]; exact p4 j (by rw [← e 24 (by decide)]; exact hj)
  · omega
/-- what the body of a statement leaves of a pool -/
def Bd (f f' : Nat → Int32) : Prop := PoOK f' (fun _ => 0) 0 0 ∧ f' 23 = f 23 ∧ f' 0 = f 0 ∧ (∀ k, k < 20 → f' (100 + 4 * k) = f (100 + 4 * k) ∧ f' (101 + 4 * k) = f (101 + 4 * k))
theorem Bd.u {f : Nat → Int32} {k : Nat} {x : Int32} (h : PoOK f (fun _ => 0) 0 0) (hk : 2 ≤ k ∧ k < 16 ∧ k ≠ 7 ∧ k ≠ 8) (hx : rg x (bLo k) (bHi k)) : Bd f (upd f k x) := by
  refine ⟨h.st0 (fun j hj => pk_un (by omega)) (PoB.upd h.1 (fun _ => hx)) ?_ ?_, pk_un (by omega), pk_un (by omega), fun i hi => ⟨pk_un (by omega), pk_un (by omega)⟩⟩
  · rw [pk_un (by omega), pk_un (by omega)]; exact h.2.1.1
  · rw [pk_un (by omega), pk_un (by omega)]; exact h.2.1.2
theorem Bd.tr {f f' f'' : Nat → Int32} (h : Bd f f') (h' : Bd f' f'') : Bd f f'' := ⟨h'.1, h'.2.1.trans h.2.1, h'.2.2.1.trans h.2.2.1, fun k hk => ⟨(h'.2.2.2 k hk).1.trans (h.2.2.2 k hk).1, (h'.2.2.2 k hk).2.trans (h.2.2.2 k hk).2⟩⟩
theorem Bd.rf {f : Nat → Int32} (h : PoOK f (fun _ => 0) 0 0) : Bd f f := ⟨h, rfl, rfl, fun _ _ => ⟨rfl, rfl⟩⟩
theorem bd_tw {b : Nat → Int32} {n k lo hi : Nat} {e : ER} {f : Nat → Int32} (h : PoOK f (fun _ => 0) 0 0) (hk : 2 ≤ k ∧ k + 1 < 16 ∧ k ≠ 7 ∧ k ≠ 8 ∧ k ≠ 6) (hl : lo ≤ hi ∧ hi < 2 ^ 31) (hb : bLo k = lo ∧ bHi k = hi ∧ bLo (k + 1) = lo ∧ bHi (k + 1) = hi) : Bd f (twF b n e (nI lo) (nI hi) k f) := by
  have h1 : Bd f (upd f k (vlS b n e (nI lo) (nI hi))) := Bd.u h (by omega) (by rw [hb.1, hb.2.1]; exact vlS_rg hl.1 hl.2)
  exact h1.tr (Bd.u h1.1 (by omega) (by rw [hb.2.2.1, hb.2.2.2]; exact vlS_rg hl.1 hl.2))
theorem bd_on {b : Nat → Int32} {n k lo hi : Nat} {e : ER} {f : Nat → Int32} (h : PoOK f (fun _ => 0) 0 0) (hk : 2 ≤ k ∧ k < 16 ∧ k ≠ 7 ∧ k ≠ 8) (hl : lo ≤ hi ∧ hi < 2 ^ 31) (hb : bLo k = lo ∧ bHi k = hi) : Bd f (onF b n e (nI lo) (nI hi) k f) := Bd.u h hk (by rw [hb.1, hb.2]; exact vlS_rg hl.1 hl.2)
theorem bd_se {b : Nat → Int32} {n j : Nat} {e : ER} {f : Nat → Int32} (h : PoOK f (fun _ => 0) 0 0) : Bd f (seF b n e j f) := by
  unfold seF
  split
  · exact bd_tw (lo := 1) (hi := 5) h (by decide) (by decide) (by decide)
  · split
    · exact bd_tw (lo := 0) (hi := 30) h (by decide) (by decide) (by decide)
    · split
      · exact bd_on (lo := 10) (hi := 100) h (by decide) (by decide) (by decide)
      · split
        · exact bd_on (lo := 0) (hi := 9) h (by decide) (by decide) (by decide)
        · split
          · exact bd_on (lo := 1) (hi := 8) h (by decide) (by decide) (by decide)
          · split
            · exact bd_on (lo := 1) (hi := 8) h (by decide) (by decide) (by decide)
            · exact bd_tw (lo := 0) (hi := 99) h (by decide) (by decide) (by decide)
theorem bd_ru {b : Nat → Int32} {n p : Nat} {f : Nat → Int32} (h : PoOK f (fun _ => 0) 0 0) : Bd f (ruF b n p f) := by
  unfold ruF
  split
  · exact Bd.u h (by decide) (rg_I (k := 0) (a := 0) (b := 2) (by decide) (by decide) (by decide))
  · split
    · exact Bd.u h (by decide) (rg_I (k := 1) (a := 0) (b := 2) (by decide) (by decide) (by decide))
    · split
      · exact Bd.u h (by decide) (rg_I (k := 2) (a := 0) (b := 2) (by decide) (by decide) (by decide))
      · exact Bd.rf h
theorem Bd.u7 {f : Nat → Int32} {x y : Int32} (h : PoOK f (fun _ => 0) 0 0) (hx : rg x 0 2) (hy : rg y 0 24) (h2 : x = 2 → 1 ≤ nn y) : Bd f (upd (upd f 7 x) 8 y) := by
  refine ⟨h.st0 (fun j hj => by rw [pk_un (by omega), pk_un (by omega)]) (PoB.upd (PoB.upd h.1 (fun _ => hx)) (fun _ => hy)) ?_ ?_, by rw [pk_un (by decide), pk_un (by decide)], by rw [pk_un (by decide), pk_un (by decide)], fun i hi => ⟨by rw [pk_un (by omega), pk_un (by omega)], by rw [pk_un (by omega), pk_un (by omega)]⟩⟩
  · rw [pk_un (by decide), pk_us, pk_us]; exact h2
  · rw [pk_un (by decide), pk_un (by decide), pk_un (by decide), pk_un (by decide)]; exact h.2.1.2
theorem upd_eq {f : Nat → Int32} {k : Nat} : upd f k (f k) = f := by
  funext j
  by_cases q : j = k
  · subst q; rw [pk_us]
  · rw [pk_un q]
theorem bd_pl {b : Nat → Int32} {n p : Nat} {f : Nat → Int32} (h : PoOK f (fun _ => 0) 0 0) : Bd f (plF b n p f) := by
  have h8 : rg (f 8) 0 24 := h.at 8
  have e8 : ∀ x, upd (upd f 7 x) 8 (f 8) = upd f 7 x := fun x => by
    have : f 8 = upd f 7 x 8 := (pk_un (by decide)).symm
    rw [this]; exact upd_eq
  unfold plF
  split
  · rw [← e8]
    exact Bd.u7 h (rg_I (k := 0) (by decide) (by decide) (by decide)) h8 (fun q => absurd q (by decide))
  · split
    · rw [← e8]
      exact Bd.u7 h (rg_I (k := 1) (by decide) (by decide) (by decide)) h8 (fun q => absurd q (by decide))
    · split
      · have z : rg (vlS b n (0, tE b n p) 2 24) 2 24 := vlS_rg (lo := 2) (hi := 24) (by decide) (by decide)
        exact Bd.u7 h (rg_I (k := 2) (by decide) (by decide) (by decide)) (z.wk (by decide) (Nat.le_refl _)) (fun _ => by have := z.2.1; omega)
      · exact Bd.rf h
theorem bd_ld {f : Nat → Int32} {i : Nat} {x : Int32} (h : PoOK f (fun _ => 0) 0 0) (hi : i ≤ nn (f 24)) (h24 : i < 24) (hx : rg x 0 999) : Bd f (ldU f i x) := by
  have e : ∀ j, j ≠ 24 → j < 36 ∨ 60 ≤ j → ldU f i x j = f j := fun j h1 h2 => by unfold ldU; rw [pk_un h1, pk_un (by omega)]
  have e24 : nn (ldU f i x 24) = i + 1 := ldU_24 h24
  refine ⟨⟨fun k hk => ?_, ⟨fun q => ?_, ?_⟩, fun k hk => ?_, fun j hj => ?_, ⟨?_, h.2.2.2.2.1.2⟩, fun j h1 h2 => absurd h2 (Nat.not_lt_zero _), fun u h1 h2 h3 => ?_, h.2.2.2.2.2.2.2⟩, e 23 (by decide) (by decide), e 0 (by decide) (by decide), fun k hk => ⟨e _ (by omega) (by omega), e _ (by omega) (by omega)⟩⟩
  · have := bOk_lt hk
    by_cases q : k = 24
    · subst q
      unfold ldU
      rw [pk_us]; exact rg_I (a := 0) (b := 24) (Nat.zero_le _) (by omega) (by decide)
    · rw [e k q (by omega)]; exact h.1 k hk
  · rw [e 7 (by decide) (by decide)] at q
    rw [e 8 (by decide) (by decide)]; exact h.2.1.1 q
  · rw [e 0 (by decide) (by decide), e 1 (by decide) (by decide)]; exact h.2.1.2
  · have y23 : nn (f 23) ≤ 20 := (h.at 23).2.2
    rw [e 23 (by decide) (by decide)] at hk
    rw [e _ (by omega) (by omega)]; exact h.2.2.1 k hk
  · rw [e24] at hj
    unfold ldU
    rw [pk_un (by omega)]
    by_cases q : j = i
    · subst q; rw [pk_us]; exact hx
    · rw [pk_un (by omega)]; exact h.2.2.2.1 j (by omega)
  · rw [e 29 (by decide) (by decide)]; exact h.2.2.2.2.1.1
  · rw [e 6 (by decide) (by decide)] at h2 h3; omega
theorem bd_ldR {b : Nat → Int32} {n : Nat} : ∀ (k i : Nat) (e : ER) (f : Nat → Int32), PoOK f (fun _ => 0) 0 0 → nn (f 24) = i → i + k ≤ 24 → Bd f (ldR b n k i e f).2
  | 0, _, _, _, h, _, _ => Bd.rf h
  | k + 1, i, e, f, h, hi, h24 => by
    by_cases q : e.1 = 0 ∧ ¬ tC b n e.2 = 3
    · rw [ldR_st q.1 q.2]
      have z := bd_ld (x := vlS b n e 0 999) h (by rw [hi]; exact Nat.le_refl _) (by omega) (vlS_rg (lo := 0) (hi := 999) (by decide) (by decide))
      exact z.tr (bd_ldR k (i + 1) _ _ z.1 (ldU_24 (by omega)) (by omega))
    · have e9 : ldR b n (k + 1) i e f = (smiS b n e, f) := if_neg q
      rw [e9]; exact Bd.rf h
theorem bd_lo {b : Nat → Int32} {n : Nat} {e : ER} {f : Nat → Int32} (h : PoOK f (fun _ => 0) 0 0) : Bd f (loE b n e f).2 := by
  have z := bd_ld (x := vlS b n e 0 999) h (Nat.zero_le _) (by decide) (vlS_rg (lo := 0) (hi := 999) (by decide) (by decide))
  exact z.tr (bd_ldR 23 1 _ _ z.1 (ldU_24 (by decide)) (by decide))
theorem pr_k {b : Nat → Int32} {n p : Nat} {f : Nat → Int32} (h : PoOK f (fun _ => 0) 0 0) (hC : nmC b n p 0 (f 0 - 1) = 0) : ∃ k, k < nn (f 0) ∧ tV b n p = nI k ∧ nn (tV b n p) = k := by
  obtain ⟨a, a1, a2, a3⟩ := (h.at 0).nat
  have a2' : a ≤ 20 := a2
  have hlh : 0 ≤ tV b n p ∧ tV b n p ≤ f 0 - 1 := by
    unfold nmC at hC
    split at hC
    · split at hC
      · next q => exact q
      · exact absurd hC (by decide)
    · exact absurd hC (by decide)
  obtain ⟨c1, c2⟩ := hlh
  rw [a3] at c2
  rw [a3, nn_I (by omega)]
  cases a with
  | zero =>
    have z : (0 : Int32) ≤ nI 0 - 1 := Int32.le_trans c1 c2
    exact absurd z (by decide)
  | succ a =>
    rw [nI_s1 (by omega), Nat.add_sub_cancel] at c2
    obtain ⟨k, k1, k2, k3⟩ := rgB_t (x := tV b n p) (a := 0) (b := a) (decide_eq_true ⟨c1, c2⟩) (by omega) (by decide)
    exact ⟨k, by omega, k3, by rw [k3]; exact nn_I (by omega)⟩
theorem bd_pr {b : Nat → Int32} {n p : Nat} {f : Nat → Int32} (h : PoOK f (fun _ => 0) 0 0) (h23 : f 23 = f 0) : Bd f (prU b n p f) := by
  unfold prU
  split
  · next hC =>
    obtain ⟨k, k1, k2, k3⟩ := pr_k h hC
    have y23 : nn (f 23) ≤ 20 := (h.at 23).2.2
    rw [k3]
    refine ⟨h.pr (by rw [h23]; exact k1) (Or.inr rfl), pk_un (by omega), pk_un (by omega), fun i hi => ⟨pk_un (by omega), pk_un (by omega)⟩⟩
  · exact Bd.rf h
theorem bd_bdy {b : Nat → Int32} {n p j : Nat} {f : Nat → Int32} (h : PoOK f (fun _ => 0) 0 0) (h23 : f 23 = f 0) : Bd f (bdy b n p j f).2 := by
  unfold bdy
  split
  · exact bd_lo h
  · split
    · exact bd_pr h h23
    · split
      · exact bd_pl h
      · split
        · exact bd_ru h
        · exact bd_se h
