-- what the phases of a tick do to a row, and keep
theorem metF_o {f : Nat → Int32} {t k : Nat} (hk : k < 20 ∨ 20 < k ∧ k < 25 ∨ k = 28 ∨ 29 < k ∧ k < 60 ∨ 84 ≤ k) : metF f t k = f k := by
  unfold metF
  rw [pk_un (by omega), pk_un (by omega), pk_un (by omega), pk_un (by omega), pk_un (by omega), pk_un (by omega)]
theorem metF_d {f : Nat → Int32} {t j : Nat} (hj : j < 24) (e : j ≠ t % 24) : metF f t (60 + j) = f (60 + j) := by
  unfold metF
  rw [pk_un (by omega), pk_un (by omega), pk_un (by omega), pk_un (by omega), pk_un (by omega), pk_un (by omega)]
theorem metF_s {f : Nat → Int32} {t : Nat} : metF f t (60 + t % 24) = dmA f t 0 := by
  unfold metF
  rw [pk_un (by omega), pk_un (by omega), pk_un (by omega), pk_un (by omega), pk_us]
theorem metF_20 {f : Nat → Int32} {t : Nat} : metF f t 20 = 0 := by
  unfold metF
  rw [pk_un (by omega), pk_un (by omega), pk_un (by omega), pk_un (by omega), pk_un (by omega), pk_us]
theorem metF_29 {f : Nat → Int32} {t : Nat} : metF f t 29 = f 29 + 1 := by
  unfold metF
  rw [pk_un (by omega), pk_un (by omega), pk_un (by omega), pk_us]
theorem metF_25 {f : Nat → Int32} {t : Nat} : metF f t 25 = imx (f 25) (dmA f t 0) := by
  unfold metF
  rw [pk_un (by omega), pk_un (by omega), pk_us]
theorem metF_26 {f : Nat → Int32} {t : Nat} : metF f t 26 = if 0 < lkF f t then f 26 + 1 else 0 := by
  unfold metF
  rw [pk_un (by omega), pk_us]
theorem metF_27 {f : Nat → Int32} {t : Nat} : metF f t 27 = imx (f 27) (if 0 < lkF f t then f 26 + 1 else 0) := pk_us
theorem mbs_metF {f : Nat → Int32} {t : Nat} : mbs (metF f t) = mbs f := mbs_cg (metF_o (by omega)) (fun k _ => metF_o (by omega))
theorem lds_metF {f : Nat → Int32} {t : Nat} (h : nn (f 24) ≤ 24) : lds (metF f t) = lds f := lds_cg (metF_o (by omega)) (fun k _ => metF_o (by omega))
theorem erF_o {f : Nat → Int32} {t k : Nat} {d : Int32} (hk : k ≠ 28) : erF f t d k = f k := by
  unfold erF
  split
  · rfl
  · exact pk_un hk
theorem mbs_erF {f : Nat → Int32} {t : Nat} {d : Int32} : mbs (erF f t d) = mbs f := mbs_cg (erF_o (by omega)) (fun k _ => erF_o (by omega))
theorem lds_erF {f : Nat → Int32} {t : Nat} {d : Int32} (h : nn (f 24) ≤ 24) : lds (erF f t d) = lds f := lds_cg (erF_o (by omega)) (fun k _ => erF_o (by omega))
theorem looF_o {f : Nat → Int32} {c t k : Nat} (hk : k < 18 ∨ 19 < k ∧ k < 84 ∨ 100 ≤ k) : looF f c t k = f k := by
  unfold looF
  rw [pk_un (by omega), pk_un (by omega), pk_un (by omega)]
theorem looF_m {f : Nat → Int32} {c t j : Nat} (hj : j < 16) (e : j ≠ (t + nn (f 6)) % 16) : looF f c t (84 + j) = f (84 + j) := by
  unfold looF
  rw [pk_un (by omega), pk_un (by omega), pk_un (by omega)]
theorem looF_s {f : Nat → Int32} {c t : Nat} : looF f c t (84 + (t + nn (f 6)) % 16) = foF f c := by
  unfold looF
  rw [pk_un (by omega), pk_us]
theorem looF_18 {f : Nat → Int32} {c t : Nat} : looF f c t 18 = foF f c := by
  unfold looF
  rw [pk_un (by omega), pk_un (by omega), pk_us]
theorem looF_19 {f : Nat → Int32} {c t : Nat} : looF f c t 19 = szF f (foF f c) := pk_us
theorem mbs_looF {f : Nat → Int32} {c t : Nat} : mbs (looF f c t) = mbs f := mbs_cg (looF_o (by omega)) (fun k _ => looF_o (by omega))
theorem lds_looF {f : Nat → Int32} {c t : Nat} (h : nn (f 24) ≤ 24) : lds (looF f c t) = lds f := lds_cg (looF_o (by omega)) (fun k _ => looF_o (by omega))
theorem decF_o {f : Nat → Int32} {t k : Nat} (hk : k < 17 ∨ 17 < k ∧ k < 21 ∨ 22 < k ∧ k < 30 ∨ 36 ≤ k) : decF f t k = f k := by
  have := deF_lt f t
  unfold decF
  rw [if_neg (by omega), if_neg (by omega), if_neg (by omega), if_neg (by omega)]
theorem decF_17 {f : Nat → Int32} {t : Nat} : decF f t 17 = nI (deF f t) := if_pos rfl
theorem decF_21 {f : Nat → Int32} {t : Nat} : decF f t 21 = if deF f t = 0 then nI t else f 21 := by
  unfold decF
  rw [if_neg (by omega), if_neg (by omega), if_pos rfl]
theorem decF_22 {f : Nat → Int32} {t : Nat} : decF f t 22 = if deF f t ≤ 1 then nI t else f 22 := by
  unfold decF
  rw [if_neg (by omega), if_neg (by omega), if_neg (by omega), if_pos rfl]
theorem decF_d {f : Nat → Int32} {t k : Nat} (hk : k < 6) : decF f t (30 + k) = if k = deF f t then f (30 + k) + 1 else f (30 + k) := by
  have := deF_lt f t
  unfold decF
  rw [if_neg (by omega)]
  by_cases e : k = deF f t
  · rw [if_pos (by omega), if_pos e]
  · rw [if_neg (by omega), if_neg (by omega), if_neg (by omega), if_neg e]
theorem mbs_decF {f : Nat → Int32} {t : Nat} : mbs (decF f t) = mbs f := mbs_cg (decF_o (by omega)) (fun k _ => decF_o (by omega))
theorem lds_decF {f : Nat → Int32} {t : Nat} (h : nn (f 24) ≤ 24) : lds (decF f t) = lds f := lds_cg (decF_o (by omega)) (fun k _ => decF_o (by omega))
theorem joF_o {f : Nat → Int32} {a b r : Int32} {k : Nat} (hk : k < 23 ∨ 23 < k ∧ k < 100) : joF f a b r k = f k := by
  unfold joF
  rw [pk_un (by omega), pk_un (by omega), pk_un (by omega), pk_un (by omega), pk_un (by omega)]
theorem goF_o {f : Nat → Int32} {x k : Nat} (hk : k < 23 ∨ 23 < k ∧ k < 100) : goF f x k = f k := by
  unfold goF
  rw [if_neg (by omega), if_neg (by omega)]
theorem lds_joF {f : Nat → Int32} {a b r : Int32} (h : nn (f 24) ≤ 24) : lds (joF f a b r) = lds f := lds_cg (joF_o (by omega)) (fun k _ => joF_o (by omega))
theorem lds_goF {f : Nat → Int32} {x : Nat} (h : nn (f 24) ≤ 24) : lds (goF f x) = lds f := lds_cg (goF_o (by omega)) (fun k _ => goF_o (by omega))
theorem bOk_lt {k : Nat} (h : bOk k = true) : k < 25 ∧ k ≠ 17 ∧ k ≠ 18 ∧ k ≠ 19 ∧ k ≠ 21 ∧ k ≠ 22 := by
  unfold bOk at h
  simp only [Bool.and_eq_true, Bool.not_eq_true', Bool.or_eq_false_iff, beq_eq_false_iff_ne] at h
  obtain ⟨h1, ⟨⟨⟨h2, h3⟩, h4⟩, h5⟩, h6⟩ := h
  exact ⟨Nat.le_of_ble_eq_true h1, h2, h3, h4, h5, h6⟩
theorem ldA_rg {f : Nat → Int32} {t : Nat} (h : ∀ j, j < nn (f 24) → rg (f (36 + j)) 0 999) : rg (ldA (lds f) t) 0 999 := by
  unfold ldA
  rw [lds_len]
  split
  · exact rg_I (k := 0) (by omega) (by omega) (by omega)
  · have hm : t % nn (f 24) < nn (f 24) := Nat.mod_lt _ (by omega)
    rw [lds_at hm]
    exact h _ hm
theorem rg_add {x y : Int32} {a b a' b' : Nat} (hx : rg x a b) (hy : rg y a' b') (hb : b + b' < 2 ^ 31) : rg (x + y) (a + a') (b + b') := by
  obtain ⟨n, h1, h2, rfl⟩ := hx.nat
  obtain ⟨m, h3, h4, rfl⟩ := hy.nat
  rw [nI_add]
  exact rg_I (by omega) (by omega) hb
theorem rg_ge {x : Int32} {a b : Nat} (hx : rg x a b) (hb : b < 2 ^ 31) : ¬ x < 0 := by
  obtain ⟨n, h1, h2, rfl⟩ := hx.nat
  exact nI_pos (by omega)
theorem dmA_rg {f : Nat → Int32} {g : Nat → Int64} {c t u a : Nat} (h : PoOK f g c t) : rg (dmA f u a) 0 1998 := by
  unfold dmA
  refine rg_add (b := 999) (b' := 999) (a := 0) (a' := 0) (ldA_rg h.2.2.2.1) ?_ (by omega)
  split
  · exact h.at 20
  · exact rg_I (k := 0) (by omega) (by omega) (by omega)
theorem bk_rg {f : Nat → Int32} {g : Nat → Int64} {c t m : Nat} (h : PoOK f g c t) (hc : m < c) : rg (bk f c m) 0 1998 := by
  unfold bk
  refine h.2.2.2.2.2.1 _ (Nat.mod_lt _ (by decide)) ?_
  rcases Nat.lt_or_ge (c - 1 - m) 24 with q | q
  · rw [Nat.mod_eq_of_lt q]; omega
  · have := Nat.mod_lt (c - 1 - m) (show 0 < 24 by decide); omega
theorem ws_rg {f : Nat → Int32} {g : Nat → Int64} {c t : Nat} (h : PoOK f g c t) : ∀ n, n ≤ c → n ≤ 24 → rg (ws f c n) 0 (1998 * n)
  | 0, _, _ => rg_I (k := 0) (by omega) (by omega) (by omega)
  | n + 1, h1, h2 => by
    have := rg_add (ws_rg h n (by omega) (by omega)) (bk_rg h (m := n) (by omega)) (by omega)
    exact this.wk (by omega) (by omega)
theorem dUp_I {a b : Nat} (hb : 0 < b) (h : a + b < 2 ^ 31) : dUp (nI a) (nI b) = nI ((a + b - 1) / b) := by
  unfold dUp
  have y : ¬ nI b ≤ 0 := fun q => absurd ((nI_leI (b := 0) (by omega) (by decide)).mp q) (by omega)
  rw [if_neg y, nI_add, nI_s1 (by omega), pk_div (by omega) (by omega) (by omega)]
theorem imx_nn {x : Int32} : ¬ imx 0 x < 0 := by
  unfold imx
  split
  · next h => exact fun q => absurd (Int32.lt_trans h q) Int32.lt_irrefl
  · exact Int32.lt_irrefl
theorem foF_nn {f : Nat → Int32} {g : Nat → Int64} {c t : Nat} (h : PoOK f g c t) (hc : 0 < c) : ¬ foF f c < 0 := by
  have z5 : rg (f 5) 1 8 := h.at 5
  have z6 : rg (f 6) 1 8 := h.at 6
  have hcb := h.2.2.2.2.1.2.1
  have hw : wn f c ≤ 8 ∧ wn f c ≤ c ∧ 0 < wn f c := by
    have := z5.2.1
    have := z5.2.2
    unfold wn
    omega
  unfold foF
  split
  · exact imx_nn
  · split
    · refine rg_ge (bk_rg h ?_) (by decide)
      split
      · next q7 q =>
        have z8 : rg (f 8) 1 24 := ⟨(h.at 8).1, h.2.1.1 q7, (h.at 8).2.2⟩
        obtain ⟨ld, l1, l2, l3⟩ := z6.nat
        obtain ⟨pe, p1, p2, p3⟩ := z8.nat
        have q1 := Nat.div_add_mod (ld + pe - 1) pe
        have q2 := Nat.mod_lt (ld + pe - 1) (show 0 < pe by omega)
        rw [Nat.mul_comm] at q1
        rw [l3, p3, dUp_I (by omega) (by omega), pk_mul, pk_sub (by omega)] at q ⊢
        rw [nn_I (by omega)]
        exact (nI_ltI (by omega) (by omega)).mp q
      · exact hc
    · obtain ⟨s, s1, s2, s3⟩ := (ws_rg h (wn f c) hw.2.1 (by omega)).nat
      rw [s3, dUp_I hw.2.2 (by omega)]
      have := Nat.div_le_self (s + wn f c - 1) (wn f c)
      exact nI_pos (by omega)
theorem szF_rg {f : Nat → Int32} {g : Nat → Int64} {c t : Nat} {x : Int32} (h : PoOK f g c t) : rg (szF f x) 0 20 := by
  obtain ⟨a, a1, a2, a3⟩ := (h.at 0).nat
  obtain ⟨b, b1, b2, b3⟩ := (h.at 1).nat
  have a2' : a ≤ 20 := a2
  have b2' : b ≤ 20 := b2
  have hge : ¬ szF f x < 0 := by
    unfold szF
    rw [a3, b3]
    unfold imn
    split
    · unfold imx
      split
      · next h9 => exact fun q => absurd (Int32.lt_trans h9 q) (nI_pos (by omega))
      · exact nI_pos (by omega)
    · exact nI_pos (by omega)
  have hle : szF f x ≤ 20 := by
    unfold szF
    rw [b3]
    have h9 : nI b ≤ 20 := (nI_leI (b := 20) (by omega) (by decide)).mpr b2'
    unfold imn
    split
    · next q => exact Int32.le_trans (Int32.le_of_lt q) h9
    · exact h9
  obtain ⟨j, j1, j2⟩ := nI_of2 (M := 20) (n := 20) rfl hge hle
  rw [j2]
  exact rg_I (by omega) (by omega) (by omega)
theorem pwN_le {f : Nat → Int32} {x : Int32} : pwN f x ≤ nn (f 23) := by
  unfold pwN
  rw [mbs_len]
  exact cn_le _ _
theorem pwF_rg {f : Nat → Int32} {g : Nat → Int64} {c t : Nat} {x : Int32} (h : PoOK f g c t) : rg (pwF f x) 0 2000 := by
  obtain ⟨a, a1, a2, a3⟩ := (h.at 2).nat
  have a2' : a ≤ 100 := a2
  have b1 : pwN f x ≤ 20 := Nat.le_trans pwN_le (h.at 23).2.2
  have b2 : a * pwN f x ≤ 100 * 20 := Nat.mul_le_mul a2' b1
  unfold pwF
  rw [a3, pk_mul]
  exact rg_I (by omega) (by omega) (by omega)
theorem lk_split {d p : Int32} (hd : rg d 0 1998) (hp : rg p 0 2000) : ∃ m k : Nat, m ≤ k ∧ k ≤ 1998 ∧ d = nI k ∧ imx 0 (d - p) = nI m := by
  obtain ⟨k, k1, k2, rfl⟩ := hd.nat
  obtain ⟨j, j1, j2, rfl⟩ := hp.nat
  rcases Nat.lt_or_ge k j with q | q
  · refine ⟨0, k, by omega, k2, rfl, ?_⟩
    unfold imx
    rw [if_neg (fun z => absurd (Int32.lt_trans z (pk_sneg (by omega) q)) Int32.lt_irrefl)]
    rfl
  · refine ⟨k - j, k, by omega, k2, rfl, ?_⟩
    rw [pk_sub q]
    exact (imx_I (a := 0) (by decide) (by omega)).trans (by rw [Nat.max_eq_right (by omega)])
theorem sum_split {a b : Int64} {m k : Nat} (h : m ≤ k) (hk : k ≤ 1998) : a + b + (nI k).toInt64 = (a + (nI k - nI m).toInt64) + (b + (nI m).toInt64) := by
  have e : (nI k).toInt64 = (nI k - nI m).toInt64 + (nI m).toInt64 := by
    rw [pk_sub h, nI_l (by omega), nI_l (by omega), nI_l (by omega), lN_add, Nat.sub_add_cancel h]
  rw [e]
  rw [Int64.add_assoc, Int64.add_assoc, ← Int64.add_assoc b, Int64.add_comm b, Int64.add_assoc]
theorem PoOK.met {f : Nat → Int32} {g : Nat → Int64} {t : Nat} (h : PoOK f g t t) (ht : t + 1 < 2 ^ 30) : PoOK (metF f t) (metG f g t) (t + 1) t := by
  refine ⟨fun k hk => ?_, ⟨fun q => ?_, ?_⟩, fun k hk => ?_, fun j hj => ?_, ⟨?_, ht, by omega⟩, fun j h1 h2 => ?_, fun u h1 h2 h3 => ?_, ?_⟩
  · have hb := bOk_lt hk
    by_cases e : k = 20
    · subst e; rw [metF_20]; exact rg_I (k := 0) (by decide) (by decide) (by decide)
    · rw [metF_o (by omega)]; exact h.1 k hk
  · rw [metF_o (by omega)] at q ⊢; exact h.2.1.1 q
  · rw [metF_o (by omega), metF_o (by omega)]; exact h.2.1.2
  · rw [metF_o (by omega)] at hk ⊢; exact h.2.2.1 k hk
  · rw [metF_o (by omega)] at hj
    have z := (h.at 24).2.2
    have z2 : bHi 24 = 24 := rfl
    rw [metF_o (by omega)]; exact h.2.2.2.1 j hj
  · rw [metF_29, h.2.2.2.2.1.1, nI_1]
  · by_cases e : j = t % 24
    · subst e; rw [metF_s]; exact dmA_rg h
    · rw [metF_d h1 e]
      exact h.2.2.2.2.2.1 j h1 (by omega)
  · rw [metF_o (by omega)] at h2 h3
    rw [metF_o (by omega)]; exact h.2.2.2.2.2.2.1 u h1 h2 h3
  · show g 4 + (dmA f t 0).toInt64 = (g 0 + (dmA f t 0 - lkF f t).toInt64) + (g 1 + (lkF f t).toInt64)
    obtain ⟨m, k, m1, m2, m3, m4⟩ := lk_split (dmA_rg (u := t) (a := 0) h) (pwF_rg (x := nI t) h)
    have m5 : lkF f t = nI m := m4
    rw [h.2.2.2.2.2.2.2, m5, m3]
    exact sum_split m1 m2
theorem PoOK.er {f : Nat → Int32} {g : Nat → Int64} {c t u : Nat} {d : Int32} (h : PoOK f g c t) : PoOK (erF f u d) (erG f g u d) c t := by
  have hG : ∀ k, k ≠ 3 → erG f g u d k = g k := fun k hk => by
    unfold erG
    split
    · rfl
    · exact pk_uLn hk
  refine ⟨fun k hk => ?_, ⟨fun q => ?_, ?_⟩, fun k hk => ?_, fun j hj => ?_, ⟨?_, h.2.2.2.2.1.2⟩, fun j h1 h2 => ?_, fun u h1 h2 h3 => ?_, ?_⟩
  · have hb := bOk_lt hk
    rw [erF_o (by omega)]; exact h.1 k hk
  · rw [erF_o (by omega)] at q ⊢; exact h.2.1.1 q
  · rw [erF_o (by omega), erF_o (by omega)]; exact h.2.1.2
  · rw [erF_o (by omega)] at hk ⊢; exact h.2.2.1 k hk
  · rw [erF_o (by omega)] at hj
    have z := (h.at 24).2.2
    have z2 : bHi 24 = 24 := rfl
    rw [erF_o (by omega)]; exact h.2.2.2.1 j hj
  · rw [erF_o (by omega)]; exact h.2.2.2.2.1.1
  · rw [erF_o (by omega)]; exact h.2.2.2.2.2.1 j h1 (by omega)
  · rw [erF_o (by omega)] at h2 h3
    rw [erF_o (by omega)]; exact h.2.2.2.2.2.2.1 u h1 h2 h3
  · rw [hG 4 (by decide), hG 0 (by decide), hG 1 (by decide)]; exact h.2.2.2.2.2.2.2
theorem PoOK.loo {f : Nat → Int32} {g : Nat → Int64} {t : Nat} (h : PoOK f g (t + 1) t) : PoOK (looF f (t + 1) t) g (t + 1) (t + 1) := by
  have z6 := (h.at 6).2.2
  have y6 : bHi 6 = 8 := rfl
  refine ⟨fun k hk => ?_, ⟨fun q => ?_, ?_⟩, fun k hk => ?_, fun j hj => ?_, ⟨?_, h.2.2.2.2.1.2.1, by have := h.2.2.2.2.1.2.1; omega⟩, fun j h1 h2 => ?_, fun u h1 h2 h3 => ?_, ?_⟩
  · have hb := bOk_lt hk
    rw [looF_o (by omega)]; exact h.1 k hk
  · rw [looF_o (by omega)] at q ⊢; exact h.2.1.1 q
  · rw [looF_o (by omega), looF_o (by omega)]; exact h.2.1.2
  · rw [looF_o (by omega)] at hk ⊢; exact h.2.2.1 k hk
  · rw [looF_o (by omega)] at hj
    have z := (h.at 24).2.2
    have z2 : bHi 24 = 24 := rfl
    rw [looF_o (by omega)]; exact h.2.2.2.1 j hj
  · rw [looF_o (by omega)]; exact h.2.2.2.2.1.1
  · rw [looF_o (by omega)]; exact h.2.2.2.2.2.1 j h1 (by omega)
  · rw [looF_o (by omega)] at h2 h3
    by_cases e : u = t + nn (f 6)
    · subst e; rw [looF_s]; exact foF_nn h (by omega)
    · rw [looF_m (Nat.mod_lt _ (by decide)) (by omega)]
      exact h.2.2.2.2.2.2.1 u (by omega) (by omega) h3
  · exact h.2.2.2.2.2.2.2
theorem PoOK.dec {f : Nat → Int32} {g : Nat → Int64} {c t u : Nat} (h : PoOK f g c t) : PoOK (decF f u) g c t := by
  refine ⟨fun k hk => ?_, ⟨fun q => ?_, ?_⟩, fun k hk => ?_, fun j hj => ?_, ⟨?_, h.2.2.2.2.1.2⟩, fun j h1 h2 => ?_, fun u h1 h2 h3 => ?_, h.2.2.2.2.2.2.2⟩
  · have hb := bOk_lt hk
    rw [decF_o (by omega)]; exact h.1 k hk
  · rw [decF_o (by omega)] at q ⊢; exact h.2.1.1 q
  · rw [decF_o (by omega), decF_o (by omega)]; exact h.2.1.2
  · rw [decF_o (by omega)] at hk ⊢; exact h.2.2.1 k hk
  · rw [decF_o (by omega)] at hj
    have z := (h.at 24).2.2
    have z2 : bHi 24 = 24 := rfl
    rw [decF_o (by omega)]; exact h.2.2.2.1 j hj
  · rw [decF_o (by omega)]; exact h.2.2.2.2.1.1
  · rw [decF_o (by omega)]; exact h.2.2.2.2.2.1 j h1 (by omega)
  · rw [decF_o (by omega)] at h2 h3
    rw [decF_o (by omega)]; exact h.2.2.2.2.2.2.1 u h1 h2 h3
