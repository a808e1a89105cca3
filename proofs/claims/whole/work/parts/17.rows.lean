-- the row of numbers of a pool: f (180 ints), g (6 longs); c its ticks so far, t the time of its forecasts
def nn (x : Int32) : Nat := x.toNatClampNeg
def rg (x : Int32) (a b : Nat) : Prop := x = nI (nn x) ∧ a ≤ nn x ∧ nn x ≤ b
theorem nn_I {k : Nat} (h : k < 2 ^ 31) : nn (nI k) = k := nI_clamp h
theorem rg_I {k a b : Nat} (h1 : a ≤ k) (h2 : k ≤ b) (hb : b < 2 ^ 31) : rg (nI k) a b := by
  have e : nn (nI k) = k := nn_I (by omega)
  exact ⟨by rw [e], by rw [e]; exact h1, by rw [e]; exact h2⟩
theorem rg.wk {x : Int32} {a b a' b' : Nat} (h : rg x a b) (h1 : a' ≤ a) (h2 : b ≤ b') : rg x a' b' := ⟨h.1, by have := h.2.1; omega, by have := h.2.2; omega⟩
theorem rg.nat {x : Int32} {a b : Nat} (h : rg x a b) : ∃ n, a ≤ n ∧ n ≤ b ∧ x = nI n := ⟨nn x, h.2.1, h.2.2, h.1⟩
theorem rg_01 {b : Bool} : rg (bI b) 0 1 := by
  cases b
  · exact rg_I (k := 0) (by omega) (by omega) (by omega)
  · exact rg_I (k := 1) (by omega) (by omega) (by omega)
theorem rg_imn {x y : Int32} {a b a' b' : Nat} (hx : rg x a b) (hy : rg y a' b') (hb : b < 2 ^ 31) (hb' : b' < 2 ^ 31) : imn x y = nI (min (nn x) (nn y)) := by
  obtain ⟨n, h1, h2, rfl⟩ := hx.nat
  obtain ⟨m, h3, h4, rfl⟩ := hy.nat
  rw [nn_I (by omega), nn_I (by omega)]
  unfold imn
  by_cases q : m < n
  · rw [if_pos ((nI_ltI (by omega) (by omega)).mpr q), Nat.min_eq_right (by omega)]
  · rw [if_neg (fun z => q ((nI_ltI (by omega) (by omega)).mp z)), Nat.min_eq_left (by omega)]
theorem rg_imx {x y : Int32} {a b a' b' : Nat} (hx : rg x a b) (hy : rg y a' b') (hb : b < 2 ^ 31) (hb' : b' < 2 ^ 31) : imx x y = nI (max (nn x) (nn y)) := by
  obtain ⟨n, h1, h2, rfl⟩ := hx.nat
  obtain ⟨m, h3, h4, rfl⟩ := hy.nat
  rw [nn_I (by omega), nn_I (by omega)]
  unfold imx
  by_cases q : n < m
  · rw [if_pos ((nI_ltI (by omega) (by omega)).mpr q), Nat.max_eq_right (by omega)]
  · rw [if_neg (fun z => q ((nI_ltI (by omega) (by omega)).mp z)), Nat.max_eq_left (by omega)]
theorem imn_I {a b : Nat} (ha : a < 2 ^ 31) (hb : b < 2 ^ 31) : imn (nI a) (nI b) = nI (min a b) := by
  have h := rg_imn (rg_I (Nat.le_refl a) (Nat.le_refl a) ha) (rg_I (Nat.le_refl b) (Nat.le_refl b) hb) ha hb
  rwa [nn_I ha, nn_I hb] at h
theorem imx_I {a b : Nat} (ha : a < 2 ^ 31) (hb : b < 2 ^ 31) : imx (nI a) (nI b) = nI (max a b) := by
  have h := rg_imx (rg_I (Nat.le_refl a) (Nat.le_refl a) ha) (rg_I (Nat.le_refl b) (Nat.le_refl b) hb) ha hb
  rwa [nn_I ha, nn_I hb] at h
-- members, loads, sums as the row has them
def mbA (f : Nat → Int32) (k : Nat) : Mb := (f (100 + 4 * k), f (101 + 4 * k), f (102 + 4 * k), decide (f (103 + 4 * k) = 1))
def mbs (f : Nat → Int32) : List Mb := (List.range (nn (f 23))).map (mbA f)
def lds (f : Nat → Int32) : List Int32 := (List.range (nn (f 24))).map fun j => f (36 + j)
theorem mbs_len (f : Nat → Int32) : (mbs f).length = nn (f 23) := by simp [mbs]
theorem lds_len (f : Nat → Int32) : (lds f).length = nn (f 24) := by simp [lds]
theorem mbs_at {f : Nat → Int32} {k : Nat} (h : k < nn (f 23)) : (mbs f).getD k mD = mbA f k := by
  rw [List.getD_eq_getElem?_getD]; unfold mbs; rw [List.getElem?_map, List.getElem?_range h]; rfl
theorem lds_at {f : Nat → Int32} {k : Nat} (h : k < nn (f 24)) : (lds f).getD k 0 = f (36 + k) := by
  rw [List.getD_eq_getElem?_getD]; unfold lds; rw [List.getElem?_map, List.getElem?_range h]; rfl
theorem mbs_num {f : Nat → Int32} {k : Nat} (h : k < nn (f 23)) : mNum (mbs f) k = f (100 + 4 * k) := by unfold mNum; rw [mbs_at h]; rfl
theorem mbs_came {f : Nat → Int32} {k : Nat} (h : k < nn (f 23)) : mCame (mbs f) k = f (101 + 4 * k) := by unfold mCame; rw [mbs_at h]; rfl
theorem mbs_rdy {f : Nat → Int32} {k : Nat} (h : k < nn (f 23)) : mRdy (mbs f) k = f (102 + 4 * k) := by unfold mRdy; rw [mbs_at h]; rfl
theorem mbs_prt {f : Nat → Int32} {k : Nat} (h : k < nn (f 23)) : mPrt (mbs f) k = decide (f (103 + 4 * k) = 1) := by unfold mPrt; rw [mbs_at h]; rfl
theorem mbs_cg {f f' : Nat → Int32} (h : f' 23 = f 23) (h2 : ∀ k, k < 4 * nn (f 23) → f' (100 + k) = f (100 + k)) : mbs f' = mbs f := by
  unfold mbs
  rw [h]
  apply List.map_congr_left
  intro k hk
  have hk' := List.mem_range.mp hk
  unfold mbA
  rw [h2 (4 * k) (by omega), show 101 + 4 * k = 100 + (4 * k + 1) from by omega, h2 _ (by omega), show 102 + 4 * k = 100 + (4 * k + 2) from by omega, h2 _ (by omega), show 103 + 4 * k = 100 + (4 * k + 3) from by omega, h2 _ (by omega)]
theorem lds_cg {f f' : Nat → Int32} (h : f' 24 = f 24) (h2 : ∀ k, k < nn (f 24) → f' (36 + k) = f (36 + k)) : lds f' = lds f := by
  unfold lds
  rw [h]
  apply List.map_congr_left
  intro k hk
  exact h2 k (List.mem_range.mp hk)
def tlG (g : Nat → Int64) : Nat → Int64 := fun k => match k with | 0 => g 0 | 1 => g 1 | 2 => g 2 | 3 => g 5 | 4 => g 3 | _ => 0
def tIF (f : Nat → Int32) : Nat → Int32 := fun k => match k with | 5 => f 28 | 6 => f 25 | 7 => f 26 | 8 => f 27 | _ => 0
def dcF (f : Nat → Int32) : Nat → Int32 := fun k => f (30 + k)
/-- what the numbers of a row keep to -/
def bLo (k : Nat) : Nat := [0, 1, 1, 10, 0, 1, 1, 0, 0, 0, 1, 1].getD k 0
def bHi (k : Nat) : Nat := [20, 20, 100, 100, 9, 8, 8, 2, 24, 2, 5, 5, 30, 30, 99, 99, 1, 0, 0, 0, 999, 0, 0, 20, 24].getD k 0
def bOk (k : Nat) : Bool := Nat.blt k 25 && !(k == 17 || k == 18 || k == 19 || k == 21 || k == 22)
def PoB (f : Nat → Int32) : Prop := ∀ k, bOk k = true → rg (f k) (bLo k) (bHi k)
def PoOK (f : Nat → Int32) (g : Nat → Int64) (c t : Nat) : Prop :=
  PoB f ∧ ((f 7 = 2 → 1 ≤ nn (f 8)) ∧ nn (f 0) ≤ nn (f 1)) ∧ (∀ k, k < nn (f 23) → f (103 + 4 * k) = 0 ∨ f (103 + 4 * k) = 1) ∧ (∀ j, j < nn (f 24) → rg (f (36 + j)) 0 999) ∧
  (f 29 = nI c ∧ c < 2 ^ 30 ∧ t < 2 ^ 30) ∧ (∀ j, j < 24 → j < c → rg (f (60 + j)) 0 1998) ∧ (∀ u, t ≤ u → u < t + nn (f 6) → nn (f 6) ≤ u → ¬ f (84 + u % 16) < 0) ∧ g 4 = g 0 + g 1
theorem PoOK.at {f : Nat → Int32} {g : Nat → Int64} {c t : Nat} (h : PoOK f g c t) (k : Nat) (hk : bOk k = true := by decide) : rg (f k) (bLo k) (bHi k) := h.1 k hk
/-- the Pool at o holds the row -/
def PoR (h : AH) (o c t : Nat) (f : Nat → Int32) (g : Nat → Int64) : Prop :=
  SetR h (o + 1) f (lds f) ∧ MemR h (o + 3) (mbs f) ∧ TalR h (o + 8) (tlG g) (tIF f) (dcF f) ∧ ((∀ j, j < 24 → j < c → aI h (o + 10) j = f (60 + j)) ∧ aI h o 4 = nI c) ∧
  (∀ u, t ≤ u → u < t + nn (f 6) → aI h (o + 11) (u % 8) = if u < nn (f 6) then -1 else f (84 + u % 16)) ∧
  (aI h o 6 = f 20 ∧ aI h o 7 = f 18 ∧ aI h o 8 = f 19 ∧ aI h o 9 = f 17 ∧ aI h o 10 = f 21 ∧ aI h o 11 = f 22 ∧ aI h o 12 = f 16)
theorem PoR.cg {h h' : AH} {o c t : Nat} {f : Nat → Int32} {g : Nat → Int64} (hp : PoR h o c t f g) (hI : ∀ i, o ≤ i → i ≤ o + 11 → aI h' i = aI h i) (hJ : aJ h' (o + 8) = aJ h (o + 8)) : PoR h' o c t f g := by
  unfold PoR SetR MemR TalR at *
  rw [hI o (by omega) (by omega), hI (o + 1) (by omega) (by omega), hI (o + 1 + 1) (by omega) (by omega), hI (o + 3) (by omega) (by omega), hI (o + 3 + 1) (by omega) (by omega), hI (o + 3 + 2) (by omega) (by omega), hI (o + 3 + 3) (by omega) (by omega), hI (o + 3 + 4) (by omega) (by omega), hI (o + 8) (by omega) (by omega), hI (o + 8 + 1) (by omega) (by omega), hI (o + 10) (by omega) (by omega), hI (o + 11) (by omega) (by omega), hJ]
  exact hp
theorem PoR.eqx {h h' : AH} {o c t : Nat} {f : Nat → Int32} {g : Nat → Int64} {S : Nat → Prop} (hp : PoR h o c t f g) (e : eqx h h' S) (hS : ∀ i, o ≤ i → i ≤ o + 11 → ¬ S i) : PoR h' o c t f g :=
  hp.cg (fun i h1 h2 => e.I (hS i h1 h2)) (e.J (hS _ (by omega) (by omega)))
-- what a pool tells, by its row
def pwN (f : Nat → Int32) (t : Int32) : Nat := cn (fun k => decide (mRdy (mbs f) k ≤ t)) (mbs f).length
def pwF (f : Nat → Int32) (t : Int32) : Int32 := f 2 * nI (pwN f t)
def bk (f : Nat → Int32) (c m : Nat) : Int32 := f (60 + (c - 1 - m) % 24)
def wn (f : Nat → Int32) (c : Nat) : Nat := min (nn (f 5)) c
def ws (f : Nat → Int32) (c : Nat) : Nat → Int32
  | 0 => 0
  | n + 1 => ws f c n + bk f c n
def dmA (f : Nat → Int32) (t a : Nat) : Int32 := ldA (lds f) (t + a) + (if a = 0 then f 20 else 0)
def lkF (f : Nat → Int32) (t : Nat) : Int32 := imx 0 (dmA f t 0 - pwF f (nI t))
def metF (f : Nat → Int32) (t : Nat) : Nat → Int32 :=
  upd (upd (upd (upd (upd (upd f 20 0) (60 + t % 24) (dmA f t 0)) 29 (f 29 + 1)) 25 (imx (f 25) (dmA f t 0))) 26 (if 0 < lkF f t then f 26 + 1 else 0)) 27 (imx (f 27) (if 0 < lkF f t then f 26 + 1 else 0))
def metG (f : Nat → Int32) (g : Nat → Int64) (t : Nat) : Nat → Int64 := fun k => match k with
  | 0 => g 0 + (dmA f t 0 - lkF f t).toInt64
  | 1 => g 1 + (lkF f t).toInt64
  | 2 => g 2 + (f 14 * f 23 + f 15 * lkF f t).toInt64
  | 4 => g 4 + (dmA f t 0).toInt64
  | 5 => g 5 + (pwF f (nI t)).toInt64
  | k => g k
/-- the error of the forecast made for this tick; d: its demand -/
def erF (f : Nat → Int32) (t : Nat) (d : Int32) : Nat → Int32 := if t < nn (f 6) then f else upd f 28 (f 28 + 1)
def erG (f : Nat → Int32) (g : Nat → Int64) (t : Nat) (d : Int32) : Nat → Int64 := if t < nn (f 6) then g else vp_updL g 3 (g 3 + (iab (f (84 + t % 16) - d)).toInt64)
def foF (f : Nat → Int32) (c : Nat) : Int32 :=
  if f 7 = 1 then imx 0 (bk f c 0 + (bk f c 0 - bk f c (wn f c - 1)) * f 6 / imx 1 (nI (wn f c) - 1))
  else if f 7 = 2 then bk f c (if dUp (f 6) (f 8) * f 8 - f 6 < nI c then nn (dUp (f 6) (f 8) * f 8 - f 6) else 0)
  else dUp (ws f c (wn f c)) (nI (wn f c))
def looF (f : Nat → Int32) (c t : Nat) : Nat → Int32 := upd (upd (upd f 18 (foF f c)) (84 + (t + nn (f 6)) % 16) (foF f c)) 19 (szF f (foF f c))
/-- grows 0, shrinks 1, stays 2, paused 3, cools 4, all protected 5 -/
def deF (f : Nat → Int32) (t : Nat) : Nat :=
  if f 16 = 0 then
    if f 19 = f 23 then 2
    else if f 23 < f 19 then (if nI t - f 21 < f 12 then 4 else 0)
    else if nI t - f 22 < f 13 then 4
    else match ng (mbs f) (f 9) (mbs f).length with
      | none => 5
      | some _ => 1
  else 3
def decF (f : Nat → Int32) (t : Nat) : Nat → Int32 := fun k =>
  if k = 17 then nI (deF f t) else if k = 30 + deF f t then f k + 1 else if k = 21 then (if deF f t = 0 then nI t else f k) else if k = 22 then (if deF f t ≤ 1 then nI t else f k) else f k
theorem deF_lt (f : Nat → Int32) (t : Nat) : deF f t < 6 := by
  unfold deF
  repeat (first | decide | split)
-- a member comes, goes
def joF (f : Nat → Int32) (a b r : Int32) : Nat → Int32 :=
  upd (upd (upd (upd (upd f (100 + 4 * nn (f 23)) a) (101 + 4 * nn (f 23)) b) (102 + 4 * nn (f 23)) r) (103 + 4 * nn (f 23)) 0) 23 (f 23 + 1)
def goF (f : Nat → Int32) (x : Nat) : Nat → Int32 := fun k =>
  if k = 23 then f 23 - 1 else if 100 + 4 * x ≤ k ∧ k < 100 + 4 * (nn (f 23) - 1) then f (k + 4) else f k
theorem mbs_joF {f : Nat → Int32} {a b r : Int32} (h : rg (f 23) 0 19) : mbs (joF f a b r) = mbs f ++ [(a, b, r, false)] := by
  obtain ⟨n, h1, h2, h3⟩ := h.nat
  have e : nn (f 23) = n := by rw [h3]; exact nn_I (by omega)
  have e2 : joF f a b r 23 = nI (n + 1) := by unfold joF; rw [pk_us, h3, nI_1]
  have e3 : nn (joF f a b r 23) = n + 1 := by rw [e2]; exact nn_I (by omega)
  unfold mbs
  rw [e3, e, List.range_succ, List.map_append]
  congr 1
  · apply List.map_congr_left
    intro k hk
    have hk' := List.mem_range.mp hk
    unfold mbA joF
    rw [e]
    repeat rw [pk_un (by omega)]
  · unfold mbA joF
    rw [e]
    simp only [List.map_cons, List.map_nil]
    repeat (first | rw [pk_us] | rw [pk_un (by omega)])
    rfl
theorem mbs_goF {f : Nat → Int32} {x : Nat} (h : rg (f 23) 0 20) (hx : x < nn (f 23)) : mbs (goF f x) = (mbs f).eraseIdx x := by
  obtain ⟨n, h1, h2, h3⟩ := h.nat
  have e : nn (f 23) = n := by rw [h3]; exact nn_I (by omega)
  have e2 : goF f x 23 = nI (n - 1) := by unfold goF; rw [if_pos rfl, h3]; exact nI_s1 (by omega)
  have e3 : nn (goF f x 23) = n - 1 := by rw [e2]; exact nn_I (by omega)
  rw [e] at hx
  apply List.ext_getElem?
  intro k
  rw [List.getElem?_eraseIdx]
  unfold mbs
  rw [e3, e, List.getElem?_map, List.getElem?_map, List.getElem?_map]
  by_cases hk : k < n - 1
  · rw [List.getElem?_range hk, List.getElem?_range (by omega), List.getElem?_range (by omega)]
    by_cases hkx : k < x
    · rw [if_pos hkx]
      simp only [Option.map_some]
      unfold mbA goF
      rw [e]
      repeat rw [if_neg (by omega)]
    · rw [if_neg hkx]
      simp only [Option.map_some]
      unfold mbA goF
      rw [e]
      repeat (first | rw [if_neg (show ¬ _ = 23 from by omega)] | rw [if_pos (by omega)])
      rw [show 100 + 4 * k + 4 = 100 + 4 * (k + 1) from by omega, show 101 + 4 * k + 4 = 101 + 4 * (k + 1) from by omega, show 102 + 4 * k + 4 = 102 + 4 * (k + 1) from by omega, show 103 + 4 * k + 4 = 103 + 4 * (k + 1) from by omega]
  · rw [List.getElem?_eq_none (by simp; omega)]
    by_cases hkx : k < x
    · omega
    · rw [if_neg hkx, List.getElem?_eq_none (by simp; omega)]
      rfl
