-- the statements, as functions of the text
/-- the pool p of the draft, while it is told -/
def DrP (h : AH) (p : Nat) (f : Nat → Int32) : Prop := PoR h (62 + 7 + 12 * p) 0 0 f (fun _ => 0) ∧ ∀ u, u < 8 → aI h (62 + 7 + 12 * p + 11) u = -1
theorem DrP.eqx {h h' : AH} {p : Nat} {f : Nat → Int32} {S : Nat → Prop} (hd : DrP h p f) (e : eqx h h' S) (hS : ∀ i, 62 + 7 + 12 * p ≤ i → i ≤ 62 + 7 + 12 * p + 11 → ¬ S i) : DrP h' p f :=
  ⟨hd.1.eqx e hS, fun u hu => by rw [e.I (hS _ (by omega) (by omega))]; exact hd.2 u hu⟩
theorem DrP.set {h : AH} {p k : Nat} {f : Nat → Int32} {x : Int32} (hd : DrP h p f) (hk : k < 16) (y24 : nn (f 24) ≤ 24) : DrP (sI h (62 + 7 + 12 * p + 1) k x) p (upd f k x) := by
  have hF : ∀ u, u < 8 → aI (sI h (62 + 7 + 12 * p + 1) k x) (62 + 7 + 12 * p + 11) u = -1 := fun u hu => by rw [sI_o (by omega)]; exact hd.2 u hu
  refine ⟨?_, hF⟩
  obtain ⟨zs, zm, zt, ⟨zd, zc⟩, zf, z20, z18, z19, z17, z21, z22, z16⟩ := hd.1
  have hm := mbs_upd (f := f) (x := x) (show k < 100 by omega) (show k ≠ 23 by omega)
  have hl := lds_upd (f := f) (x := x) (show k < 36 ∨ 60 ≤ k by omega) (show k ≠ 24 by omega) y24
  have e : ∀ j, 16 ≤ j → upd f k x j = f j := fun j hj => pk_un (by omega)
  refine ⟨?_, ?_, ?_, ⟨fun j h1 h2 => absurd h2 (Nat.not_lt_zero _), ?_⟩, fun u h1 h2 => ?_, ?_, ?_, ?_, ?_, ?_, ?_, ?_⟩
  · rw [hl]
    refine ⟨fun j hj => ?_, ?_, zs.2.2.1, fun j hj => ?_⟩
    · rw [sI_r]
      by_cases q : j = k
      · rw [q, pk_us, pk_us]
      · rw [pk_un q, pk_un q]; exact zs.1 j hj
    · rw [sI_k (by omega)]; exact zs.2.1
    · rw [sI_o (by omega)]; exact zs.2.2.2 j hj
  · rw [hm]; exact zm.cg (sI_o (by omega)) (sI_o (by omega)) (sI_o (by omega)) (sI_o (by omega)) (sI_o (by omega))
  · refine TalR.cg2 ?_ (fun j => tI_upd (by omega)) (fun j hj => dc_upd (by omega) hj)
    exact zt.eqx (eqx.rf.sI (S := fun i => i = 62 + 7 + 12 * p + 1) rfl) (by omega) (by omega)
  · rw [sI_o (by omega)]; exact zc
  · rw [Nat.zero_add] at h2
    rw [if_pos h2]
    exact hF _ (Nat.mod_lt _ (by decide))
  all_goals (rw [sI_o (by omega), e _ (by omega)]; assumption)
/-- one load more -/
theorem DrP.ldn {h : AH} {p i : Nat} {f : Nat → Int32} {x : Int32} (hd : DrP h p f) (hi : i ≤ nn (f 24)) (h24 : i < 24) : DrP (sI (sI h (62 + 7 + 12 * p + 2) i x) (62 + 7 + 12 * p + 1) 17 (nI (i + 1))) p (upd (upd f (36 + i) x) 24 (nI (i + 1))) := by
  have hF : ∀ u, u < 8 → aI (sI (sI h (62 + 7 + 12 * p + 2) i x) (62 + 7 + 12 * p + 1) 17 (nI (i + 1))) (62 + 7 + 12 * p + 11) u = -1 := fun u hu => by rw [sI_o (by omega), sI_o (by omega)]; exact hd.2 u hu
  refine ⟨?_, hF⟩
  obtain ⟨zs, zm, zt, ⟨zd, zc⟩, zf, z20, z18, z19, z17, z21, z22, z16⟩ := hd.1
  have e : ∀ j, j ≠ 24 → j < 36 ∨ 60 ≤ j → upd (upd f (36 + i) x) 24 (nI (i + 1)) j = f j := fun j h1 h2 => by rw [pk_un h1, pk_un (by omega)]
  have e24 : nn (upd (upd f (36 + i) x) 24 (nI (i + 1)) 24) = i + 1 := by rw [pk_us]; exact nn_I (by omega)
  have hm : mbs (upd (upd f (36 + i) x) 24 (nI (i + 1))) = mbs f := by
    rw [mbs_upd (by decide) (by decide), mbs_upd (by omega) (by omega)]
  refine ⟨⟨fun j hj => ?_, ?_, ?_, fun j hj => ?_⟩, ?_, ?_, ⟨fun j h1 h2 => absurd h2 (Nat.not_lt_zero _), ?_⟩, fun u h1 h2 => ?_, ?_, ?_, ?_, ?_, ?_, ?_, ?_⟩
  · rw [sI_k (by omega), sI_o (by omega), e j (by omega) (by omega)]; exact zs.1 j hj
  · rw [sI_s, lds_len, e24]
  · rw [lds_len, e24]; omega
  · rw [lds_len, e24] at hj
    rw [lds_at (by rw [e24]; exact hj), sI_o (by omega), sI_r, pk_un (show 36 + j ≠ 24 by omega)]
    by_cases q : j = i
    · rw [q, pk_us, pk_us]
    · rw [pk_un q, pk_un (by omega)]
      have z := zs.2.2.2 j (by rw [lds_len]; omega)
      rw [lds_at (by omega)] at z
      exact z
  · rw [hm]
    refine zm.cg ?_ ?_ ?_ ?_ ?_
    all_goals (rw [sI_o (by omega), sI_o (by omega)])
  · refine TalR.cg2 (TalR.cg2 ?_ (fun j => tI_upd (by omega)) (fun j hj => dc_upd (by omega) hj)) (fun j => tI_upd (by omega)) (fun j hj => dc_upd (by omega) hj)
    exact (zt.eqx (eqx.rf.sI (S := fun i => i = 62 + 7 + 12 * p + 2) rfl) (by omega) (by omega)).eqx (eqx.rf.sI (S := fun i => i = 62 + 7 + 12 * p + 1) rfl) (by omega) (by omega)
  · rw [sI_o (by omega), sI_o (by omega)]; exact zc
  · rw [Nat.zero_add] at h2
    rw [if_pos h2]
    exact hF _ (Nat.mod_lt _ (by decide))
  all_goals (rw [sI_o (by omega), sI_o (by omega), e _ (by omega) (by omega)]; assumption)
theorem DrP.prt {h : AH} {p k : Nat} {f : Nat → Int32} (hd : DrP h p f) (hk : k < nn (f 23)) (y23 : nn (f 23) ≤ 20) (y24 : nn (f 24) ≤ 24) : DrP (sI h (62 + 7 + 12 * p + 7) k 1) p (prF f k 1) :=
  ⟨hd.1.prt (b := true) hk y23 y24, fun u hu => by rw [sI_o (by omega)]; exact hd.2 u hu⟩
-- two numbers, one
def twE (b : Nat → Int32) (n : Nat) (e : ER) (lo hi : Int32) : ER := nmS b n (nmS b n e lo hi) lo hi
def twF (b : Nat → Int32) (n : Nat) (e : ER) (lo hi : Int32) (k : Nat) (f : Nat → Int32) : Nat → Int32 := upd (upd f k (vlS b n e lo hi)) (k + 1) (vlS b n (nmS b n e lo hi) lo hi)
def onF (b : Nat → Int32) (n : Nat) (e : ER) (lo hi : Int32) (k : Nat) (f : Nat → Int32) : Nat → Int32 := upd f k (vlS b n e lo hi)
/-- the settings' statements: 1 step, 2 cool, 3 target, 4 warm, 5 window, 6 lead, 9 cost -/
def seE (b : Nat → Int32) (n : Nat) (e : ER) (j : Nat) : ER :=
  if j = 1 then twE b n e 1 5 else if j = 2 then twE b n e 0 30 else if j = 3 then nmS b n e 10 100 else if j = 4 then nmS b n e 0 9 else if j = 5 then nmS b n e 1 8 else if j = 6 then nmS b n e 1 8 else twE b n e 0 99
def seF (b : Nat → Int32) (n : Nat) (e : ER) (j : Nat) (f : Nat → Int32) : Nat → Int32 :=
  if j = 1 then twF b n e 1 5 10 f else if j = 2 then twF b n e 0 30 12 f else if j = 3 then onF b n e 10 100 3 f else if j = 4 then onF b n e 0 9 4 f else if j = 5 then onF b n e 1 8 5 f else if j = 6 then onF b n e 1 8 6 f else twF b n e 0 99 14 f
/-- policy -/
def plE (b : Nat → Int32) (n p : Nat) : ER := if isW b n p 12 = true then (0, tE b n p) else if isW b n p 13 = true then (0, tE b n p) else if isW b n p 14 = true then nmS b n (0, tE b n p) 2 24 else (1, tS b n p)
def plF (b : Nat → Int32) (n p : Nat) (f : Nat → Int32) : Nat → Int32 := if isW b n p 12 = true then upd f 7 0 else if isW b n p 13 = true then upd f 7 1 else if isW b n p 14 = true then upd (upd f 7 2) 8 (vlS b n (0, tE b n p) 2 24) else f
/-- drop -/
def ruE (b : Nat → Int32) (n p : Nat) : ER := if isW b n p 15 = true then (0, tE b n p) else if isW b n p 16 = true then (0, tE b n p) else if isW b n p 17 = true then (0, tE b n p) else (1, tS b n p)
def ruF (b : Nat → Int32) (n p : Nat) (f : Nat → Int32) : Nat → Int32 := if isW b n p 15 = true then upd f 9 0 else if isW b n p 16 = true then upd f 9 1 else if isW b n p 17 = true then upd f 9 2 else f
/-- load: k more may come, i are there -/
def ldU (f : Nat → Int32) (i : Nat) (x : Int32) : Nat → Int32 := upd (upd f (36 + i) x) 24 (nI (i + 1))
def ldR (b : Nat → Int32) (n : Nat) : Nat → Nat → ER → (Nat → Int32) → ER × (Nat → Int32)
  | 0, _, e, f => (smiS b n e, f)
  | k + 1, i, e, f => if e.1 = 0 ∧ ¬ tC b n e.2 = 3 then ldR b n k (i + 1) (nmS b n e 0 999) (ldU f i (vlS b n e 0 999)) else (smiS b n e, f)
def loE (b : Nat → Int32) (n : Nat) (e : ER) (f : Nat → Int32) : ER × (Nat → Int32) := ldR b n 23 1 (nmS b n e 0 999) (ldU f 0 (vlS b n e 0 999))
/-- protect -/
def prE (b : Nat → Int32) (n p : Nat) (f : Nat → Int32) : ER := if nmC b n p 0 (f 0 - 1) = 0 ∧ f (103 + 4 * nn (tV b n p)) = 1 then (3, tS b n p) else nmS b n (0, p) 0 (f 0 - 1)
def prU (b : Nat → Int32) (n p : Nat) (f : Nat → Int32) : Nat → Int32 := if nmC b n p 0 (f 0 - 1) = 0 then prF f (nn (tV b n p)) 1 else f
/-- pool -/
def poE1 (b : Nat → Int32) (n p : Nat) : ER := nmS b n (0, p) 0 20
def poA (b : Nat → Int32) (n p : Nat) : Int32 := vlS b n (0, p) 0 20
def poE2 (b : Nat → Int32) (n p : Nat) : ER := nmS b n (poE1 b n p) (imx 1 (poA b n p)) 20
def poB (b : Nat → Int32) (n p : Nat) : Int32 := vlS b n (poE1 b n p) (imx 1 (poA b n p)) 20
def poE3 (b : Nat → Int32) (n p : Nat) : ER := nmS b n (poE2 b n p) 1 100
def poC (b : Nat → Int32) (n p : Nat) : Int32 := vlS b n (poE2 b n p) 1 100
