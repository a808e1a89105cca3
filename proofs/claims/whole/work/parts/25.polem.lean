-- a Pool's row ahead of and behind a phase
theorem TalR.sub {h h' : AH} {o : Nat} {tl tl' : Nat → Int64} {tI tI' dc dc' : Nat → Int32} (hm : TalR h o tl tI dc) (hI : aI h' o = aI h o) (hJ : aJ h' o = aJ h o) (hD : aI h' (o + 1) = aI h (o + 1)) (e1 : ∀ k, k < 5 → tl k = tl' k) (e2 : ∀ k, 5 ≤ k → k < 9 → tI k = tI' k) (e3 : ∀ k, k < 6 → dc k = dc' k) : TalR h' o tl' tI' dc' := by
  refine ⟨fun k hk => ?_, fun k h1 h2 => ?_, fun k hk => ?_⟩
  · rw [hJ, ← e1 k hk]; exact hm.1 k hk
  · rw [hI, ← e2 k h1 h2]; exact hm.2.1 k h1 h2
  · rw [hD, ← e3 k hk]; exact hm.2.2 k hk
theorem tl_met {f : Nat → Int32} {g : Nat → Int64} {t k : Nat} (hk : k < 5) : tlT (tlG g) (dmA f t 0) (pwF f (nI t)) (f 14 * f 23) (f 15) k = tlG (metG f g t) k := by
  have e : imx 0 (dmA f t 0 - pwF f (nI t)) = lkF f t := rfl
  obtain rfl | rfl | rfl | rfl | rfl : k = 0 ∨ k = 1 ∨ k = 2 ∨ k = 3 ∨ k = 4 := by omega
  all_goals
    simp only [tlT, tlG, metG, e]
theorem tI_met {f : Nat → Int32} {t k : Nat} (h1 : 5 ≤ k) (h2 : k < 9) : tIT (tIF f) (dmA f t 0) (pwF f (nI t)) k = tIF (metF f t) k := by
  have e : imx 0 (dmA f t 0 - pwF f (nI t)) = lkF f t := rfl
  obtain rfl | rfl | rfl | rfl : k = 5 ∨ k = 6 ∨ k = 7 ∨ k = 8 := by omega
  · simp only [tIT, tIF, metF_o (f := f) (t := t) (k := 28) (by omega)]
  · simp only [tIT, tIF, metF_25]
  · simp only [tIT, tIF, metF_26, e]
  · simp only [tIT, tIF, metF_27, e]
theorem po_met {h H h' : AH} {o t : Nat} {f : Nat → Int32} {g : Nat → Int64} (hp : PoR h o t t f g) (hO : PoOK f g t t) (e1 : H = sI (sI (sI h o 6 0) (o + 10) (t % 24) (dmA f t 0)) o 4 (nI (t + 1))) (he : eqx H h' (btw (o + 8) (o + 8 + 1)))
    (hm : TalR h' (o + 8) (tlT (tlG g) (dmA f t 0) (pwF f (nI t)) (f 14 * f 23) (f 15)) (tIT (tIF f) (dmA f t 0) (pwF f (nI t))) (dcF f)) : PoR h' o (t + 1) t (metF f t) (metG f g t) := by
  obtain ⟨zs, zm, zt, ⟨zd, zc⟩, zf, z20, z18, z19, z17, z21, z22, z16⟩ := hp
  subst e1
  have y24 : nn (f 24) ≤ 24 := (hO.at 24).2.2
  have hI : ∀ i, i < o + 8 ∨ o + 9 < i → i ≠ o → i ≠ o + 10 → aI h' i = aI h i := fun i h1 h2 h3 => by
    rw [he.I (by unfold btw; omega), sI_o h2, sI_o h3, sI_o h2]
  have hIo : aI h' o = upd (upd (aI h o) 6 0) 4 (nI (t + 1)) := by
    rw [he.I (by unfold btw; omega), sI_r, sI_o (by omega), sI_r]
  refine ⟨(zs.sub (fun k hk => (metF_o (by omega)).symm) (lds_metF y24).symm).cg (hI _ (by omega) (by omega) (by omega)) (hI _ (by omega) (by omega) (by omega)), ?_, ?_, ⟨fun j h1 h2 => ?_, ?_⟩, fun u h1 h2 => ?_, ?_, ?_, ?_, ?_, ?_, ?_, ?_⟩
  · rw [mbs_metF]
    exact zm.cg (hI _ (by omega) (by omega) (by omega)) (hI _ (by omega) (by omega) (by omega)) (hI _ (by omega) (by omega) (by omega)) (hI _ (by omega) (by omega) (by omega)) (hI _ (by omega) (by omega) (by omega))
  · refine hm.sub rfl rfl rfl (fun k hk => tl_met hk) (fun k h1 h2 => tI_met h1 h2) (fun k hk => ?_)
    exact (metF_o (f := f) (t := t) (k := 30 + k) (by omega)).symm
  · have e : aI h' (o + 10) = upd (aI h (o + 10)) (t % 24) (dmA f t 0) := by
      rw [he.I (by unfold btw; omega), sI_o (by omega), sI_r, sI_o (by omega)]
    rw [e]
    by_cases q : j = t % 24
    · subst q; rw [pk_us, metF_s]
    · rw [pk_un q, metF_d h1 q]; exact zd j h1 (by omega)
  · rw [hIo, pk_us]
  · rw [metF_o (by omega)] at h2 ⊢
    rw [hI _ (by omega) (by omega) (by omega), metF_o (by omega)]
    exact zf u h1 h2
  · rw [hIo, pk_un (by decide), pk_us, metF_20]
  · rw [hIo, pk_un (by decide), pk_un (by decide), metF_o (by omega)]; exact z18
  · rw [hIo, pk_un (by decide), pk_un (by decide), metF_o (by omega)]; exact z19
  · rw [hIo, pk_un (by decide), pk_un (by decide), metF_o (by omega)]; exact z17
  · rw [hIo, pk_un (by decide), pk_un (by decide), metF_o (by omega)]; exact z21
  · rw [hIo, pk_un (by decide), pk_un (by decide), metF_o (by omega)]; exact z22
  · rw [hIo, pk_un (by decide), pk_un (by decide), metF_o (by omega)]; exact z16
theorem po_er {h h' : AH} {o c t u : Nat} {f : Nat → Int32} {g : Nat → Int64} {d : Int32} (hp : PoR h o c t f g) (hO : PoOK f g c t) (hu : ¬ u < nn (f 6)) (he : eqx h h' (btw (o + 8) (o + 8 + 1)))
    (hm : TalR h' (o + 8) (vp_updL (tlG g) 4 (tlG g 4 + (iab (f (84 + u % 16) - d)).toInt64)) (upd (tIF f) 5 (tIF f 5 + 1)) (dcF f)) : PoR h' o c t (erF f u d) (erG f g u d) := by
  obtain ⟨zs, zm, zt, ⟨zd, zc⟩, zf, z20, z18, z19, z17, z21, z22, z16⟩ := hp
  have y24 : nn (f 24) ≤ 24 := (hO.at 24).2.2
  have hI : ∀ i, i < o + 8 ∨ o + 9 < i → aI h' i = aI h i := fun i h1 => he.I (by unfold btw; omega)
  have e28 : erF f u d 28 = f 28 + 1 := by unfold erF; rw [if_neg hu, pk_us]
  have eG : erG f g u d = vp_updL g 3 (g 3 + (iab (f (84 + u % 16) - d)).toInt64) := by unfold erG; rw [if_neg hu]
  refine ⟨(zs.sub (fun k hk => (erF_o (by omega)).symm) (lds_erF y24).symm).cg (hI _ (by omega)) (hI _ (by omega)), ?_, ?_, ⟨fun j h1 h2 => ?_, ?_⟩, fun u h1 h2 => ?_, ?_, ?_, ?_, ?_, ?_, ?_, ?_⟩
  · rw [mbs_erF]
    exact zm.cg (hI _ (by omega)) (hI _ (by omega)) (hI _ (by omega)) (hI _ (by omega)) (hI _ (by omega))
  · refine hm.sub rfl rfl rfl (fun k hk => ?_) (fun k h1 h2 => ?_) (fun k hk => ?_)
    · rw [eG]
      obtain rfl | rfl | rfl | rfl | rfl : k = 0 ∨ k = 1 ∨ k = 2 ∨ k = 3 ∨ k = 4 := by omega
      all_goals rfl
    · obtain rfl | rfl | rfl | rfl : k = 5 ∨ k = 6 ∨ k = 7 ∨ k = 8 := by omega
      · exact e28.symm
      · exact (erF_o (k := 25) (d := d) (by omega)).symm
      · exact (erF_o (k := 26) (d := d) (by omega)).symm
      · exact (erF_o (k := 27) (d := d) (by omega)).symm
    · exact (erF_o (k := 30 + k) (d := d) (by omega)).symm
  · rw [hI _ (by omega), erF_o (by omega)]; exact zd j h1 h2
  · rw [hI _ (by omega)]; exact zc
  · rw [erF_o (by omega)] at h2 ⊢
    rw [hI _ (by omega), erF_o (by omega)]
    exact zf u h1 h2
  all_goals (rw [hI _ (by omega), erF_o (by omega)]; assumption)
theorem po_loo {h H : AH} {o t : Nat} {f : Nat → Int32} {g : Nat → Int64} (hp : PoR h o (t + 1) t f g) (hO : PoOK f g (t + 1) t) (e1 : H = sI (sI (sI h o 7 (foF f (t + 1))) o 8 (szF f (foF f (t + 1)))) (o + 11) ((t + nn (f 6)) % 8) (foF f (t + 1))) : PoR H o (t + 1) (t + 1) (looF f (t + 1) t) g := by
  obtain ⟨zs, zm, zt, ⟨zd, zc⟩, zf, z20, z18, z19, z17, z21, z22, z16⟩ := hp
  subst e1
  have y24 : nn (f 24) ≤ 24 := (hO.at 24).2.2
  have y6 : nn (f 6) ≤ 8 := (hO.at 6).2.2
  have y6' : 1 ≤ nn (f 6) := (hO.at 6).2.1
  have hI : ∀ i, i ≠ o → i ≠ o + 11 → aI (sI (sI (sI h o 7 (foF f (t + 1))) o 8 (szF f (foF f (t + 1)))) (o + 11) ((t + nn (f 6)) % 8) (foF f (t + 1))) i = aI h i := fun i h2 h3 => by
    rw [sI_o h3, sI_o h2, sI_o h2]
  have hIo : aI (sI (sI (sI h o 7 (foF f (t + 1))) o 8 (szF f (foF f (t + 1)))) (o + 11) ((t + nn (f 6)) % 8) (foF f (t + 1))) o = upd (upd (aI h o) 7 (foF f (t + 1))) 8 (szF f (foF f (t + 1))) := by
    rw [sI_o (by omega), sI_r, sI_r]
  refine ⟨(zs.sub (fun k hk => (looF_o (by omega)).symm) (lds_looF y24).symm).cg (hI _ (by omega) (by omega)) (hI _ (by omega) (by omega)), ?_, ?_, ⟨fun j h1 h2 => ?_, ?_⟩, fun u h1 h2 => ?_, ?_, ?_, ?_, ?_, ?_, ?_, ?_⟩
  · rw [mbs_looF]
    exact zm.cg (hI _ (by omega) (by omega)) (hI _ (by omega) (by omega)) (hI _ (by omega) (by omega)) (hI _ (by omega) (by omega)) (hI _ (by omega) (by omega))
  · refine zt.sub (hI _ (by omega) (by omega)) rfl (hI _ (by omega) (by omega)) (fun k hk => rfl) (fun k h1 h2 => ?_) (fun k hk => ?_)
    · obtain rfl | rfl | rfl | rfl : k = 5 ∨ k = 6 ∨ k = 7 ∨ k = 8 := by omega
      · exact (looF_o (k := 28) (by omega)).symm
      · exact (looF_o (k := 25) (by omega)).symm
      · exact (looF_o (k := 26) (by omega)).symm
      · exact (looF_o (k := 27) (by omega)).symm
    · exact (looF_o (k := 30 + k) (by omega)).symm
  · rw [hI _ (by omega) (by omega), looF_o (by omega)]; exact zd j h1 h2
  · rw [hIo, pk_un (by decide), pk_un (by decide)]; exact zc
  · rw [looF_o (by omega)] at h2 ⊢
    rw [sI_r, sI_o (by omega), sI_o (by omega)]
    by_cases e : u = t + nn (f 6)
    · subst e; rw [pk_us, looF_s, if_neg (by omega)]
    · rw [pk_un (by omega), looF_m (Nat.mod_lt _ (by decide)) (by omega)]
      exact zf u (by omega) (by omega)
  · rw [hIo, pk_un (by decide), pk_un (by decide), looF_o (by omega)]; exact z20
  · rw [hIo, pk_un (by decide), pk_us, looF_18]
  · rw [hIo, pk_us, looF_19]
  · rw [hIo, pk_un (by decide), pk_un (by decide), looF_o (by omega)]; exact z17
  · rw [hIo, pk_un (by decide), pk_un (by decide), looF_o (by omega)]; exact z21
  · rw [hIo, pk_un (by decide), pk_un (by decide), looF_o (by omega)]; exact z22
  · rw [hIo, pk_un (by decide), pk_un (by decide), looF_o (by omega)]; exact z16
theorem po_dec {h h' : AH} {o c t u : Nat} {f : Nat → Int32} {g : Nat → Int64} (hp : PoR h o c t f g) (hO : PoOK f g c t) (hI : ∀ i, i ≠ o → i < o + 8 ∨ o + 9 < i → aI h' i = aI h i) (hm : TalR h' (o + 8) (tlG g) (tIF f) (upd (dcF f) (deF f u) (dcF f (deF f u) + 1)))
    (ho : ∀ k, k ≠ 9 → k ≠ 10 → k ≠ 11 → aI h' o k = aI h o k) (h9 : aI h' o 9 = nI (deF f u)) (h10 : aI h' o 10 = if deF f u = 0 then nI u else aI h o 10) (h11 : aI h' o 11 = if deF f u ≤ 1 then nI u else aI h o 11) : PoR h' o c t (decF f u) g := by
  obtain ⟨zs, zm, zt, ⟨zd, zc⟩, zf, z20, z18, z19, z17, z21, z22, z16⟩ := hp
  have y24 : nn (f 24) ≤ 24 := (hO.at 24).2.2
  refine ⟨(zs.sub (fun k hk => (decF_o (by omega)).symm) (lds_decF y24).symm).cg (hI _ (by omega) (by omega)) (hI _ (by omega) (by omega)), ?_, ?_, ⟨fun j h1 h2 => ?_, ?_⟩, fun u h1 h2 => ?_, ?_, ?_, ?_, ?_, ?_, ?_, ?_⟩
  · rw [mbs_decF]
    exact zm.cg (hI _ (by omega) (by omega)) (hI _ (by omega) (by omega)) (hI _ (by omega) (by omega)) (hI _ (by omega) (by omega)) (hI _ (by omega) (by omega))
  · refine hm.sub rfl rfl rfl (fun k hk => rfl) (fun k h1 h2 => ?_) (fun k hk => ?_)
    · obtain rfl | rfl | rfl | rfl : k = 5 ∨ k = 6 ∨ k = 7 ∨ k = 8 := by omega
      · exact (decF_o (k := 28) (by omega)).symm
      · exact (decF_o (k := 25) (by omega)).symm
      · exact (decF_o (k := 26) (by omega)).symm
      · exact (decF_o (k := 27) (by omega)).symm
    · show upd (dcF f) (deF f u) (dcF f (deF f u) + 1) k = decF f u (30 + k)
      rw [decF_d hk]
      by_cases e : k = deF f u
      · rw [if_pos e, ← e, pk_us]; rfl
      · rw [if_neg e, pk_un e]; rfl
  · rw [hI _ (by omega) (by omega), decF_o (by omega)]; exact zd j h1 h2
  · rw [ho 4 (by decide) (by decide) (by decide)]; exact zc
  · rw [decF_o (by omega)] at h2 ⊢
    rw [hI _ (by omega) (by omega), decF_o (by omega)]
    exact zf u h1 h2
  · rw [ho 6 (by decide) (by decide) (by decide), decF_o (by omega)]; exact z20
  · rw [ho 7 (by decide) (by decide) (by decide), decF_o (by omega)]; exact z18
  · rw [ho 8 (by decide) (by decide) (by decide), decF_o (by omega)]; exact z19
  · rw [h9, decF_17]
  · rw [h10, decF_21, z21]
  · rw [h11, decF_22, z22]
  · rw [ho 12 (by decide) (by decide) (by decide), decF_o (by omega)]; exact z16
/-- the row of a new pool -/
def begF (a b c : Int32) : Nat → Int32 := fun k => if k < 16 then set0 a b c k else if k = 17 then -1 else if k = 18 then -1 else if k = 19 then -1 else if k = 21 then -1000 else if k = 22 then -1000 else 0
