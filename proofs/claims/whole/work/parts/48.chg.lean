-- changes: what a row becomes; the class's simple changers
theorem mbs_upd {f : Nat → Int32} {k : Nat} {x : Int32} (h : k < 100) (h2 : k ≠ 23) : mbs (upd f k x) = mbs f := mbs_cg (pk_un (by omega)) (fun j hj => pk_un (by omega))
theorem lds_upd {f : Nat → Int32} {k : Nat} {x : Int32} (h : k < 36 ∨ 60 ≤ k) (h2 : k ≠ 24) : nn (f 24) ≤ 24 → lds (upd f k x) = lds f := fun h3 => lds_cg (pk_un (by omega)) (fun j hj => pk_un (by omega))
theorem tI_upd {f : Nat → Int32} {k j : Nat} {x : Int32} (h : k < 25 ∨ 28 < k) : tIF (upd f k x) j = tIF f j := by
  unfold tIF
  split
  · exact pk_un (by omega)
  · exact pk_un (by omega)
  · exact pk_un (by omega)
  · exact pk_un (by omega)
  · rfl
theorem dc_upd {f : Nat → Int32} {k j : Nat} {x : Int32} (h : k < 30 ∨ 36 ≤ k) (hj : j < 6) : dcF (upd f k x) j = dcF f j := pk_un (by omega)
theorem TalR.cg2 {h : AH} {o : Nat} {tl : Nat → Int64} {tI tI' dc dc' : Nat → Int32} (hm : TalR h o tl tI dc) (e2 : ∀ k, tI' k = tI k) (e3 : ∀ k, k < 6 → dc' k = dc k) : TalR h o tl tI' dc' :=
  ⟨hm.1, fun k h1 h2 => (hm.2.1 k h1 h2).trans (e2 k).symm, fun k hk => (hm.2.2 k hk).trans (e3 k hk).symm⟩
/-- a setting is changed -/
theorem PoR.set {h : AH} {o c t k : Nat} {f : Nat → Int32} {g : Nat → Int64} {x : Int32} (hp : PoR h o c t f g) (hk : k < 16) (h6 : k ≠ 6) (y24 : nn (f 24) ≤ 24) : PoR (sI h (o + 1) k x) o c t (upd f k x) g := by
  obtain ⟨zs, zm, zt, ⟨zd, zc⟩, zf, z20, z18, z19, z17, z21, z22, z16⟩ := hp
  have hm := mbs_upd (f := f) (x := x) (show k < 100 by omega) (show k ≠ 23 by omega)
  have hl := lds_upd (f := f) (x := x) (show k < 36 ∨ 60 ≤ k by omega) (show k ≠ 24 by omega) y24
  have e : ∀ j, 16 ≤ j → upd f k x j = f j := fun j hj => pk_un (by omega)
  have e6 : upd f k x 6 = f 6 := pk_un (fun q => h6 q.symm)
  refine ⟨?_, ?_, ?_, ⟨fun j h1 h2 => ?_, ?_⟩, fun u h1 h2 => ?_, ?_, ?_, ?_, ?_, ?_, ?_, ?_⟩
  · rw [hl]
    refine ⟨fun j hj => ?_, ?_, zs.2.2.1, fun j hj => ?_⟩
    · rw [sI_r]
      by_cases q : j = k
      · rw [q, pk_us, pk_us]
      · rw [pk_un q, pk_un q]; exact zs.1 j hj
    · rw [sI_k (by omega)]; exact zs.2.1
    · rw [sI_o (by omega)]; exact zs.2.2.2 j hj
  · rw [hm]; exact zm.cg (sI_o (by omega)) (sI_o (by omega)) (sI_o (by omega)) (sI_o (by omega)) (sI_o (by omega))
  · refine TalR.cg2 ?_ (fun j => tI_upd (by omega)) (fun j hj => dc_upd (by omega) hj)
    exact zt.eqx (eqx.rf.sI (S := fun i => i = o + 1) rfl) (by omega) (by omega)
  · rw [sI_o (by omega), e _ (by omega)]; exact zd j h1 h2
  · rw [sI_o (by omega)]; exact zc
  · rw [e6] at h2 ⊢
    rw [sI_o (by omega), e _ (by omega)]
    exact zf u h1 h2
  all_goals (rw [sI_o (by omega), e _ (by omega)]; assumption)
/-- a load is changed -/
theorem PoR.ld {h : AH} {o c t j : Nat} {f : Nat → Int32} {g : Nat → Int64} {x : Int32} (hp : PoR h o c t f g) (hj : j < nn (f 24)) (y24 : nn (f 24) ≤ 24) : PoR (sI h (o + 2) j x) o c t (upd f (36 + j) x) g := by
  obtain ⟨zs, zm, zt, ⟨zd, zc⟩, zf, z20, z18, z19, z17, z21, z22, z16⟩ := hp
  have hm := mbs_upd (f := f) (x := x) (show 36 + j < 100 by omega) (show 36 + j ≠ 23 by omega)
  have e : ∀ i, i < 36 ∨ 60 ≤ i → upd f (36 + j) x i = f i := fun i hi => pk_un (by omega)
  have e24 : nn (upd f (36 + j) x 24) = nn (f 24) := by rw [e 24 (by omega)]
  refine ⟨?_, ?_, ?_, ⟨fun i h1 h2 => ?_, ?_⟩, fun u h1 h2 => ?_, ?_, ?_, ?_, ?_, ?_, ?_, ?_⟩
  · refine ⟨fun i hi => ?_, ?_, ?_, fun i hi => ?_⟩
    · rw [sI_o (by omega), e _ (by omega)]; exact zs.1 i hi
    · rw [sI_o (by omega), zs.2.1, lds_len, lds_len, e24]
    · rw [lds_len, e24]; exact y24
    · rw [lds_len, e24] at hi
      rw [lds_at (by rw [e24]; exact hi), sI_r]
      have z := zs.2.2.2 i (by rw [lds_len]; exact hi)
      rw [lds_at hi] at z
      by_cases q : i = j
      · rw [q, pk_us, pk_us]
      · rw [pk_un q, pk_un (by omega)]; exact z
  · rw [hm]; exact zm.cg (sI_o (by omega)) (sI_o (by omega)) (sI_o (by omega)) (sI_o (by omega)) (sI_o (by omega))
  · refine TalR.cg2 ?_ (fun j => tI_upd (by omega)) (fun j hj => dc_upd (by omega) hj)
    exact zt.eqx (eqx.rf.sI (S := fun i => i = o + 2) rfl) (by omega) (by omega)
  · rw [sI_o (by omega), e _ (by omega)]; exact zd i h1 h2
  · rw [sI_o (by omega)]; exact zc
  · rw [e _ (by omega)] at h2 ⊢
    rw [sI_o (by omega), e _ (by omega)]
    exact zf u h1 h2
  all_goals (rw [sI_o (by omega), e _ (by omega)]; assumption)
/-- what is pushed, whether it is paused -/
theorem PoR.fld {h : AH} {o c t k n : Nat} {f : Nat → Int32} {g : Nat → Int64} {x : Int32} (hp : PoR h o c t f g) (hk : (k = 6 ∧ n = 20) ∨ (k = 12 ∧ n = 16)) (y24 : nn (f 24) ≤ 24) : PoR (sI h o k x) o c t (upd f n x) g := by
  obtain ⟨zs, zm, zt, ⟨zd, zc⟩, zf, z20, z18, z19, z17, z21, z22, z16⟩ := hp
  have hm := mbs_upd (f := f) (x := x) (show n < 100 by omega) (show n ≠ 23 by omega)
  have hl := lds_upd (f := f) (x := x) (show n < 36 ∨ 60 ≤ n by omega) (show n ≠ 24 by omega) y24
  have e : ∀ j, j < 16 ∨ 20 < j → upd f n x j = f j := fun j hj => pk_un (by omega)
  have e' : ∀ j, 16 < j → j < 20 → upd f n x j = f j := fun j h1 h2 => pk_un (by omega)
  refine ⟨?_, ?_, ?_, ⟨fun j h1 h2 => ?_, ?_⟩, fun u h1 h2 => ?_, ?_, ?_, ?_, ?_, ?_, ?_, ?_⟩
  · rw [hl]
    refine ⟨fun j hj => ?_, ?_, zs.2.2.1, fun j hj => ?_⟩
    · rw [sI_o (by omega), e _ (by omega)]; exact zs.1 j hj
    · rw [sI_o (by omega)]; exact zs.2.1
    · rw [sI_o (by omega)]; exact zs.2.2.2 j hj
  · rw [hm]; exact zm.cg (sI_o (by omega)) (sI_o (by omega)) (sI_o (by omega)) (sI_o (by omega)) (sI_o (by omega))
  · refine TalR.cg2 ?_ (fun j => tI_upd (by omega)) (fun j hj => dc_upd (by omega) hj)
    exact zt.eqx (eqx.rf.sI (S := fun i => i = o) rfl) (by omega) (by omega)
  · rw [sI_o (by omega), e _ (by omega)]; exact zd j h1 h2
  · rw [sI_k (by omega)]; exact zc
  · rw [e _ (by omega)] at h2 ⊢
    rw [sI_o (by omega), e _ (by omega)]
    exact zf u h1 h2
  · rcases hk with ⟨rfl, rfl⟩ | ⟨rfl, rfl⟩
    · rw [sI_s, pk_us]
    · rw [sI_k (by decide), pk_un (by decide)]; exact z20
  · rw [sI_k (by omega), e' _ (by decide) (by decide)]; exact z18
  · rw [sI_k (by omega), e' _ (by decide) (by decide)]; exact z19
  · rw [sI_k (by omega), e' _ (by decide) (by decide)]; exact z17
  · rw [sI_k (by omega), e _ (by decide)]; exact z21
  · rw [sI_k (by omega), e _ (by decide)]; exact z22
  · rcases hk with ⟨rfl, rfl⟩ | ⟨rfl, rfl⟩
    · rw [sI_k (by decide), pk_un (by decide)]; exact z16
    · rw [sI_s, pk_us]
/-- a member's protection is changed -/
def prF (f : Nat → Int32) (k : Nat) (b : Int32) : Nat → Int32 := upd f (103 + 4 * k) b
theorem PoR.prt {h : AH} {o c t k : Nat} {f : Nat → Int32} {g : Nat → Int64} {b : Bool} (hp : PoR h o c t f g) (hk : k < nn (f 23)) (y23 : nn (f 23) ≤ 20) (y24 : nn (f 24) ≤ 24) : PoR (sI h (o + 7) k (bI b)) o c t (prF f k (bI b)) g := by
  have zm := hp.2.1
  have e23 : nn (prF f k (bI b) 23) = nn (f 23) := by unfold prF; rw [pk_un (by omega)]
  refine po_mem hp y24 (eqx.rf.sI (by unfold btw; omega)) ⟨?_, ?_, fun j hj => ?_⟩ (fun j hj => pk_un (by omega))
  · rw [sI_o (by omega), zm.1, mbs_len, mbs_len, e23]
  · rw [mbs_len, e23]; exact y23
  · rw [mbs_len, e23] at hj
    obtain ⟨m1, m2, m3, m4⟩ := zm.2.2 j (by rw [mbs_len]; exact hj)
    rw [mbs_num (by rw [e23]; exact hj), mbs_came (by rw [e23]; exact hj), mbs_rdy (by rw [e23]; exact hj), mbs_prt (by rw [e23]; exact hj)]
    rw [mbs_num hj] at m1
    rw [mbs_came hj] at m2
    rw [mbs_rdy hj] at m3
    rw [mbs_prt hj] at m4
    unfold prF
    rw [pk_un (by omega), pk_un (by omega), pk_un (by omega), sI_o (by omega), sI_o (by omega), sI_o (by omega), sI_r]
    refine ⟨m1, m2, m3, ?_⟩
    by_cases q : j = k
    · rw [q, pk_us, pk_us]; cases b <;> rfl
    · rw [pk_un q, pk_un (by omega)]; exact m4
/-- what keeps the bounds -/
theorem PoB.upd {f : Nat → Int32} {k : Nat} {x : Int32} (h : PoB f) (hx : bOk k = true → rg x (bLo k) (bHi k)) : PoB (upd f k x) := fun j hj => by
  by_cases q : j = k
  · subst q; rw [pk_us]; exact hx hj
  · rw [pk_un q]; exact h j hj
theorem PoOK.st {f f' : Nat → Int32} {g : Nat → Int64} {c t : Nat} (h : PoOK f g c t) (e : ∀ j, 21 ≤ j → f' j = f j) (e6 : f' 6 = f 6) (hb : PoB f') (h7 : f' 7 = 2 → 1 ≤ nn (f' 8)) (h01 : nn (f' 0) ≤ nn (f' 1)) : PoOK f' g c t := by
  obtain ⟨p1, p2, p3, p4, ⟨p5, p5b⟩, p6, p7, p8⟩ := h
  refine ⟨hb, ⟨h7, h01⟩, fun k hk => ?_, fun j hj => ?_, ⟨(e _ (by decide)).trans p5, p5b⟩, fun j h1 h2 => ?_, fun u h1 h2 h3 => ?_, p8⟩
  · rw [e _ (by omega)]; exact p3 k (by rw [← e 23 (by decide)]; exact hk)
  · rw [e _ (by omega)]; exact p4 j (by rw [← e 24 (by decide)]; exact hj)
  · rw [e _ (by omega)]; exact p6 j h1 h2
  · rw [e6] at h2 h3
    rw [e _ (by omega)]; exact p7 u h1 h2 h3
theorem PoOK.ld {f : Nat → Int32} {g : Nat → Int64} {c t j : Nat} {x : Int32} (h : PoOK f g c t) (hj : j < nn (f 24)) (hx : rg x 0 999) : PoOK (upd f (36 + j) x) g c t := by
  have y24 : nn (f 24) ≤ 24 := (h.at 24).2.2
  have e : ∀ i, i < 36 ∨ 60 ≤ i → CPoolScalerLaw_law_r4467_227dc4.upd f (36 + j) x i = f i := fun i hi => pk_un (by omega)
  obtain ⟨p1, p2, p3, p4, ⟨p5, p5b⟩, p6, p7, p8⟩ := h
  refine ⟨PoB.upd p1 (fun q => absurd (bOk_lt q).1 (by omega)), ⟨by rw [e 7 (by omega), e 8 (by omega)]; exact p2.1, by rw [e 0 (by omega), e 1 (by omega)]; exact p2.2⟩, fun k hk => ?_, fun i hi => ?_, ⟨(e _ (by omega)).trans p5, p5b⟩, fun i h1 h2 => ?_, fun u h1 h2 h3 => ?_, p8⟩
  · rw [e _ (by omega)]; exact p3 k (by rw [← e 23 (by omega)]; exact hk)
  · by_cases q : i = j
    · rw [q, pk_us]; exact hx
    · rw [pk_un (by omega)]; exact p4 i (by rw [← e 24 (by omega)]; exact hi)
  · rw [e _ (by omega)]; exact p6 i h1 h2
  · rw [e 6 (by omega)] at h2 h3
    rw [e _ (by omega)]; exact p7 u h1 h2 h3
theorem PoOK.prt {f : Nat → Int32} {g : Nat → Int64} {c t k : Nat} {b : Bool} (h : PoOK f g c t) : PoOK (prF f k (bI b)) g c t := by
  have e : ∀ i, i < 100 → prF f k (bI b) i = f i := fun i hi => pk_un (by omega)
  obtain ⟨p1, p2, p3, p4, ⟨p5, p5b⟩, p6, p7, p8⟩ := h
  refine ⟨PoB.upd p1 (fun q => absurd (bOk_lt q).1 (by omega)), ⟨by rw [e 7 (by omega), e 8 (by omega)]; exact p2.1, by rw [e 0 (by omega), e 1 (by omega)]; exact p2.2⟩, fun j hj => ?_, fun i hi => ?_, ⟨(e _ (by omega)).trans p5, p5b⟩, fun i h1 h2 => ?_, fun u h1 h2 h3 => ?_, p8⟩
  · by_cases q : j = k
    · unfold prF; rw [q, pk_us]; cases b
      · exact Or.inl rfl
      · exact Or.inr rfl
    · unfold prF; rw [pk_un (by omega)]; exact p3 j (by rw [← e 23 (by omega)]; exact hj)
  · have y24 := (p1 24 (by decide)).2.2
    have y24' : nn (f 24) ≤ 24 := y24
    rw [e 24 (by omega)] at hi
    rw [e _ (by omega)]; exact p4 i hi
  · rw [e _ (by omega)]; exact p6 i h1 h2
  · rw [e 6 (by omega)] at h2 h3
    rw [e _ (by omega)]; exact p7 u h1 h2 h3
/-- the row with a pool's own part changed -/
def upP (r : Row) (p : Nat) (f : Nat → Int32) : Row := (setP r.1 p f, r.2)
theorem ro_up {r : Row} {m p : Nat} {f : Nat → Int32} (hO : RoOK r.1 r.2 m) (hp : p < nn (r.1 0)) (hf : PoOK f (getG r.2 p) (nn (r.1 1)) (nn (r.1 1))) : RoOK (upP r p f).1 (upP r p f).2 m := by
  have e : ∀ k, k < 244 → (upP r p f).1 k = r.1 k := fun k hk => setP_lo hk
  unfold RoOK
  rw [e 0 (by decide), e 1 (by decide), e 2 (by decide), e 3 (by decide)]
  refine ⟨hO.1, fun j hj => ?_⟩
  by_cases q : j = p
  · subst q
    show PoOK (getP (setP r.1 j f) j) (getG r.2 j) _ _
    rw [getP_set]
    exact hf.cgF (fun k hk => trP_k hk) (fun k hk => rfl)
  · show PoOK (getP (setP r.1 p f) j) (getG r.2 j) _ _
    rw [getP_ne q]; exact hO.2 j hj
theorem st_up {h h' : AH} {r : Row} {m p : Nat} {f : Nat → Int32} (hs : StR h 7 r.1 r.2) (hO : RoOK r.1 r.2 m) (hp : p < nn (r.1 0)) (e : eqx h h' (btw (14 + 12 * p) (14 + 12 * p + 11))) (hr : PoR h' (14 + 12 * p) (nn (r.1 1)) (nn (r.1 1)) f (getG r.2 p)) (y23 : nn (f 23) ≤ 20) (y24 : nn (f 24) ≤ 24) : StR h' 7 (upP r p f).1 (upP r p f).2 := by
  have e0 : ∀ k, k < 244 → (upP r p f).1 k = r.1 k := fun k hk => setP_lo hk
  obtain ⟨s1, s2, s3, s4, s5⟩ := hs
  have h04 : nn (r.1 0) ≤ 4 := hO.1.1.2.2
  unfold StR
  rw [e0 0 (by decide), e0 1 (by decide), e0 2 (by decide), e0 3 (by decide), e.I (by unfold btw; omega)]
  refine ⟨s1, s2, s3, ?_, fun j hj => ?_⟩
  · have s4' := s4.eqx e (fun i h1 h2 => by unfold btw; omega)
    unfold EvW at s4' ⊢
    refine ⟨s4'.1, fun j j1 j2 => ?_⟩
    rw [e0 _ (by omega), e0 _ (by omega), e0 _ (by omega), e0 _ (by omega)]
    exact s4'.2 j j1 j2
  · by_cases q : j = p
    · subst q
      show PoR h' (7 + 7 + 12 * j) _ _ (getP (setP r.1 j f) j) (getG r.2 j)
      rw [getP_set]
      exact hr.cgF y23 y24 (fun k hk => trP_k hk) (fun k hk => rfl)
    · show PoR h' (7 + 7 + 12 * j) _ _ (getP (setP r.1 p f) j) (getG r.2 j)
      rw [getP_ne q]
      exact (s5 j hj).eqx e (fun i h1 h2 => by unfold btw; omega)
theorem PV.upP {h : AH} {r : Row} {p : Nat} {f : Nat → Int32} (hm : PV h r.1 r.2 p f (getG r.2 p)) : MW h (upP r p f) := by
  unfold PV at hm
  rw [setG_get] at hm
  exact hm
/-- what the class leaves as it was when it changes its state -/
def CFr (h h' : AH) : Prop := CF h h' ∧ (∀ i, i ≠ 1 → i ≤ 171 → ¬ SB 7 i → aI h' i = aI h i ∧ aJ h' i = aJ h i) ∧ (∀ k, k ≠ 11 → aI h' 1 k = aI h 1 k)
theorem CFr.of {h h' h'' : AH} {S : Nat → Prop} (hcf : CF h h') (h1 : ∀ i, i ≠ 1 → i ≤ 172 → aI h' i = aI h i ∧ aJ h' i = aJ h i) (h2 : ∀ k, k ≠ 11 → aI h' 1 k = aI h 1 k) (e : eqx h' h'' S) (hS : ∀ i, S i → SB 7 i) : CFr h h'' :=
  ⟨hcf.tr (CF.of hcf.1 e (fun i hi q => by have := hS i q; unfold SB at this; omega)), fun i i1 i2 i3 => ⟨(e.I (fun q => i3 (hS i q))).trans (h1 i i1 (by omega)).1, (e.J (fun q => i3 (hS i q))).trans (h1 i i1 (by omega)).2⟩, fun k hk => by rw [e.I (fun q => by have := hS 1 q; unfold SB at this; omega)]; exact h2 k hk⟩
theorem PsC.eqx {h h' : AH} {L : List Row} {S : Nat → Prop} {m : Nat} (hL : PsC h L) (hLO : LsOK L m) (e : eqx h h' S) (hS : ∀ i, S i → SB 7 i) : PsC h' L := by
  obtain ⟨l1, l2, f, ⟨f1, f2⟩, l3⟩ := hL
  refine ⟨by rw [e.I (fun q => by have := hS 1 q; unfold SB at this; omega)]; exact l1, l2, f, ⟨fun i hi => by rw [e.R]; exact f1 i hi, f2⟩, fun i hi => (l3 i hi).eqx e (hLO i hi).1.1.2.2 (fun j h1 h2 q => by have := hS j q; unfold SB at this; omega)⟩
def puF (r : Row) (x y : Int32) : Nat → Int32 := upd (fP r x) 20 (imn 999 (fP r x 20 + y))
set_option maxRecDepth 100000 in
set_option maxHeartbeats 4000000 in
theorem c_X8_push {l9 : Launch} {G : GC} {h : AH} {r : Row} {m : Nat} {L : List Row} {x y : Int32} (hW : World h) (hs : StR h 7 r.1 r.2) (hO : RoOK r.1 r.2 m) (hL : PsC h L) (hLO : LsOK L m) : PM l9 G mX8_push NT NT [.ref 1, .int x, .int y] h (fun v h' => cd2 (okP r x) (rgB 0 999 y) = 0 ∧ v = some (.int (puF r x y 20)) ∧ CFr h h' ∧ StR h' 7 (upP r (nn x) (puF r x y)).1 (upP r (nn x) (puF r x y)).2 ∧ PsC h' (pushL L r)) (fun E h' => thr [eB, eA] (cd2 (okP r x) (rgB 0 999 y)) E ∧ h' = h) := by
  refine PM.of (by decide +kernel) rfl rfl (Nat.le_of_ble_eq_true rfl) (fun hst _ => ?_)
  refine r_aload_n dX8_push_0 rfl ?_
  refine r_iload_n dX8_push_1 rfl ?_
  refine q_callX1 (cv_X8_existingPool ml_X8_112) hW kc_1 (by decide) rfl rfl (Nat.le_of_ble_eq_true rfl) dX8_push_2 (c_X8_existingPool hW hs hO) (fun v_2 h_2 q_2 => ?_) (fun E_2 h_2 q_2 => ?_)
  · obtain ⟨z9, ko, p, p1, p2, rfl, rfl⟩ := q_2
    replace z9 := z9.symm
    subst z9
    have ex : nn (nI p) = p := nn_I (by omega)
    have hOp := hO.2 p p2
    have hpo : PoR h (14 + 12 * p) (nn (r.1 1)) (nn (r.1 1)) (getP r.1 p) (getG r.2 p) := hs.po p2
    have hpo9 := hpo
    obtain ⟨zs, zm, zt, ⟨zd, zc⟩, zf, z20, z18, z19, z17, z21, z22, z16⟩ := hpo
    have zd0 : DemR h (14 + 12 * p) (nn (r.1 1)) (getP r.1 p) := ⟨zd, zc⟩
    have yc := hOp.2.2.2.2.1.2.1
    have hLq := hL.2.1
    have h04 : nn (r.1 0) ≤ 4 := hO.1.1.2.2
    have y23 : nn (getP r.1 p 23) ≤ 20 := (hOp.at 23).2.2
    have y24 : nn (getP r.1 p 24) ≤ 24 := (hOp.at 24).2.2
    refine r_astore_n (ls2 := [_, _, some _, _]) dX8_push_5 (by decide) rfl ?_
    refine r_iload_n dX8_push_6 rfl ?_
    refine r_iconst (0) dX8_push_7 (by decide) ?_
    refine r_sipush (999) dX8_push_8 (by decide) ?_
    refine q_callXS3 (cs_X8_requireRange ml_X8_116) rfl (Nat.le_of_ble_eq_true rfl) dX8_push_11 c_X8_requireRange (fun v_11 h_11 q_11 => ?_) (fun E_11 h_11 q_11 => ?_)
    · obtain ⟨z9, kr, rfl⟩ := q_11
      replace z9 := z9.symm
      subst z9
      have kr9 : rgB 0 999 y = true := decide_eq_true kr
      refine r_aload_n dX8_push_14 rfl ?_
      refine q_callV0 (cv_X8_remember ml_X8_289) hW kc_1 (by decide) rfl ⟨rfl, rfl⟩ rfl (Nat.le_of_ble_eq_true rfl) dX8_push_15 (c_X8_remember hW hs hO hL hLO) (fun v_15 h_15 q_15 => ?_)
      obtain ⟨z9, hcf, hL2, hrm1, hrm2⟩ := q_15
      subst z9
      have hW := hcf.1
      have hLO2 := LsOK.push hLO hO hLq
      have hsR : StR h_15 7 r.1 r.2 := hs.cgA (fun i i1 i2 => hrm1 i (by omega) (by rcases i2 with i2 | ⟨p9, i2, i3⟩ <;> omega))
      have hpoR : PoR h_15 (14 + 12 * p) (nn (r.1 1)) (nn (r.1 1)) (getP r.1 p) (getG r.2 p) := hsR.po p2
      refine r_aload_n dX8_push_18 rfl ?_
      refine r_sipush (999) dX8_push_19 (by decide) ?_
      refine r_aload_n dX8_push_22 rfl ?_
      refine q_getI fl_X8_295 hW (kd_po p1) rfl dX8_push_23 ?_
      refine r_iload_n dX8_push_26 rfl ?_
      refine r_iadd dX8_push_27 ?_
      rw [hpoR.2.2.2.2.2.1]
      refine q_min mm_X8_298 rfl (Nat.le_of_ble_eq_true rfl) dX8_push_28 ?_
      refine q_putI fl_X8_295 hW (kd_po p1) rfl rfl dX8_push_31 ?_
      refine r_aload_n dX8_push_34 rfl ?_
      refine q_getI fl_X8_295 hW (kd_po p1) rfl dX8_push_35 ?_
      rw [sI_s]
      refine r_iret dX8_push_38 rfl ⟨Nat.le_of_ble_eq_true rfl, Nat.le_of_ble_eq_true rfl⟩ ?_
      have e1 : eqx h_15 (sI h_15 (14 + 12 * p) 6 (imn 999 (getP r.1 p 20 + y))) (btw (14 + 12 * p) (14 + 12 * p + 11)) := eqx.rf.sI (by unfold btw; omega)
      have hp1 := hpoR.fld (k := 6) (n := 20) (x := imn 999 (getP r.1 p 20 + y)) (Or.inl ⟨rfl, rfl⟩) y24
      rw [ex]
      unfold puF fP
      rw [ex]
      refine ⟨cd2_t ko kr9, some_int pk_us.symm, CFr.of hcf hrm1 hrm2 e1 (fun i q => by unfold btw SB at *; omega), st_up hsR hO p2 e1 hp1 (by rw [pk_un (by decide)]; exact y23) (by rw [pk_un (by decide)]; exact y24), hL2.eqx hLO2 e1 (fun i q => by unfold btw SB at *; omega)⟩
    · refine PX.out rfl ⟨Nat.le_of_ble_eq_true rfl, Nat.le_of_ble_eq_true rfl⟩ ?_
      obtain ⟨rfl, kx, rfl⟩ := q_11
      exact ⟨thr_22 ko (decide_eq_false kx), rfl⟩
  · refine PX.out rfl ⟨Nat.le_of_ble_eq_true rfl, Nat.le_of_ble_eq_true rfl⟩ ?_
    obtain ⟨rfl, kx, rfl⟩ := q_2
    exact ⟨thr_21 kx, rfl⟩

theorem f16_01 {x : Int32} (h : rg x 0 1) : x = 0 ∨ x = 1 := by
  obtain ⟨n, n1, n2, n3⟩ := h.nat
  obtain rfl | rfl : n = 0 ∨ n = 1 := by omega
  · exact Or.inl n3
  · exact Or.inr n3
set_option maxRecDepth 100000 in
set_option maxHeartbeats 4000000 in
theorem c_X8_pause {l9 : Launch} {G : GC} {h : AH} {r : Row} {m : Nat} {L : List Row} {x z : Int32} (hW : World h) (hs : StR h 7 r.1 r.2) (hO : RoOK r.1 r.2 m) (hL : PsC h L) (hLO : LsOK L m) (hz : z = 0 ∨ z = 1) : PM l9 G mX8_pause NT NT [.ref 1, .int x, .int z] h (fun v h' => cd1 (okP r x) = 0 ∧ v = some (.int (fP r x 16)) ∧ CFr h h' ∧ StR h' 7 (upP r (nn x) (upd (fP r x) 16 z)).1 (upP r (nn x) (upd (fP r x) 16 z)).2 ∧ PsC h' (pushL L r)) (fun E h' => thr [eB] (cd1 (okP r x)) E ∧ h' = h) := by
  refine PM.of (by decide +kernel) rfl rfl (Nat.le_of_ble_eq_true rfl) (fun hst _ => ?_)
  refine r_aload_n dX8_pause_0 rfl ?_
  refine r_iload_n dX8_pause_1 rfl ?_
  refine q_callX1 (cv_X8_existingPool ml_X8_112) hW kc_1 (by decide) rfl rfl (Nat.le_of_ble_eq_true rfl) dX8_pause_2 (c_X8_existingPool hW hs hO) (fun v_2 h_2 q_2 => ?_) (fun E_2 h_2 q_2 => ?_)
  · obtain ⟨z9, ko, p, p1, p2, rfl, rfl⟩ := q_2
    replace z9 := z9.symm
    subst z9
    have ex : nn (nI p) = p := nn_I (by omega)
    have hOp := hO.2 p p2
    have hpo : PoR h (14 + 12 * p) (nn (r.1 1)) (nn (r.1 1)) (getP r.1 p) (getG r.2 p) := hs.po p2
    have hpo9 := hpo
    obtain ⟨zs, zm, zt, ⟨zd, zc⟩, zf, z20, z18, z19, z17, z21, z22, z16⟩ := hpo
    have zd0 : DemR h (14 + 12 * p) (nn (r.1 1)) (getP r.1 p) := ⟨zd, zc⟩
    have yc := hOp.2.2.2.2.1.2.1
    have hLq := hL.2.1
    have h04 : nn (r.1 0) ≤ 4 := hO.1.1.2.2
    have y23 : nn (getP r.1 p 23) ≤ 20 := (hOp.at 23).2.2
    have y24 : nn (getP r.1 p 24) ≤ 24 := (hOp.at 24).2.2
    refine r_astore_n (ls2 := [_, _, some _, _, _]) dX8_pause_5 (by decide) rfl ?_
    refine r_aload_n dX8_pause_6 rfl ?_
    refine q_callV0 (cv_X8_remember ml_X8_289) hW kc_1 (by decide) rfl ⟨rfl, rfl⟩ rfl (Nat.le_of_ble_eq_true rfl) dX8_pause_7 (c_X8_remember hW hs hO hL hLO) (fun v_7 h_7 q_7 => ?_)
    obtain ⟨z9, hcf, hL2, hrm1, hrm2⟩ := q_7
    subst z9
    have hW := hcf.1
    have hLO2 := LsOK.push hLO hO hLq
    have hsR : StR h_7 7 r.1 r.2 := hs.cgA (fun i i1 i2 => hrm1 i (by omega) (by rcases i2 with i2 | ⟨p9, i2, i3⟩ <;> omega))
    have hpoR : PoR h_7 (14 + 12 * p) (nn (r.1 1)) (nn (r.1 1)) (getP r.1 p) (getG r.2 p) := hsR.po p2
    refine r_aload_n dX8_pause_10 rfl ?_
    refine q_getI fl_X8_137 hW (kd_po p1) rfl dX8_pause_11 ?_
    rw [hpoR.2.2.2.2.2.2.2.2.2.2.2]
    refine r_istore (ls2 := [_, _, _, some _, _]) dX8_pause_14 (by decide) rfl ?_
    refine r_aload_n dX8_pause_16 rfl ?_
    refine r_iload_n dX8_pause_17 rfl ?_
    refine q_putZ fl_X8_137 hW (kd_po p1) rfl hz rfl dX8_pause_18 ?_
    refine r_iload dX8_pause_21 rfl ?_
    refine r_zret dX8_pause_23 rfl (f16_01 (hOp.at 16)) ⟨Nat.le_of_ble_eq_true rfl, Nat.le_of_ble_eq_true rfl⟩ ?_
    have e1 : eqx h_7 (sI h_7 (14 + 12 * p) 12 (z)) (btw (14 + 12 * p) (14 + 12 * p + 11)) := by
      repeat (first | exact eqx.rf | refine eqx.sI ?_ (by unfold btw; omega))
    have hp1 : PoR (sI h_7 (14 + 12 * p) 12 (z)) (14 + 12 * p) (nn (r.1 1)) (nn (r.1 1)) (upd (getP r.1 p) 16 z) (getG r.2 p) := hpoR.fld (Or.inr ⟨rfl, rfl⟩) y24
    rw [ex]
    try unfold fP
    try rw [ex]
    refine ⟨cd1_t ko, some_int rfl, CFr.of hcf hrm1 hrm2 e1 (fun i q => by unfold btw SB at *; omega), st_up hsR hO p2 e1 hp1 (by rw [pk_un (by decide)]; exact y23) (by rw [pk_un (by decide)]; exact y24), hL2.eqx hLO2 e1 (fun i q => by unfold btw SB at *; omega)⟩
  · refine PX.out rfl ⟨Nat.le_of_ble_eq_true rfl, Nat.le_of_ble_eq_true rfl⟩ ?_
    obtain ⟨rfl, kx, rfl⟩ := q_2
    exact ⟨thr_1 kx, rfl⟩

set_option maxRecDepth 100000 in
set_option maxHeartbeats 4000000 in
theorem c_X8_setTarget {l9 : Launch} {G : GC} {h : AH} {r : Row} {m : Nat} {L : List Row} {x y : Int32} (hW : World h) (hs : StR h 7 r.1 r.2) (hO : RoOK r.1 r.2 m) (hL : PsC h L) (hLO : LsOK L m) : PM l9 G mX8_setTarget NT NT [.ref 1, .int x, .int y] h (fun v h' => cd2 (okP r x) (rgB 10 100 y) = 0 ∧ v = some (.int (fP r x 3)) ∧ CFr h h' ∧ StR h' 7 (upP r (nn x) (upd (fP r x) 3 y)).1 (upP r (nn x) (upd (fP r x) 3 y)).2 ∧ PsC h' (pushL L r)) (fun E h' => thr [eB, eA] (cd2 (okP r x) (rgB 10 100 y)) E ∧ h' = h) := by
  refine PM.of (by decide +kernel) rfl rfl (Nat.le_of_ble_eq_true rfl) (fun hst _ => ?_)
  refine r_aload_n dX8_setTarget_0 rfl ?_
  refine r_iload_n dX8_setTarget_1 rfl ?_
  refine q_callX1 (cv_X8_existingPool ml_X8_112) hW kc_1 (by decide) rfl rfl (Nat.le_of_ble_eq_true rfl) dX8_setTarget_2 (c_X8_existingPool hW hs hO) (fun v_2 h_2 q_2 => ?_) (fun E_2 h_2 q_2 => ?_)
  · obtain ⟨z9, ko, p, p1, p2, rfl, rfl⟩ := q_2
    replace z9 := z9.symm
    subst z9
    have ex : nn (nI p) = p := nn_I (by omega)
    have hOp := hO.2 p p2
    have hpo : PoR h (14 + 12 * p) (nn (r.1 1)) (nn (r.1 1)) (getP r.1 p) (getG r.2 p) := hs.po p2
    have hpo9 := hpo
    obtain ⟨zs, zm, zt, ⟨zd, zc⟩, zf, z20, z18, z19, z17, z21, z22, z16⟩ := hpo
    have zd0 : DemR h (14 + 12 * p) (nn (r.1 1)) (getP r.1 p) := ⟨zd, zc⟩
    have yc := hOp.2.2.2.2.1.2.1
    have hLq := hL.2.1
    have h04 : nn (r.1 0) ≤ 4 := hO.1.1.2.2
    have y23 : nn (getP r.1 p 23) ≤ 20 := (hOp.at 23).2.2
    have y24 : nn (getP r.1 p 24) ≤ 24 := (hOp.at 24).2.2
    refine q_getR fl_X8_143 hW (kd_po p1) rfl (kl_3_0 hW (kd_po p1)) (Nat.succ_ne_zero _) dX8_setTarget_5 ?_
    refine r_astore_n (ls2 := [_, _, some _, _, _]) dX8_setTarget_8 (by decide) rfl ?_
    refine r_iload_n dX8_setTarget_9 rfl ?_
    refine r_bipush (10) dX8_setTarget_10 (by decide) ?_
    refine r_bipush (100) dX8_setTarget_12 (by decide) ?_
    refine q_callXS3 (cs_X8_requireRange ml_X8_116) rfl (Nat.le_of_ble_eq_true rfl) dX8_setTarget_14 c_X8_requireRange (fun v_14 h_14 q_14 => ?_) (fun E_14 h_14 q_14 => ?_)
    · obtain ⟨z9, kr, rfl⟩ := q_14
      replace z9 := z9.symm
      subst z9
      have kr9 : rgB 10 100 y = true := decide_eq_true kr
      refine r_aload_n dX8_setTarget_17 rfl ?_
      refine q_callV0 (cv_X8_remember ml_X8_289) hW kc_1 (by decide) rfl ⟨rfl, rfl⟩ rfl (Nat.le_of_ble_eq_true rfl) dX8_setTarget_18 (c_X8_remember hW hs hO hL hLO) (fun v_18 h_18 q_18 => ?_)
      obtain ⟨z9, hcf, hL2, hrm1, hrm2⟩ := q_18
      subst z9
      have hW := hcf.1
      have hLO2 := LsOK.push hLO hO hLq
      have hsR : StR h_18 7 r.1 r.2 := hs.cgA (fun i i1 i2 => hrm1 i (by omega) (by rcases i2 with i2 | ⟨p9, i2, i3⟩ <;> omega))
      have hpoR : PoR h_18 (14 + 12 * p) (nn (r.1 1)) (nn (r.1 1)) (getP r.1 p) (getG r.2 p) := hsR.po p2
      refine r_aload_n dX8_setTarget_21 rfl ?_
      refine q_getI fl_X8_334 hW (kk_3_0 (kd_po p1)) rfl dX8_setTarget_22 ?_
      rw [show aI h_18 (14 + 12 * p + 1) 3 = getP r.1 p 3 from hpoR.1.1 3 (by decide)]
      refine r_istore (ls2 := [_, _, _, some _, _]) dX8_setTarget_25 (by decide) rfl ?_
      refine r_aload_n dX8_setTarget_27 rfl ?_
      refine r_iload_n dX8_setTarget_28 rfl ?_
      refine q_putI fl_X8_334 hW (kk_3_0 (kd_po p1)) rfl rfl dX8_setTarget_29 ?_
      refine r_iload dX8_setTarget_32 rfl ?_
      refine r_iret dX8_setTarget_34 rfl ⟨Nat.le_of_ble_eq_true rfl, Nat.le_of_ble_eq_true rfl⟩ ?_
      have e1 : eqx h_18 (sI h_18 (14 + 12 * p + 1) 3 (y)) (btw (14 + 12 * p) (14 + 12 * p + 11)) := by
        repeat (first | exact eqx.rf | refine eqx.sI ?_ (by unfold btw; omega))
      have hp1 : PoR (sI h_18 (14 + 12 * p + 1) 3 (y)) (14 + 12 * p) (nn (r.1 1)) (nn (r.1 1)) (upd (getP r.1 p) 3 y) (getG r.2 p) := hpoR.set (by decide) (by decide) y24
      rw [ex]
      try unfold fP
      try rw [ex]
      refine ⟨cd2_t ko kr9, some_int rfl, CFr.of hcf hrm1 hrm2 e1 (fun i q => by unfold btw SB at *; omega), st_up hsR hO p2 e1 hp1 (by rw [pk_un (by decide)]; exact y23) (by rw [pk_un (by decide)]; exact y24), hL2.eqx hLO2 e1 (fun i q => by unfold btw SB at *; omega)⟩
    · refine PX.out rfl ⟨Nat.le_of_ble_eq_true rfl, Nat.le_of_ble_eq_true rfl⟩ ?_
      obtain ⟨rfl, kx, rfl⟩ := q_14
      exact ⟨thr_22 ko (decide_eq_false kx), rfl⟩
  · refine PX.out rfl ⟨Nat.le_of_ble_eq_true rfl, Nat.le_of_ble_eq_true rfl⟩ ?_
    obtain ⟨rfl, kx, rfl⟩ := q_2
    exact ⟨thr_21 kx, rfl⟩

theorem and_f1 {a b : Bool} (h : a = false) : (a && b) = false := by rw [h]; rfl
theorem and_f2 {a b : Bool} (h : b = false) : (a && b) = false := by rw [h]; exact Bool.and_false _
theorem and_t {a b : Bool} (h : a = true) (h2 : b = true) : (a && b) = true := by rw [h, h2]; rfl
def plB (y z : Int32) : Bool := if y = 2 then rgB 2 24 z else rgB 0 0 z
set_option maxRecDepth 100000 in
set_option maxHeartbeats 4000000 in
theorem c_X8_setCool {l9 : Launch} {G : GC} {h : AH} {r : Row} {m : Nat} {L : List Row} {x y z : Int32} (hW : World h) (hs : StR h 7 r.1 r.2) (hO : RoOK r.1 r.2 m) (hL : PsC h L) (hLO : LsOK L m) : PM l9 G mX8_setCool NT NT [.ref 1, .int x, .int y, .int z] h (fun v h' => cd2 (okP r x) (rgB 0 30 y && rgB 0 30 z) = 0 ∧ v = some (.int (100 * fP r x 12 + fP r x 13)) ∧ CFr h h' ∧ StR h' 7 (upP r (nn x) (upd (upd (fP r x) 12 y) 13 z)).1 (upP r (nn x) (upd (upd (fP r x) 12 y) 13 z)).2 ∧ PsC h' (pushL L r)) (fun E h' => thr [eB, eA] (cd2 (okP r x) (rgB 0 30 y && rgB 0 30 z)) E ∧ h' = h) := by
  refine PM.of (by decide +kernel) rfl rfl (Nat.le_of_ble_eq_true rfl) (fun hst _ => ?_)
  refine r_aload_n dX8_setCool_0 rfl ?_
  refine r_iload_n dX8_setCool_1 rfl ?_
  refine q_callX1 (cv_X8_existingPool ml_X8_112) hW kc_1 (by decide) rfl rfl (Nat.le_of_ble_eq_true rfl) dX8_setCool_2 (c_X8_existingPool hW hs hO) (fun v_2 h_2 q_2 => ?_) (fun E_2 h_2 q_2 => ?_)
  · obtain ⟨z9, ko, p, p1, p2, rfl, rfl⟩ := q_2
    replace z9 := z9.symm
    subst z9
    have ex : nn (nI p) = p := nn_I (by omega)
    have hOp := hO.2 p p2
    have hpo : PoR h (14 + 12 * p) (nn (r.1 1)) (nn (r.1 1)) (getP r.1 p) (getG r.2 p) := hs.po p2
    have hpo9 := hpo
    obtain ⟨zs, zm, zt, ⟨zd, zc⟩, zf, z20, z18, z19, z17, z21, z22, z16⟩ := hpo
    have zd0 : DemR h (14 + 12 * p) (nn (r.1 1)) (getP r.1 p) := ⟨zd, zc⟩
    have yc := hOp.2.2.2.2.1.2.1
    have hLq := hL.2.1
    have h04 : nn (r.1 0) ≤ 4 := hO.1.1.2.2
    have y23 : nn (getP r.1 p 23) ≤ 20 := (hOp.at 23).2.2
    have y24 : nn (getP r.1 p 24) ≤ 24 := (hOp.at 24).2.2
    refine q_getR fl_X8_143 hW (kd_po p1) rfl (kl_3_0 hW (kd_po p1)) (Nat.succ_ne_zero _) dX8_setCool_5 ?_
    refine r_astore (ls2 := [_, _, _, some _, _, _]) dX8_setCool_8 (by decide) rfl ?_
    refine r_iload_n dX8_setCool_10 rfl ?_
    refine r_iconst (0) dX8_setCool_11 (by decide) ?_
    refine r_bipush (30) dX8_setCool_12 (by decide) ?_
    refine q_callXS3 (cs_X8_requireRange ml_X8_116) rfl (Nat.le_of_ble_eq_true rfl) dX8_setCool_14 c_X8_requireRange (fun v_14 h_14 q_14 => ?_) (fun E_14 h_14 q_14 => ?_)
    · obtain ⟨z9, kr, rfl⟩ := q_14
      replace z9 := z9.symm
      subst z9
      have kr1 : rgB 0 30 y = true := decide_eq_true kr
      refine r_iload_n dX8_setCool_17 rfl ?_
      refine r_iconst (0) dX8_setCool_18 (by decide) ?_
      refine r_bipush (30) dX8_setCool_19 (by decide) ?_
      refine q_callXS3 (cs_X8_requireRange ml_X8_116) rfl (Nat.le_of_ble_eq_true rfl) dX8_setCool_21 c_X8_requireRange (fun v_21 h_21 q_21 => ?_) (fun E_21 h_21 q_21 => ?_)
      · obtain ⟨z9, kr, rfl⟩ := q_21
        replace z9 := z9.symm
        subst z9
        have kr2 : rgB 0 30 z = true := decide_eq_true kr
        refine r_aload_n dX8_setCool_24 rfl ?_
        refine q_callV0 (cv_X8_remember ml_X8_289) hW kc_1 (by decide) rfl ⟨rfl, rfl⟩ rfl (Nat.le_of_ble_eq_true rfl) dX8_setCool_25 (c_X8_remember hW hs hO hL hLO) (fun v_25 h_25 q_25 => ?_)
        obtain ⟨z9, hcf, hL2, hrm1, hrm2⟩ := q_25
        subst z9
        have hW := hcf.1
        have hLO2 := LsOK.push hLO hO hLq
        have hsR : StR h_25 7 r.1 r.2 := hs.cgA (fun i i1 i2 => hrm1 i (by omega) (by rcases i2 with i2 | ⟨p9, i2, i3⟩ <;> omega))
        have hpoR : PoR h_25 (14 + 12 * p) (nn (r.1 1)) (nn (r.1 1)) (getP r.1 p) (getG r.2 p) := hsR.po p2
        refine r_bipush (100) dX8_setCool_28 (by decide) ?_
        refine r_aload dX8_setCool_30 rfl ?_
        refine q_getI fl_X8_230 hW (kk_3_0 (kd_po p1)) rfl dX8_setCool_32 ?_
        rw [show aI h_25 (14 + 12 * p + 1) 12 = getP r.1 p 12 from hpoR.1.1 12 (by decide)]
        refine r_imul dX8_setCool_35 ?_
        refine r_aload dX8_setCool_36 rfl ?_
        refine q_getI fl_X8_236 hW (kk_3_0 (kd_po p1)) rfl dX8_setCool_38 ?_
        rw [show aI h_25 (14 + 12 * p + 1) 13 = getP r.1 p 13 from hpoR.1.1 13 (by decide)]
        refine r_iadd dX8_setCool_41 ?_
        refine r_istore (ls2 := [_, _, _, _, some _, _]) dX8_setCool_42 (by decide) rfl ?_
        refine r_aload dX8_setCool_44 rfl ?_
        refine r_iload_n dX8_setCool_46 rfl ?_
        refine q_putI fl_X8_230 hW (kk_3_0 (kd_po p1)) rfl rfl dX8_setCool_47 ?_
        refine r_aload dX8_setCool_50 rfl ?_
        refine r_iload_n dX8_setCool_52 rfl ?_
        refine q_putI fl_X8_236 hW (kk_3_0 (kd_po p1)) rfl rfl dX8_setCool_53 ?_
        refine r_iload dX8_setCool_56 rfl ?_
        refine r_iret dX8_setCool_58 rfl ⟨Nat.le_of_ble_eq_true rfl, Nat.le_of_ble_eq_true rfl⟩ ?_
        have e1 : eqx h_25 (sI (sI h_25 (14 + 12 * p + 1) 12 (y)) (14 + 12 * p + 1) 13 (z)) (btw (14 + 12 * p) (14 + 12 * p + 11)) := by
          repeat (first | exact eqx.rf | refine eqx.sI ?_ (by unfold btw; omega))
        have hp1 : PoR (sI (sI h_25 (14 + 12 * p + 1) 12 (y)) (14 + 12 * p + 1) 13 (z)) (14 + 12 * p) (nn (r.1 1)) (nn (r.1 1)) (upd (upd (getP r.1 p) 12 y) 13 z) (getG r.2 p) := (hpoR.set (by decide) (by decide) y24).set (by decide) (by decide) (by rw [pk_un (by decide)]; exact y24)
        rw [ex]
        try unfold fP
        try rw [ex]
        refine ⟨cd2_t ko (and_t kr1 kr2), some_int rfl, CFr.of hcf hrm1 hrm2 e1 (fun i q => by unfold btw SB at *; omega), st_up hsR hO p2 e1 hp1 (by rw [pk_un (by decide), pk_un (by decide)]; exact y23) (by rw [pk_un (by decide), pk_un (by decide)]; exact y24), hL2.eqx hLO2 e1 (fun i q => by unfold btw SB at *; omega)⟩
      · refine PX.out rfl ⟨Nat.le_of_ble_eq_true rfl, Nat.le_of_ble_eq_true rfl⟩ ?_
        obtain ⟨rfl, kx, rfl⟩ := q_21
        exact ⟨thr_22 ko (and_f2 (decide_eq_false kx)), rfl⟩
    · refine PX.out rfl ⟨Nat.le_of_ble_eq_true rfl, Nat.le_of_ble_eq_true rfl⟩ ?_
      obtain ⟨rfl, kx, rfl⟩ := q_14
      exact ⟨thr_22 ko (and_f1 (decide_eq_false kx)), rfl⟩
  · refine PX.out rfl ⟨Nat.le_of_ble_eq_true rfl, Nat.le_of_ble_eq_true rfl⟩ ?_
    obtain ⟨rfl, kx, rfl⟩ := q_2
    exact ⟨thr_21 kx, rfl⟩

set_option maxRecDepth 100000 in
set_option maxHeartbeats 4000000 in
theorem c_X8_setBounds {l9 : Launch} {G : GC} {h : AH} {r : Row} {m : Nat} {L : List Row} {x y z : Int32} (hW : World h) (hs : StR h 7 r.1 r.2) (hO : RoOK r.1 r.2 m) (hL : PsC h L) (hLO : LsOK L m) : PM l9 G mX8_setBounds NT NT [.ref 1, .int x, .int y, .int z] h (fun v h' => cd2 (okP r x) (rgB 0 20 y && rgB (imx 1 y) 20 z) = 0 ∧ v = some (.int (100 * fP r x 0 + fP r x 1)) ∧ CFr h h' ∧ StR h' 7 (upP r (nn x) (upd (upd (fP r x) 0 y) 1 z)).1 (upP r (nn x) (upd (upd (fP r x) 0 y) 1 z)).2 ∧ PsC h' (pushL L r)) (fun E h' => thr [eB, eA] (cd2 (okP r x) (rgB 0 20 y && rgB (imx 1 y) 20 z)) E ∧ h' = h) := by
  refine PM.of (by decide +kernel) rfl rfl (Nat.le_of_ble_eq_true rfl) (fun hst _ => ?_)
  refine r_aload_n dX8_setBounds_0 rfl ?_
  refine r_iload_n dX8_setBounds_1 rfl ?_
  refine q_callX1 (cv_X8_existingPool ml_X8_112) hW kc_1 (by decide) rfl rfl (Nat.le_of_ble_eq_true rfl) dX8_setBounds_2 (c_X8_existingPool hW hs hO) (fun v_2 h_2 q_2 => ?_) (fun E_2 h_2 q_2 => ?_)
  · obtain ⟨z9, ko, p, p1, p2, rfl, rfl⟩ := q_2
    replace z9 := z9.symm
    subst z9
    have ex : nn (nI p) = p := nn_I (by omega)
    have hOp := hO.2 p p2
    have hpo : PoR h (14 + 12 * p) (nn (r.1 1)) (nn (r.1 1)) (getP r.1 p) (getG r.2 p) := hs.po p2
    have hpo9 := hpo
    obtain ⟨zs, zm, zt, ⟨zd, zc⟩, zf, z20, z18, z19, z17, z21, z22, z16⟩ := hpo
    have zd0 : DemR h (14 + 12 * p) (nn (r.1 1)) (getP r.1 p) := ⟨zd, zc⟩
    have yc := hOp.2.2.2.2.1.2.1
    have hLq := hL.2.1
    have h04 : nn (r.1 0) ≤ 4 := hO.1.1.2.2
    have y23 : nn (getP r.1 p 23) ≤ 20 := (hOp.at 23).2.2
    have y24 : nn (getP r.1 p 24) ≤ 24 := (hOp.at 24).2.2
    refine q_getR fl_X8_143 hW (kd_po p1) rfl (kl_3_0 hW (kd_po p1)) (Nat.succ_ne_zero _) dX8_setBounds_5 ?_
    refine r_astore (ls2 := [_, _, _, some _, _, _]) dX8_setBounds_8 (by decide) rfl ?_
    refine r_iload_n dX8_setBounds_10 rfl ?_
    refine r_iconst (0) dX8_setBounds_11 (by decide) ?_
    refine r_bipush (20) dX8_setBounds_12 (by decide) ?_
    refine q_callXS3 (cs_X8_requireRange ml_X8_116) rfl (Nat.le_of_ble_eq_true rfl) dX8_setBounds_14 c_X8_requireRange (fun v_14 h_14 q_14 => ?_) (fun E_14 h_14 q_14 => ?_)
    · obtain ⟨z9, kr, rfl⟩ := q_14
      replace z9 := z9.symm
      subst z9
      have kr1 : rgB 0 20 y = true := decide_eq_true kr
      refine r_iload_n dX8_setBounds_17 rfl ?_
      refine r_iconst (1) dX8_setBounds_18 (by decide) ?_
      refine r_iload_n dX8_setBounds_19 rfl ?_
      refine q_max mm_X8_239 rfl (Nat.le_of_ble_eq_true rfl) dX8_setBounds_20 ?_
      refine r_bipush (20) dX8_setBounds_23 (by decide) ?_
      refine q_callXS3 (cs_X8_requireRange ml_X8_116) rfl (Nat.le_of_ble_eq_true rfl) dX8_setBounds_25 c_X8_requireRange (fun v_25 h_25 q_25 => ?_) (fun E_25 h_25 q_25 => ?_)
      · obtain ⟨z9, kr, rfl⟩ := q_25
        replace z9 := z9.symm
        subst z9
        have kr2 : rgB (imx 1 y) 20 z = true := decide_eq_true kr
        refine r_aload_n dX8_setBounds_28 rfl ?_
        refine q_callV0 (cv_X8_remember ml_X8_289) hW kc_1 (by decide) rfl ⟨rfl, rfl⟩ rfl (Nat.le_of_ble_eq_true rfl) dX8_setBounds_29 (c_X8_remember hW hs hO hL hLO) (fun v_29 h_29 q_29 => ?_)
        obtain ⟨z9, hcf, hL2, hrm1, hrm2⟩ := q_29
        subst z9
        have hW := hcf.1
        have hLO2 := LsOK.push hLO hO hLq
        have hsR : StR h_29 7 r.1 r.2 := hs.cgA (fun i i1 i2 => hrm1 i (by omega) (by rcases i2 with i2 | ⟨p9, i2, i3⟩ <;> omega))
        have hpoR : PoR h_29 (14 + 12 * p) (nn (r.1 1)) (nn (r.1 1)) (getP r.1 p) (getG r.2 p) := hsR.po p2
        refine r_bipush (100) dX8_setBounds_32 (by decide) ?_
        refine r_aload dX8_setBounds_34 rfl ?_
        refine q_getI fl_X8_337 hW (kk_3_0 (kd_po p1)) rfl dX8_setBounds_36 ?_
        rw [show aI h_29 (14 + 12 * p + 1) 0 = getP r.1 p 0 from hpoR.1.1 0 (by decide)]
        refine r_imul dX8_setBounds_39 ?_
        refine r_aload dX8_setBounds_40 rfl ?_
        refine q_getI fl_X8_301 hW (kk_3_0 (kd_po p1)) rfl dX8_setBounds_42 ?_
        rw [show aI h_29 (14 + 12 * p + 1) 1 = getP r.1 p 1 from hpoR.1.1 1 (by decide)]
        refine r_iadd dX8_setBounds_45 ?_
        refine r_istore (ls2 := [_, _, _, _, some _, _]) dX8_setBounds_46 (by decide) rfl ?_
        refine r_aload dX8_setBounds_48 rfl ?_
        refine r_iload_n dX8_setBounds_50 rfl ?_
        refine q_putI fl_X8_337 hW (kk_3_0 (kd_po p1)) rfl rfl dX8_setBounds_51 ?_
        refine r_aload dX8_setBounds_54 rfl ?_
        refine r_iload_n dX8_setBounds_56 rfl ?_
        refine q_putI fl_X8_301 hW (kk_3_0 (kd_po p1)) rfl rfl dX8_setBounds_57 ?_
        refine r_iload dX8_setBounds_60 rfl ?_
        refine r_iret dX8_setBounds_62 rfl ⟨Nat.le_of_ble_eq_true rfl, Nat.le_of_ble_eq_true rfl⟩ ?_
        have e1 : eqx h_29 (sI (sI h_29 (14 + 12 * p + 1) 0 (y)) (14 + 12 * p + 1) 1 (z)) (btw (14 + 12 * p) (14 + 12 * p + 11)) := by
          repeat (first | exact eqx.rf | refine eqx.sI ?_ (by unfold btw; omega))
        have hp1 : PoR (sI (sI h_29 (14 + 12 * p + 1) 0 (y)) (14 + 12 * p + 1) 1 (z)) (14 + 12 * p) (nn (r.1 1)) (nn (r.1 1)) (upd (upd (getP r.1 p) 0 y) 1 z) (getG r.2 p) := (hpoR.set (by decide) (by decide) y24).set (by decide) (by decide) (by rw [pk_un (by decide)]; exact y24)
        rw [ex]
        try unfold fP
        try rw [ex]
        refine ⟨cd2_t ko (and_t kr1 kr2), some_int rfl, CFr.of hcf hrm1 hrm2 e1 (fun i q => by unfold btw SB at *; omega), st_up hsR hO p2 e1 hp1 (by rw [pk_un (by decide), pk_un (by decide)]; exact y23) (by rw [pk_un (by decide), pk_un (by decide)]; exact y24), hL2.eqx hLO2 e1 (fun i q => by unfold btw SB at *; omega)⟩
      · refine PX.out rfl ⟨Nat.le_of_ble_eq_true rfl, Nat.le_of_ble_eq_true rfl⟩ ?_
        obtain ⟨rfl, kx, rfl⟩ := q_25
        exact ⟨thr_22 ko (and_f2 (decide_eq_false kx)), rfl⟩
    · refine PX.out rfl ⟨Nat.le_of_ble_eq_true rfl, Nat.le_of_ble_eq_true rfl⟩ ?_
      obtain ⟨rfl, kx, rfl⟩ := q_14
      exact ⟨thr_22 ko (and_f1 (decide_eq_false kx)), rfl⟩
  · refine PX.out rfl ⟨Nat.le_of_ble_eq_true rfl, Nat.le_of_ble_eq_true rfl⟩ ?_
    obtain ⟨rfl, kx, rfl⟩ := q_2
    exact ⟨thr_21 kx, rfl⟩

set_option maxRecDepth 100000 in
set_option maxHeartbeats 4000000 in
theorem c_X8_setPolicy {l9 : Launch} {G : GC} {h : AH} {r : Row} {m : Nat} {L : List Row} {x y z : Int32} (hW : World h) (hs : StR h 7 r.1 r.2) (hO : RoOK r.1 r.2 m) (hL : PsC h L) (hLO : LsOK L m) : PM l9 G mX8_setPolicy NT NT [.ref 1, .int x, .int y, .int z] h (fun v h' => cd2 (okP r x) (rgB 0 2 y && plB y z) = 0 ∧ v = some (.int (fP r x 7)) ∧ CFr h h' ∧ StR h' 7 (upP r (nn x) (upd (upd (fP r x) 7 y) 8 z)).1 (upP r (nn x) (upd (upd (fP r x) 7 y) 8 z)).2 ∧ PsC h' (pushL L r)) (fun E h' => thr [eB, eA] (cd2 (okP r x) (rgB 0 2 y && plB y z)) E ∧ h' = h) := by
  refine PM.of (by decide +kernel) rfl rfl (Nat.le_of_ble_eq_true rfl) (fun hst _ => ?_)
  by_cases hy2 : y = 2
  · refine r_aload_n dX8_setPolicy_0 rfl ?_
    refine r_iload_n dX8_setPolicy_1 rfl ?_
    refine q_callX1 (cv_X8_existingPool ml_X8_112) hW kc_1 (by decide) rfl rfl (Nat.le_of_ble_eq_true rfl) dX8_setPolicy_2 (c_X8_existingPool hW hs hO) (fun v_2 h_2 q_2 => ?_) (fun E_2 h_2 q_2 => ?_)
    · obtain ⟨z9, ko, p, p1, p2, rfl, rfl⟩ := q_2
      replace z9 := z9.symm
      subst z9
      have ex : nn (nI p) = p := nn_I (by omega)
      have hOp := hO.2 p p2
      have hpo : PoR h (14 + 12 * p) (nn (r.1 1)) (nn (r.1 1)) (getP r.1 p) (getG r.2 p) := hs.po p2
      have hpo9 := hpo
      obtain ⟨zs, zm, zt, ⟨zd, zc⟩, zf, z20, z18, z19, z17, z21, z22, z16⟩ := hpo
      have zd0 : DemR h (14 + 12 * p) (nn (r.1 1)) (getP r.1 p) := ⟨zd, zc⟩
      have yc := hOp.2.2.2.2.1.2.1
      have hLq := hL.2.1
      have h04 : nn (r.1 0) ≤ 4 := hO.1.1.2.2
      have y23 : nn (getP r.1 p 23) ≤ 20 := (hOp.at 23).2.2
      have y24 : nn (getP r.1 p 24) ≤ 24 := (hOp.at 24).2.2
      refine q_getR fl_X8_143 hW (kd_po p1) rfl (kl_3_0 hW (kd_po p1)) (Nat.succ_ne_zero _) dX8_setPolicy_5 ?_
      refine r_astore (ls2 := [_, _, _, some _, _, _]) dX8_setPolicy_8 (by decide) rfl ?_
      refine r_iload_n dX8_setPolicy_10 rfl ?_
      refine r_iconst (0) dX8_setPolicy_11 (by decide) ?_
      refine r_iconst (2) dX8_setPolicy_12 (by decide) ?_
      refine q_callXS3 (cs_X8_requireRange ml_X8_116) rfl (Nat.le_of_ble_eq_true rfl) dX8_setPolicy_13 c_X8_requireRange (fun v_13 h_13 q_13 => ?_) (fun E_13 h_13 q_13 => ?_)
      · obtain ⟨z9, kr, rfl⟩ := q_13
        replace z9 := z9.symm
        subst z9
        have kr1 : rgB 0 2 y = true := decide_eq_true kr
        refine r_iload_n dX8_setPolicy_16 rfl ?_
        refine r_iload_n dX8_setPolicy_17 rfl ?_
        refine r_iconst (2) dX8_setPolicy_18 (by decide) ?_
        refine r_icmp_ne 26 dX8_setPolicy_19 (by decide) (fun c_19 => ?_) (fun c_19 => ?_)
        · exact absurd hy2 c_19
        · refine r_iconst (2) dX8_setPolicy_22 (by decide) ?_
          refine r_goto 27 dX8_setPolicy_23 (by decide) ?_
          refine r_iload_n dX8_setPolicy_27 rfl ?_
          refine r_iconst (2) dX8_setPolicy_28 (by decide) ?_
          refine r_icmp_ne 37 dX8_setPolicy_29 (by decide) (fun c_29 => ?_) (fun c_29 => ?_)
          · exact absurd hy2 c_29
          · refine r_bipush (24) dX8_setPolicy_32 (by decide) ?_
            refine r_goto 38 dX8_setPolicy_34 (by decide) ?_
            refine q_callXS3 (cs_X8_requireRange ml_X8_116) rfl (Nat.le_of_ble_eq_true rfl) dX8_setPolicy_38 c_X8_requireRange (fun v_38 h_38 q_38 => ?_) (fun E_38 h_38 q_38 => ?_)
            · obtain ⟨z9, kr, rfl⟩ := q_38
              replace z9 := z9.symm
              subst z9
              have kr3 : rgB 2 24 z = true := decide_eq_true kr
              have kr2 : plB y z = true := by unfold plB; rw [if_pos hy2]; exact kr3
              refine r_aload_n dX8_setPolicy_41 rfl ?_
              refine q_callV0 (cv_X8_remember ml_X8_289) hW kc_1 (by decide) rfl ⟨rfl, rfl⟩ rfl (Nat.le_of_ble_eq_true rfl) dX8_setPolicy_42 (c_X8_remember hW hs hO hL hLO) (fun v_42 h_42 q_42 => ?_)
              obtain ⟨z9, hcf, hL2, hrm1, hrm2⟩ := q_42
              subst z9
              have hW := hcf.1
              have hLO2 := LsOK.push hLO hO hLq
              have hsR : StR h_42 7 r.1 r.2 := hs.cgA (fun i i1 i2 => hrm1 i (by omega) (by rcases i2 with i2 | ⟨p9, i2, i3⟩ <;> omega))
              have hpoR : PoR h_42 (14 + 12 * p) (nn (r.1 1)) (nn (r.1 1)) (getP r.1 p) (getG r.2 p) := hsR.po p2
              refine r_aload dX8_setPolicy_45 rfl ?_
              refine q_getI fl_X8_328 hW (kk_3_0 (kd_po p1)) rfl dX8_setPolicy_47 ?_
              rw [show aI h_42 (14 + 12 * p + 1) 7 = getP r.1 p 7 from hpoR.1.1 7 (by decide)]
              refine r_istore (ls2 := [_, _, _, _, some _, _]) dX8_setPolicy_50 (by decide) rfl ?_
              refine r_aload dX8_setPolicy_52 rfl ?_
              refine r_iload_n dX8_setPolicy_54 rfl ?_
              refine q_putI fl_X8_328 hW (kk_3_0 (kd_po p1)) rfl rfl dX8_setPolicy_55 ?_
              refine r_aload dX8_setPolicy_58 rfl ?_
              refine r_iload_n dX8_setPolicy_60 rfl ?_
              refine q_putI fl_X8_331 hW (kk_3_0 (kd_po p1)) rfl rfl dX8_setPolicy_61 ?_
              refine r_iload dX8_setPolicy_64 rfl ?_
              refine r_iret dX8_setPolicy_66 rfl ⟨Nat.le_of_ble_eq_true rfl, Nat.le_of_ble_eq_true rfl⟩ ?_
              have e1 : eqx h_42 (sI (sI h_42 (14 + 12 * p + 1) 7 (y)) (14 + 12 * p + 1) 8 (z)) (btw (14 + 12 * p) (14 + 12 * p + 11)) := by
                repeat (first | exact eqx.rf | refine eqx.sI ?_ (by unfold btw; omega))
              have hp1 : PoR (sI (sI h_42 (14 + 12 * p + 1) 7 (y)) (14 + 12 * p + 1) 8 (z)) (14 + 12 * p) (nn (r.1 1)) (nn (r.1 1)) (upd (upd (getP r.1 p) 7 y) 8 z) (getG r.2 p) := (hpoR.set (by decide) (by decide) y24).set (by decide) (by decide) (by rw [pk_un (by decide)]; exact y24)
              rw [ex]
              try unfold fP
              try rw [ex]
              refine ⟨cd2_t ko (and_t kr1 kr2), some_int rfl, CFr.of hcf hrm1 hrm2 e1 (fun i q => by unfold btw SB at *; omega), st_up hsR hO p2 e1 hp1 (by rw [pk_un (by decide), pk_un (by decide)]; exact y23) (by rw [pk_un (by decide), pk_un (by decide)]; exact y24), hL2.eqx hLO2 e1 (fun i q => by unfold btw SB at *; omega)⟩
            · refine PX.out rfl ⟨Nat.le_of_ble_eq_true rfl, Nat.le_of_ble_eq_true rfl⟩ ?_
              obtain ⟨rfl, kx, rfl⟩ := q_38
              exact ⟨thr_22 ko (and_f2 (by unfold plB; rw [if_pos hy2]; exact decide_eq_false kx)), rfl⟩
      · refine PX.out rfl ⟨Nat.le_of_ble_eq_true rfl, Nat.le_of_ble_eq_true rfl⟩ ?_
        obtain ⟨rfl, kx, rfl⟩ := q_13
        exact ⟨thr_22 ko (and_f1 (decide_eq_false kx)), rfl⟩
    · refine PX.out rfl ⟨Nat.le_of_ble_eq_true rfl, Nat.le_of_ble_eq_true rfl⟩ ?_
      obtain ⟨rfl, kx, rfl⟩ := q_2
      exact ⟨thr_21 kx, rfl⟩
  · refine r_aload_n dX8_setPolicy_0 rfl ?_
    refine r_iload_n dX8_setPolicy_1 rfl ?_
    refine q_callX1 (cv_X8_existingPool ml_X8_112) hW kc_1 (by decide) rfl rfl (Nat.le_of_ble_eq_true rfl) dX8_setPolicy_2 (c_X8_existingPool hW hs hO) (fun v_2 h_2 q_2 => ?_) (fun E_2 h_2 q_2 => ?_)
    · obtain ⟨z9, ko, p, p1, p2, rfl, rfl⟩ := q_2
      replace z9 := z9.symm
      subst z9
      have ex : nn (nI p) = p := nn_I (by omega)
      have hOp := hO.2 p p2
      have hpo : PoR h (14 + 12 * p) (nn (r.1 1)) (nn (r.1 1)) (getP r.1 p) (getG r.2 p) := hs.po p2
      have hpo9 := hpo
      obtain ⟨zs, zm, zt, ⟨zd, zc⟩, zf, z20, z18, z19, z17, z21, z22, z16⟩ := hpo
      have zd0 : DemR h (14 + 12 * p) (nn (r.1 1)) (getP r.1 p) := ⟨zd, zc⟩
      have yc := hOp.2.2.2.2.1.2.1
      have hLq := hL.2.1
      have h04 : nn (r.1 0) ≤ 4 := hO.1.1.2.2
      have y23 : nn (getP r.1 p 23) ≤ 20 := (hOp.at 23).2.2
      have y24 : nn (getP r.1 p 24) ≤ 24 := (hOp.at 24).2.2
      refine q_getR fl_X8_143 hW (kd_po p1) rfl (kl_3_0 hW (kd_po p1)) (Nat.succ_ne_zero _) dX8_setPolicy_5 ?_
      refine r_astore (ls2 := [_, _, _, some _, _, _]) dX8_setPolicy_8 (by decide) rfl ?_
      refine r_iload_n dX8_setPolicy_10 rfl ?_
      refine r_iconst (0) dX8_setPolicy_11 (by decide) ?_
      refine r_iconst (2) dX8_setPolicy_12 (by decide) ?_
      refine q_callXS3 (cs_X8_requireRange ml_X8_116) rfl (Nat.le_of_ble_eq_true rfl) dX8_setPolicy_13 c_X8_requireRange (fun v_13 h_13 q_13 => ?_) (fun E_13 h_13 q_13 => ?_)
      · obtain ⟨z9, kr, rfl⟩ := q_13
        replace z9 := z9.symm
        subst z9
        have kr1 : rgB 0 2 y = true := decide_eq_true kr
        refine r_iload_n dX8_setPolicy_16 rfl ?_
        refine r_iload_n dX8_setPolicy_17 rfl ?_
        refine r_iconst (2) dX8_setPolicy_18 (by decide) ?_
        refine r_icmp_ne 26 dX8_setPolicy_19 (by decide) (fun c_19 => ?_) (fun c_19 => ?_)
        · refine r_iconst (0) dX8_setPolicy_26 (by decide) ?_
          refine r_iload_n dX8_setPolicy_27 rfl ?_
          refine r_iconst (2) dX8_setPolicy_28 (by decide) ?_
          refine r_icmp_ne 37 dX8_setPolicy_29 (by decide) (fun c_29 => ?_) (fun c_29 => ?_)
          · refine r_iconst (0) dX8_setPolicy_37 (by decide) ?_
            refine q_callXS3 (cs_X8_requireRange ml_X8_116) rfl (Nat.le_of_ble_eq_true rfl) dX8_setPolicy_38 c_X8_requireRange (fun v_38 h_38 q_38 => ?_) (fun E_38 h_38 q_38 => ?_)
            · obtain ⟨z9, kr, rfl⟩ := q_38
              replace z9 := z9.symm
              subst z9
              have kr3 : rgB 0 0 z = true := decide_eq_true kr
              have kr2 : plB y z = true := by unfold plB; rw [if_neg hy2]; exact kr3
              refine r_aload_n dX8_setPolicy_41 rfl ?_
              refine q_callV0 (cv_X8_remember ml_X8_289) hW kc_1 (by decide) rfl ⟨rfl, rfl⟩ rfl (Nat.le_of_ble_eq_true rfl) dX8_setPolicy_42 (c_X8_remember hW hs hO hL hLO) (fun v_42 h_42 q_42 => ?_)
              obtain ⟨z9, hcf, hL2, hrm1, hrm2⟩ := q_42
              subst z9
              have hW := hcf.1
              have hLO2 := LsOK.push hLO hO hLq
              have hsR : StR h_42 7 r.1 r.2 := hs.cgA (fun i i1 i2 => hrm1 i (by omega) (by rcases i2 with i2 | ⟨p9, i2, i3⟩ <;> omega))
              have hpoR : PoR h_42 (14 + 12 * p) (nn (r.1 1)) (nn (r.1 1)) (getP r.1 p) (getG r.2 p) := hsR.po p2
              refine r_aload dX8_setPolicy_45 rfl ?_
              refine q_getI fl_X8_328 hW (kk_3_0 (kd_po p1)) rfl dX8_setPolicy_47 ?_
              rw [show aI h_42 (14 + 12 * p + 1) 7 = getP r.1 p 7 from hpoR.1.1 7 (by decide)]
              refine r_istore (ls2 := [_, _, _, _, some _, _]) dX8_setPolicy_50 (by decide) rfl ?_
              refine r_aload dX8_setPolicy_52 rfl ?_
              refine r_iload_n dX8_setPolicy_54 rfl ?_
              refine q_putI fl_X8_328 hW (kk_3_0 (kd_po p1)) rfl rfl dX8_setPolicy_55 ?_
              refine r_aload dX8_setPolicy_58 rfl ?_
              refine r_iload_n dX8_setPolicy_60 rfl ?_
              refine q_putI fl_X8_331 hW (kk_3_0 (kd_po p1)) rfl rfl dX8_setPolicy_61 ?_
              refine r_iload dX8_setPolicy_64 rfl ?_
              refine r_iret dX8_setPolicy_66 rfl ⟨Nat.le_of_ble_eq_true rfl, Nat.le_of_ble_eq_true rfl⟩ ?_
              have e1 : eqx h_42 (sI (sI h_42 (14 + 12 * p + 1) 7 (y)) (14 + 12 * p + 1) 8 (z)) (btw (14 + 12 * p) (14 + 12 * p + 11)) := by
                repeat (first | exact eqx.rf | refine eqx.sI ?_ (by unfold btw; omega))
              have hp1 : PoR (sI (sI h_42 (14 + 12 * p + 1) 7 (y)) (14 + 12 * p + 1) 8 (z)) (14 + 12 * p) (nn (r.1 1)) (nn (r.1 1)) (upd (upd (getP r.1 p) 7 y) 8 z) (getG r.2 p) := (hpoR.set (by decide) (by decide) y24).set (by decide) (by decide) (by rw [pk_un (by decide)]; exact y24)
              rw [ex]
              try unfold fP
              try rw [ex]
              refine ⟨cd2_t ko (and_t kr1 kr2), some_int rfl, CFr.of hcf hrm1 hrm2 e1 (fun i q => by unfold btw SB at *; omega), st_up hsR hO p2 e1 hp1 (by rw [pk_un (by decide), pk_un (by decide)]; exact y23) (by rw [pk_un (by decide), pk_un (by decide)]; exact y24), hL2.eqx hLO2 e1 (fun i q => by unfold btw SB at *; omega)⟩
            · refine PX.out rfl ⟨Nat.le_of_ble_eq_true rfl, Nat.le_of_ble_eq_true rfl⟩ ?_
              obtain ⟨rfl, kx, rfl⟩ := q_38
              exact ⟨thr_22 ko (and_f2 (by unfold plB; rw [if_neg hy2]; exact decide_eq_false kx)), rfl⟩
          · exact absurd c_29 hy2
        · exact absurd c_19 hy2
      · refine PX.out rfl ⟨Nat.le_of_ble_eq_true rfl, Nat.le_of_ble_eq_true rfl⟩ ?_
        obtain ⟨rfl, kx, rfl⟩ := q_13
        exact ⟨thr_22 ko (and_f1 (decide_eq_false kx)), rfl⟩
    · refine PX.out rfl ⟨Nat.le_of_ble_eq_true rfl, Nat.le_of_ble_eq_true rfl⟩ ?_
      obtain ⟨rfl, kx, rfl⟩ := q_2
      exact ⟨thr_21 kx, rfl⟩

theorem thr_31 {a b c : Bool} {e : String} {L : List String} (h : a = false) : thr (e :: L) (cd3 a b c) e := by rw [h]; exact ⟨(by decide : (1 : Nat) ≠ 0), rfl⟩
theorem thr_32 {a b c : Bool} {e e2 : String} {L : List String} (h : a = true) (h2 : b = false) : thr (e :: e2 :: L) (cd3 a b c) e2 := by rw [h, h2]; exact ⟨(by decide : (2 : Nat) ≠ 0), rfl⟩
theorem thr_33 {a b c : Bool} {e e2 e3 : String} {L : List String} (h : a = true) (h2 : b = true) (h3 : c = false) : thr (e :: e2 :: e3 :: L) (cd3 a b c) e3 := by rw [h, h2, h3]; exact ⟨(by decide : (3 : Nat) ≠ 0), rfl⟩
theorem cd3_t {a b c : Bool} (h : a = true) (h2 : b = true) (h3 : c = true) : cd3 a b c = 0 := by rw [h, h2, h3]; rfl
set_option maxRecDepth 100000 in
set_option maxHeartbeats 4000000 in
theorem c_X8_setLoad {l9 : Launch} {G : GC} {h : AH} {r : Row} {m : Nat} {L : List Row} {x y z : Int32} (hW : World h) (hs : StR h 7 r.1 r.2) (hO : RoOK r.1 r.2 m) (hL : PsC h L) (hLO : LsOK L m) : PM l9 G mX8_setLoad NT NT [.ref 1, .int x, .int y, .int z] h (fun v h' => cd3 (okP r x) (rgB 0 999 z) (ltB (fP r x 24) y) = 0 ∧ v = some (.int (fP r x (36 + nn y))) ∧ CFr h h' ∧ StR h' 7 (upP r (nn x) (upd (fP r x) (36 + nn y) z)).1 (upP r (nn x) (upd (fP r x) (36 + nn y) z)).2 ∧ PsC h' (pushL L r)) (fun E h' => thr [eB, eA, eN] (cd3 (okP r x) (rgB 0 999 z) (ltB (fP r x 24) y)) E ∧ h' = h) := by
  refine PM.of (by decide +kernel) rfl rfl (Nat.le_of_ble_eq_true rfl) (fun hst _ => ?_)
  refine r_aload_n dX8_setLoad_0 rfl ?_
  refine r_iload_n dX8_setLoad_1 rfl ?_
  refine q_callX1 (cv_X8_existingPool ml_X8_112) hW kc_1 (by decide) rfl rfl (Nat.le_of_ble_eq_true rfl) dX8_setLoad_2 (c_X8_existingPool hW hs hO) (fun v_2 h_2 q_2 => ?_) (fun E_2 h_2 q_2 => ?_)
  · obtain ⟨z9, ko, p, p1, p2, rfl, rfl⟩ := q_2
    replace z9 := z9.symm
    subst z9
    have ex : nn (nI p) = p := nn_I (by omega)
    have hOp := hO.2 p p2
    have hpo : PoR h (14 + 12 * p) (nn (r.1 1)) (nn (r.1 1)) (getP r.1 p) (getG r.2 p) := hs.po p2
    have hpo9 := hpo
    obtain ⟨zs, zm, zt, ⟨zd, zc⟩, zf, z20, z18, z19, z17, z21, z22, z16⟩ := hpo
    have zd0 : DemR h (14 + 12 * p) (nn (r.1 1)) (getP r.1 p) := ⟨zd, zc⟩
    have yc := hOp.2.2.2.2.1.2.1
    have hLq := hL.2.1
    have h04 : nn (r.1 0) ≤ 4 := hO.1.1.2.2
    have y23 : nn (getP r.1 p 23) ≤ 20 := (hOp.at 23).2.2
    have y24 : nn (getP r.1 p 24) ≤ 24 := (hOp.at 24).2.2
    refine q_getR fl_X8_143 hW (kd_po p1) rfl (kl_3_0 hW (kd_po p1)) (Nat.succ_ne_zero _) dX8_setLoad_5 ?_
    refine r_astore (ls2 := [_, _, _, some _, _, _]) dX8_setLoad_8 (by decide) rfl ?_
    refine r_iload_n dX8_setLoad_10 rfl ?_
    refine r_iconst (0) dX8_setLoad_11 (by decide) ?_
    refine r_sipush (999) dX8_setLoad_12 (by decide) ?_
    refine q_callXS3 (cs_X8_requireRange ml_X8_116) rfl (Nat.le_of_ble_eq_true rfl) dX8_setLoad_15 c_X8_requireRange (fun v_15 h_15 q_15 => ?_) (fun E_15 h_15 q_15 => ?_)
    · obtain ⟨z9, kr, rfl⟩ := q_15
      replace z9 := z9.symm
      subst z9
      have kr9 : rgB 0 999 z = true := decide_eq_true kr
      refine r_iload_n dX8_setLoad_18 rfl ?_
      refine r_if_lt 31 dX8_setLoad_19 (by decide) (fun c_19 => ?_) (fun c_19 => ?_)
      · refine r_throwN (ln := 2) ths_159_183 rfl rfl (Nat.le_of_ble_eq_true rfl) dX8_setLoad_31 dX8_setLoad_34 (Or.inl ⟨rfl, dX8_setLoad_35⟩) dX8_setLoad_37 dX8_setLoad_40 ?_
        unfold fP
        rw [ex]
        first
          | exact ⟨thr_33 ko kr9 (decide_eq_false (fun q => absurd c_19 (Int32.not_lt.mpr q.1))), rfl⟩
          | exact ⟨thr_33 ko kr9 (decide_eq_false (fun q => c_28 (by have z := q.2; rw [(hOp.at 24).1] at z; exact z))), rfl⟩
      · refine r_iload_n dX8_setLoad_22 rfl ?_
        refine r_aload dX8_setLoad_23 rfl ?_
        refine q_getI fl_X8_339 hW (kk_3_0 (kd_po p1)) rfl dX8_setLoad_25 ?_
        rw [show aI h (14 + 12 * p + 1) 17 = nI (nn (getP r.1 p 24)) from by rw [zs.2.1, lds_len]]
        refine r_icmp_lt 41 dX8_setLoad_28 (by decide) (fun c_28 => ?_) (fun c_28 => ?_)
        · have kb : ltB (getP r.1 p 24) y = true := decide_eq_true ⟨Int32.not_lt.mp c_19, by rw [(hOp.at 24).1]; exact c_28⟩
          obtain ⟨k, k1, hy⟩ := ltB_t (hOp.at 24).1 (by omega) kb
          have ey : nn y = k := by rw [hy]; exact nn_I (by omega)
          refine r_aload_n dX8_setLoad_41 rfl ?_
          refine q_callV0 (cv_X8_remember ml_X8_289) hW kc_1 (by decide) rfl ⟨rfl, rfl⟩ rfl (Nat.le_of_ble_eq_true rfl) dX8_setLoad_42 (c_X8_remember hW hs hO hL hLO) (fun v_42 h_42 q_42 => ?_)
          obtain ⟨z9, hcf, hL2, hrm1, hrm2⟩ := q_42
          subst z9
          have hW := hcf.1
          have hLO2 := LsOK.push hLO hO hLq
          have hsR : StR h_42 7 r.1 r.2 := hs.cgA (fun i i1 i2 => hrm1 i (by omega) (by rcases i2 with i2 | ⟨p9, i2, i3⟩ <;> omega))
          have hpoR : PoR h_42 (14 + 12 * p) (nn (r.1 1)) (nn (r.1 1)) (getP r.1 p) (getG r.2 p) := hsR.po p2
          refine r_aload dX8_setLoad_45 rfl ?_
          refine q_getR fl_X8_342 hW (kk_3_0 (kd_po p1)) rfl (kl_4_16 hW (kk_3_0 (kd_po p1))) (Nat.succ_ne_zero _) dX8_setLoad_47 ?_
          refine r_iload_n dX8_setLoad_50 rfl ?_
          refine q_iald hW (kk_4_16 (kk_3_0 (kd_po p1))) hy (by omega) (by decide) dX8_setLoad_51 ?_
          rw [show aI h_42 (14 + 12 * p + 1 + 1) k = getP r.1 p (36 + k) from by have z := hpoR.1.2.2.2 k (by rw [lds_len]; exact k1); rw [lds_at k1] at z; exact z]
          refine r_istore (ls2 := [_, _, _, _, some _, _]) dX8_setLoad_52 (by decide) rfl ?_
          refine r_aload dX8_setLoad_54 rfl ?_
          refine q_getR fl_X8_342 hW (kk_3_0 (kd_po p1)) rfl (kl_4_16 hW (kk_3_0 (kd_po p1))) (Nat.succ_ne_zero _) dX8_setLoad_56 ?_
          refine r_iload_n dX8_setLoad_59 rfl ?_
          refine r_iload_n dX8_setLoad_60 rfl ?_
          refine q_iast hW (kk_4_16 (kk_3_0 (kd_po p1))) hy (by omega) (by decide) dX8_setLoad_61 ?_
          refine r_iload dX8_setLoad_62 rfl ?_
          refine r_iret dX8_setLoad_64 rfl ⟨Nat.le_of_ble_eq_true rfl, Nat.le_of_ble_eq_true rfl⟩ ?_
          have e1 : eqx h_42 (sI h_42 (14 + 12 * p + 2) k z) (btw (14 + 12 * p) (14 + 12 * p + 11)) := by
            repeat (first | exact eqx.rf | refine eqx.sI ?_ (by unfold btw; omega))
          have hp1 : PoR (sI h_42 (14 + 12 * p + 2) k z) (14 + 12 * p) (nn (r.1 1)) (nn (r.1 1)) (upd (getP r.1 p) (36 + k) z) (getG r.2 p) := hpoR.ld k1 y24
          rw [ex, ey]
          try unfold fP
          try rw [ex]
          refine ⟨cd3_t ko kr9 kb, some_int rfl, CFr.of hcf hrm1 hrm2 e1 (fun i q => by unfold btw SB at *; omega), st_up hsR hO p2 e1 hp1 (by rw [pk_un (by omega)]; exact y23) (by rw [pk_un (by omega)]; exact y24), hL2.eqx hLO2 e1 (fun i q => by unfold btw SB at *; omega)⟩
        · refine r_throwN (ln := 2) ths_159_183 rfl rfl (Nat.le_of_ble_eq_true rfl) dX8_setLoad_31 dX8_setLoad_34 (Or.inl ⟨rfl, dX8_setLoad_35⟩) dX8_setLoad_37 dX8_setLoad_40 ?_
          unfold fP
          rw [ex]
          first
            | exact ⟨thr_33 ko kr9 (decide_eq_false (fun q => absurd c_19 (Int32.not_lt.mpr q.1))), rfl⟩
            | exact ⟨thr_33 ko kr9 (decide_eq_false (fun q => c_28 (by have z := q.2; rw [(hOp.at 24).1] at z; exact z))), rfl⟩
    · refine PX.out rfl ⟨Nat.le_of_ble_eq_true rfl, Nat.le_of_ble_eq_true rfl⟩ ?_
      obtain ⟨rfl, kx, rfl⟩ := q_15
      exact ⟨thr_32 ko (decide_eq_false kx), rfl⟩
  · refine PX.out rfl ⟨Nat.le_of_ble_eq_true rfl, Nat.le_of_ble_eq_true rfl⟩ ?_
    obtain ⟨rfl, kx, rfl⟩ := q_2
    exact ⟨thr_31 kx, rfl⟩

def prR (r : Row) (x z : Int32) : Row := match mbP r x, mbK r x with
  | some p, some k => upP r p (prF (getP r.1 p) k z)
  | _, _ => r
theorem prR_s {r : Row} {x z : Int32} {p k : Nat} (h1 : mbP r x = some p) (h2 : mbK r x = some k) : prR r x z = upP r p (prF (getP r.1 p) k z) := by unfold prR; rw [h1, h2]
theorem mbAo_s {r : Row} {x y : Int32} {p k : Nat} (h1 : mbP r x = some p) (h2 : mbK r x = some k) : mbAo r x y = mbV r p k (nn y) := by unfold mbAo; rw [h1, h2]
theorem RoOK.k8 {h : AH} {r : Row} {m : Nat} {x : Int32} (hs : StR h 7 r.1 r.2) (hO : RoOK r.1 r.2 m) : ∀ k, mbK r x = some k → k < 2 ^ 31 := fun k hk => by
  cases hq : mbP r x with
  | none => unfold mbK at hk; rw [hq] at hk; cases hk
  | some p =>
    obtain ⟨z1, k', z2, z3⟩ := mb_some hq
    have z4 := plS_lt z3
    have z5 := (hs.sz hO (p := p) z1).2.1
    rw [z2] at hk; cases hk; omega
set_option maxRecDepth 100000 in
set_option maxHeartbeats 4000000 in
theorem c_X8_protect {l9 : Launch} {G : GC} {h : AH} {r : Row} {m : Nat} {L : List Row} {x : Int32} {b : Bool} (hW : World h) (hs : StR h 7 r.1 r.2) (hO : RoOK r.1 r.2 m) (hL : PsC h L) (hLO : LsOK L m) : PM l9 G mX8_protect NT NT [.ref 1, .int x, .int (bI b)] h (fun v h' => cd1 (mbP r x).isSome = 0 ∧ v = some (.int (mbAo r x 4)) ∧ CFr h h' ∧ StR h' 7 (prR r x (bI b)).1 (prR r x (bI b)).2 ∧ PsC h' (pushL L r)) (fun E h' => thr [eN] (cd1 (mbP r x).isSome) E ∧ h' = h) := by
  refine PM.of (by decide +kernel) rfl rfl (Nat.le_of_ble_eq_true rfl) (fun hst _ => ?_)
  have hk8 := RoOK.k8 (x := x) hs hO
  refine r_aload_n dX8_protect_0 rfl ?_
  refine q_getR fl_X8_37 hW kc_1 rfl (kl_8_6 hW) (by decide) dX8_protect_1 ?_
  refine r_iload_n dX8_protect_4 rfl ?_
  refine q_callV1 (cv_X6_homeOf ml_X8_152) hW kc_7 (by decide) rfl ⟨rfl, rfl⟩ rfl (Nat.le_of_ble_eq_true rfl) dX8_protect_5 (c_X6_homeOf hW kc_7 hs hO) (fun v_5 h_5 q_5 => ?_)
  obtain ⟨rfl, z9⟩ := q_5
  replace z9 := z9.symm
  subst z9
  refine r_istore_n (ls2 := [_, _, some _, _, _, _, _]) dX8_protect_8 (by decide) rfl ?_
  refine r_aload_n dX8_protect_9 rfl ?_
  refine q_getR fl_X8_37 hW kc_1 rfl (kl_8_6 hW) (by decide) dX8_protect_10 ?_
  refine r_iload_n dX8_protect_13 rfl ?_
  refine r_iload_n dX8_protect_14 rfl ?_
  skip
  refine q_callV2 (cv_X6_placeIn ml_X8_155) hW kc_7 (by decide) rfl ⟨rfl, rfl⟩ rfl (Nat.le_of_ble_eq_true rfl) dX8_protect_15 (c_X6_placeIn hW kc_7 hs hO (fun p hp => (fi_lt hp).1)) (fun v_15 h_15 q_15 => ?_)
  obtain ⟨rfl, z9⟩ := q_15
  replace z9 := z9.symm
  subst z9
  refine r_istore (ls2 := [_, _, _, some _, _, _, _]) dX8_protect_18 (by decide) rfl ?_
  skip
  refine r_iload dX8_protect_20 rfl ?_
  change PW _ _ _ _ _ _ _ _ (.int (oI (mbK r x)) :: _) _ _
  refine r_if_ge 35 dX8_protect_22 (by decide) (fun c_22 => ?_) (fun c_22 => ?_)
  · obtain ⟨p, hp9⟩ : ∃ p, mbP r x = some p := by
      cases hq : mbP r x with
      | none => exact absurd (show oI (mbK r x) < 0 from by unfold mbK; rw [hq]; exact (by decide : (-1 : Int32) < 0)) (Int32.not_lt.mpr c_22)
      | some p => exact ⟨p, rfl⟩
    obtain ⟨p2, k, zk, zl⟩ := mb_some hp9
    have zkl := plS_lt zl
    obtain ⟨np, n4, n3, en⟩ := hO.np
    have p1 : p < 4 := by omega
    have hOp := hO.2 p p2
    have hLq := hL.2.1
    have h04 : nn (r.1 0) ≤ 4 := hO.1.1.2.2
    have y23 : nn (getP r.1 p 23) ≤ 20 := (hOp.at 23).2.2
    have y24 : nn (getP r.1 p 24) ≤ 24 := (hOp.at 24).2.2
    have hp8 : hmS r.1 x (nn (r.1 0)) = some p := hp9
    have hk8' : (hmS r.1 x (nn (r.1 0))).bind (plS r.1 x) = some k := zk
    rw [hp8]
    refine r_aload_n dX8_protect_35 rfl ?_
    refine q_callV0 (cv_X8_remember ml_X8_289) hW kc_1 (by decide) rfl ⟨rfl, rfl⟩ rfl (Nat.le_of_ble_eq_true rfl) dX8_protect_36 (c_X8_remember hW hs hO hL hLO) (fun v_36 h_36 q_36 => ?_)
    obtain ⟨z9, hcf, hL2, hrm1, hrm2⟩ := q_36
    subst z9
    have hW := hcf.1
    have hLO2 := LsOK.push hLO hO hLq
    have hsR : StR h_36 7 r.1 r.2 := hs.cgA (fun i i1 i2 => hrm1 i (by omega) (by rcases i2 with i2 | ⟨p9, i2, i3⟩ <;> omega))
    have hpoR : PoR h_36 (14 + 12 * p) (nn (r.1 1)) (nn (r.1 1)) (getP r.1 p) (getG r.2 p) := hsR.po p2
    refine r_aload_n dX8_protect_39 rfl ?_
    refine q_getR fl_X8_37 hW kc_1 rfl (kl_8_6 hW) (by decide) dX8_protect_40 ?_
    refine q_getR fl_X8_164 hW kc_7 rfl (kl_6_0 hW kc_7) (Nat.succ_ne_zero _) dX8_protect_43 ?_
    refine r_iload_n dX8_protect_46 rfl ?_
    refine q_pald hW (kk_6_0 kc_7) rfl p1 dX8_protect_47 ?_
    refine q_getR fl_X8_119 hW (kk_14 (kk_6_0 kc_7).1 p1) rfl (kl_3_1 hW (kk_14 (kk_6_0 kc_7).1 p1)) (Nat.succ_ne_zero _) dX8_protect_48 ?_
    refine r_astore (ls2 := [_, _, _, _, some _, _, _]) dX8_protect_51 (by decide) rfl ?_
    refine r_aload dX8_protect_53 rfl ?_
    refine q_getR fl_X8_179 hW (kk_3_1 (kk_14 (kk_6_0 kc_7).1 p1)) rfl (kl_1_3 hW (kk_3_1 (kk_14 (kk_6_0 kc_7).1 p1))) (Nat.succ_ne_zero _) dX8_protect_55 ?_
    simp only [hp8, Option.bind_some, zl]
    refine r_iload dX8_protect_58 rfl ?_
    refine q_zald hW (kk_1_3 (kk_3_1 (kk_14 (kk_6_0 kc_7).1 p1))) (k := k) rfl (by omega) (by decide) dX8_protect_60 ?_
    rw [show aI h_36 (7 + 1 + 6 + 12 * p + 3 + 4) k = bI (mPrt (mbs (getP r.1 p)) k) from (hpoR.2.1.2.2 k (by rw [mbs_len]; exact zkl)).2.2.2]
    refine r_istore (ls2 := [_, _, _, _, _, some _, _]) dX8_protect_61 (by decide) rfl ?_
    refine r_aload dX8_protect_63 rfl ?_
    refine q_getR fl_X8_179 hW (kk_3_1 (kk_14 (kk_6_0 kc_7).1 p1)) rfl (kl_1_3 hW (kk_3_1 (kk_14 (kk_6_0 kc_7).1 p1))) (Nat.succ_ne_zero _) dX8_protect_65 ?_
    refine r_iload dX8_protect_68 rfl ?_
    refine r_iload_n dX8_protect_70 rfl ?_
    refine q_zast hW (kk_1_3 (kk_3_1 (kk_14 (kk_6_0 kc_7).1 p1))) (k := k) rfl (by omega) (by decide) dX8_protect_71 ?_
    refine r_iload dX8_protect_72 rfl ?_
    refine r_zret dX8_protect_74 rfl (bI_01 _) ⟨Nat.le_of_ble_eq_true rfl, Nat.le_of_ble_eq_true rfl⟩ ?_
    rw [nar_bI, prR_s hp9 zk, mbAo_s hp9 zk, hp9]
    have e1 : eqx h_36 (sI h_36 (14 + 12 * p + 7) k (bI b)) (btw (14 + 12 * p) (14 + 12 * p + 11)) := eqx.rf.sI (by unfold btw; omega)
    have hp1 := hpoR.prt (b := b) zkl y23 y24
    refine ⟨rfl, some_int (by rw [mbs_prt zkl]; rfl), CFr.of hcf hrm1 hrm2 e1 (fun i q => by unfold btw SB at *; omega), st_up hsR hO p2 e1 hp1 (by unfold prF; rw [pk_un (by omega)]; exact y23) (by unfold prF; rw [pk_un (by omega)]; exact y24), hL2.eqx hLO2 e1 (fun i q => by unfold btw SB at *; omega)⟩
  · refine r_throwN (ln := 2) ths_159_161 rfl rfl (Nat.le_of_ble_eq_true rfl) dX8_protect_25 dX8_protect_28 (Or.inl ⟨rfl, dX8_protect_29⟩) dX8_protect_31 dX8_protect_34 ?_
    refine ⟨thr_1 ?_, rfl⟩
    cases hq : mbP r x with
    | none => rfl
    | some p =>
      obtain ⟨z1, k', z2, z3⟩ := mb_some hq
      rw [z2] at c_22
      exact absurd c_22 (fun z => z (Int32.not_lt.mp (nI_pos (hk8 k' z2))))
