-- the law: what the input, the text, loadPools and restoreState leave
theorem and255 {x : Int32} : rg (x &&& 255) 0 255 := by
  have h : (x &&& 255).toBitVec.toNat < 256 := by
    show (x.toBitVec &&& 255#32).toNat < 256
    rw [BitVec.toNat_and]
    exact Nat.lt_of_le_of_lt Nat.and_le_right (by decide)
  have e : x &&& 255 = nI (x &&& 255).toBitVec.toNat := by
    apply Int32.toBitVec_inj.mp
    apply BitVec.eq_of_toNat_eq
    show _ = (BitVec.ofNat 32 _).toNat
    rw [BitVec.toNat_ofNat]
    omega
  rw [e]
  exact rg_I (Nat.zero_le _) (by omega) (by decide)
theorem rg_upd {b : Nat → Int32} {n : Nat} {x : Int32} (h : ∀ i, i < n → rg (b i) 0 255) (hx : rg x 0 255) : ∀ i, i < n + 1 → rg (upd b n x i) 0 255 := by
  intro i hi
  by_cases e : i = n
  · rw [e]
    have : upd b n x n = x := if_pos rfl
    rw [this]; exact hx
  · have : upd b n x i = b i := if_neg e
    rw [this]; exact h i (by omega)
theorem rg_apB {b : Nat → Int32} {n : Nat} {x : Int32} (h : ∀ i, i < n → rg (b i) 0 255) : ∀ i, i < n + 4 → rg (apB b n x i) 0 255 :=
  rg_upd (rg_upd (rg_upd (rg_upd h and255) and255) and255) and255
theorem rg_ap5 {b : Nat → Int32} {n : Nat} {x1 x2 x3 x4 x5 : Int32} (h : ∀ i, i < n → rg (b i) 0 255) : ∀ i, i < n + 20 → rg (ap5 b n x1 x2 x3 x4 x5 i) 0 255 :=
  rg_apB (rg_apB (rg_apB (rg_apB (rg_apB h))))
theorem agB_sx {x : Int32} (h : rg x 0 255) : agB x (sxB x) := by
  obtain ⟨k, -, k2, rfl⟩ := h.nat
  have : ∀ k, k < 256 → agB (nI k) (sxB (nI k)) := by unfold agB; decide +kernel
  exact this k (by omega)
section TRI
variable {h h1 : AH} {r r2 s s2 : Row} {L L2 : List Row} {sv sv2 : Bool} {b b2 : Nat → Int32} {n n2 m : Nat} {o o2 : Ob} {er eo er2 eo2 : Int32}
theorem tr_out {v : Int64} (hW : World h) (wc : LvC h r L s sv b n o er eo) (wr : LvR h r2 L2 s2 sv2 b2 n2 o2 er2 eo2) (hp : LvP r L s sv b n m) : World (sJ h 737 0 v) ∧ LvC (sJ h 737 0 v) r L s sv b n o er eo ∧ LvR (sJ h 737 0 v) r2 L2 s2 sv2 b2 n2 o2 er2 eo2 := by
  have e : eqx h (sJ h 737 0 v) (fun i => i = 737) := ⟨rfl, rfl, fun i hi => ⟨rfl, if_neg hi⟩⟩
  exact ⟨e.W hW, wc.fr hp e (fun i q => Or.inr (by omega)), wr.fr (fun i a c => e.I (by omega)) (fun i a c => e.J (by omega))⟩
/-- the class's own fields and its input or its output -/
theorem tr_c {S : Nat → Prop} (w : StL h r L r2 L2 s sv b n o er eo) (hp : LvP r L s sv b n m) (e : eqx h h1 S) (hS : ∀ i, S i → i = 1 ∨ i = 2 ∨ i = 5 ∨ i = 6) (hf : ∀ k, k = 2 ∨ k = 3 ∨ k = 9 ∨ k = 11 → aI h1 1 k = aI h 1 k) (hi : InC h1 b2 n2) (ho : OC h1 o2) : World h1 ∧ LvC h1 r L s sv b2 n2 o2 er eo ∧ LvR h1 r2 L2 s sv b n o er eo := by
  obtain ⟨c1, c2, ⟨c3, c4⟩, c5, c6, c7, c8⟩ := w.2.1
  have n1 : ∀ i, 6 < i → ¬ S i := fun i a q => by have := hS i q; omega
  refine ⟨e.W w.1, ⟨c1.eqx e hp.1.1.1.1.2.2 (fun i a c => n1 i (by omega)), ?_, ⟨by rw [hf 9 (by decide)]; exact c3, fun q => (c4 q).eqx e ((hp.2.2.1 q).1.1.1.2.2) (fun i a c => n1 i (by omega))⟩, hi, ho, by rw [hf 2 (by decide)]; exact c7, by rw [hf 3 (by decide)]; exact c8⟩, w.2.2.fr (fun i a c => e.I (n1 i (by omega))) (fun i a c => e.J (n1 i (by omega)))⟩
  obtain ⟨p1, p2, g, p3, p4⟩ := c2
  refine ⟨by rw [hf 11 (by decide)]; exact p1, p2, g, ⟨fun i hi => by rw [e.R]; exact p3.1 i hi, p3.2⟩, fun i hi => (p4 i hi).eqx e ((hp.2.1 i hi).1.1.1.2.2) (fun q a c => n1 q (by omega))⟩
/-- the reference's own fields and its input or its output -/
theorem tr_r {S : Nat → Prop} (hW : World h) (wc : LvC h r L s sv b2 n2 o2 er eo) (wr : LvR h r L s sv b n o er eo) (hp : LvP r L s sv b2 n2 m) (e : eqx h h1 S) (hS : ∀ i, S i → i = 723 ∨ i = 734 ∨ i = 736) (hf : ∀ k, k = 10 ∨ k = 11 ∨ k = 15 ∨ k = 16 → aI h1 723 k = aI h 723 k) (hi : InR h1 b2 n2) (ho : OR h1 o2) : StL h1 r L r L s sv b2 n2 o2 er eo := by
  obtain ⟨c1, c2, ⟨c3, c4⟩, c5, c6, c7, c8⟩ := wr
  have n1 : ∀ i, i ≠ 723 → i ≠ 734 → i ≠ 736 → ¬ S i := fun i a a2 a3 q => by have := hS i q; omega
  refine ⟨e.W hW, wc.fr hp e (fun i q => Or.inr (by have := hS i q; omega)), ⟨?_, ?_, ⟨by rw [hf 11 (by decide)]; exact c3, fun q => ?_⟩, hi, ho, by rw [hf 15 (by decide)]; exact c7, by rw [hf 16 (by decide)]; exact c8⟩⟩
  · unfold MW; rw [e.I (n1 724 (by decide) (by decide) (by decide)), e.J (n1 729 (by decide) (by decide) (by decide))]; exact c1
  · unfold PsR PA; rw [hf 10 (by decide), e.I (n1 728 (by decide) (by decide) (by decide)), e.J (n1 733 (by decide) (by decide) (by decide))]; exact c2
  · unfold SW AW; rw [e.I (n1 727 (by decide) (by decide) (by decide)), e.J (n1 732 (by decide) (by decide) (by decide))]; exact c4 q
theorem oc_eqx {S : Nat → Prop} (e : eqx h h1 S) (h5 : ¬ S 5) (h6 : ¬ S 6) (w : OC h o) : OC h1 o := by unfold OC OuC; rw [e.I h5, e.I h6]; exact w
theorem ic_eqx {S : Nat → Prop} (e : eqx h h1 S) (h5 : ¬ S 1) (h6 : ¬ S 2) (w : InC h b n) : InC h1 b n := by unfold InC; rw [e.I h5, e.I h6]; exact w
theorem or_eqx {S : Nat → Prop} (e : eqx h h1 S) (hf : aI h1 723 29 = aI h 723 29) (h6 : ¬ S 736) (w : OR h o) : OR h1 o := by unfold OR OuR; rw [hf, e.I h6]; exact w
theorem ir_eqx {S : Nat → Prop} (e : eqx h h1 S) (hf : aI h1 723 14 = aI h 723 14) (h6 : ¬ S 734) (w : InR h b n) : InR h1 b n := by unfold InR; rw [hf, e.I h6]; exact w
theorem LvP.inp (h : LvP r L s sv b n m) (hb : ∀ i, i < n2 → rg (b2 i) 0 255) : LvP r L s sv b2 n2 m := ⟨h.1, h.2.1, h.2.2.1, hb⟩
theorem LvP.rs (h : LvP r L s sv b n m) (hs : sv = true) : LvP s [] s sv b n m := ⟨h.2.2.1 hs, fun i hi => absurd hi (Nat.not_lt_zero i), h.2.2.1, h.2.2.2⟩
/-- restoreState of the class -/
theorem st_rs (w : StL h r L r2 L2 s sv b n o er eo) (hp : LvP r L s sv b n m) (e : eqx h h1 (fun i => i = 1 ∨ SB 7 i)) (e1 : aI h1 1 = upd (aI h 1) 11 0) (hs : StR h1 7 s.1 s.2) : StL h1 s [] r2 L2 s sv b n o er eo := by
  obtain ⟨c1, c2, ⟨c3, c4⟩, c5, c6, c7, c8⟩ := w.2.1
  have f : ∀ k, k ≠ 11 → aI h1 1 k = aI h 1 k := fun k hk => by rw [e1]; exact up9_o hk
  have n1 : ∀ i, i ≠ 1 → ¬ (7 ≤ i ∧ i ≤ 61) → ¬ (i = 1 ∨ SB 7 i) := fun i a c q => by unfold SB at q; omega
  refine ⟨e.W w.1, ⟨hs, ?_, ⟨by rw [f 9 (by decide)]; exact c3, fun q => (c4 q).eqx e ((hp.2.2.1 q).1.1.1.2.2) (fun i a c => n1 i (by omega) (by omega))⟩, ?_, oc_eqx e (n1 5 (by decide) (by decide)) (n1 6 (by decide) (by decide)) c6, by rw [f 2 (by decide)]; exact c7, by rw [f 3 (by decide)]; exact c8⟩, w.2.2.fr (fun i a c => e.I (n1 i (by omega) (by omega))) (fun i a c => e.J (n1 i (by omega) (by omega)))⟩
  · obtain ⟨p1, p2, g, p3, p4⟩ := c2
    refine ⟨by rw [e1]; exact up9_s, Nat.zero_le _, g, ⟨fun i hi => by rw [e.R]; exact p3.1 i hi, p3.2⟩, fun i hi => absurd hi (Nat.not_lt_zero i)⟩
  · unfold InC; rw [f 1 (by decide), e.I (n1 2 (by decide) (by decide))]; exact c5
/-- restoreState of the reference -/
theorem st_rs2 (w : StL h r L r2 L2 s sv b n o er eo) (hp : LvP r L s sv b n m) (e : eqx h h1 (fun i => i = 723 ∨ i = 724 ∨ i = 729)) (e1 : aI h1 723 = upd (upd (aI h 723) 12 0) 10 0) (hs : MW h1 s) : StL h1 r L s [] s sv b n o er eo := by
  obtain ⟨c1, c2, ⟨c3, c4⟩, c5, c6, c7, c8⟩ := w.2.2
  have f : ∀ k, k ≠ 10 → k ≠ 12 → aI h1 723 k = aI h 723 k := fun k hk h2 => by rw [e1, up9_o hk, up9_o h2]
  refine ⟨e.W w.1, w.2.1.fr hp e (fun i q => Or.inr (by omega)), ⟨hs, ⟨by rw [e1]; exact up9_s, Nat.zero_le _, fun i hi => absurd hi (Nat.not_lt_zero i)⟩, ⟨by rw [f 11 (by decide) (by decide)]; exact c3, fun q => ?_⟩, ?_, or_eqx e (f 29 (by decide) (by decide)) (by decide) c6, by rw [f 15 (by decide) (by decide)]; exact c7, by rw [f 16 (by decide) (by decide)]; exact c8⟩⟩
  · unfold SW AW; rw [e.I (by decide), e.J (by decide)]; exact c4 q
  · exact ir_eqx e (f 14 (by decide) (by decide)) (by decide) c5
/-- loadPools of the class, not taken -/
theorem st_ld (w : StL h r L r2 L2 s sv b n o er eo) (hp : LvP r L s sv b n m) (hW : World h1) (hR : ∀ i, i ≠ 3 → aR h1 i = aR h i) (hI : ∀ i, i ≠ 1 → i ≠ 3 → ¬ SB 7 i → ¬ SB 62 i → aI h1 i = aI h i ∧ aJ h1 i = aJ h i) (hn : aI h1 1 1 = 0) (h2 : aI h1 1 2 = er2) (h3 : aI h1 1 3 = eo2) (h9 : aI h1 1 9 = aI h 1 9) (h11 : aI h1 1 11 = aI h 1 11) (h7 : ∀ i, SB 7 i → aI h1 i = aI h i ∧ aJ h1 i = aJ h i) : World h1 ∧ LvC h1 r L s sv b 0 o er2 eo2 ∧ LvR h1 r2 L2 s sv b n o er eo := by
  obtain ⟨c1, c2, ⟨c3, c4⟩, c5, c6, c7, c8⟩ := w.2.1
  have g : ∀ i, (3 < i ∧ i < 7) ∨ 116 < i → aI h1 i = aI h i ∧ aJ h1 i = aJ h i := fun i a => hI i (by omega) (by omega) (by unfold SB; omega) (by unfold SB; omega)
  refine ⟨hW, ⟨str_cgh c1 hp.1.1.1.1.2.2 (fun i a c => h7 i (by unfold SB; omega)), ?_, ⟨by rw [h9]; exact c3, fun q => str_cgh (c4 q) ((hp.2.2.1 q).1.1.1.2.2) (fun i a c => g i (by omega))⟩, ⟨hn, Nat.zero_le _, fun i hi => absurd hi (Nat.not_lt_zero i)⟩, ?_, h2, h3⟩, w.2.2.fr (fun i a c => (g i (by omega)).1) (fun i a c => (g i (by omega)).2)⟩
  · obtain ⟨p1, p2, f, p3, p4⟩ := c2
    refine ⟨by rw [h11]; exact p1, p2, f, ⟨fun i hi => by rw [hR 172 (by decide)]; exact p3.1 i hi, p3.2⟩, fun i hi => str_cgh (p4 i hi) ((hp.2.1 i hi).1.1.1.2.2) (fun q a c => ?_)⟩
    exact g q (by omega)
  · unfold OC OuC; rw [(g 5 (by decide)).1, (g 6 (by decide)).1]; exact c6
/-- loadPools of the class, taken -/
theorem st_ld1 (w : StL h r L r2 L2 s sv b n o er eo) (hp : LvP r L s sv b n m) (hW : World h1) (hR : ∀ i, i ≠ 3 → aR h1 i = aR h i) (hI : ∀ i, i ≠ 1 → i ≠ 3 → ¬ SB 7 i → ¬ SB 62 i → aI h1 i = aI h i ∧ aJ h1 i = aJ h i) (hn : aI h1 1 1 = 0) (h2 : aI h1 1 2 = er2) (h3 : aI h1 1 3 = eo2) (h9 : aI h1 1 9 = 0) (h11 : aI h1 1 11 = 0) {r1 : Row} (h7 : StR h1 7 r1.1 r1.2) : World h1 ∧ LvC h1 r1 [] s false b 0 o er2 eo2 ∧ LvR h1 r2 L2 s sv b n o er eo := by
  obtain ⟨c1, c2, ⟨c3, c4⟩, c5, c6, c7, c8⟩ := w.2.1
  have g : ∀ i, (3 < i ∧ i < 7) ∨ 116 < i → aI h1 i = aI h i ∧ aJ h1 i = aJ h i := fun i a => hI i (by omega) (by omega) (by unfold SB; omega) (by unfold SB; omega)
  refine ⟨hW, ⟨h7, ?_, ⟨h9, fun q => absurd q (by decide)⟩, ⟨hn, Nat.zero_le _, fun i hi => absurd hi (Nat.not_lt_zero i)⟩, ?_, h2, h3⟩, w.2.2.fr (fun i a c => (g i (by omega)).1) (fun i a c => (g i (by omega)).2)⟩
  · obtain ⟨p1, p2, f, p3, p4⟩ := c2
    exact ⟨h11, Nat.zero_le _, f, ⟨fun i hi => by rw [hR 172 (by decide)]; exact p3.1 i hi, p3.2⟩, fun i hi => absurd hi (Nat.not_lt_zero i)⟩
  · unfold OC OuC; rw [(g 5 (by decide)).1, (g 6 (by decide)).1]; exact c6
/-- loadPools of the reference, not taken -/
theorem st_lr (hW : World h) (wc : LvC h r L s sv b 0 o er2 eo2) (wr : LvR h r L s sv b n o er eo) (hp : LvP r L s sv b 0 m) (e : eqx h h1 (fun i => i = 723 ∨ i = 724 ∨ i = 725 ∨ i = 729 ∨ i = 730 ∨ i = 735)) (hf : ∀ k, k ≠ 10 → k ≠ 11 → k ≠ 12 → k < 14 ∨ 23 < k → aI h1 723 k = aI h 723 k) (h14 : aI h1 723 14 = 0) (h15 : aI h1 723 15 = er2) (h16 : aI h1 723 16 = eo2) (hm : MW h1 r) (h10 : aI h1 723 10 = aI h 723 10) (h11 : aI h1 723 11 = aI h 723 11) : StL h1 r L r L s sv b 0 o er2 eo2 := by
  obtain ⟨c1, c2, ⟨c3, c4⟩, c5, c6, c7, c8⟩ := wr
  refine ⟨e.W hW, wc.fr hp e (fun i q => Or.inr (by omega)), ⟨hm, ?_, ⟨by rw [h11]; exact c3, fun q => ?_⟩, ⟨h14, Nat.zero_le _, fun i hi => absurd hi (Nat.not_lt_zero i)⟩, or_eqx e (hf 29 (by decide) (by decide) (by decide) (by decide)) (by decide) c6, h15, h16⟩⟩
  · unfold PsR PA; rw [h10, e.I (by decide), e.J (by decide)]; exact c2
  · unfold SW AW; rw [e.I (by decide), e.J (by decide)]; exact c4 q
/-- loadPools of the reference, taken -/
theorem st_lr1 {r1 : Row} (hW : World h) (wc : LvC h r1 [] s false b 0 o er2 eo2) (wr : LvR h r L s sv b n o er eo) (hp : LvP r1 [] s false b 0 m) (e : eqx h h1 (fun i => i = 723 ∨ i = 724 ∨ i = 725 ∨ i = 729 ∨ i = 730 ∨ i = 735)) (hf : ∀ k, k ≠ 10 → k ≠ 11 → k ≠ 12 → k < 14 ∨ 23 < k → aI h1 723 k = aI h 723 k) (h14 : aI h1 723 14 = 0) (h15 : aI h1 723 15 = er2) (h16 : aI h1 723 16 = eo2) (hm : MW h1 r1) (h10 : aI h1 723 10 = 0) (h11 : aI h1 723 11 = 0) : StL h1 r1 [] r1 [] s false b 0 o er2 eo2 := by
  obtain ⟨c1, c2, ⟨c3, c4⟩, c5, c6, c7, c8⟩ := wr
  exact ⟨e.W hW, wc.fr hp e (fun i q => Or.inr (by omega)), ⟨hm, ⟨h10, Nat.zero_le _, fun i hi => absurd hi (Nat.not_lt_zero i)⟩, ⟨h11, fun q => absurd q (by decide)⟩, ⟨h14, Nat.zero_le _, fun i hi => absurd hi (Nat.not_lt_zero i)⟩, or_eqx e (hf 29 (by decide) (by decide) (by decide) (by decide)) (by decide) c6, h15, h16⟩⟩
end TRI
