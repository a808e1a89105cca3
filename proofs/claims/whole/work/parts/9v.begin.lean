-- the law: its two objects, its two cells
section LB
variable {l : Launch} {G : GC} {M : MD} {R : Room} {Fi : CX → State → Prop} {N N' pc : Nat} {ls : List (Option Value)} {st : List Value} {cs : Nat × Nat} {h : AH} {K : Option Value → AH → Prop}
theorem r_callIK {i ix : Nat} {M2 : MD} (hlk : CI (mY M).cls ix M2 0) (hrm : rmOK R cs M2 = true) (hst : (st.map fun v => v.category).sum ≤ 8) (hN : N' = N + (mO M2).cells) (hN2 : N' ≤ NT)
    (hd : decode (mC M) pc = .ok (.invokespecial ix, 3)) (hM : PM l G M2 N N' [.ref i] h K noX)
    (kk : ∀ (v : Option Value) (h' : AH), K v h' → PW l G M R Fi N' (pc + 3) ls (v.toList ++ st) (cs.1 + (mO M2).cells, cs.2 + (mO M2).slots) h') :
    PW l G M R Fi N pc ls (.ref i :: st) cs h :=
  r_callI (as := []) hlk hrm hst (Or.inl ⟨hN, hN2⟩) hd hM kk
end LB
theorem wA_cg {h H : AH} (hW : WorldAh h) (e : ∀ i, i ≤ 722 → aR H i = aR h i ∧ aK H i = aK h i ∧ aL H i = aL h i) : WorldAh H := by
  obtain ⟨w1, w2, a1, a2, a3, a4, a5, a6, a7, a8, a9, a10⟩ := hW
  refine ⟨fun i a b => (e i b).2.1.trans (w1 i a b), fun i a b => (e i b).2.2.trans (w2 i a b), fun i hk => ?_, fun i hk => ?_, fun i hk => ?_, fun i hk => ?_, fun i hk => ?_, fun i hk => ?_, fun i hk => ?_, ?_, ?_, a10⟩
  · show aR H i 0 = _ ∧ aR H i 1 = _ ∧ aR H i 2 = _ ∧ aR H i 3 = _
    rw [(e i hk.2.2).1]; exact a1 i hk
  · show aR H i 0 = _ ∧ aR H i 1 = _ ∧ aR H i 2 = _ ∧ aR H i 3 = _
    rw [(e i hk.2.2).1]; exact a2 i hk
  · show aR H i 0 = _ ∧ aR H i 1 = _ ∧ aR H i 2 = _ ∧ aR H i 3 = _ ∧ aR H i 5 = _
    rw [(e i hk.2.2).1]; exact a3 i hk
  · show aR H i 16 = _
    rw [(e i hk.2.2).1]; exact a4 i hk
  · show aR H i 0 = _ ∧ aR H i 4 = _
    rw [(e i hk.2.2).1]; exact a5 i hk
  · show aR H i 9 = _
    rw [(e i hk.2.2).1]; exact a6 i hk
  · show ∀ p, p < 4 → aR H i p = _
    rw [(e i hk.2.2).1]; exact a7 i hk
  · show aR H 1 0 = _ ∧ aR H 1 4 = _ ∧ aR H 1 5 = _ ∧ aR H 1 6 = _ ∧ aR H 1 7 = _ ∧ aR H 1 8 = _ ∧ aR H 1 10 = _
    rw [(e 1 (by decide)).1]; exact a8
  · show aR H 5 0 = _
    rw [(e 5 (by decide)).1]; exact a9
theorem wA_nW {h : AH} (hW : WorldAh h) : WorldAh (nW h 723 9 0) := wA_cg hW (fun i a => ⟨nW_R (by omega), nW_K (by omega), nW_L (by omega)⟩)
theorem kdN_B {i c : Nat} (hk : kd i c) (h12 : c ≠ 12) (h16 : c ≠ 16) : kdBh i c := by
  obtain ⟨h1, h2, h3⟩ := hk
  refine ⟨h1, h2, Nat.le_of_not_lt fun h4 => ?_⟩
  have h3' : i ≤ 738 := h3
  have h4' : 736 < i := h4
  obtain rfl | rfl : i = 737 ∨ i = 738 := by omega
  · exact h12 (h1.symm.trans (by decide +kernel))
  · exact h16 (h1.symm.trans (by decide +kernel))
theorem wN_cg {h H : AH} (hW : WorldBh h) (e : ∀ i, i ≤ 736 → aR H i = aR h i ∧ aK H i = aK h i ∧ aL H i = aL h i) (k1 : aK H 737 = 12 ∧ aL H 737 = 1) (k2 : aK H 738 = 16 ∧ aL H 738 = 1) : World H := by
  obtain ⟨w1, w2, a1, a2, a3, a4, a5, a6, a7, a8, a9, a10⟩ := hW
  refine ⟨fun i a b => ?_, fun i a b => ?_, fun i hk => ?_, fun i hk => ?_, fun i hk => ?_, fun i hk => ?_, fun i hk => ?_, fun i hk => ?_, fun i hk => ?_, ?_, ?_, ?_⟩
  · have b' : i ≤ 738 := b
    show aK H i = _
    by_cases c : i ≤ 736
    · exact (e i c).2.1.trans (w1 i a c)
    · obtain rfl | rfl : i = 737 ∨ i = 738 := by omega
      · rw [k1.1]; decide +kernel
      · rw [k2.1]; decide +kernel
  · have b' : i ≤ 738 := b
    show aL H i = _
    by_cases c : i ≤ 736
    · exact (e i c).2.2.trans (w2 i a c)
    · obtain rfl | rfl : i = 737 ∨ i = 738 := by omega
      · rw [k1.2]; decide +kernel
      · rw [k2.2]; decide +kernel
  · show aR H i 0 = _ ∧ aR H i 1 = _ ∧ aR H i 2 = _ ∧ aR H i 3 = _
    rw [(e i (kdN_B hk (by decide) (by decide)).2.2).1]; exact a1 i (kdN_B hk (by decide) (by decide))
  · show aR H i 0 = _ ∧ aR H i 1 = _ ∧ aR H i 2 = _ ∧ aR H i 3 = _
    rw [(e i (kdN_B hk (by decide) (by decide)).2.2).1]; exact a2 i (kdN_B hk (by decide) (by decide))
  · show aR H i 0 = _ ∧ aR H i 1 = _ ∧ aR H i 2 = _ ∧ aR H i 3 = _ ∧ aR H i 5 = _
    rw [(e i (kdN_B hk (by decide) (by decide)).2.2).1]; exact a3 i (kdN_B hk (by decide) (by decide))
  · show aR H i 16 = _
    rw [(e i (kdN_B hk (by decide) (by decide)).2.2).1]; exact a4 i (kdN_B hk (by decide) (by decide))
  · show aR H i 0 = _ ∧ aR H i 4 = _
    rw [(e i (kdN_B hk (by decide) (by decide)).2.2).1]; exact a5 i (kdN_B hk (by decide) (by decide))
  · show aR H i 9 = _
    rw [(e i (kdN_B hk (by decide) (by decide)).2.2).1]; exact a6 i (kdN_B hk (by decide) (by decide))
  · show ∀ p, p < 4 → aR H i p = _
    rw [(e i (kdN_B hk (by decide) (by decide)).2.2).1]; exact a7 i (kdN_B hk (by decide) (by decide))
  · show aR H 1 0 = _ ∧ aR H 1 4 = _ ∧ aR H 1 5 = _ ∧ aR H 1 6 = _ ∧ aR H 1 7 = _ ∧ aR H 1 8 = _ ∧ aR H 1 10 = _
    rw [(e 1 (by decide)).1]; exact a8
  · show aR H 5 0 = _
    rw [(e 5 (by decide)).1]; exact a9
  · show aR H 723 0 = _ ∧ aR H 723 1 = _ ∧ aR H 723 2 = _ ∧ aR H 723 3 = _ ∧ aR H 723 4 = _ ∧ aR H 723 5 = _ ∧ aR H 723 6 = _ ∧ aR H 723 7 = _ ∧ aR H 723 8 = _ ∧ aR H 723 9 = _ ∧ aR H 723 13 = _ ∧ aR H 723 24 = _ ∧ aR H 723 28 = _
    rw [(e 723 (by decide)).1]; exact a10
def r0S : Row := (apW noW 1 4 10, ZG)
theorem lv_begin {h1 h2 : AH} (a2 : ∀ j, 1 < j → j ≤ 722 → ¬ SB 7 j → ZO h1 j) (a3 : ∀ k, aI h1 1 k = if k = 3 then -1 else 0) (a5 : StR h1 7 (apW noW 1 4 10) ZG) (a6 : ∀ i, i < 10 → aR h1 172 i = 173 + 55 * i)
    (b1 : WorldBh h2) (b2 : ∀ j, 0 < j → j < 723 → aI h2 j = aI (nW h1 723 9 0) j ∧ aJ h2 j = aJ (nW h1 723 9 0) j) (b4 : ∀ k, aI h2 723 k = if k = 16 then -1 else 0) (b6 : MW h2 (apW noW 1 4 10, ZG)) (b7 : ∀ j, 0 < j → j < 723 → aR h2 j = aR (nW h1 723 9 0) j) :
    StL (nW (nW h2 737 12 1) 738 16 1) r0S [] r0S [] r0S false (fun _ => 0) 0 (fun _ => 0, 0) 0 (-1) ∧ LvP r0S [] r0S false (fun _ => 0) 0 (300 * 0) := by
  have hI : ∀ i, i ≤ 736 → aI (nW (nW h2 737 12 1) 738 16 1) i = aI h2 i := fun i a => (nW_I (by omega)).trans (nW_I (by omega))
  have hJ : ∀ i, i ≤ 736 → aJ (nW (nW h2 737 12 1) 738 16 1) i = aJ h2 i := fun i a => (nW_J (by omega)).trans (nW_J (by omega))
  have hR : ∀ i, i ≤ 736 → aR (nW (nW h2 737 12 1) 738 16 1) i = aR h2 i := fun i a => (nW_R (by omega)).trans (nW_R (by omega))
  have cI : ∀ i, 0 < i → i < 723 → aI (nW (nW h2 737 12 1) 738 16 1) i = aI h1 i := fun i a b => (hI i (by omega)).trans ((b2 i a b).1.trans (nW_I (by omega)))
  have cJ : ∀ i, 0 < i → i < 723 → aJ (nW (nW h2 737 12 1) 738 16 1) i = aJ h1 i := fun i a b => (hJ i (by omega)).trans ((b2 i a b).2.trans (nW_J (by omega)))
  have cR : ∀ i, 0 < i → i < 723 → aR (nW (nW h2 737 12 1) 738 16 1) i = aR h1 i := fun i a b => (hR i (by omega)).trans ((b7 i a b).trans (nW_R (by omega)))
  have hP := (pi_ap (A := 1) (B := 4) (C := 10) pi_0 (by decide) ⟨rfl, by decide, by decide⟩ ⟨rfl, by decide, by decide⟩ ⟨rfl, by decide, by decide⟩ (by decide)).1
  have i1 := cI 1 (by decide) (by decide)
  have i3 := hI 723 (by decide)
  refine ⟨⟨wN_cg b1 (fun i a => ⟨hR i a, (nW_K (by omega)).trans (nW_K (by omega)), (nW_L (by omega)).trans (nW_L (by omega))⟩) ⟨(nW_K (by decide)).trans nW_k, (nW_L (by decide)).trans nW_l⟩ ⟨nW_k, nW_l⟩, ⟨?_, ⟨?_, Nat.zero_le _, fun i => i, ⟨fun i hi => ⟨?_, hi⟩, fun i j _ _ e => e⟩, fun i hi => absurd hi (Nat.not_lt_zero i)⟩, ⟨?_, fun q => absurd q (by decide)⟩, ⟨?_, Nat.zero_le _, fun i hi => absurd hi (Nat.not_lt_zero i)⟩, ⟨?_, Nat.zero_le _, fun i hi => absurd hi (Nat.not_lt_zero i)⟩, ?_, ?_⟩,
    ⟨?_, ⟨?_, Nat.zero_le _, fun i hi => absurd hi (Nat.not_lt_zero i)⟩, ⟨?_, fun q => absurd q (by decide)⟩, ⟨?_, Nat.zero_le _, fun i hi => absurd hi (Nat.not_lt_zero i)⟩, ⟨?_, Nat.zero_le _, fun i hi => absurd hi (Nat.not_lt_zero i)⟩, ?_, ?_⟩⟩, hP.1, fun i hi => absurd hi (Nat.not_lt_zero i), fun q => absurd q (by decide), fun i hi => absurd hi (Nat.not_lt_zero i)⟩
  · exact str_cgh a5 hP.1.1.1.1.2.2 (fun i a c => ⟨cI i (by omega) (by omega), cJ i (by omega) (by omega)⟩)
  · rw [i1, a3]; rfl
  · rw [cR 172 (by decide) (by decide)]; exact a6 i hi
  · rw [i1, a3]; rfl
  · rw [i1, a3]; rfl
  · rw [cI 5 (by decide) (by decide), (a2 5 (by decide) (by decide) (by unfold SB; omega)).1]; rfl
  · rw [i1, a3]; rfl
  · rw [i1, a3]; rfl
  · unfold MW at b6 ⊢; rw [hI 724 (by decide), hJ 729 (by decide)]; exact b6
  · rw [i3, b4]; rfl
  · rw [i3, b4]; rfl
  · rw [i3, b4]; rfl
  · rw [i3, b4]; rfl
  · rw [i3, b4]; rfl
  · rw [i3, b4]; rfl
set_option maxRecDepth 100000 in
theorem law_all {l9 : Launch} {G : GC} {Fi : CX → State → Prop} {h : AH} (hG : GOK G) (hL3 : gL G ≤ 3072) (hE : ∀ (ls : List (Option Value)) (cs : Nat × Nat) (h : AH), cs.1 ≤ 601024 → cs.2 ≤ 7293034 → PW l9 G mL_law room_1 Fi NT 4134 ls [.int 1] cs h) : PW l9 G mL_law room_1 Fi 0 0 [some (.ref 0), none, none, none, none, none, none, none, none] [] (0, 0) h := by
  refine r_new (N := 0) (c := 8) (by decide) (tgI 123 (by decide +kernel) rfl) (tgI 124 (by decide +kernel) rfl) wq_99 (by decide) (Nat.le_of_ble_eq_true rfl) (Nat.le_of_ble_eq_true rfl) dL_law_0 ?_
  refine PW.cs (cs2 := (1, 12)) rfl ?_
  refine r_dup dL_law_3 rfl ?_
  refine r_callIK (N := 1) (N' := 722) (ci_X8_init ml_L_190) rfl (Nat.le_of_ble_eq_true rfl) rfl (by decide) dL_law_4 (c_X8_init (kd_new kc_1 (by decide))) (fun v1 h1 q1 => ?_)
  obtain ⟨rfl, a1, a2, a3, a4, a5, a6⟩ := q1
  refine PW.cs (cs2 := (722, 14111)) rfl ?_
  refine r_astore_n (ls2 := [some (.ref 0), some (.ref 1), none, none, none, none, none, none, none]) dL_law_7 (by decide) rfl ?_
  refine r_new (N := 722) (c := 9) (by decide) (tgI 1528 (by decide +kernel) rfl) (tgI 1529 (by decide +kernel) rfl) wq_109 (by decide) (Nat.le_of_ble_eq_true rfl) (Nat.le_of_ble_eq_true rfl) dL_law_8 ?_
  refine PW.cs (cs2 := (723, 14141)) rfl ?_
  refine r_dup dL_law_11 rfl ?_
  refine r_callIK (N := 723) (N' := 736) (ci_X9_init ml_L_193) rfl (Nat.le_of_ble_eq_true rfl) rfl (by decide) dL_law_12 (c_X9_init (kd_new kc_723 (by decide)) (wA_nW a1)) (fun v2 h2 q2 => ?_)
  obtain ⟨rfl, b1, b2, b3, b4, b5, b6, b7⟩ := q2
  refine PW.cs (cs2 := (736, 28976)) rfl ?_
  refine r_astore_n (ls2 := [some (.ref 0), some (.ref 1), some (.ref 723), none, none, none, none, none, none]) dL_law_15 (by decide) rfl ?_
  refine r_iconst (1) dL_law_16 (by decide) ?_
  refine r_newj (N := 736) kn_1 (by decide) (by decide) rfl rfl dL_law_17 ?_
  refine PW.cs (cs2 := (737, 28977)) rfl ?_
  refine r_astore_n (ls2 := [some (.ref 0), some (.ref 1), some (.ref 723), some (.ref 737), none, none, none, none, none]) dL_law_19 (by decide) rfl ?_
  refine r_iconst (1) dL_law_20 (by decide) ?_
  refine r_newd (N := 737) kn_1 (by decide) (by decide) rfl rfl dL_law_21 ?_
  refine PW.cs (cs2 := (738, 28978)) rfl ?_
  refine r_astore (ls2 := [some (.ref 0), some (.ref 1), some (.ref 723), some (.ref 737), some (.ref 738), none, none, none, none]) dL_law_23 (by decide) rfl ?_
  refine r_iconst (0) dL_law_25 (by decide) ?_
  refine r_istore (ls2 := [some (.ref 0), some (.ref 1), some (.ref 723), some (.ref 737), some (.ref 738), some (.int (nI (6 * 0))), none, none, none]) dL_law_26 (by decide) rfl ?_
  have w := lv_begin a2 a3 a5 a6 b1 b2 b4 b6 b7
  exact law_loop hG hL3 hE (gL G) 0 (by omega) (by omega) w.1 w.2 (by decide) (by decide)
