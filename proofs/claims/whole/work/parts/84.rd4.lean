-- the class's reader: the statements of a pool
theorem RdS.tk {h : AH} {b : Nat → Int32} {n p : Nat} (hr : RdH h b n) (ht : TkS h b n p) (h7 : aI h 3 7 = nI 0) (h8 : aI h 3 8 = -1) (hp : p ≤ n) : RdS h b n (0, tE b n p) :=
  ⟨hr, ⟨h7, fun _ => ⟨ht.2.2.1, h8⟩, fun q => absurd rfl q⟩, Nat.le_of_ble_eq_true rfl, tE_le hp⟩
theorem RdS.er {h h' : AH} {b : Nat → Int32} {n c s : Nat} (hr : RdH h b n) (e : eqx h h' S3) (f : ∀ k, k ≠ 7 → k ≠ 8 → aI h' 3 k = aI h 3 k) (g7 : aI h' 3 7 = nI c) (g8 : aI h' 3 8 = nI s) (hc : c ≠ 0) (hc9 : c < 10) (hs : s ≤ n) : RdS h' b n (c, s) :=
  ⟨hr.cg e (f 1 (by decide) (by decide)), ⟨g7, fun q => absurd q hc, fun _ => g8⟩, hc9, hs⟩
theorem TkS.cg {h h' : AH} {b : Nat → Int32} {n p : Nat} (ht : TkS h b n p) (e : aI h' 3 = aI h 3) : TkS h' b n p := by unfold TkS; rw [e]; exact ht
theorem vlS_rg {b : Nat → Int32} {n : Nat} {e : ER} {lo hi : Nat} (h : lo ≤ hi) (hh : hi < 2 ^ 31) : rg (vlS b n e (nI lo) (nI hi)) lo hi := by
  unfold vlS
  split
  · next q =>
    have z := q.2
    unfold nmC at z
    split at z
    · split at z
      · next z2 =>
        obtain ⟨k, k1, k2, k3⟩ := rgB_t (x := tV b n e.2) (a := lo) (b := hi) (decide_eq_true z2) hh (by omega)
        rw [k3]; exact rg_I k1 k2 hh
      · exact absurd z (by decide)
    · exact absurd z (by decide)
  · exact rg_I (Nat.le_refl _) h hh
set_option maxRecDepth 100000 in
set_option maxHeartbeats 800000 in
theorem c_X5_readSettings {l9 : Launch} {G : GC} {h : AH} {b : Nat → Int32} {n : Nat} {u : Nat} {f : Nat → Int32} {e : ER} {j : Nat} {x : Int32} (hW : World h) (hs : RdS h b n e) (hu : u < 4) (hd : DrP h u f) (y24 : nn (f 24) ≤ 24) (hx : x = nI j) (hj : 1 ≤ j ∧ j < 10) : PM l9 G mX5_readSettings NT NT [.ref 3, .int x, .ref (62 + 1 + 6 + 12 * u + 1)] h (fun v h' => v = none ∧ eqx h h' (fun i => i = 3 ∨ i = 62 + 7 + 12 * u + 1) ∧ RdS h' b n (smiS b n (seE b n e j)) ∧ DrP h' u (seF b n e j f) ∧ aI h' 3 6 = aI h 3 6) noX := by
  refine PM.of (by decide +kernel) rfl rfl (Nat.le_of_ble_eq_true rfl) (fun hst _ => ?_)
  have he : eqx h h (fun i => i = 3 ∨ i = 62 + 7 + 12 * u + 1) := eqx.rf
  have h6 : aI h 3 6 = aI h 3 6 := rfl
  refine r_iload_n dX5_readSettings_0 rfl ?_
  rcases (show j = 1 ∨ j = 2 ∨ j = 3 ∨ j = 4 ∨ j = 5 ∨ j = 6 ∨ j = 7 ∨ j = 8 ∨ j = 9 from by omega) with rfl | rfl | rfl | rfl | rfl | rfl | rfl | rfl | rfl
  · rw [hx]
    refine r_tabIn 40 dX5_readSettings_1 (by decide) (by decide) rfl (by decide) ?_
    refine r_aload_n dX5_readSettings_40 rfl ?_
    refine r_aload_n dX5_readSettings_41 rfl ?_
    refine r_iconst (1) dX5_readSettings_42 (by decide) ?_
    refine r_iconst (5) dX5_readSettings_43 (by decide) ?_
    refine q_callV2 (cv_X5_readNumber ml_X5_97) hW kc_3 (by decide) rfl ⟨rfl, rfl⟩ rfl (Nat.le_of_ble_eq_true rfl) dX5_readSettings_44 (c_X5_readNumber hW hs) (fun v_44 h_44 q_44 => ?_)
    obtain ⟨rfl, eN, hs, t6, n3⟩ := q_44
    have hW := eN.W hW
    replace hd := hd.eqx eN (fun i i1 i2 q => by have : i = 3 := q; omega)
    replace he := he.tr (eN.wk (T := (fun i => i = 3 ∨ i = 62 + 7 + 12 * u + 1)) (fun i q => Or.inl q))
    replace h6 := t6.trans h6
    refine q_putI fl_X5_110 hW (kk_3_0 (kd_dr hu)) rfl rfl dX5_readSettings_47 ?_
    have e9 : eqx h_44 (sI h_44 (62 + 1 + 6 + 12 * u + 1) 10 (vlS b n e 1 5)) (fun i => i = 62 + 7 + 12 * u + 1) := eqx.rf.sI rfl
    have hs : RdS (sI h_44 (62 + 1 + 6 + 12 * u + 1) 10 (vlS b n e 1 5)) b n _ := hs.cg e9 (by omega) (by omega)
    have hd := hd.set (k := 10) (x := vlS b n e 1 5) (by decide) y24
    have he : eqx h (sI h_44 (62 + 1 + 6 + 12 * u + 1) 10 (vlS b n e 1 5)) (fun i => i = 3 ∨ i = 62 + 7 + 12 * u + 1) := he.tr (e9.wk (fun i q => Or.inr q))
    have h6 : aI (sI h_44 (62 + 1 + 6 + 12 * u + 1) 10 (vlS b n e 1 5)) 3 6 = aI h 3 6 := by rw [sI_o (by omega)]; exact h6
    have hW : World (sI h_44 (62 + 1 + 6 + 12 * u + 1) 10 (vlS b n e 1 5)) := wsI hW
    refine r_aload_n dX5_readSettings_50 rfl ?_
    refine r_aload_n dX5_readSettings_51 rfl ?_
    refine r_iconst (1) dX5_readSettings_52 (by decide) ?_
    refine r_iconst (5) dX5_readSettings_53 (by decide) ?_
    refine q_callV2 (cv_X5_readNumber ml_X5_97) hW kc_3 (by decide) rfl ⟨rfl, rfl⟩ rfl (Nat.le_of_ble_eq_true rfl) dX5_readSettings_54 (c_X5_readNumber hW hs) (fun v_54 h_54 q_54 => ?_)
    obtain ⟨rfl, eN, hs, t6, n3⟩ := q_54
    have hW := eN.W hW
    replace hd := hd.eqx eN (fun i i1 i2 q => by have : i = 3 := q; omega)
    replace he := he.tr (eN.wk (T := (fun i => i = 3 ∨ i = 62 + 7 + 12 * u + 1)) (fun i q => Or.inl q))
    replace h6 := t6.trans h6
    refine q_putI fl_X5_115 hW (kk_3_0 (kd_dr hu)) rfl rfl dX5_readSettings_57 ?_
    have e9 : eqx h_54 (sI h_54 (62 + 1 + 6 + 12 * u + 1) 11 (vlS b n (nmS b n e 1 5) 1 5)) (fun i => i = 62 + 7 + 12 * u + 1) := eqx.rf.sI rfl
    have hs : RdS (sI h_54 (62 + 1 + 6 + 12 * u + 1) 11 (vlS b n (nmS b n e 1 5) 1 5)) b n _ := hs.cg e9 (by omega) (by omega)
    have hd := hd.set (k := 11) (x := vlS b n (nmS b n e 1 5) 1 5) (by decide) (by rw [pk_un (by decide)]; exact y24)
    have he : eqx h (sI h_54 (62 + 1 + 6 + 12 * u + 1) 11 (vlS b n (nmS b n e 1 5) 1 5)) (fun i => i = 3 ∨ i = 62 + 7 + 12 * u + 1) := he.tr (e9.wk (fun i q => Or.inr q))
    have h6 : aI (sI h_54 (62 + 1 + 6 + 12 * u + 1) 11 (vlS b n (nmS b n e 1 5) 1 5)) 3 6 = aI h 3 6 := by rw [sI_o (by omega)]; exact h6
    have hW : World (sI h_54 (62 + 1 + 6 + 12 * u + 1) 11 (vlS b n (nmS b n e 1 5) 1 5)) := wsI hW
    refine r_goto 167 dX5_readSettings_60 (by decide) ?_
    refine r_aload_n dX5_readSettings_167 rfl ?_
    refine q_callV0 (cv_X5_readSemicolon ml_X5_103) hW kc_3 (by decide) rfl ⟨rfl, rfl⟩ rfl (Nat.le_of_ble_eq_true rfl) dX5_readSettings_168 (c_X5_readSemicolon hW hs) (fun v_168 h_168 q_168 => ?_)
    obtain ⟨rfl, eN, hs, t6⟩ := q_168
    replace hd := hd.eqx eN (fun i i1 i2 q => by have : i = 3 := q; omega)
    replace he := he.tr (eN.wk (T := (fun i => i = 3 ∨ i = 62 + 7 + 12 * u + 1)) (fun i q => Or.inl q))
    replace h6 := t6.trans h6
    refine r_vret dX5_readSettings_171 rfl ⟨Nat.zero_le _, Nat.zero_le _⟩ ?_
    exact ⟨rfl, he, hs, hd, h6⟩
  · rw [hx]
    refine r_tabIn 63 dX5_readSettings_1 (by decide) (by decide) rfl (by decide) ?_
    refine r_aload_n dX5_readSettings_63 rfl ?_
    refine r_aload_n dX5_readSettings_64 rfl ?_
    refine r_iconst (0) dX5_readSettings_65 (by decide) ?_
    refine r_bipush (30) dX5_readSettings_66 (by decide) ?_
    refine q_callV2 (cv_X5_readNumber ml_X5_97) hW kc_3 (by decide) rfl ⟨rfl, rfl⟩ rfl (Nat.le_of_ble_eq_true rfl) dX5_readSettings_68 (c_X5_readNumber hW hs) (fun v_68 h_68 q_68 => ?_)
    obtain ⟨rfl, eN, hs, t6, n3⟩ := q_68
    have hW := eN.W hW
    replace hd := hd.eqx eN (fun i i1 i2 q => by have : i = 3 := q; omega)
    replace he := he.tr (eN.wk (T := (fun i => i = 3 ∨ i = 62 + 7 + 12 * u + 1)) (fun i q => Or.inl q))
    replace h6 := t6.trans h6
    refine q_putI fl_X5_118 hW (kk_3_0 (kd_dr hu)) rfl rfl dX5_readSettings_71 ?_
    have e9 : eqx h_68 (sI h_68 (62 + 1 + 6 + 12 * u + 1) 12 (vlS b n e 0 30)) (fun i => i = 62 + 7 + 12 * u + 1) := eqx.rf.sI rfl
    have hs : RdS (sI h_68 (62 + 1 + 6 + 12 * u + 1) 12 (vlS b n e 0 30)) b n _ := hs.cg e9 (by omega) (by omega)
    have hd := hd.set (k := 12) (x := vlS b n e 0 30) (by decide) y24
    have he : eqx h (sI h_68 (62 + 1 + 6 + 12 * u + 1) 12 (vlS b n e 0 30)) (fun i => i = 3 ∨ i = 62 + 7 + 12 * u + 1) := he.tr (e9.wk (fun i q => Or.inr q))
    have h6 : aI (sI h_68 (62 + 1 + 6 + 12 * u + 1) 12 (vlS b n e 0 30)) 3 6 = aI h 3 6 := by rw [sI_o (by omega)]; exact h6
    have hW : World (sI h_68 (62 + 1 + 6 + 12 * u + 1) 12 (vlS b n e 0 30)) := wsI hW
    refine r_aload_n dX5_readSettings_74 rfl ?_
    refine r_aload_n dX5_readSettings_75 rfl ?_
    refine r_iconst (0) dX5_readSettings_76 (by decide) ?_
    refine r_bipush (30) dX5_readSettings_77 (by decide) ?_
    refine q_callV2 (cv_X5_readNumber ml_X5_97) hW kc_3 (by decide) rfl ⟨rfl, rfl⟩ rfl (Nat.le_of_ble_eq_true rfl) dX5_readSettings_79 (c_X5_readNumber hW hs) (fun v_79 h_79 q_79 => ?_)
    obtain ⟨rfl, eN, hs, t6, n3⟩ := q_79
    have hW := eN.W hW
    replace hd := hd.eqx eN (fun i i1 i2 q => by have : i = 3 := q; omega)
    replace he := he.tr (eN.wk (T := (fun i => i = 3 ∨ i = 62 + 7 + 12 * u + 1)) (fun i q => Or.inl q))
    replace h6 := t6.trans h6
    refine q_putI fl_X5_121 hW (kk_3_0 (kd_dr hu)) rfl rfl dX5_readSettings_82 ?_
    have e9 : eqx h_79 (sI h_79 (62 + 1 + 6 + 12 * u + 1) 13 (vlS b n (nmS b n e 0 30) 0 30)) (fun i => i = 62 + 7 + 12 * u + 1) := eqx.rf.sI rfl
    have hs : RdS (sI h_79 (62 + 1 + 6 + 12 * u + 1) 13 (vlS b n (nmS b n e 0 30) 0 30)) b n _ := hs.cg e9 (by omega) (by omega)
    have hd := hd.set (k := 13) (x := vlS b n (nmS b n e 0 30) 0 30) (by decide) (by rw [pk_un (by decide)]; exact y24)
    have he : eqx h (sI h_79 (62 + 1 + 6 + 12 * u + 1) 13 (vlS b n (nmS b n e 0 30) 0 30)) (fun i => i = 3 ∨ i = 62 + 7 + 12 * u + 1) := he.tr (e9.wk (fun i q => Or.inr q))
    have h6 : aI (sI h_79 (62 + 1 + 6 + 12 * u + 1) 13 (vlS b n (nmS b n e 0 30) 0 30)) 3 6 = aI h 3 6 := by rw [sI_o (by omega)]; exact h6
    have hW : World (sI h_79 (62 + 1 + 6 + 12 * u + 1) 13 (vlS b n (nmS b n e 0 30) 0 30)) := wsI hW
    refine r_goto 167 dX5_readSettings_85 (by decide) ?_
    refine r_aload_n dX5_readSettings_167 rfl ?_
    refine q_callV0 (cv_X5_readSemicolon ml_X5_103) hW kc_3 (by decide) rfl ⟨rfl, rfl⟩ rfl (Nat.le_of_ble_eq_true rfl) dX5_readSettings_168 (c_X5_readSemicolon hW hs) (fun v_168 h_168 q_168 => ?_)
    obtain ⟨rfl, eN, hs, t6⟩ := q_168
    replace hd := hd.eqx eN (fun i i1 i2 q => by have : i = 3 := q; omega)
    replace he := he.tr (eN.wk (T := (fun i => i = 3 ∨ i = 62 + 7 + 12 * u + 1)) (fun i q => Or.inl q))
    replace h6 := t6.trans h6
    refine r_vret dX5_readSettings_171 rfl ⟨Nat.zero_le _, Nat.zero_le _⟩ ?_
    exact ⟨rfl, he, hs, hd, h6⟩
  · rw [hx]
    refine r_tabIn 88 dX5_readSettings_1 (by decide) (by decide) rfl (by decide) ?_
    refine r_aload_n dX5_readSettings_88 rfl ?_
    refine r_aload_n dX5_readSettings_89 rfl ?_
    refine r_bipush (10) dX5_readSettings_90 (by decide) ?_
    refine r_bipush (100) dX5_readSettings_92 (by decide) ?_
    refine q_callV2 (cv_X5_readNumber ml_X5_97) hW kc_3 (by decide) rfl ⟨rfl, rfl⟩ rfl (Nat.le_of_ble_eq_true rfl) dX5_readSettings_94 (c_X5_readNumber hW hs) (fun v_94 h_94 q_94 => ?_)
    obtain ⟨rfl, eN, hs, t6, n3⟩ := q_94
    have hW := eN.W hW
    replace hd := hd.eqx eN (fun i i1 i2 q => by have : i = 3 := q; omega)
    replace he := he.tr (eN.wk (T := (fun i => i = 3 ∨ i = 62 + 7 + 12 * u + 1)) (fun i q => Or.inl q))
    replace h6 := t6.trans h6
    refine q_putI fl_X5_124 hW (kk_3_0 (kd_dr hu)) rfl rfl dX5_readSettings_97 ?_
    have e9 : eqx h_94 (sI h_94 (62 + 1 + 6 + 12 * u + 1) 3 (vlS b n e 10 100)) (fun i => i = 62 + 7 + 12 * u + 1) := eqx.rf.sI rfl
    have hs : RdS (sI h_94 (62 + 1 + 6 + 12 * u + 1) 3 (vlS b n e 10 100)) b n _ := hs.cg e9 (by omega) (by omega)
    have hd := hd.set (k := 3) (x := vlS b n e 10 100) (by decide) y24
    have he : eqx h (sI h_94 (62 + 1 + 6 + 12 * u + 1) 3 (vlS b n e 10 100)) (fun i => i = 3 ∨ i = 62 + 7 + 12 * u + 1) := he.tr (e9.wk (fun i q => Or.inr q))
    have h6 : aI (sI h_94 (62 + 1 + 6 + 12 * u + 1) 3 (vlS b n e 10 100)) 3 6 = aI h 3 6 := by rw [sI_o (by omega)]; exact h6
    have hW : World (sI h_94 (62 + 1 + 6 + 12 * u + 1) 3 (vlS b n e 10 100)) := wsI hW
    refine r_goto 167 dX5_readSettings_100 (by decide) ?_
    refine r_aload_n dX5_readSettings_167 rfl ?_
    refine q_callV0 (cv_X5_readSemicolon ml_X5_103) hW kc_3 (by decide) rfl ⟨rfl, rfl⟩ rfl (Nat.le_of_ble_eq_true rfl) dX5_readSettings_168 (c_X5_readSemicolon hW hs) (fun v_168 h_168 q_168 => ?_)
    obtain ⟨rfl, eN, hs, t6⟩ := q_168
    replace hd := hd.eqx eN (fun i i1 i2 q => by have : i = 3 := q; omega)
    replace he := he.tr (eN.wk (T := (fun i => i = 3 ∨ i = 62 + 7 + 12 * u + 1)) (fun i q => Or.inl q))
    replace h6 := t6.trans h6
    refine r_vret dX5_readSettings_171 rfl ⟨Nat.zero_le _, Nat.zero_le _⟩ ?_
    exact ⟨rfl, he, hs, hd, h6⟩
  · rw [hx]
    refine r_tabIn 103 dX5_readSettings_1 (by decide) (by decide) rfl (by decide) ?_
    refine r_aload_n dX5_readSettings_103 rfl ?_
    refine r_aload_n dX5_readSettings_104 rfl ?_
    refine r_iconst (0) dX5_readSettings_105 (by decide) ?_
    refine r_bipush (9) dX5_readSettings_106 (by decide) ?_
    refine q_callV2 (cv_X5_readNumber ml_X5_97) hW kc_3 (by decide) rfl ⟨rfl, rfl⟩ rfl (Nat.le_of_ble_eq_true rfl) dX5_readSettings_108 (c_X5_readNumber hW hs) (fun v_108 h_108 q_108 => ?_)
    obtain ⟨rfl, eN, hs, t6, n3⟩ := q_108
    have hW := eN.W hW
    replace hd := hd.eqx eN (fun i i1 i2 q => by have : i = 3 := q; omega)
    replace he := he.tr (eN.wk (T := (fun i => i = 3 ∨ i = 62 + 7 + 12 * u + 1)) (fun i q => Or.inl q))
    replace h6 := t6.trans h6
    refine q_putI fl_X5_127 hW (kk_3_0 (kd_dr hu)) rfl rfl dX5_readSettings_111 ?_
    have e9 : eqx h_108 (sI h_108 (62 + 1 + 6 + 12 * u + 1) 4 (vlS b n e 0 9)) (fun i => i = 62 + 7 + 12 * u + 1) := eqx.rf.sI rfl
    have hs : RdS (sI h_108 (62 + 1 + 6 + 12 * u + 1) 4 (vlS b n e 0 9)) b n _ := hs.cg e9 (by omega) (by omega)
    have hd := hd.set (k := 4) (x := vlS b n e 0 9) (by decide) y24
    have he : eqx h (sI h_108 (62 + 1 + 6 + 12 * u + 1) 4 (vlS b n e 0 9)) (fun i => i = 3 ∨ i = 62 + 7 + 12 * u + 1) := he.tr (e9.wk (fun i q => Or.inr q))
    have h6 : aI (sI h_108 (62 + 1 + 6 + 12 * u + 1) 4 (vlS b n e 0 9)) 3 6 = aI h 3 6 := by rw [sI_o (by omega)]; exact h6
    have hW : World (sI h_108 (62 + 1 + 6 + 12 * u + 1) 4 (vlS b n e 0 9)) := wsI hW
    refine r_goto 167 dX5_readSettings_114 (by decide) ?_
    refine r_aload_n dX5_readSettings_167 rfl ?_
    refine q_callV0 (cv_X5_readSemicolon ml_X5_103) hW kc_3 (by decide) rfl ⟨rfl, rfl⟩ rfl (Nat.le_of_ble_eq_true rfl) dX5_readSettings_168 (c_X5_readSemicolon hW hs) (fun v_168 h_168 q_168 => ?_)
    obtain ⟨rfl, eN, hs, t6⟩ := q_168
    replace hd := hd.eqx eN (fun i i1 i2 q => by have : i = 3 := q; omega)
    replace he := he.tr (eN.wk (T := (fun i => i = 3 ∨ i = 62 + 7 + 12 * u + 1)) (fun i q => Or.inl q))
    replace h6 := t6.trans h6
    refine r_vret dX5_readSettings_171 rfl ⟨Nat.zero_le _, Nat.zero_le _⟩ ?_
    exact ⟨rfl, he, hs, hd, h6⟩
  · rw [hx]
    refine r_tabIn 117 dX5_readSettings_1 (by decide) (by decide) rfl (by decide) ?_
    refine r_aload_n dX5_readSettings_117 rfl ?_
    refine r_aload_n dX5_readSettings_118 rfl ?_
    refine r_iconst (1) dX5_readSettings_119 (by decide) ?_
    refine r_bipush (8) dX5_readSettings_120 (by decide) ?_
    refine q_callV2 (cv_X5_readNumber ml_X5_97) hW kc_3 (by decide) rfl ⟨rfl, rfl⟩ rfl (Nat.le_of_ble_eq_true rfl) dX5_readSettings_122 (c_X5_readNumber hW hs) (fun v_122 h_122 q_122 => ?_)
    obtain ⟨rfl, eN, hs, t6, n3⟩ := q_122
    have hW := eN.W hW
    replace hd := hd.eqx eN (fun i i1 i2 q => by have : i = 3 := q; omega)
    replace he := he.tr (eN.wk (T := (fun i => i = 3 ∨ i = 62 + 7 + 12 * u + 1)) (fun i q => Or.inl q))
    replace h6 := t6.trans h6
    refine q_putI fl_X5_130 hW (kk_3_0 (kd_dr hu)) rfl rfl dX5_readSettings_125 ?_
    have e9 : eqx h_122 (sI h_122 (62 + 1 + 6 + 12 * u + 1) 5 (vlS b n e 1 8)) (fun i => i = 62 + 7 + 12 * u + 1) := eqx.rf.sI rfl
    have hs : RdS (sI h_122 (62 + 1 + 6 + 12 * u + 1) 5 (vlS b n e 1 8)) b n _ := hs.cg e9 (by omega) (by omega)
    have hd := hd.set (k := 5) (x := vlS b n e 1 8) (by decide) y24
    have he : eqx h (sI h_122 (62 + 1 + 6 + 12 * u + 1) 5 (vlS b n e 1 8)) (fun i => i = 3 ∨ i = 62 + 7 + 12 * u + 1) := he.tr (e9.wk (fun i q => Or.inr q))
    have h6 : aI (sI h_122 (62 + 1 + 6 + 12 * u + 1) 5 (vlS b n e 1 8)) 3 6 = aI h 3 6 := by rw [sI_o (by omega)]; exact h6
    have hW : World (sI h_122 (62 + 1 + 6 + 12 * u + 1) 5 (vlS b n e 1 8)) := wsI hW
    refine r_goto 167 dX5_readSettings_128 (by decide) ?_
    refine r_aload_n dX5_readSettings_167 rfl ?_
    refine q_callV0 (cv_X5_readSemicolon ml_X5_103) hW kc_3 (by decide) rfl ⟨rfl, rfl⟩ rfl (Nat.le_of_ble_eq_true rfl) dX5_readSettings_168 (c_X5_readSemicolon hW hs) (fun v_168 h_168 q_168 => ?_)
    obtain ⟨rfl, eN, hs, t6⟩ := q_168
    replace hd := hd.eqx eN (fun i i1 i2 q => by have : i = 3 := q; omega)
    replace he := he.tr (eN.wk (T := (fun i => i = 3 ∨ i = 62 + 7 + 12 * u + 1)) (fun i q => Or.inl q))
    replace h6 := t6.trans h6
    refine r_vret dX5_readSettings_171 rfl ⟨Nat.zero_le _, Nat.zero_le _⟩ ?_
    exact ⟨rfl, he, hs, hd, h6⟩
  · rw [hx]
    refine r_tabIn 131 dX5_readSettings_1 (by decide) (by decide) rfl (by decide) ?_
    refine r_aload_n dX5_readSettings_131 rfl ?_
    refine r_aload_n dX5_readSettings_132 rfl ?_
    refine r_iconst (1) dX5_readSettings_133 (by decide) ?_
    refine r_bipush (8) dX5_readSettings_134 (by decide) ?_
    refine q_callV2 (cv_X5_readNumber ml_X5_97) hW kc_3 (by decide) rfl ⟨rfl, rfl⟩ rfl (Nat.le_of_ble_eq_true rfl) dX5_readSettings_136 (c_X5_readNumber hW hs) (fun v_136 h_136 q_136 => ?_)
    obtain ⟨rfl, eN, hs, t6, n3⟩ := q_136
    have hW := eN.W hW
    replace hd := hd.eqx eN (fun i i1 i2 q => by have : i = 3 := q; omega)
    replace he := he.tr (eN.wk (T := (fun i => i = 3 ∨ i = 62 + 7 + 12 * u + 1)) (fun i q => Or.inl q))
    replace h6 := t6.trans h6
    refine q_putI fl_X5_133 hW (kk_3_0 (kd_dr hu)) rfl rfl dX5_readSettings_139 ?_
    have e9 : eqx h_136 (sI h_136 (62 + 1 + 6 + 12 * u + 1) 6 (vlS b n e 1 8)) (fun i => i = 62 + 7 + 12 * u + 1) := eqx.rf.sI rfl
    have hs : RdS (sI h_136 (62 + 1 + 6 + 12 * u + 1) 6 (vlS b n e 1 8)) b n _ := hs.cg e9 (by omega) (by omega)
    have hd := hd.set (k := 6) (x := vlS b n e 1 8) (by decide) y24
    have he : eqx h (sI h_136 (62 + 1 + 6 + 12 * u + 1) 6 (vlS b n e 1 8)) (fun i => i = 3 ∨ i = 62 + 7 + 12 * u + 1) := he.tr (e9.wk (fun i q => Or.inr q))
    have h6 : aI (sI h_136 (62 + 1 + 6 + 12 * u + 1) 6 (vlS b n e 1 8)) 3 6 = aI h 3 6 := by rw [sI_o (by omega)]; exact h6
    have hW : World (sI h_136 (62 + 1 + 6 + 12 * u + 1) 6 (vlS b n e 1 8)) := wsI hW
    refine r_goto 167 dX5_readSettings_142 (by decide) ?_
    refine r_aload_n dX5_readSettings_167 rfl ?_
    refine q_callV0 (cv_X5_readSemicolon ml_X5_103) hW kc_3 (by decide) rfl ⟨rfl, rfl⟩ rfl (Nat.le_of_ble_eq_true rfl) dX5_readSettings_168 (c_X5_readSemicolon hW hs) (fun v_168 h_168 q_168 => ?_)
    obtain ⟨rfl, eN, hs, t6⟩ := q_168
    replace hd := hd.eqx eN (fun i i1 i2 q => by have : i = 3 := q; omega)
    replace he := he.tr (eN.wk (T := (fun i => i = 3 ∨ i = 62 + 7 + 12 * u + 1)) (fun i q => Or.inl q))
    replace h6 := t6.trans h6
    refine r_vret dX5_readSettings_171 rfl ⟨Nat.zero_le _, Nat.zero_le _⟩ ?_
    exact ⟨rfl, he, hs, hd, h6⟩
  · rw [hx]
    refine r_tabOut 145 dX5_readSettings_1 (by decide) (by decide) ?_
    refine r_aload_n dX5_readSettings_145 rfl ?_
    refine r_aload_n dX5_readSettings_146 rfl ?_
    refine r_iconst (0) dX5_readSettings_147 (by decide) ?_
    refine r_bipush (99) dX5_readSettings_148 (by decide) ?_
    refine q_callV2 (cv_X5_readNumber ml_X5_97) hW kc_3 (by decide) rfl ⟨rfl, rfl⟩ rfl (Nat.le_of_ble_eq_true rfl) dX5_readSettings_150 (c_X5_readNumber hW hs) (fun v_150 h_150 q_150 => ?_)
    obtain ⟨rfl, eN, hs, t6, n3⟩ := q_150
    have hW := eN.W hW
    replace hd := hd.eqx eN (fun i i1 i2 q => by have : i = 3 := q; omega)
    replace he := he.tr (eN.wk (T := (fun i => i = 3 ∨ i = 62 + 7 + 12 * u + 1)) (fun i q => Or.inl q))
    replace h6 := t6.trans h6
    refine q_putI fl_X5_136 hW (kk_3_0 (kd_dr hu)) rfl rfl dX5_readSettings_153 ?_
    have e9 : eqx h_150 (sI h_150 (62 + 1 + 6 + 12 * u + 1) 14 (vlS b n e 0 99)) (fun i => i = 62 + 7 + 12 * u + 1) := eqx.rf.sI rfl
    have hs : RdS (sI h_150 (62 + 1 + 6 + 12 * u + 1) 14 (vlS b n e 0 99)) b n _ := hs.cg e9 (by omega) (by omega)
    have hd := hd.set (k := 14) (x := vlS b n e 0 99) (by decide) y24
    have he : eqx h (sI h_150 (62 + 1 + 6 + 12 * u + 1) 14 (vlS b n e 0 99)) (fun i => i = 3 ∨ i = 62 + 7 + 12 * u + 1) := he.tr (e9.wk (fun i q => Or.inr q))
    have h6 : aI (sI h_150 (62 + 1 + 6 + 12 * u + 1) 14 (vlS b n e 0 99)) 3 6 = aI h 3 6 := by rw [sI_o (by omega)]; exact h6
    have hW : World (sI h_150 (62 + 1 + 6 + 12 * u + 1) 14 (vlS b n e 0 99)) := wsI hW
    refine r_aload_n dX5_readSettings_156 rfl ?_
    refine r_aload_n dX5_readSettings_157 rfl ?_
    refine r_iconst (0) dX5_readSettings_158 (by decide) ?_
    refine r_bipush (99) dX5_readSettings_159 (by decide) ?_
    refine q_callV2 (cv_X5_readNumber ml_X5_97) hW kc_3 (by decide) rfl ⟨rfl, rfl⟩ rfl (Nat.le_of_ble_eq_true rfl) dX5_readSettings_161 (c_X5_readNumber hW hs) (fun v_161 h_161 q_161 => ?_)
    obtain ⟨rfl, eN, hs, t6, n3⟩ := q_161
    have hW := eN.W hW
    replace hd := hd.eqx eN (fun i i1 i2 q => by have : i = 3 := q; omega)
    replace he := he.tr (eN.wk (T := (fun i => i = 3 ∨ i = 62 + 7 + 12 * u + 1)) (fun i q => Or.inl q))
    replace h6 := t6.trans h6
    refine q_putI fl_X5_139 hW (kk_3_0 (kd_dr hu)) rfl rfl dX5_readSettings_164 ?_
    have e9 : eqx h_161 (sI h_161 (62 + 1 + 6 + 12 * u + 1) 15 (vlS b n (nmS b n e 0 99) 0 99)) (fun i => i = 62 + 7 + 12 * u + 1) := eqx.rf.sI rfl
    have hs : RdS (sI h_161 (62 + 1 + 6 + 12 * u + 1) 15 (vlS b n (nmS b n e 0 99) 0 99)) b n _ := hs.cg e9 (by omega) (by omega)
    have hd := hd.set (k := 15) (x := vlS b n (nmS b n e 0 99) 0 99) (by decide) (by rw [pk_un (by decide)]; exact y24)
    have he : eqx h (sI h_161 (62 + 1 + 6 + 12 * u + 1) 15 (vlS b n (nmS b n e 0 99) 0 99)) (fun i => i = 3 ∨ i = 62 + 7 + 12 * u + 1) := he.tr (e9.wk (fun i q => Or.inr q))
    have h6 : aI (sI h_161 (62 + 1 + 6 + 12 * u + 1) 15 (vlS b n (nmS b n e 0 99) 0 99)) 3 6 = aI h 3 6 := by rw [sI_o (by omega)]; exact h6
    have hW : World (sI h_161 (62 + 1 + 6 + 12 * u + 1) 15 (vlS b n (nmS b n e 0 99) 0 99)) := wsI hW
    refine r_aload_n dX5_readSettings_167 rfl ?_
    refine q_callV0 (cv_X5_readSemicolon ml_X5_103) hW kc_3 (by decide) rfl ⟨rfl, rfl⟩ rfl (Nat.le_of_ble_eq_true rfl) dX5_readSettings_168 (c_X5_readSemicolon hW hs) (fun v_168 h_168 q_168 => ?_)
    obtain ⟨rfl, eN, hs, t6⟩ := q_168
    replace hd := hd.eqx eN (fun i i1 i2 q => by have : i = 3 := q; omega)
    replace he := he.tr (eN.wk (T := (fun i => i = 3 ∨ i = 62 + 7 + 12 * u + 1)) (fun i q => Or.inl q))
    replace h6 := t6.trans h6
    refine r_vret dX5_readSettings_171 rfl ⟨Nat.zero_le _, Nat.zero_le _⟩ ?_
    exact ⟨rfl, he, hs, hd, h6⟩
  · rw [hx]
    refine r_tabOut 145 dX5_readSettings_1 (by decide) (by decide) ?_
    refine r_aload_n dX5_readSettings_145 rfl ?_
    refine r_aload_n dX5_readSettings_146 rfl ?_
    refine r_iconst (0) dX5_readSettings_147 (by decide) ?_
    refine r_bipush (99) dX5_readSettings_148 (by decide) ?_
    refine q_callV2 (cv_X5_readNumber ml_X5_97) hW kc_3 (by decide) rfl ⟨rfl, rfl⟩ rfl (Nat.le_of_ble_eq_true rfl) dX5_readSettings_150 (c_X5_readNumber hW hs) (fun v_150 h_150 q_150 => ?_)
    obtain ⟨rfl, eN, hs, t6, n3⟩ := q_150
    have hW := eN.W hW
    replace hd := hd.eqx eN (fun i i1 i2 q => by have : i = 3 := q; omega)
    replace he := he.tr (eN.wk (T := (fun i => i = 3 ∨ i = 62 + 7 + 12 * u + 1)) (fun i q => Or.inl q))
    replace h6 := t6.trans h6
    refine q_putI fl_X5_136 hW (kk_3_0 (kd_dr hu)) rfl rfl dX5_readSettings_153 ?_
    have e9 : eqx h_150 (sI h_150 (62 + 1 + 6 + 12 * u + 1) 14 (vlS b n e 0 99)) (fun i => i = 62 + 7 + 12 * u + 1) := eqx.rf.sI rfl
    have hs : RdS (sI h_150 (62 + 1 + 6 + 12 * u + 1) 14 (vlS b n e 0 99)) b n _ := hs.cg e9 (by omega) (by omega)
    have hd := hd.set (k := 14) (x := vlS b n e 0 99) (by decide) y24
    have he : eqx h (sI h_150 (62 + 1 + 6 + 12 * u + 1) 14 (vlS b n e 0 99)) (fun i => i = 3 ∨ i = 62 + 7 + 12 * u + 1) := he.tr (e9.wk (fun i q => Or.inr q))
    have h6 : aI (sI h_150 (62 + 1 + 6 + 12 * u + 1) 14 (vlS b n e 0 99)) 3 6 = aI h 3 6 := by rw [sI_o (by omega)]; exact h6
    have hW : World (sI h_150 (62 + 1 + 6 + 12 * u + 1) 14 (vlS b n e 0 99)) := wsI hW
    refine r_aload_n dX5_readSettings_156 rfl ?_
    refine r_aload_n dX5_readSettings_157 rfl ?_
    refine r_iconst (0) dX5_readSettings_158 (by decide) ?_
    refine r_bipush (99) dX5_readSettings_159 (by decide) ?_
    refine q_callV2 (cv_X5_readNumber ml_X5_97) hW kc_3 (by decide) rfl ⟨rfl, rfl⟩ rfl (Nat.le_of_ble_eq_true rfl) dX5_readSettings_161 (c_X5_readNumber hW hs) (fun v_161 h_161 q_161 => ?_)
    obtain ⟨rfl, eN, hs, t6, n3⟩ := q_161
    have hW := eN.W hW
    replace hd := hd.eqx eN (fun i i1 i2 q => by have : i = 3 := q; omega)
    replace he := he.tr (eN.wk (T := (fun i => i = 3 ∨ i = 62 + 7 + 12 * u + 1)) (fun i q => Or.inl q))
    replace h6 := t6.trans h6
    refine q_putI fl_X5_139 hW (kk_3_0 (kd_dr hu)) rfl rfl dX5_readSettings_164 ?_
    have e9 : eqx h_161 (sI h_161 (62 + 1 + 6 + 12 * u + 1) 15 (vlS b n (nmS b n e 0 99) 0 99)) (fun i => i = 62 + 7 + 12 * u + 1) := eqx.rf.sI rfl
    have hs : RdS (sI h_161 (62 + 1 + 6 + 12 * u + 1) 15 (vlS b n (nmS b n e 0 99) 0 99)) b n _ := hs.cg e9 (by omega) (by omega)
    have hd := hd.set (k := 15) (x := vlS b n (nmS b n e 0 99) 0 99) (by decide) (by rw [pk_un (by decide)]; exact y24)
    have he : eqx h (sI h_161 (62 + 1 + 6 + 12 * u + 1) 15 (vlS b n (nmS b n e 0 99) 0 99)) (fun i => i = 3 ∨ i = 62 + 7 + 12 * u + 1) := he.tr (e9.wk (fun i q => Or.inr q))
    have h6 : aI (sI h_161 (62 + 1 + 6 + 12 * u + 1) 15 (vlS b n (nmS b n e 0 99) 0 99)) 3 6 = aI h 3 6 := by rw [sI_o (by omega)]; exact h6
    have hW : World (sI h_161 (62 + 1 + 6 + 12 * u + 1) 15 (vlS b n (nmS b n e 0 99) 0 99)) := wsI hW
    refine r_aload_n dX5_readSettings_167 rfl ?_
    refine q_callV0 (cv_X5_readSemicolon ml_X5_103) hW kc_3 (by decide) rfl ⟨rfl, rfl⟩ rfl (Nat.le_of_ble_eq_true rfl) dX5_readSettings_168 (c_X5_readSemicolon hW hs) (fun v_168 h_168 q_168 => ?_)
    obtain ⟨rfl, eN, hs, t6⟩ := q_168
    replace hd := hd.eqx eN (fun i i1 i2 q => by have : i = 3 := q; omega)
    replace he := he.tr (eN.wk (T := (fun i => i = 3 ∨ i = 62 + 7 + 12 * u + 1)) (fun i q => Or.inl q))
    replace h6 := t6.trans h6
    refine r_vret dX5_readSettings_171 rfl ⟨Nat.zero_le _, Nat.zero_le _⟩ ?_
    exact ⟨rfl, he, hs, hd, h6⟩
  · rw [hx]
    refine r_tabOut 145 dX5_readSettings_1 (by decide) (by decide) ?_
    refine r_aload_n dX5_readSettings_145 rfl ?_
    refine r_aload_n dX5_readSettings_146 rfl ?_
    refine r_iconst (0) dX5_readSettings_147 (by decide) ?_
    refine r_bipush (99) dX5_readSettings_148 (by decide) ?_
    refine q_callV2 (cv_X5_readNumber ml_X5_97) hW kc_3 (by decide) rfl ⟨rfl, rfl⟩ rfl (Nat.le_of_ble_eq_true rfl) dX5_readSettings_150 (c_X5_readNumber hW hs) (fun v_150 h_150 q_150 => ?_)
    obtain ⟨rfl, eN, hs, t6, n3⟩ := q_150
    have hW := eN.W hW
    replace hd := hd.eqx eN (fun i i1 i2 q => by have : i = 3 := q; omega)
    replace he := he.tr (eN.wk (T := (fun i => i = 3 ∨ i = 62 + 7 + 12 * u + 1)) (fun i q => Or.inl q))
    replace h6 := t6.trans h6
    refine q_putI fl_X5_136 hW (kk_3_0 (kd_dr hu)) rfl rfl dX5_readSettings_153 ?_
    have e9 : eqx h_150 (sI h_150 (62 + 1 + 6 + 12 * u + 1) 14 (vlS b n e 0 99)) (fun i => i = 62 + 7 + 12 * u + 1) := eqx.rf.sI rfl
    have hs : RdS (sI h_150 (62 + 1 + 6 + 12 * u + 1) 14 (vlS b n e 0 99)) b n _ := hs.cg e9 (by omega) (by omega)
    have hd := hd.set (k := 14) (x := vlS b n e 0 99) (by decide) y24
    have he : eqx h (sI h_150 (62 + 1 + 6 + 12 * u + 1) 14 (vlS b n e 0 99)) (fun i => i = 3 ∨ i = 62 + 7 + 12 * u + 1) := he.tr (e9.wk (fun i q => Or.inr q))
    have h6 : aI (sI h_150 (62 + 1 + 6 + 12 * u + 1) 14 (vlS b n e 0 99)) 3 6 = aI h 3 6 := by rw [sI_o (by omega)]; exact h6
    have hW : World (sI h_150 (62 + 1 + 6 + 12 * u + 1) 14 (vlS b n e 0 99)) := wsI hW
    refine r_aload_n dX5_readSettings_156 rfl ?_
    refine r_aload_n dX5_readSettings_157 rfl ?_
    refine r_iconst (0) dX5_readSettings_158 (by decide) ?_
    refine r_bipush (99) dX5_readSettings_159 (by decide) ?_
    refine q_callV2 (cv_X5_readNumber ml_X5_97) hW kc_3 (by decide) rfl ⟨rfl, rfl⟩ rfl (Nat.le_of_ble_eq_true rfl) dX5_readSettings_161 (c_X5_readNumber hW hs) (fun v_161 h_161 q_161 => ?_)
    obtain ⟨rfl, eN, hs, t6, n3⟩ := q_161
    have hW := eN.W hW
    replace hd := hd.eqx eN (fun i i1 i2 q => by have : i = 3 := q; omega)
    replace he := he.tr (eN.wk (T := (fun i => i = 3 ∨ i = 62 + 7 + 12 * u + 1)) (fun i q => Or.inl q))
    replace h6 := t6.trans h6
    refine q_putI fl_X5_139 hW (kk_3_0 (kd_dr hu)) rfl rfl dX5_readSettings_164 ?_
    have e9 : eqx h_161 (sI h_161 (62 + 1 + 6 + 12 * u + 1) 15 (vlS b n (nmS b n e 0 99) 0 99)) (fun i => i = 62 + 7 + 12 * u + 1) := eqx.rf.sI rfl
    have hs : RdS (sI h_161 (62 + 1 + 6 + 12 * u + 1) 15 (vlS b n (nmS b n e 0 99) 0 99)) b n _ := hs.cg e9 (by omega) (by omega)
    have hd := hd.set (k := 15) (x := vlS b n (nmS b n e 0 99) 0 99) (by decide) (by rw [pk_un (by decide)]; exact y24)
    have he : eqx h (sI h_161 (62 + 1 + 6 + 12 * u + 1) 15 (vlS b n (nmS b n e 0 99) 0 99)) (fun i => i = 3 ∨ i = 62 + 7 + 12 * u + 1) := he.tr (e9.wk (fun i q => Or.inr q))
    have h6 : aI (sI h_161 (62 + 1 + 6 + 12 * u + 1) 15 (vlS b n (nmS b n e 0 99) 0 99)) 3 6 = aI h 3 6 := by rw [sI_o (by omega)]; exact h6
    have hW : World (sI h_161 (62 + 1 + 6 + 12 * u + 1) 15 (vlS b n (nmS b n e 0 99) 0 99)) := wsI hW
    refine r_aload_n dX5_readSettings_167 rfl ?_
    refine q_callV0 (cv_X5_readSemicolon ml_X5_103) hW kc_3 (by decide) rfl ⟨rfl, rfl⟩ rfl (Nat.le_of_ble_eq_true rfl) dX5_readSettings_168 (c_X5_readSemicolon hW hs) (fun v_168 h_168 q_168 => ?_)
    obtain ⟨rfl, eN, hs, t6⟩ := q_168
    replace hd := hd.eqx eN (fun i i1 i2 q => by have : i = 3 := q; omega)
    replace he := he.tr (eN.wk (T := (fun i => i = 3 ∨ i = 62 + 7 + 12 * u + 1)) (fun i q => Or.inl q))
    replace h6 := t6.trans h6
    refine r_vret dX5_readSettings_171 rfl ⟨Nat.zero_le _, Nat.zero_le _⟩ ?_
    exact ⟨rfl, he, hs, hd, h6⟩

set_option maxRecDepth 100000 in
set_option maxHeartbeats 800000 in
theorem c_X5_readPolicy {l9 : Launch} {G : GC} {h : AH} {b : Nat → Int32} {n : Nat} {u : Nat} {f : Nat → Int32} {p : Nat} (hW : World h) (hs : RdS h b n (0, p)) (hG : GOK G) (hu : u < 4) (hd : DrP h u f) (y24 : nn (f 24) ≤ 24) : PM l9 G mX5_readPolicy NT NT [.ref 3, .ref (62 + 1 + 6 + 12 * u + 1)] h (fun v h' => v = none ∧ eqx h h' (fun i => i = 3 ∨ i = 62 + 7 + 12 * u + 1) ∧ RdS h' b n (smiS b n (plE b n p)) ∧ DrP h' u (plF b n p f) ∧ aI h' 3 6 = aI h 3 6) noX := by
  refine PM.of (by decide +kernel) rfl rfl (Nat.le_of_ble_eq_true rfl) (fun hst _ => ?_)
  have he : eqx h h (fun i => i = 3 ∨ i = 62 + 7 + 12 * u + 1) := eqx.rf
  have h6 : aI h 3 6 = aI h 3 6 := rfl
  refine r_aload_n dX5_readPolicy_0 rfl ?_
  refine q_callV0 (cv_X5_readToken ml_X5_39) hW kc_3 (by decide) rfl ⟨rfl, rfl⟩ rfl (Nat.le_of_ble_eq_true rfl) dX5_readPolicy_1 (c_X5_readToken hW hs.1 (hs.2.1.2.1 rfl).1 hs.2.2.2) (fun v_1 h_1 q_1 => ?_)
  obtain ⟨rfl, eT, ht, fT⟩ := q_1
  have hW := eT.W hW
  have hr := hs.1.cg eT (fT 1 (by decide) (by decide) (by decide) (by decide))
  have h7 : aI h_1 3 7 = nI 0 := (fT 7 (by decide) (by decide) (by decide) (by decide)).trans hs.2.1.1
  have h8 : aI h_1 3 8 = -1 := (fT 8 (by decide) (by decide) (by decide) (by decide)).trans (hs.2.1.2.1 rfl).2
  have hp := hs.2.2.2
  replace hd := hd.eqx eT (fun i i1 i2 q => by have : i = 3 := q; omega)
  replace he := he.tr (eT.wk (T := (fun i => i = 3 ∨ i = 62 + 7 + 12 * u + 1)) (fun i q => Or.inl q))
  replace h6 := (fT 6 (by decide) (by decide) (by decide) (by decide)).trans h6
  have hs := RdS.tk hr ht h7 h8 hp
  refine r_aload_n dX5_readPolicy_4 rfl ?_
  refine r_ldcS sw_X5_142 dX5_readPolicy_5 ?_
  refine q_callV1 (cv_X5_isWord ml_X5_144) hW kc_3 (by decide) rfl ⟨rfl, rfl⟩ rfl (Nat.le_of_ble_eq_true rfl) dX5_readPolicy_7 (c_X5_isWord hW hr ht hp hG (by decide)) (fun v_7 h_7 q_7 => ?_)
  obtain ⟨rfl, z9⟩ := q_7
  replace z9 := z9.symm
  subst z9
  refine r_if_eq 21 dX5_readPolicy_10 (by decide) (fun c_10 => ?_) (fun c_10 => ?_)
  · refine r_aload_n dX5_readPolicy_21 rfl ?_
    refine r_ldcS sw_X5_151 dX5_readPolicy_22 ?_
    refine q_callV1 (cv_X5_isWord ml_X5_144) hW kc_3 (by decide) rfl ⟨rfl, rfl⟩ rfl (Nat.le_of_ble_eq_true rfl) dX5_readPolicy_24 (c_X5_isWord hW hr ht hp hG (by decide)) (fun v_24 h_24 q_24 => ?_)
    obtain ⟨rfl, z9⟩ := q_24
    replace z9 := z9.symm
    subst z9
    refine r_if_eq 38 dX5_readPolicy_27 (by decide) (fun c_27 => ?_) (fun c_27 => ?_)
    · refine r_aload_n dX5_readPolicy_38 rfl ?_
      refine r_ldcS sw_X5_153 dX5_readPolicy_39 ?_
      refine q_callV1 (cv_X5_isWord ml_X5_144) hW kc_3 (by decide) rfl ⟨rfl, rfl⟩ rfl (Nat.le_of_ble_eq_true rfl) dX5_readPolicy_41 (c_X5_isWord hW hr ht hp hG (by decide)) (fun v_41 h_41 q_41 => ?_)
      obtain ⟨rfl, z9⟩ := q_41
      replace z9 := z9.symm
      subst z9
      refine r_if_eq 66 dX5_readPolicy_44 (by decide) (fun c_44 => ?_) (fun c_44 => ?_)
      · refine r_aload_n dX5_readPolicy_66 rfl ?_
        refine r_iconst (1) dX5_readPolicy_67 (by decide) ?_
        refine q_callV1 (cv_X5_fail ml_X5_52) hW kc_3 (by decide) rfl ⟨rfl, rfl⟩ rfl (Nat.le_of_ble_eq_true rfl) dX5_readPolicy_68 (c_X5_fail (c := 1) (e := (0, tE b n p)) (s := tS b n p) hW kn_1 (by decide) ht.2.1 h7 (Nat.le_of_ble_eq_true rfl)) (fun v_68 h_68 q_68 => ?_)
        obtain ⟨rfl, eF, fF, -, gF⟩ := q_68
        obtain ⟨g7, g8⟩ := gF rfl
        have hW := eF.W hW
        have hs := RdS.er hr eF fF g7 g8 (by decide) (Nat.le_of_ble_eq_true rfl) (tS_le hp)
        replace hd := hd.eqx eF (fun i i1 i2 q => by have : i = 3 := q; omega)
        replace he := he.tr (eF.wk (T := (fun i => i = 3 ∨ i = 62 + 7 + 12 * u + 1)) (fun i q => Or.inl q))
        replace h6 := (fF 6 (by decide) (by decide)).trans h6
        refine r_aload_n dX5_readPolicy_71 rfl ?_
        refine q_callV0 (cv_X5_readSemicolon ml_X5_103) hW kc_3 (by decide) rfl ⟨rfl, rfl⟩ rfl (Nat.le_of_ble_eq_true rfl) dX5_readPolicy_72 (c_X5_readSemicolon hW hs) (fun v_72 h_72 q_72 => ?_)
        obtain ⟨rfl, eN, hs, t6⟩ := q_72
        replace hd := hd.eqx eN (fun i i1 i2 q => by have : i = 3 := q; omega)
        replace he := he.tr (eN.wk (T := (fun i => i = 3 ∨ i = 62 + 7 + 12 * u + 1)) (fun i q => Or.inl q))
        replace h6 := t6.trans h6
        refine r_vret dX5_readPolicy_75 rfl ⟨Nat.zero_le _, Nat.zero_le _⟩ ?_
        first
          | (have hE : plE b n p = (0, tE b n p) := by unfold plE; rw [if_pos (bI_1.mp c_10)]
             have hF : plF b n p f = upd f 7 0 := by unfold plF; rw [if_pos (bI_1.mp c_10)]
             rw [hE, hF]
             exact ⟨rfl, he, hs, hd, h6⟩)
          | (have hE : plE b n p = (0, tE b n p) := by unfold plE; rw [if_neg (by rw [bI_0.mp c_10]; decide), if_pos (bI_1.mp c_27)]
             have hF : plF b n p f = upd f 7 1 := by unfold plF; rw [if_neg (by rw [bI_0.mp c_10]; decide), if_pos (bI_1.mp c_27)]
             rw [hE, hF]
             exact ⟨rfl, he, hs, hd, h6⟩)
          | (have hE : plE b n p = nmS b n (0, tE b n p) 2 24 := by unfold plE; rw [if_neg (by rw [bI_0.mp c_10]; decide), if_neg (by rw [bI_0.mp c_27]; decide), if_pos (bI_1.mp c_44)]
             have hF : plF b n p f = upd (upd f 7 2) 8 (vlS b n (0, tE b n p) 2 24) := by unfold plF; rw [if_neg (by rw [bI_0.mp c_10]; decide), if_neg (by rw [bI_0.mp c_27]; decide), if_pos (bI_1.mp c_44)]
             rw [hE, hF]
             exact ⟨rfl, he, hs, hd, h6⟩)
          | (have hE : plE b n p = (1, tS b n p) := by unfold plE; rw [if_neg (by rw [bI_0.mp c_10]; decide), if_neg (by rw [bI_0.mp c_27]; decide), if_neg (by rw [bI_0.mp c_44]; decide)]
             have hF : plF b n p f = f := by unfold plF; rw [if_neg (by rw [bI_0.mp c_10]; decide), if_neg (by rw [bI_0.mp c_27]; decide), if_neg (by rw [bI_0.mp c_44]; decide)]
             rw [hE, hF]
             exact ⟨rfl, he, hs, hd, h6⟩)
      · refine r_aload_n dX5_readPolicy_47 rfl ?_
        refine r_iconst (2) dX5_readPolicy_48 (by decide) ?_
        refine q_putI fl_X5_148 hW (kk_3_0 (kd_dr hu)) rfl rfl dX5_readPolicy_49 ?_
        have e9 : eqx h_1 (sI h_1 (62 + 1 + 6 + 12 * u + 1) 7 (2)) (fun i => i = 62 + 7 + 12 * u + 1) := eqx.rf.sI rfl
        have hs : RdS (sI h_1 (62 + 1 + 6 + 12 * u + 1) 7 (2)) b n _ := hs.cg e9 (by omega) (by omega)
        have hd := hd.set (k := 7) (x := 2) (by decide) y24
        have he : eqx h (sI h_1 (62 + 1 + 6 + 12 * u + 1) 7 (2)) (fun i => i = 3 ∨ i = 62 + 7 + 12 * u + 1) := he.tr (e9.wk (fun i q => Or.inr q))
        have h6 : aI (sI h_1 (62 + 1 + 6 + 12 * u + 1) 7 (2)) 3 6 = aI h 3 6 := by rw [sI_o (by omega)]; exact h6
        have hW : World (sI h_1 (62 + 1 + 6 + 12 * u + 1) 7 (2)) := wsI hW
        refine r_aload_n dX5_readPolicy_52 rfl ?_
        refine r_aload_n dX5_readPolicy_53 rfl ?_
        refine r_iconst (2) dX5_readPolicy_54 (by decide) ?_
        refine r_bipush (24) dX5_readPolicy_55 (by decide) ?_
        refine q_callV2 (cv_X5_readNumber ml_X5_97) hW kc_3 (by decide) rfl ⟨rfl, rfl⟩ rfl (Nat.le_of_ble_eq_true rfl) dX5_readPolicy_57 (c_X5_readNumber hW hs) (fun v_57 h_57 q_57 => ?_)
        obtain ⟨rfl, eN, hs, t6, n3⟩ := q_57
        have hW := eN.W hW
        replace hd := hd.eqx eN (fun i i1 i2 q => by have : i = 3 := q; omega)
        replace he := he.tr (eN.wk (T := (fun i => i = 3 ∨ i = 62 + 7 + 12 * u + 1)) (fun i q => Or.inl q))
        replace h6 := t6.trans h6
        refine q_putI fl_X5_155 hW (kk_3_0 (kd_dr hu)) rfl rfl dX5_readPolicy_60 ?_
        have e9 : eqx h_57 (sI h_57 (62 + 1 + 6 + 12 * u + 1) 8 (vlS b n (0, tE b n p) 2 24)) (fun i => i = 62 + 7 + 12 * u + 1) := eqx.rf.sI rfl
        have hs : RdS (sI h_57 (62 + 1 + 6 + 12 * u + 1) 8 (vlS b n (0, tE b n p) 2 24)) b n _ := hs.cg e9 (by omega) (by omega)
        have hd := hd.set (k := 8) (x := vlS b n (0, tE b n p) 2 24) (by decide) (by rw [pk_un (by decide)]; exact y24)
        have he : eqx h (sI h_57 (62 + 1 + 6 + 12 * u + 1) 8 (vlS b n (0, tE b n p) 2 24)) (fun i => i = 3 ∨ i = 62 + 7 + 12 * u + 1) := he.tr (e9.wk (fun i q => Or.inr q))
        have h6 : aI (sI h_57 (62 + 1 + 6 + 12 * u + 1) 8 (vlS b n (0, tE b n p) 2 24)) 3 6 = aI h 3 6 := by rw [sI_o (by omega)]; exact h6
        have hW : World (sI h_57 (62 + 1 + 6 + 12 * u + 1) 8 (vlS b n (0, tE b n p) 2 24)) := wsI hW
        refine r_goto 71 dX5_readPolicy_63 (by decide) ?_
        refine r_aload_n dX5_readPolicy_71 rfl ?_
        refine q_callV0 (cv_X5_readSemicolon ml_X5_103) hW kc_3 (by decide) rfl ⟨rfl, rfl⟩ rfl (Nat.le_of_ble_eq_true rfl) dX5_readPolicy_72 (c_X5_readSemicolon hW hs) (fun v_72 h_72 q_72 => ?_)
        obtain ⟨rfl, eN, hs, t6⟩ := q_72
        replace hd := hd.eqx eN (fun i i1 i2 q => by have : i = 3 := q; omega)
        replace he := he.tr (eN.wk (T := (fun i => i = 3 ∨ i = 62 + 7 + 12 * u + 1)) (fun i q => Or.inl q))
        replace h6 := t6.trans h6
        refine r_vret dX5_readPolicy_75 rfl ⟨Nat.zero_le _, Nat.zero_le _⟩ ?_
        first
          | (have hE : plE b n p = (0, tE b n p) := by unfold plE; rw [if_pos (bI_1.mp c_10)]
             have hF : plF b n p f = upd f 7 0 := by unfold plF; rw [if_pos (bI_1.mp c_10)]
             rw [hE, hF]
             exact ⟨rfl, he, hs, hd, h6⟩)
          | (have hE : plE b n p = (0, tE b n p) := by unfold plE; rw [if_neg (by rw [bI_0.mp c_10]; decide), if_pos (bI_1.mp c_27)]
             have hF : plF b n p f = upd f 7 1 := by unfold plF; rw [if_neg (by rw [bI_0.mp c_10]; decide), if_pos (bI_1.mp c_27)]
             rw [hE, hF]
             exact ⟨rfl, he, hs, hd, h6⟩)
          | (have hE : plE b n p = nmS b n (0, tE b n p) 2 24 := by unfold plE; rw [if_neg (by rw [bI_0.mp c_10]; decide), if_neg (by rw [bI_0.mp c_27]; decide), if_pos (bI_1.mp c_44)]
             have hF : plF b n p f = upd (upd f 7 2) 8 (vlS b n (0, tE b n p) 2 24) := by unfold plF; rw [if_neg (by rw [bI_0.mp c_10]; decide), if_neg (by rw [bI_0.mp c_27]; decide), if_pos (bI_1.mp c_44)]
             rw [hE, hF]
             exact ⟨rfl, he, hs, hd, h6⟩)
          | (have hE : plE b n p = (1, tS b n p) := by unfold plE; rw [if_neg (by rw [bI_0.mp c_10]; decide), if_neg (by rw [bI_0.mp c_27]; decide), if_neg (by rw [bI_0.mp c_44]; decide)]
             have hF : plF b n p f = f := by unfold plF; rw [if_neg (by rw [bI_0.mp c_10]; decide), if_neg (by rw [bI_0.mp c_27]; decide), if_neg (by rw [bI_0.mp c_44]; decide)]
             rw [hE, hF]
             exact ⟨rfl, he, hs, hd, h6⟩)
    · refine r_aload_n dX5_readPolicy_30 rfl ?_
      refine r_iconst (1) dX5_readPolicy_31 (by decide) ?_
      refine q_putI fl_X5_148 hW (kk_3_0 (kd_dr hu)) rfl rfl dX5_readPolicy_32 ?_
      have e9 : eqx h_1 (sI h_1 (62 + 1 + 6 + 12 * u + 1) 7 (1)) (fun i => i = 62 + 7 + 12 * u + 1) := eqx.rf.sI rfl
      have hs : RdS (sI h_1 (62 + 1 + 6 + 12 * u + 1) 7 (1)) b n _ := hs.cg e9 (by omega) (by omega)
      have hd := hd.set (k := 7) (x := 1) (by decide) y24
      have he : eqx h (sI h_1 (62 + 1 + 6 + 12 * u + 1) 7 (1)) (fun i => i = 3 ∨ i = 62 + 7 + 12 * u + 1) := he.tr (e9.wk (fun i q => Or.inr q))
      have h6 : aI (sI h_1 (62 + 1 + 6 + 12 * u + 1) 7 (1)) 3 6 = aI h 3 6 := by rw [sI_o (by omega)]; exact h6
      have hW : World (sI h_1 (62 + 1 + 6 + 12 * u + 1) 7 (1)) := wsI hW
      refine r_goto 71 dX5_readPolicy_35 (by decide) ?_
      refine r_aload_n dX5_readPolicy_71 rfl ?_
      refine q_callV0 (cv_X5_readSemicolon ml_X5_103) hW kc_3 (by decide) rfl ⟨rfl, rfl⟩ rfl (Nat.le_of_ble_eq_true rfl) dX5_readPolicy_72 (c_X5_readSemicolon hW hs) (fun v_72 h_72 q_72 => ?_)
      obtain ⟨rfl, eN, hs, t6⟩ := q_72
      replace hd := hd.eqx eN (fun i i1 i2 q => by have : i = 3 := q; omega)
      replace he := he.tr (eN.wk (T := (fun i => i = 3 ∨ i = 62 + 7 + 12 * u + 1)) (fun i q => Or.inl q))
      replace h6 := t6.trans h6
      refine r_vret dX5_readPolicy_75 rfl ⟨Nat.zero_le _, Nat.zero_le _⟩ ?_
      first
        | (have hE : plE b n p = (0, tE b n p) := by unfold plE; rw [if_pos (bI_1.mp c_10)]
           have hF : plF b n p f = upd f 7 0 := by unfold plF; rw [if_pos (bI_1.mp c_10)]
           rw [hE, hF]
           exact ⟨rfl, he, hs, hd, h6⟩)
        | (have hE : plE b n p = (0, tE b n p) := by unfold plE; rw [if_neg (by rw [bI_0.mp c_10]; decide), if_pos (bI_1.mp c_27)]
           have hF : plF b n p f = upd f 7 1 := by unfold plF; rw [if_neg (by rw [bI_0.mp c_10]; decide), if_pos (bI_1.mp c_27)]
           rw [hE, hF]
           exact ⟨rfl, he, hs, hd, h6⟩)
        | (have hE : plE b n p = nmS b n (0, tE b n p) 2 24 := by unfold plE; rw [if_neg (by rw [bI_0.mp c_10]; decide), if_neg (by rw [bI_0.mp c_27]; decide), if_pos (bI_1.mp c_44)]
           have hF : plF b n p f = upd (upd f 7 2) 8 (vlS b n (0, tE b n p) 2 24) := by unfold plF; rw [if_neg (by rw [bI_0.mp c_10]; decide), if_neg (by rw [bI_0.mp c_27]; decide), if_pos (bI_1.mp c_44)]
           rw [hE, hF]
           exact ⟨rfl, he, hs, hd, h6⟩)
        | (have hE : plE b n p = (1, tS b n p) := by unfold plE; rw [if_neg (by rw [bI_0.mp c_10]; decide), if_neg (by rw [bI_0.mp c_27]; decide), if_neg (by rw [bI_0.mp c_44]; decide)]
           have hF : plF b n p f = f := by unfold plF; rw [if_neg (by rw [bI_0.mp c_10]; decide), if_neg (by rw [bI_0.mp c_27]; decide), if_neg (by rw [bI_0.mp c_44]; decide)]
           rw [hE, hF]
           exact ⟨rfl, he, hs, hd, h6⟩)
  · refine r_aload_n dX5_readPolicy_13 rfl ?_
    refine r_iconst (0) dX5_readPolicy_14 (by decide) ?_
    refine q_putI fl_X5_148 hW (kk_3_0 (kd_dr hu)) rfl rfl dX5_readPolicy_15 ?_
    have e9 : eqx h_1 (sI h_1 (62 + 1 + 6 + 12 * u + 1) 7 (0)) (fun i => i = 62 + 7 + 12 * u + 1) := eqx.rf.sI rfl
    have hs : RdS (sI h_1 (62 + 1 + 6 + 12 * u + 1) 7 (0)) b n _ := hs.cg e9 (by omega) (by omega)
    have hd := hd.set (k := 7) (x := 0) (by decide) y24
    have he : eqx h (sI h_1 (62 + 1 + 6 + 12 * u + 1) 7 (0)) (fun i => i = 3 ∨ i = 62 + 7 + 12 * u + 1) := he.tr (e9.wk (fun i q => Or.inr q))
    have h6 : aI (sI h_1 (62 + 1 + 6 + 12 * u + 1) 7 (0)) 3 6 = aI h 3 6 := by rw [sI_o (by omega)]; exact h6
    have hW : World (sI h_1 (62 + 1 + 6 + 12 * u + 1) 7 (0)) := wsI hW
    refine r_goto 71 dX5_readPolicy_18 (by decide) ?_
    refine r_aload_n dX5_readPolicy_71 rfl ?_
    refine q_callV0 (cv_X5_readSemicolon ml_X5_103) hW kc_3 (by decide) rfl ⟨rfl, rfl⟩ rfl (Nat.le_of_ble_eq_true rfl) dX5_readPolicy_72 (c_X5_readSemicolon hW hs) (fun v_72 h_72 q_72 => ?_)
    obtain ⟨rfl, eN, hs, t6⟩ := q_72
    replace hd := hd.eqx eN (fun i i1 i2 q => by have : i = 3 := q; omega)
    replace he := he.tr (eN.wk (T := (fun i => i = 3 ∨ i = 62 + 7 + 12 * u + 1)) (fun i q => Or.inl q))
    replace h6 := t6.trans h6
    refine r_vret dX5_readPolicy_75 rfl ⟨Nat.zero_le _, Nat.zero_le _⟩ ?_
    first
      | (have hE : plE b n p = (0, tE b n p) := by unfold plE; rw [if_pos (bI_1.mp c_10)]
         have hF : plF b n p f = upd f 7 0 := by unfold plF; rw [if_pos (bI_1.mp c_10)]
         rw [hE, hF]
         exact ⟨rfl, he, hs, hd, h6⟩)
      | (have hE : plE b n p = (0, tE b n p) := by unfold plE; rw [if_neg (by rw [bI_0.mp c_10]; decide), if_pos (bI_1.mp c_27)]
         have hF : plF b n p f = upd f 7 1 := by unfold plF; rw [if_neg (by rw [bI_0.mp c_10]; decide), if_pos (bI_1.mp c_27)]
         rw [hE, hF]
         exact ⟨rfl, he, hs, hd, h6⟩)
      | (have hE : plE b n p = nmS b n (0, tE b n p) 2 24 := by unfold plE; rw [if_neg (by rw [bI_0.mp c_10]; decide), if_neg (by rw [bI_0.mp c_27]; decide), if_pos (bI_1.mp c_44)]
         have hF : plF b n p f = upd (upd f 7 2) 8 (vlS b n (0, tE b n p) 2 24) := by unfold plF; rw [if_neg (by rw [bI_0.mp c_10]; decide), if_neg (by rw [bI_0.mp c_27]; decide), if_pos (bI_1.mp c_44)]
         rw [hE, hF]
         exact ⟨rfl, he, hs, hd, h6⟩)
      | (have hE : plE b n p = (1, tS b n p) := by unfold plE; rw [if_neg (by rw [bI_0.mp c_10]; decide), if_neg (by rw [bI_0.mp c_27]; decide), if_neg (by rw [bI_0.mp c_44]; decide)]
         have hF : plF b n p f = f := by unfold plF; rw [if_neg (by rw [bI_0.mp c_10]; decide), if_neg (by rw [bI_0.mp c_27]; decide), if_neg (by rw [bI_0.mp c_44]; decide)]
         rw [hE, hF]
         exact ⟨rfl, he, hs, hd, h6⟩)

set_option maxRecDepth 100000 in
set_option maxHeartbeats 800000 in
theorem c_X5_readRule {l9 : Launch} {G : GC} {h : AH} {b : Nat → Int32} {n : Nat} {u : Nat} {f : Nat → Int32} {p : Nat} (hW : World h) (hs : RdS h b n (0, p)) (hG : GOK G) (hu : u < 4) (hd : DrP h u f) (y24 : nn (f 24) ≤ 24) : PM l9 G mX5_readRule NT NT [.ref 3, .ref (62 + 1 + 6 + 12 * u + 1)] h (fun v h' => v = none ∧ eqx h h' (fun i => i = 3 ∨ i = 62 + 7 + 12 * u + 1) ∧ RdS h' b n (smiS b n (ruE b n p)) ∧ DrP h' u (ruF b n p f) ∧ aI h' 3 6 = aI h 3 6) noX := by
  refine PM.of (by decide +kernel) rfl rfl (Nat.le_of_ble_eq_true rfl) (fun hst _ => ?_)
  have he : eqx h h (fun i => i = 3 ∨ i = 62 + 7 + 12 * u + 1) := eqx.rf
  have h6 : aI h 3 6 = aI h 3 6 := rfl
  refine r_aload_n dX5_readRule_0 rfl ?_
  refine q_callV0 (cv_X5_readToken ml_X5_39) hW kc_3 (by decide) rfl ⟨rfl, rfl⟩ rfl (Nat.le_of_ble_eq_true rfl) dX5_readRule_1 (c_X5_readToken hW hs.1 (hs.2.1.2.1 rfl).1 hs.2.2.2) (fun v_1 h_1 q_1 => ?_)
  obtain ⟨rfl, eT, ht, fT⟩ := q_1
  have hW := eT.W hW
  have hr := hs.1.cg eT (fT 1 (by decide) (by decide) (by decide) (by decide))
  have h7 : aI h_1 3 7 = nI 0 := (fT 7 (by decide) (by decide) (by decide) (by decide)).trans hs.2.1.1
  have h8 : aI h_1 3 8 = -1 := (fT 8 (by decide) (by decide) (by decide) (by decide)).trans (hs.2.1.2.1 rfl).2
  have hp := hs.2.2.2
  replace hd := hd.eqx eT (fun i i1 i2 q => by have : i = 3 := q; omega)
  replace he := he.tr (eT.wk (T := (fun i => i = 3 ∨ i = 62 + 7 + 12 * u + 1)) (fun i q => Or.inl q))
  replace h6 := (fT 6 (by decide) (by decide) (by decide) (by decide)).trans h6
  have hs := RdS.tk hr ht h7 h8 hp
  refine r_aload_n dX5_readRule_4 rfl ?_
  refine r_ldcS sw_X5_158 dX5_readRule_5 ?_
  refine q_callV1 (cv_X5_isWord ml_X5_144) hW kc_3 (by decide) rfl ⟨rfl, rfl⟩ rfl (Nat.le_of_ble_eq_true rfl) dX5_readRule_7 (c_X5_isWord hW hr ht hp hG (by decide)) (fun v_7 h_7 q_7 => ?_)
  obtain ⟨rfl, z9⟩ := q_7
  replace z9 := z9.symm
  subst z9
  refine r_if_eq 21 dX5_readRule_10 (by decide) (fun c_10 => ?_) (fun c_10 => ?_)
  · refine r_aload_n dX5_readRule_21 rfl ?_
    refine r_ldcS sw_X5_163 dX5_readRule_22 ?_
    refine q_callV1 (cv_X5_isWord ml_X5_144) hW kc_3 (by decide) rfl ⟨rfl, rfl⟩ rfl (Nat.le_of_ble_eq_true rfl) dX5_readRule_24 (c_X5_isWord hW hr ht hp hG (by decide)) (fun v_24 h_24 q_24 => ?_)
    obtain ⟨rfl, z9⟩ := q_24
    replace z9 := z9.symm
    subst z9
    refine r_if_eq 38 dX5_readRule_27 (by decide) (fun c_27 => ?_) (fun c_27 => ?_)
    · refine r_aload_n dX5_readRule_38 rfl ?_
      refine r_ldcS sw_X5_165 dX5_readRule_39 ?_
      refine q_callV1 (cv_X5_isWord ml_X5_144) hW kc_3 (by decide) rfl ⟨rfl, rfl⟩ rfl (Nat.le_of_ble_eq_true rfl) dX5_readRule_41 (c_X5_isWord hW hr ht hp hG (by decide)) (fun v_41 h_41 q_41 => ?_)
      obtain ⟨rfl, z9⟩ := q_41
      replace z9 := z9.symm
      subst z9
      refine r_if_eq 55 dX5_readRule_44 (by decide) (fun c_44 => ?_) (fun c_44 => ?_)
      · refine r_aload_n dX5_readRule_55 rfl ?_
        refine r_iconst (1) dX5_readRule_56 (by decide) ?_
        refine q_callV1 (cv_X5_fail ml_X5_52) hW kc_3 (by decide) rfl ⟨rfl, rfl⟩ rfl (Nat.le_of_ble_eq_true rfl) dX5_readRule_57 (c_X5_fail (c := 1) (e := (0, tE b n p)) (s := tS b n p) hW kn_1 (by decide) ht.2.1 h7 (Nat.le_of_ble_eq_true rfl)) (fun v_57 h_57 q_57 => ?_)
        obtain ⟨rfl, eF, fF, -, gF⟩ := q_57
        obtain ⟨g7, g8⟩ := gF rfl
        have hW := eF.W hW
        have hs := RdS.er hr eF fF g7 g8 (by decide) (Nat.le_of_ble_eq_true rfl) (tS_le hp)
        replace hd := hd.eqx eF (fun i i1 i2 q => by have : i = 3 := q; omega)
        replace he := he.tr (eF.wk (T := (fun i => i = 3 ∨ i = 62 + 7 + 12 * u + 1)) (fun i q => Or.inl q))
        replace h6 := (fF 6 (by decide) (by decide)).trans h6
        refine r_aload_n dX5_readRule_60 rfl ?_
        refine q_callV0 (cv_X5_readSemicolon ml_X5_103) hW kc_3 (by decide) rfl ⟨rfl, rfl⟩ rfl (Nat.le_of_ble_eq_true rfl) dX5_readRule_61 (c_X5_readSemicolon hW hs) (fun v_61 h_61 q_61 => ?_)
        obtain ⟨rfl, eN, hs, t6⟩ := q_61
        replace hd := hd.eqx eN (fun i i1 i2 q => by have : i = 3 := q; omega)
        replace he := he.tr (eN.wk (T := (fun i => i = 3 ∨ i = 62 + 7 + 12 * u + 1)) (fun i q => Or.inl q))
        replace h6 := t6.trans h6
        refine r_vret dX5_readRule_64 rfl ⟨Nat.zero_le _, Nat.zero_le _⟩ ?_
        first
          | (have hE : ruE b n p = (0, tE b n p) := by unfold ruE; rw [if_pos (bI_1.mp c_10)]
             have hF : ruF b n p f = upd f 9 0 := by unfold ruF; rw [if_pos (bI_1.mp c_10)]
             rw [hE, hF]
             exact ⟨rfl, he, hs, hd, h6⟩)
          | (have hE : ruE b n p = (0, tE b n p) := by unfold ruE; rw [if_neg (by rw [bI_0.mp c_10]; decide), if_pos (bI_1.mp c_27)]
             have hF : ruF b n p f = upd f 9 1 := by unfold ruF; rw [if_neg (by rw [bI_0.mp c_10]; decide), if_pos (bI_1.mp c_27)]
             rw [hE, hF]
             exact ⟨rfl, he, hs, hd, h6⟩)
          | (have hE : ruE b n p = (0, tE b n p) := by unfold ruE; rw [if_neg (by rw [bI_0.mp c_10]; decide), if_neg (by rw [bI_0.mp c_27]; decide), if_pos (bI_1.mp c_44)]
             have hF : ruF b n p f = upd f 9 2 := by unfold ruF; rw [if_neg (by rw [bI_0.mp c_10]; decide), if_neg (by rw [bI_0.mp c_27]; decide), if_pos (bI_1.mp c_44)]
             rw [hE, hF]
             exact ⟨rfl, he, hs, hd, h6⟩)
          | (have hE : ruE b n p = (1, tS b n p) := by unfold ruE; rw [if_neg (by rw [bI_0.mp c_10]; decide), if_neg (by rw [bI_0.mp c_27]; decide), if_neg (by rw [bI_0.mp c_44]; decide)]
             have hF : ruF b n p f = f := by unfold ruF; rw [if_neg (by rw [bI_0.mp c_10]; decide), if_neg (by rw [bI_0.mp c_27]; decide), if_neg (by rw [bI_0.mp c_44]; decide)]
             rw [hE, hF]
             exact ⟨rfl, he, hs, hd, h6⟩)
      · refine r_aload_n dX5_readRule_47 rfl ?_
        refine r_iconst (2) dX5_readRule_48 (by decide) ?_
        refine q_putI fl_X5_160 hW (kk_3_0 (kd_dr hu)) rfl rfl dX5_readRule_49 ?_
        have e9 : eqx h_1 (sI h_1 (62 + 1 + 6 + 12 * u + 1) 9 (2)) (fun i => i = 62 + 7 + 12 * u + 1) := eqx.rf.sI rfl
        have hs : RdS (sI h_1 (62 + 1 + 6 + 12 * u + 1) 9 (2)) b n _ := hs.cg e9 (by omega) (by omega)
        have hd := hd.set (k := 9) (x := 2) (by decide) y24
        have he : eqx h (sI h_1 (62 + 1 + 6 + 12 * u + 1) 9 (2)) (fun i => i = 3 ∨ i = 62 + 7 + 12 * u + 1) := he.tr (e9.wk (fun i q => Or.inr q))
        have h6 : aI (sI h_1 (62 + 1 + 6 + 12 * u + 1) 9 (2)) 3 6 = aI h 3 6 := by rw [sI_o (by omega)]; exact h6
        have hW : World (sI h_1 (62 + 1 + 6 + 12 * u + 1) 9 (2)) := wsI hW
        refine r_goto 60 dX5_readRule_52 (by decide) ?_
        refine r_aload_n dX5_readRule_60 rfl ?_
        refine q_callV0 (cv_X5_readSemicolon ml_X5_103) hW kc_3 (by decide) rfl ⟨rfl, rfl⟩ rfl (Nat.le_of_ble_eq_true rfl) dX5_readRule_61 (c_X5_readSemicolon hW hs) (fun v_61 h_61 q_61 => ?_)
        obtain ⟨rfl, eN, hs, t6⟩ := q_61
        replace hd := hd.eqx eN (fun i i1 i2 q => by have : i = 3 := q; omega)
        replace he := he.tr (eN.wk (T := (fun i => i = 3 ∨ i = 62 + 7 + 12 * u + 1)) (fun i q => Or.inl q))
        replace h6 := t6.trans h6
        refine r_vret dX5_readRule_64 rfl ⟨Nat.zero_le _, Nat.zero_le _⟩ ?_
        first
          | (have hE : ruE b n p = (0, tE b n p) := by unfold ruE; rw [if_pos (bI_1.mp c_10)]
             have hF : ruF b n p f = upd f 9 0 := by unfold ruF; rw [if_pos (bI_1.mp c_10)]
             rw [hE, hF]
             exact ⟨rfl, he, hs, hd, h6⟩)
          | (have hE : ruE b n p = (0, tE b n p) := by unfold ruE; rw [if_neg (by rw [bI_0.mp c_10]; decide), if_pos (bI_1.mp c_27)]
             have hF : ruF b n p f = upd f 9 1 := by unfold ruF; rw [if_neg (by rw [bI_0.mp c_10]; decide), if_pos (bI_1.mp c_27)]
             rw [hE, hF]
             exact ⟨rfl, he, hs, hd, h6⟩)
          | (have hE : ruE b n p = (0, tE b n p) := by unfold ruE; rw [if_neg (by rw [bI_0.mp c_10]; decide), if_neg (by rw [bI_0.mp c_27]; decide), if_pos (bI_1.mp c_44)]
             have hF : ruF b n p f = upd f 9 2 := by unfold ruF; rw [if_neg (by rw [bI_0.mp c_10]; decide), if_neg (by rw [bI_0.mp c_27]; decide), if_pos (bI_1.mp c_44)]
             rw [hE, hF]
             exact ⟨rfl, he, hs, hd, h6⟩)
          | (have hE : ruE b n p = (1, tS b n p) := by unfold ruE; rw [if_neg (by rw [bI_0.mp c_10]; decide), if_neg (by rw [bI_0.mp c_27]; decide), if_neg (by rw [bI_0.mp c_44]; decide)]
             have hF : ruF b n p f = f := by unfold ruF; rw [if_neg (by rw [bI_0.mp c_10]; decide), if_neg (by rw [bI_0.mp c_27]; decide), if_neg (by rw [bI_0.mp c_44]; decide)]
             rw [hE, hF]
             exact ⟨rfl, he, hs, hd, h6⟩)
    · refine r_aload_n dX5_readRule_30 rfl ?_
      refine r_iconst (1) dX5_readRule_31 (by decide) ?_
      refine q_putI fl_X5_160 hW (kk_3_0 (kd_dr hu)) rfl rfl dX5_readRule_32 ?_
      have e9 : eqx h_1 (sI h_1 (62 + 1 + 6 + 12 * u + 1) 9 (1)) (fun i => i = 62 + 7 + 12 * u + 1) := eqx.rf.sI rfl
      have hs : RdS (sI h_1 (62 + 1 + 6 + 12 * u + 1) 9 (1)) b n _ := hs.cg e9 (by omega) (by omega)
      have hd := hd.set (k := 9) (x := 1) (by decide) y24
      have he : eqx h (sI h_1 (62 + 1 + 6 + 12 * u + 1) 9 (1)) (fun i => i = 3 ∨ i = 62 + 7 + 12 * u + 1) := he.tr (e9.wk (fun i q => Or.inr q))
      have h6 : aI (sI h_1 (62 + 1 + 6 + 12 * u + 1) 9 (1)) 3 6 = aI h 3 6 := by rw [sI_o (by omega)]; exact h6
      have hW : World (sI h_1 (62 + 1 + 6 + 12 * u + 1) 9 (1)) := wsI hW
      refine r_goto 60 dX5_readRule_35 (by decide) ?_
      refine r_aload_n dX5_readRule_60 rfl ?_
      refine q_callV0 (cv_X5_readSemicolon ml_X5_103) hW kc_3 (by decide) rfl ⟨rfl, rfl⟩ rfl (Nat.le_of_ble_eq_true rfl) dX5_readRule_61 (c_X5_readSemicolon hW hs) (fun v_61 h_61 q_61 => ?_)
      obtain ⟨rfl, eN, hs, t6⟩ := q_61
      replace hd := hd.eqx eN (fun i i1 i2 q => by have : i = 3 := q; omega)
      replace he := he.tr (eN.wk (T := (fun i => i = 3 ∨ i = 62 + 7 + 12 * u + 1)) (fun i q => Or.inl q))
      replace h6 := t6.trans h6
      refine r_vret dX5_readRule_64 rfl ⟨Nat.zero_le _, Nat.zero_le _⟩ ?_
      first
        | (have hE : ruE b n p = (0, tE b n p) := by unfold ruE; rw [if_pos (bI_1.mp c_10)]
           have hF : ruF b n p f = upd f 9 0 := by unfold ruF; rw [if_pos (bI_1.mp c_10)]
           rw [hE, hF]
           exact ⟨rfl, he, hs, hd, h6⟩)
        | (have hE : ruE b n p = (0, tE b n p) := by unfold ruE; rw [if_neg (by rw [bI_0.mp c_10]; decide), if_pos (bI_1.mp c_27)]
           have hF : ruF b n p f = upd f 9 1 := by unfold ruF; rw [if_neg (by rw [bI_0.mp c_10]; decide), if_pos (bI_1.mp c_27)]
           rw [hE, hF]
           exact ⟨rfl, he, hs, hd, h6⟩)
        | (have hE : ruE b n p = (0, tE b n p) := by unfold ruE; rw [if_neg (by rw [bI_0.mp c_10]; decide), if_neg (by rw [bI_0.mp c_27]; decide), if_pos (bI_1.mp c_44)]
           have hF : ruF b n p f = upd f 9 2 := by unfold ruF; rw [if_neg (by rw [bI_0.mp c_10]; decide), if_neg (by rw [bI_0.mp c_27]; decide), if_pos (bI_1.mp c_44)]
           rw [hE, hF]
           exact ⟨rfl, he, hs, hd, h6⟩)
        | (have hE : ruE b n p = (1, tS b n p) := by unfold ruE; rw [if_neg (by rw [bI_0.mp c_10]; decide), if_neg (by rw [bI_0.mp c_27]; decide), if_neg (by rw [bI_0.mp c_44]; decide)]
           have hF : ruF b n p f = f := by unfold ruF; rw [if_neg (by rw [bI_0.mp c_10]; decide), if_neg (by rw [bI_0.mp c_27]; decide), if_neg (by rw [bI_0.mp c_44]; decide)]
           rw [hE, hF]
           exact ⟨rfl, he, hs, hd, h6⟩)
  · refine r_aload_n dX5_readRule_13 rfl ?_
    refine r_iconst (0) dX5_readRule_14 (by decide) ?_
    refine q_putI fl_X5_160 hW (kk_3_0 (kd_dr hu)) rfl rfl dX5_readRule_15 ?_
    have e9 : eqx h_1 (sI h_1 (62 + 1 + 6 + 12 * u + 1) 9 (0)) (fun i => i = 62 + 7 + 12 * u + 1) := eqx.rf.sI rfl
    have hs : RdS (sI h_1 (62 + 1 + 6 + 12 * u + 1) 9 (0)) b n _ := hs.cg e9 (by omega) (by omega)
    have hd := hd.set (k := 9) (x := 0) (by decide) y24
    have he : eqx h (sI h_1 (62 + 1 + 6 + 12 * u + 1) 9 (0)) (fun i => i = 3 ∨ i = 62 + 7 + 12 * u + 1) := he.tr (e9.wk (fun i q => Or.inr q))
    have h6 : aI (sI h_1 (62 + 1 + 6 + 12 * u + 1) 9 (0)) 3 6 = aI h 3 6 := by rw [sI_o (by omega)]; exact h6
    have hW : World (sI h_1 (62 + 1 + 6 + 12 * u + 1) 9 (0)) := wsI hW
    refine r_goto 60 dX5_readRule_18 (by decide) ?_
    refine r_aload_n dX5_readRule_60 rfl ?_
    refine q_callV0 (cv_X5_readSemicolon ml_X5_103) hW kc_3 (by decide) rfl ⟨rfl, rfl⟩ rfl (Nat.le_of_ble_eq_true rfl) dX5_readRule_61 (c_X5_readSemicolon hW hs) (fun v_61 h_61 q_61 => ?_)
    obtain ⟨rfl, eN, hs, t6⟩ := q_61
    replace hd := hd.eqx eN (fun i i1 i2 q => by have : i = 3 := q; omega)
    replace he := he.tr (eN.wk (T := (fun i => i = 3 ∨ i = 62 + 7 + 12 * u + 1)) (fun i q => Or.inl q))
    replace h6 := t6.trans h6
    refine r_vret dX5_readRule_64 rfl ⟨Nat.zero_le _, Nat.zero_le _⟩ ?_
    first
      | (have hE : ruE b n p = (0, tE b n p) := by unfold ruE; rw [if_pos (bI_1.mp c_10)]
         have hF : ruF b n p f = upd f 9 0 := by unfold ruF; rw [if_pos (bI_1.mp c_10)]
         rw [hE, hF]
         exact ⟨rfl, he, hs, hd, h6⟩)
      | (have hE : ruE b n p = (0, tE b n p) := by unfold ruE; rw [if_neg (by rw [bI_0.mp c_10]; decide), if_pos (bI_1.mp c_27)]
         have hF : ruF b n p f = upd f 9 1 := by unfold ruF; rw [if_neg (by rw [bI_0.mp c_10]; decide), if_pos (bI_1.mp c_27)]
         rw [hE, hF]
         exact ⟨rfl, he, hs, hd, h6⟩)
      | (have hE : ruE b n p = (0, tE b n p) := by unfold ruE; rw [if_neg (by rw [bI_0.mp c_10]; decide), if_neg (by rw [bI_0.mp c_27]; decide), if_pos (bI_1.mp c_44)]
         have hF : ruF b n p f = upd f 9 2 := by unfold ruF; rw [if_neg (by rw [bI_0.mp c_10]; decide), if_neg (by rw [bI_0.mp c_27]; decide), if_pos (bI_1.mp c_44)]
         rw [hE, hF]
         exact ⟨rfl, he, hs, hd, h6⟩)
      | (have hE : ruE b n p = (1, tS b n p) := by unfold ruE; rw [if_neg (by rw [bI_0.mp c_10]; decide), if_neg (by rw [bI_0.mp c_27]; decide), if_neg (by rw [bI_0.mp c_44]; decide)]
         have hF : ruF b n p f = f := by unfold ruF; rw [if_neg (by rw [bI_0.mp c_10]; decide), if_neg (by rw [bI_0.mp c_27]; decide), if_neg (by rw [bI_0.mp c_44]; decide)]
         rw [hE, hF]
         exact ⟨rfl, he, hs, hd, h6⟩)
