-- the reference: members come and go, the acts of a tick, ticks
def W2 (q : Q4) : Nat → Int32 := upd (upd (qW q) 2 (nI (qX q))) 3 (nI (qE q))
def QV (h : AH) (v : Nat → Int64) (p : Nat) (q : Q4) (g : Nat → Int64) : Prop := PV h (W2 q) v p (qF q) g
theorem W2_2 (q : Q4) : W2 q 2 = nI (qX q) := (pk_un (by decide)).trans pk_us
theorem W2_3 (q : Q4) : W2 q 3 = nI (qE q) := pk_us
theorem W2_k {q : Q4} {k : Nat} (h2 : k ≠ 2) (h3 : k ≠ 3) : W2 q k = qW q k := (pk_un h3).trans (pk_un h2)
theorem evP_j {w w' : Nat → Int32} {n j : Nat} {a b c d : Int32} (h : w j = w' j) : evP w n a b c d j = evP w' n a b c d j := by
  unfold evP
  by_cases h1 : j = 7 + 4 * (n % 60)
  · rw [h1, pk_us, pk_us]
  · rw [pk_un h1, pk_un h1]
    by_cases h2 : j = 6 + 4 * (n % 60)
    · rw [h2, pk_us, pk_us]
    · rw [pk_un h2, pk_un h2]
      by_cases h3 : j = 5 + 4 * (n % 60)
      · rw [h3, pk_us, pk_us]
      · rw [pk_un h3, pk_un h3]
        by_cases h4 : j = 4 + 4 * (n % 60)
        · rw [h4, pk_us, pk_us]
        · rw [pk_un h4, pk_un h4]; exact h
theorem W2_com {p t : Nat} {r : Int32} {q : Q4} {w : Nat → Int32} (hw : w = upd (W2 q) 2 (W2 q 2 + 1)) (h1 : qW q 1 = nI t) : upd (evP w (qE q) (w 1) 0 (nI p) (W2 q 2)) 3 (w 3 + 1) = W2 (comQ p t r q) := by
  have e1 : w 1 = nI t := by rw [hw, pk_un (by decide), W2_k (by decide) (by decide)]; exact h1
  have e3 : w 3 = nI (qE q) := by rw [hw, pk_un (by decide)]; exact W2_3 q
  rw [e1, e3, W2_2, nI_1]
  funext j
  show _ = upd (upd (evP (qW q) (qE q) (nI t) 0 (nI p) (nI (qX q))) 2 (nI (qX q + 1))) 3 (nI (qE q + 1)) j
  by_cases h3 : j = 3
  · rw [h3, pk_us, pk_us]
  · rw [pk_un h3, pk_un h3]
    by_cases h2 : j = 2
    · subst h2
      rw [pk_us, evP_o (by omega), hw, pk_us, W2_2, nI_1]
    · rw [pk_un h2]
      exact evP_j (by rw [hw, pk_un h2, W2_k h2 h3])
theorem W2_go {p t k : Nat} {q : Q4} (h1 : qW q 1 = nI t) : upd (evP (W2 q) (qE q) (W2 q 1) 1 (nI p) (qF q (100 + 4 * k))) 3 (W2 q 3 + 1) = W2 (goQ p t k q) := by
  rw [W2_k (k := 1) (by decide) (by decide), h1, W2_3, nI_1]
  funext j
  show _ = upd (upd (evP (qW q) (qE q) (nI t) 1 (nI p) (qF q (100 + 4 * k))) 2 (nI (qX q))) 3 (nI (qE q + 1)) j
  by_cases h3 : j = 3
  · rw [h3, pk_us, pk_us]
  · rw [pk_un h3, pk_un h3]
    by_cases h2 : j = 2
    · subst h2
      rw [pk_us, evP_o (by omega), W2_2]
    · rw [pk_un h2]
      exact evP_j (W2_k h2 h3)
theorem QV.of {h : AH} {w : Nat → Int32} {v : Nat → Int64} {p X E : Nat} {f : Nat → Int32} {g : Nat → Int64} (hm : PV h w v p f g) (h2 : w 2 = nI X) (h3 : w 3 = nI E) : QV h v p (f, w, X, E) g := by
  have e : W2 (f, w, X, E) = w := by
    funext j
    by_cases e3 : j = 3
    · rw [e3, W2_3]; exact h3.symm
    · by_cases e2 : j = 2
      · rw [e2, W2_2]; exact h2.symm
      · exact W2_k e2 e3
  unfold QV
  rw [e]; exact hm
/-- the rows behind x shifted, as far as k -/
def sh4 (f : Nat → Int32) (x k : Nat) : Nat → Int32 := fun j => if 100 + 4 * x ≤ j ∧ j < 100 + k then f (j + 4) else f j
theorem sh4_0 {f : Nat → Int32} {x : Nat} : sh4 f x (4 * x) = f := by
  funext j; unfold sh4; rw [if_neg (by omega)]
theorem sh4_1 {f : Nat → Int32} {x k : Nat} (h : 4 * x ≤ k) : upd (sh4 f x k) (100 + k) (sh4 f x k (100 + k + 4)) = sh4 f x (k + 1) := by
  funext j
  by_cases e : j = 100 + k
  · rw [e, pk_us]
    unfold sh4
    rw [if_neg (by omega), if_pos (by omega)]
  · rw [pk_un e]
    unfold sh4
    by_cases q : 100 + 4 * x ≤ j ∧ j < 100 + k
    · rw [if_pos q, if_pos (by omega)]
    · rw [if_neg q, if_neg (by omega)]
theorem sh4_e {f : Nat → Int32} {x : Nat} : upd (sh4 f x (4 * (nn (f 23) - 1))) 23 (sh4 f x (4 * (nn (f 23) - 1)) 23 + (-1)) = goF f x := by
  funext j
  by_cases e : j = 23
  · rw [e, pk_us]
    unfold goF sh4
    rw [if_neg (by omega), if_pos rfl, Int32.sub_eq_add_neg]
  · rw [pk_un e]
    unfold goF sh4
    rw [if_neg e]
theorem joF_21 {f : Nat → Int32} {a b r x : Int32} {k : Nat} (hk : k = 21 ∨ k = 22) : joF (upd f k x) a b r = upd (joF f a b r) k x := by
  have e23 : upd f k x 23 = f 23 := pk_un (by omega)
  unfold joF
  rw [e23]
  funext j
  by_cases e : j = k
  · rw [e, pk_us]
    rw [pk_un (by omega), pk_un (by omega), pk_un (by omega), pk_un (by omega), pk_un (by omega), pk_us]
  · rw [pk_un e]
    by_cases h1 : j = 23
    · rw [h1, pk_us, pk_us]
    · rw [pk_un h1, pk_un h1]
      by_cases h2 : j = 103 + 4 * nn (f 23)
      · rw [h2, pk_us, pk_us]
      · rw [pk_un h2, pk_un h2]
        by_cases h3 : j = 102 + 4 * nn (f 23)
        · rw [h3, pk_us, pk_us]
        · rw [pk_un h3, pk_un h3]
          by_cases h4 : j = 101 + 4 * nn (f 23)
          · rw [h4, pk_us, pk_us]
          · rw [pk_un h4, pk_un h4]
            by_cases h5 : j = 100 + 4 * nn (f 23)
            · rw [h5, pk_us, pk_us]
            · rw [pk_un h5, pk_un h5, pk_un e]
theorem goF_22 {f : Nat → Int32} {x : Nat} {y : Int32} {k : Nat} (hk : k = 21 ∨ k = 22) : goF (upd f k y) x = upd (goF f x) k y := by
  have e23 : upd f k y 23 = f 23 := pk_un (by omega)
  funext j
  by_cases e : j = k
  · subst e
    rw [pk_us]
    unfold goF
    rw [if_neg (by omega), if_neg (by omega), pk_us]
  · rw [pk_un e]
    unfold goF
    rw [e23]
    split
    · rfl
    · split
      · rw [pk_un (by omega)]
      · rw [pk_un e]
def setF (q : Q4) (f : Nat → Int32) : Q4 := (f, qW q, qX q, qE q)
theorem gr_21 {p t n k : Nat} {r x : Int32} {q : Q4} (hk : k = 21 ∨ k = 22) : grS p t r n (setF q (upd (qF q) k x)) = setF (grS p t r n q) (upd (qF (grS p t r n q)) k x) := by
  induction n with
  | zero => rfl
  | succ n ih =>
    show comQ p t r (grS p t r n (setF q (upd (qF q) k x))) = _
    rw [ih]
    have e : ∀ q : Q4, comQ p t r (setF q (upd (qF q) k x)) = setF (comQ p t r q) (upd (qF (comQ p t r q)) k x) := fun q => by
      show (joF (upd (qF q) k x) _ _ _, _, _, _) = _
      rw [joF_21 hk]; rfl
    exact e _
theorem mbs_22 {f : Nat → Int32} {x : Int32} {k : Nat} (hk : k = 21 ∨ k = 22) : mbs (upd f k x) = mbs f := mbs_cg (pk_un (by omega)) (fun j _ => pk_un (by omega))
theorem nx_22 {q : Q4} {x : Int32} {k : Nat} (hk : k = 21 ∨ k = 22) : nxQ (setF q (upd (qF q) k x)) = nxQ q := by
  unfold nxQ
  show ng (mbs (upd (qF q) k x)) (upd (qF q) k x 9) (mbs (upd (qF q) k x)).length = _
  rw [mbs_22 hk, pk_un (by omega)]
theorem sh_22 {p t n k : Nat} {x : Int32} {q : Q4} (hk : k = 21 ∨ k = 22) : shS p t n (setF q (upd (qF q) k x)) = setF (shS p t n q) (upd (qF (shS p t n q)) k x) := by
  induction n with
  | zero => rfl
  | succ n ih =>
    show (match nxQ (shS p t n (setF q (upd (qF q) k x))) with | none => shS p t n (setF q (upd (qF q) k x)) | some j => goQ p t j (shS p t n (setF q (upd (qF q) k x)))) = _
    rw [ih, nx_22 hk]
    show _ = setF (match nxQ (shS p t n q) with | none => shS p t n q | some j => goQ p t j (shS p t n q)) (upd (qF (match nxQ (shS p t n q) with | none => shS p t n q | some j => goQ p t j (shS p t n q))) k x)
    cases nxQ (shS p t n q) with
    | none => rfl
    | some j =>
      have e : ∀ q : Q4, goQ p t j (setF q (upd (qF q) k x)) = setF (goQ p t j q) (upd (qF (goQ p t j q)) k x) := fun q => by
        show (goF (upd (qF q) k x) j, evP _ _ _ _ _ (upd (qF q) k x (100 + 4 * j)), _, _) = _
        rw [goF_22 hk, pk_un (by omega)]; rfl
      exact e _
def dcA (f : Nat → Int32) (t : Nat) : Nat → Int32 := upd (upd f 17 (nI (deF f t))) (30 + deF f t) (f (30 + deF f t) + 1)
theorem dcA_o {f : Nat → Int32} {t k : Nat} (h1 : k ≠ 17) (h2 : k < 30 ∨ 36 ≤ k) : dcA f t k = f k := by
  have := deF_lt f t
  unfold dcA
  rw [pk_un (by omega), pk_un h1]
theorem dec_0 {f : Nat → Int32} {t : Nat} (h : deF f t = 0) : decF f t = upd (upd (dcA f t) 21 (nI t)) 22 (nI t) := by
  funext k
  unfold decF dcA
  rw [h]
  by_cases e22 : k = 22
  · subst e22; rw [pk_us, if_neg (by decide), if_neg (by decide), if_neg (by decide), if_pos rfl, if_pos (by decide)]
  · rw [pk_un e22]
    by_cases e21 : k = 21
    · subst e21; rw [pk_us, if_neg (by decide), if_neg (by decide), if_pos rfl, if_pos rfl]
    · rw [pk_un e21]
      by_cases e17 : k = 17
      · subst e17; rw [if_pos rfl, pk_un (by decide), pk_us]
      · rw [if_neg e17]
        by_cases e30 : k = 30 + 0
        · subst e30; rw [if_pos rfl, pk_us]
        · rw [if_neg e30, if_neg e21, if_neg e22, pk_un e30, pk_un e17]
theorem dec_1 {f : Nat → Int32} {t : Nat} (h : deF f t = 1) : decF f t = upd (dcA f t) 22 (nI t) := by
  funext k
  unfold decF dcA
  rw [h]
  by_cases e22 : k = 22
  · subst e22; rw [pk_us, if_neg (by decide), if_neg (by decide), if_neg (by decide), if_pos rfl, if_pos (by decide)]
  · rw [pk_un e22]
    by_cases e17 : k = 17
    · subst e17; rw [if_pos rfl, pk_un (by decide), pk_us]
    · rw [if_neg e17]
      by_cases e30 : k = 30 + 1
      · subst e30; rw [if_pos rfl, pk_us]
      · rw [if_neg e30, pk_un e30, pk_un e17]
        by_cases e21 : k = 21
        · subst e21; rw [if_pos rfl, if_neg (by decide)]
        · rw [if_neg e21, if_neg e22]
theorem dec_2 {f : Nat → Int32} {t : Nat} (h : ¬ deF f t ≤ 1) : decF f t = dcA f t := by
  have h6 := deF_lt f t
  funext k
  unfold decF dcA
  by_cases e17 : k = 17
  · subst e17; rw [if_pos rfl, pk_un (by omega), pk_us]
  · rw [if_neg e17]
    by_cases e30 : k = 30 + deF f t
    · rw [if_pos e30, e30, pk_us]
    · rw [if_neg e30, pk_un e30, pk_un e17]
      by_cases e21 : k = 21
      · subst e21; rw [if_pos rfl, if_neg (by omega)]
      · rw [if_neg e21]
        by_cases e22 : k = 22
        · subst e22; rw [if_pos rfl, if_neg h]
        · rw [if_neg e22]
theorem deF_0 {f : Nat → Int32} {t : Nat} (h : deF f t = 0) : f 23 < f 19 := by
  unfold deF at h
  split at h
  · split at h
    · cases h
    · split at h
      · next z => exact z
      · split at h
        · cases h
        · cases hq : ng (mbs f) (f 9) (mbs f).length with
          | none => rw [hq] at h; cases h
          | some k => rw [hq] at h; cases h
  · cases h
theorem deF_1 {f : Nat → Int32} {t : Nat} (h : deF f t = 1) : f 19 ≠ f 23 ∧ ¬ f 23 < f 19 := by
  unfold deF at h
  split at h
  · split at h
    · cases h
    · next z1 =>
      split at h
      · split at h <;> cases h
      · next z => exact ⟨z1, z⟩
  · cases h
set_option maxRecDepth 100000 in
set_option maxHeartbeats 4000000 in
theorem c_X9_joins {l9 : Launch} {G : GC} {h : AH} {w : Nat → Int32} {v9 : Nat → Int64} {p : Nat} {f : Nat → Int32} {g : Nat → Int64} {n : Nat} {x y z : Int32} (hW : World h) (hm : PV h w v9 p f g) (hp : p < 4) (hx : x = nI p) (h23 : f 23 = nI n) (hn : n < 20) : PM l9 G mX9_joins NT NT [.ref 723, .int x, .int y, .int z] h (fun v h' => v = some (.int (w 2)) ∧ eqx h h' SM ∧ PV h' (upd w 2 (w 2 + 1)) v9 p (joF f (w 2) y z) g) noX := by
  refine PM.of (by decide +kernel) rfl rfl (Nat.le_of_ble_eq_true rfl) (fun hst _ => ?_)
  have he : eqx h h SM := eqx.rf
  have en : nn (f 23) = n := by rw [h23]; exact nn_I (by omega)
  refine r_bipush (100) dX9_joins_0 (by decide) ?_
  refine r_iconst (4) dX9_joins_2 (by decide) ?_
  refine r_aload_n dX9_joins_3 rfl ?_
  refine r_iload_n dX9_joins_4 rfl ?_
  refine r_bipush (23) dX9_joins_5 (by decide) ?_
  refine q_callV2 (cv_X9_of ml_X9_81) hW kc_723 (by decide) rfl ⟨rfl, rfl⟩ rfl (Nat.le_of_ble_eq_true rfl) dX9_joins_7 (c_X9_of hW hm hp hx kn_23 (by omega)) (fun v_7 h_7 q_7 => ?_)
  obtain ⟨rfl, z9⟩ := q_7
  replace z9 := z9.symm
  subst z9
  refine r_imul dX9_joins_10 ?_
  refine r_iadd dX9_joins_11 ?_
  refine r_istore (ls2 := [_, _, _, some _, _, _]) dX9_joins_12 (by decide) rfl ?_
  refine r_aload_n dX9_joins_14 rfl ?_
  refine q_getR fl_X9_7 hW kc_723 rfl (kl_9_0 hW) (by decide) dX9_joins_15 ?_
  refine r_iconst (2) dX9_joins_18 (by decide) ?_
  refine q_wldPV hW hm kn_2 (by omega) dX9_joins_19 ?_
  refine r_istore (ls2 := [_, _, _, _, some _, _]) dX9_joins_20 (by decide) rfl ?_
  refine r_aload_n dX9_joins_22 rfl ?_
  refine r_iload_n dX9_joins_23 rfl ?_
  refine r_iload dX9_joins_24 rfl ?_
  refine r_iconst (0) dX9_joins_26 (by decide) ?_
  refine r_iadd dX9_joins_27 ?_
  refine r_iload dX9_joins_28 rfl ?_
  refine q_callV3 (cv_X9_put ml_X9_64) hW kc_723 (by decide) rfl ⟨rfl, rfl⟩ rfl (Nat.le_of_ble_eq_true rfl) dX9_joins_30 (c_X9_put hW hm hp hx (nadd (nadd kn_100 (nmul kn_4 h23)) kn_0) (by omega)) (fun v_30 h_30 q_30 => ?_)
  obtain ⟨rfl, e_30, hm⟩ := q_30
  have hW := e_30.W hW
  have he := he.tr e_30
  refine r_aload_n dX9_joins_33 rfl ?_
  refine r_iload_n dX9_joins_34 rfl ?_
  refine r_iload dX9_joins_35 rfl ?_
  refine r_iconst (1) dX9_joins_37 (by decide) ?_
  refine r_iadd dX9_joins_38 ?_
  refine r_iload_n dX9_joins_39 rfl ?_
  refine q_callV3 (cv_X9_put ml_X9_64) hW kc_723 (by decide) rfl ⟨rfl, rfl⟩ rfl (Nat.le_of_ble_eq_true rfl) dX9_joins_40 (c_X9_put hW hm hp hx (nadd (nadd kn_100 (nmul kn_4 h23)) kn_1) (by omega)) (fun v_40 h_40 q_40 => ?_)
  obtain ⟨rfl, e_40, hm⟩ := q_40
  have hW := e_40.W hW
  have he := he.tr e_40
  refine r_aload_n dX9_joins_43 rfl ?_
  refine r_iload_n dX9_joins_44 rfl ?_
  refine r_iload dX9_joins_45 rfl ?_
  refine r_iconst (2) dX9_joins_47 (by decide) ?_
  refine r_iadd dX9_joins_48 ?_
  refine r_iload_n dX9_joins_49 rfl ?_
  refine q_callV3 (cv_X9_put ml_X9_64) hW kc_723 (by decide) rfl ⟨rfl, rfl⟩ rfl (Nat.le_of_ble_eq_true rfl) dX9_joins_50 (c_X9_put hW hm hp hx (nadd (nadd kn_100 (nmul kn_4 h23)) kn_2) (by omega)) (fun v_50 h_50 q_50 => ?_)
  obtain ⟨rfl, e_50, hm⟩ := q_50
  have hW := e_50.W hW
  have he := he.tr e_50
  refine r_aload_n dX9_joins_53 rfl ?_
  refine r_iload_n dX9_joins_54 rfl ?_
  refine r_iload dX9_joins_55 rfl ?_
  refine r_iconst (3) dX9_joins_57 (by decide) ?_
  refine r_iadd dX9_joins_58 ?_
  refine r_iconst (0) dX9_joins_59 (by decide) ?_
  refine q_callV3 (cv_X9_put ml_X9_64) hW kc_723 (by decide) rfl ⟨rfl, rfl⟩ rfl (Nat.le_of_ble_eq_true rfl) dX9_joins_60 (c_X9_put hW hm hp hx (nadd (nadd kn_100 (nmul kn_4 h23)) kn_3) (by omega)) (fun v_60 h_60 q_60 => ?_)
  obtain ⟨rfl, e_60, hm⟩ := q_60
  have hW := e_60.W hW
  have he := he.tr e_60
  refine r_aload_n dX9_joins_63 rfl ?_
  refine r_iload_n dX9_joins_64 rfl ?_
  refine r_bipush (23) dX9_joins_65 (by decide) ?_
  refine r_iconst (1) dX9_joins_67 (by decide) ?_
  refine q_callV3 (cv_X9_adds ml_X9_85) hW kc_723 (by decide) rfl ⟨rfl, rfl⟩ rfl (Nat.le_of_ble_eq_true rfl) dX9_joins_68 (c_X9_adds hW hm hp hx kn_23 (by omega)) (fun v_68 h_68 q_68 => ?_)
  obtain ⟨rfl, e_68, hm⟩ := q_68
  have hW := e_68.W hW
  have he := he.tr e_68
  refine r_aload_n dX9_joins_71 rfl ?_
  refine q_getR fl_X9_7 hW kc_723 rfl (kl_9_0 hW) (by decide) dX9_joins_72 ?_
  refine r_iconst (2) dX9_joins_75 (by decide) ?_
  refine r_dup2 dX9_joins_76 rfl rfl ?_
  refine q_wldPV hW hm kn_2 (by omega) dX9_joins_77 ?_
  refine r_iconst (1) dX9_joins_78 (by decide) ?_
  refine r_iadd dX9_joins_79 ?_
  refine q_wstPV hW hm kn_2 (by omega) dX9_joins_80 (fun h_80 hW hm e_80 => ?_)
  have he := he.tr e_80
  refine r_iload dX9_joins_81 rfl ?_
  refine r_iret dX9_joins_83 rfl ⟨Nat.zero_le _, Nat.zero_le _⟩ ?_
  refine ⟨rfl, he, hm.eF ?_ rfl⟩
  unfold joF
  rw [en, show 101 + 4 * n = 100 + 4 * (n) + 1 from by omega, show 102 + 4 * n = 100 + 4 * (n) + 2 from by omega, show 103 + 4 * n = 100 + 4 * (n) + 3 from by omega]
  congr 1
  rw [pk_un (by omega), pk_un (by omega), pk_un (by omega), pk_un (by omega)]

set_option maxRecDepth 100000 in
set_option maxHeartbeats 4000000 in
theorem c_X9_tells {l9 : Launch} {G : GC} {h : AH} {w : Nat → Int32} {v9 : Nat → Int64} {p : Nat} {f : Nat → Int32} {g : Nat → Int64} {E : Nat} {x y z : Int32} (hW : World h) (hm : PV h w v9 p f g) (h3 : w 3 = nI E) (hE : E < 2 ^ 31) : PM l9 G mX9_tells NT NT [.ref 723, .int x, .int y, .int z] h (fun v h' => v = none ∧ eqx h h' SM ∧ PV h' (upd (evP w E (w 1) x y z) 3 (w 3 + 1)) v9 p f g) noX := by
  refine PM.of (by decide +kernel) rfl rfl (Nat.le_of_ble_eq_true rfl) (fun hst _ => ?_)
  have he : eqx h h SM := eqx.rf
  have ym := Nat.mod_lt E (show 0 < 60 by decide)
  refine r_iconst (4) dX9_tells_0 (by decide) ?_
  refine r_iconst (4) dX9_tells_1 (by decide) ?_
  refine r_aload_n dX9_tells_2 rfl ?_
  refine q_getR fl_X9_7 hW kc_723 rfl (kl_9_0 hW) (by decide) dX9_tells_3 ?_
  refine r_iconst (3) dX9_tells_6 (by decide) ?_
  refine q_wldPV hW hm kn_3 (by omega) dX9_tells_7 ?_
  refine r_bipush (60) dX9_tells_8 (by decide) ?_
  refine r_irem dX9_tells_10 (by decide) ?_
  refine r_imul dX9_tells_11 ?_
  refine r_iadd dX9_tells_12 ?_
  refine r_istore (ls2 := [_, _, _, some _, _]) dX9_tells_13 (by decide) rfl ?_
  refine r_aload_n dX9_tells_15 rfl ?_
  refine q_getR fl_X9_7 hW kc_723 rfl (kl_9_0 hW) (by decide) dX9_tells_16 ?_
  refine r_iload dX9_tells_19 rfl ?_
  refine r_aload_n dX9_tells_21 rfl ?_
  refine q_getR fl_X9_7 hW kc_723 rfl (kl_9_0 hW) (by decide) dX9_tells_22 ?_
  refine r_iconst (1) dX9_tells_25 (by decide) ?_
  refine q_wldPV hW hm kn_1 (by omega) dX9_tells_26 ?_
  refine q_wstPV hW hm (nadd kn_4 (nmul kn_4 (nrem h3 kn_60 (by omega) (by omega) (by omega)))) (by omega) dX9_tells_27 (fun h_27 hW hm e_27 => ?_)
  have he := he.tr e_27
  refine r_aload_n dX9_tells_28 rfl ?_
  refine q_getR fl_X9_7 hW kc_723 rfl (kl_9_0 hW) (by decide) dX9_tells_29 ?_
  refine r_iload dX9_tells_32 rfl ?_
  refine r_iconst (1) dX9_tells_34 (by decide) ?_
  refine r_iadd dX9_tells_35 ?_
  refine r_iload_n dX9_tells_36 rfl ?_
  refine q_wstPV hW hm (nadd (nadd kn_4 (nmul kn_4 (nrem h3 kn_60 (by omega) (by omega) (by omega)))) kn_1) (by omega) dX9_tells_37 (fun h_37 hW hm e_37 => ?_)
  have he := he.tr e_37
  refine r_aload_n dX9_tells_38 rfl ?_
  refine q_getR fl_X9_7 hW kc_723 rfl (kl_9_0 hW) (by decide) dX9_tells_39 ?_
  refine r_iload dX9_tells_42 rfl ?_
  refine r_iconst (2) dX9_tells_44 (by decide) ?_
  refine r_iadd dX9_tells_45 ?_
  refine r_iload_n dX9_tells_46 rfl ?_
  refine q_wstPV hW hm (nadd (nadd kn_4 (nmul kn_4 (nrem h3 kn_60 (by omega) (by omega) (by omega)))) kn_2) (by omega) dX9_tells_47 (fun h_47 hW hm e_47 => ?_)
  have he := he.tr e_47
  refine r_aload_n dX9_tells_48 rfl ?_
  refine q_getR fl_X9_7 hW kc_723 rfl (kl_9_0 hW) (by decide) dX9_tells_49 ?_
  refine r_iload dX9_tells_52 rfl ?_
  refine r_iconst (3) dX9_tells_54 (by decide) ?_
  refine r_iadd dX9_tells_55 ?_
  refine r_iload_n dX9_tells_56 rfl ?_
  refine q_wstPV hW hm (nadd (nadd kn_4 (nmul kn_4 (nrem h3 kn_60 (by omega) (by omega) (by omega)))) kn_3) (by omega) dX9_tells_57 (fun h_57 hW hm e_57 => ?_)
  have he := he.tr e_57
  refine r_aload_n dX9_tells_58 rfl ?_
  refine q_getR fl_X9_7 hW kc_723 rfl (kl_9_0 hW) (by decide) dX9_tells_59 ?_
  refine r_iconst (3) dX9_tells_62 (by decide) ?_
  refine r_dup2 dX9_tells_63 rfl rfl ?_
  refine q_wldPV hW hm kn_3 (by omega) dX9_tells_64 ?_
  refine r_iconst (1) dX9_tells_65 (by decide) ?_
  refine r_iadd dX9_tells_66 ?_
  refine q_wstPV hW hm kn_3 (by omega) dX9_tells_67 (fun h_67 hW hm e_67 => ?_)
  have he := he.tr e_67
  refine r_vret dX9_tells_68 rfl ⟨Nat.zero_le _, Nat.zero_le _⟩ ?_
  refine ⟨rfl, he, ?_⟩
  unfold evP
  rw [show 5 + 4 * (E % 60) = 4 + 4 * (E % 60) + 1 from by omega, show 6 + 4 * (E % 60) = 4 + 4 * (E % 60) + 2 from by omega, show 7 + 4 * (E % 60) = 4 + 4 * (E % 60) + 3 from by omega]
  have e3 : (upd (upd (upd (upd w (4 + 4 * (E % 60)) (w 1)) (4 + 4 * (E % 60) + 1) x) (4 + 4 * (E % 60) + 2) y) (4 + 4 * (E % 60) + 3) z) 3 = w 3 := by
    rw [pk_un (by omega), pk_un (by omega), pk_un (by omega), pk_un (by omega)]
  rw [e3] at hm
  exact hm

set_option maxRecDepth 100000 in
set_option maxHeartbeats 4000000 in
theorem c_X9_comes {l9 : Launch} {G : GC} {h : AH} {v9 : Nat → Int64} {p t : Nat} {q : Q4} {g : Nat → Int64} {n : Nat} {x y : Int32} (hW : World h) (hq : QV h v9 p q g) (hp : p < 4) (h1 : qW q 1 = nI t) (hx : x = nI p) (h23 : qF q 23 = nI n) (hn : n < 20) (hE : qE q < 2 ^ 30) : PM l9 G mX9_comes NT NT [.ref 723, .int x, .int y] h (fun v h' => v = some (.int (nI (qX q))) ∧ eqx h h' SM ∧ QV h' v9 p (comQ p t y q) g) noX := by
  refine PM.of (by decide +kernel) rfl rfl (Nat.le_of_ble_eq_true rfl) (fun hst _ => ?_)
  have he : eqx h h SM := eqx.rf
  have hm : PV h (W2 q) v9 p (qF q) g := hq
  refine r_aload_n dX9_comes_0 rfl ?_
  refine r_iload_n dX9_comes_1 rfl ?_
  refine r_aload_n dX9_comes_2 rfl ?_
  refine q_getR fl_X9_7 hW kc_723 rfl (kl_9_0 hW) (by decide) dX9_comes_3 ?_
  refine r_iconst (1) dX9_comes_6 (by decide) ?_
  refine q_wldPV hW hm kn_1 (by omega) dX9_comes_7 ?_
  refine r_iload_n dX9_comes_8 rfl ?_
  refine q_callV3 (cv_X9_joins ml_X9_67) hW kc_723 (by decide) rfl ⟨rfl, rfl⟩ rfl (Nat.le_of_ble_eq_true rfl) dX9_comes_9 (c_X9_joins hW hm hp hx h23 hn) (fun v_9 h_9 q_9 => ?_)
  obtain ⟨rfl, e_9, hm⟩ := q_9
  have hW := e_9.W hW
  have he := he.tr e_9
  refine r_istore_n (ls2 := [_, _, some _, _]) dX9_comes_12 (by decide) rfl ?_
  obtain ⟨w9, ew⟩ : ∃ w9, w9 = upd (W2 q) 2 (W2 q 2 + 1) := ⟨_, rfl⟩
  rw [← ew] at hm
  have h39 : w9 3 = nI (qE q) := by rw [ew, pk_un (by decide)]; exact W2_3 q
  refine r_aload_n dX9_comes_13 rfl ?_
  refine r_iconst (0) dX9_comes_14 (by decide) ?_
  refine r_iload_n dX9_comes_15 rfl ?_
  refine r_iload_n dX9_comes_16 rfl ?_
  refine q_callV3 (cv_X9_tells ml_X9_88) hW kc_723 (by decide) rfl ⟨rfl, rfl⟩ rfl (Nat.le_of_ble_eq_true rfl) dX9_comes_17 (c_X9_tells hW hm h39 (by omega)) (fun v_17 h_17 q_17 => ?_)
  obtain ⟨rfl, e_17, hm⟩ := q_17
  have hW := e_17.W hW
  have he := he.tr e_17
  refine r_iload_n dX9_comes_20 rfl ?_
  refine r_iret dX9_comes_21 rfl ⟨Nat.zero_le _, Nat.zero_le _⟩ ?_
  refine ⟨some_int (W2_2 q), he, ?_⟩
  show PV _ (W2 (comQ p t y q)) _ _ (joF (qF q) (nI (qX q)) (nI t) y) _
  rw [hx, W2_com ew h1, W2_2, W2_k (by decide) (by decide), h1] at hm
  exact hm

set_option maxRecDepth 100000 in
set_option maxHeartbeats 4000000 in
theorem c_X9_goes {l9 : Launch} {G : GC} {h : AH} {v9 : Nat → Int64} {p t : Nat} {q : Q4} {g : Nat → Int64} {k : Nat} {x y : Int32} (hW : World h) (hq : QV h v9 p q g) (hp : p < 4) (h1 : qW q 1 = nI t) (hx : x = nI p) (hy : y = nI k) (h23 : rg (qF q 23) 0 20) (hk : k < nn (qF q 23)) (hE : qE q < 2 ^ 30) : PM l9 G mX9_goes NT NT [.ref 723, .int x, .int y] h (fun v h' => v = none ∧ eqx h h' SM ∧ QV h' v9 p (goQ p t k q) g) noX := by
  refine PM.of (by decide +kernel) rfl rfl (Nat.le_of_ble_eq_true rfl) (fun hst _ => ?_)
  have he : eqx h h SM := eqx.rf
  have y23 := h23.2.2
  have hm : PV h (W2 q) v9 p (qF q) g := hq
  obtain ⟨f, ef⟩ : ∃ f, f = qF q := ⟨_, rfl⟩
  rw [← ef] at hm h23 hk y23
  refine r_aload_n dX9_goes_0 rfl ?_
  refine r_iconst (1) dX9_goes_1 (by decide) ?_
  refine r_iload_n dX9_goes_2 rfl ?_
  refine r_aload_n dX9_goes_3 rfl ?_
  refine r_iload_n dX9_goes_4 rfl ?_
  refine r_bipush (100) dX9_goes_5 (by decide) ?_
  refine r_iconst (4) dX9_goes_7 (by decide) ?_
  refine r_iload_n dX9_goes_8 rfl ?_
  refine r_imul dX9_goes_9 ?_
  refine r_iadd dX9_goes_10 ?_
  refine q_callV2 (cv_X9_of ml_X9_81) hW kc_723 (by decide) rfl ⟨rfl, rfl⟩ rfl (Nat.le_of_ble_eq_true rfl) dX9_goes_11 (c_X9_of hW hm hp hx (nadd kn_100 (nmul kn_4 hy)) (by omega)) (fun v_11 h_11 q_11 => ?_)
  obtain ⟨rfl, z9⟩ := q_11
  replace z9 := z9.symm
  subst z9
  refine q_callV3 (cv_X9_tells ml_X9_88) hW kc_723 (by decide) rfl ⟨rfl, rfl⟩ rfl (Nat.le_of_ble_eq_true rfl) dX9_goes_14 (c_X9_tells hW hm (W2_3 q) (by omega)) (fun v_14 h_14 q_14 => ?_)
  obtain ⟨rfl, e_14, hm⟩ := q_14
  have hW := e_14.W hW
  have he := he.tr e_14
  have hm2 : PV h_14 (W2 (goQ p t k q)) v9 p f g := by
    rw [← W2_go h1, ← ef, ← hx]
    exact hm
  clear hm
  refine r_iconst (4) dX9_goes_17 (by decide) ?_
  refine r_iload_n dX9_goes_18 rfl ?_
  refine r_imul dX9_goes_19 ?_
  rw [show (4 : Int32) * y = nI (4 * k) from nmul (a := 4) rfl hy]
  refine r_istore_n (ls2 := [_, _, some _, _]) dX9_goes_20 (by decide) rfl ?_
  refine loopN (P := fun i => ∀ H : AH, 4 * k ≤ i → i ≤ 4 * (nn (f 23) - 1) → World H → eqx h H SM → PV H (W2 (goQ p t k q)) v9 p (sh4 f k i) g → PW l9 G mX9_goes _ _ NT 21 [some (.ref 723), some (.int x), some (.int y), some (.int (nI i))] [] (0, 0) H) (4 * (nn (f 23) - 1)) (fun i ih H hi0 hi hW he hm => ?_) (4 * k) h_14 (Nat.le_refl _) (by omega) hW he (by rw [sh4_0]; exact hm2)
  refine r_iload_n dX9_goes_21 rfl ?_
  refine r_iconst (4) dX9_goes_22 (by decide) ?_
  refine r_aload_n dX9_goes_23 rfl ?_
  refine r_iload_n dX9_goes_24 rfl ?_
  refine r_bipush (23) dX9_goes_25 (by decide) ?_
  refine q_callV2 (cv_X9_of ml_X9_81) hW kc_723 (by decide) rfl ⟨rfl, rfl⟩ rfl (Nat.le_of_ble_eq_true rfl) dX9_goes_27 (c_X9_of hW hm hp hx kn_23 (by omega)) (fun v_27 h_27 q_27 => ?_)
  obtain ⟨rfl, z9⟩ := q_27
  replace z9 := z9.symm
  subst z9
  rw [show sh4 f k i 23 = f 23 from by unfold sh4; rw [if_neg (by omega)]]
  refine r_iconst (1) dX9_goes_30 (by decide) ?_
  refine r_isub dX9_goes_31 ?_
  refine r_imul dX9_goes_32 ?_
  rw [show (4 : Int32) * (f 23 - 1) = nI (4 * (nn (f 23) - 1)) from nmul (a := 4) rfl (nsub (b := 1) h23.1 rfl (by omega))]
  refine r_icmp_ge 62 dX9_goes_33 (by decide) (fun c_33 => ?_) (fun c_33 => ?_)
  · have hge : 4 * (nn (f 23) - 1) = i := by have := (nI_leI (by omega) (by omega)).mp c_33; omega
    refine r_aload_n dX9_goes_62 rfl ?_
    refine r_iload_n dX9_goes_63 rfl ?_
    refine r_bipush (23) dX9_goes_64 (by decide) ?_
    refine r_iconst (-1) dX9_goes_66 (by decide) ?_
    refine q_callV3 (cv_X9_adds ml_X9_85) hW kc_723 (by decide) rfl ⟨rfl, rfl⟩ rfl (Nat.le_of_ble_eq_true rfl) dX9_goes_67 (c_X9_adds hW hm hp hx kn_23 (by omega)) (fun v_67 h_67 q_67 => ?_)
    obtain ⟨rfl, e_67, hm⟩ := q_67
    have hW := e_67.W hW
    have he := he.tr e_67
    refine r_vret dX9_goes_70 rfl ⟨Nat.zero_le _, Nat.zero_le _⟩ ?_
    refine ⟨rfl, he, ?_⟩
    show PV _ (W2 (goQ p t k q)) _ _ (goF (qF q) k) _
    rw [← hge, sh4_e] at hm
    rw [← ef]; exact hm
  · have hlt : i < 4 * (nn (f 23) - 1) := (nI_ltI (by omega) (by omega)).mp (i_lt.mp c_33)
    refine r_aload_n dX9_goes_36 rfl ?_
    refine r_iload_n dX9_goes_37 rfl ?_
    refine r_bipush (100) dX9_goes_38 (by decide) ?_
    refine r_iload_n dX9_goes_40 rfl ?_
    refine r_iadd dX9_goes_41 ?_
    refine r_aload_n dX9_goes_42 rfl ?_
    refine r_iload_n dX9_goes_43 rfl ?_
    refine r_bipush (100) dX9_goes_44 (by decide) ?_
    refine r_iload_n dX9_goes_46 rfl ?_
    refine r_iadd dX9_goes_47 ?_
    refine r_iconst (4) dX9_goes_48 (by decide) ?_
    refine r_iadd dX9_goes_49 ?_
    refine q_callV2 (cv_X9_of ml_X9_81) hW kc_723 (by decide) rfl ⟨rfl, rfl⟩ rfl (Nat.le_of_ble_eq_true rfl) dX9_goes_50 (c_X9_of hW hm hp hx (nadd (nadd kn_100 rfl) kn_4) (by omega)) (fun v_50 h_50 q_50 => ?_)
    obtain ⟨rfl, z9⟩ := q_50
    replace z9 := z9.symm
    subst z9
    refine q_callV3 (cv_X9_put ml_X9_64) hW kc_723 (by decide) rfl ⟨rfl, rfl⟩ rfl (Nat.le_of_ble_eq_true rfl) dX9_goes_53 (c_X9_put hW hm hp hx (nadd kn_100 rfl) (by omega)) (fun v_53 h_53 q_53 => ?_)
    obtain ⟨rfl, e_53, hm⟩ := q_53
    have hW := e_53.W hW
    have he := he.tr e_53
    refine r_iinc (1) (by decide) (ls2 := [_, _, some _, _]) dX9_goes_56 rfl (by decide) rfl ?_
    refine r_goto 21 dX9_goes_59 (by decide) ?_
    rw [nI_1]
    rw [sh4_1 hi0] at hm
    exact ih hlt _ (by omega) hlt hW he hm
