-- the class's reader: pool, a statement, the setup
def ZG : Nat → Int64 := fun _ => 0
theorem getG_Z {p : Nat} : getG ZG p = fun _ => 0 := by
  funext k
  unfold getG ZG
  split <;> rfl
/-- what is of a row while it is told -/
def PI (w : Nat → Int32) : Prop := OK2 (w, ZG) 0 ∧ w 1 = 0 ∧ w 3 = 0 ∧ (∀ p, p < nn (w 0) → getP w p 23 = getP w p 0) ∧ (∀ p, nn (w 0) ≤ p → p < 4 → getP w p = fun _ => 0) ∧ nn (w 2) ≤ 20 * nn (w 0)
/-- the last pool has no forecasts -/
def RgF (h : AH) (w : Nat → Int32) : Prop := 0 < nn (w 0) → ∀ u, u < 8 → aI h (62 + 7 + 12 * (nn (w 0) - 1) + 11) u = -1
def TbR (m : Int32) (ts : Nat → Bool) : Prop := ∀ j, j < 12 → bg m j = ts j
def pooE (b : Nat → Int32) (n p : Nat) : ER := smiS b n (poE3 b n p)
/-- the body of a statement j of the pool f, from p on -/
def bdy (b : Nat → Int32) (n p j : Nat) (f : Nat → Int32) : ER × (Nat → Int32) :=
  if j = 10 then loE b n (0, p) f else if j = 11 then (smiS b n (prE b n p f), prU b n p f) else if j = 7 then (smiS b n (plE b n p), plF b n p f) else if j = 8 then (smiS b n (ruE b n p), ruF b n p f) else (smiS b n (seE b n (0, p) j), seF b n (0, p) j f)
def stmE (b : Nat → Int32) (n : Nat) (ts : Nat → Bool) (w : Nat → Int32) (p : Nat) : ER :=
  if stW b n p = 0 then (if nn (w 0) < 4 then pooE b n (tE b n p) else (4, tS b n p))
  else if stW b n p = 12 ∨ nn (w 0) = 0 then (1, tS b n p)
  else if stW b n p ≠ 11 ∧ ts (stW b n p) = true then (3, tS b n p)
  else (bdy b n (tE b n p) (stW b n p) (getP w (nn (w 0) - 1))).1
def stmW (b : Nat → Int32) (n : Nat) (w : Nat → Int32) (p : Nat) : Nat → Int32 :=
  if stW b n p = 0 then apW w (poA b n (tE b n p)) (poB b n (tE b n p)) (poC b n (tE b n p))
  else setP w (nn (w 0) - 1) (bdy b n (tE b n p) (stW b n p) (getP w (nn (w 0) - 1))).2
def stmT (b : Nat → Int32) (n : Nat) (ts : Nat → Bool) (p : Nat) : Nat → Bool := if stW b n p = 0 then fun _ => false else fun j => ts j || decide (j = stW b n p)
theorem smiS_0 {b : Nat → Int32} {n : Nat} {e : ER} (h : (smiS b n e).1 = 0) : e.1 = 0 := by
  unfold smiS at h
  split at h
  · next q => exact q
  · exact h
theorem nmS_0 {b : Nat → Int32} {n : Nat} {e : ER} {lo hi : Int32} (h : (nmS b n e lo hi).1 = 0) : e.1 = 0 := by
  unfold nmS at h
  split at h
  · next q => exact q
  · exact h
theorem setP_id {w : Nat → Int32} {p : Nat} {f : Nat → Int32} (h : getP w p = f) : setP w p f = w := by
  subst h
  funext j
  unfold setP getP
  split
  · rw [if_pos (by omega)]; exact congrArg w (by omega)
  · rfl
theorem poB_rg {b : Nat → Int32} {n p : Nat} : rg (poB b n p) 1 20 ∧ nn (poA b n p) ≤ nn (poB b n p) := by
  obtain ⟨a, a1, a2, a3⟩ := (vlS_rg (b := b) (n := n) (e := (0, p)) (lo := 0) (hi := 20) (by decide) (by decide)).nat
  have a3' : poA b n p = nI a := a3
  have e1 : imx 1 (poA b n p) = nI (max 1 a) := by rw [a3']; exact imx_I (a := 1) (by decide) (by omega)
  have z : rg (poB b n p) (max 1 a) 20 := by
    unfold poB
    rw [e1]
    exact vlS_rg (lo := max 1 a) (hi := 20) (Nat.max_le.mpr ⟨by decide, a2⟩) (by decide)
  refine ⟨z.wk (by omega) (Nat.le_refl _), ?_⟩
  rw [a3', nn_I (by omega)]
  have := z.2.1
  omega
/-- one pool of the draft has changed -/
theorem st_dr {h h' : AH} {w : Nat → Int32} {u : Nat} {f : Nat → Int32} {S : Nat → Prop} (hs : StR h 62 w ZG) (hw1 : w 1 = 0) (h4 : nn (w 0) ≤ 4) (hu : u < nn (w 0)) (e : eqx h h' S) (hS : ∀ i, S i → i = 3 ∨ 62 + 7 + 12 * u ≤ i ∧ i ≤ 62 + 7 + 12 * u + 11) (hd : DrP h' u f) (y23 : nn (f 23) ≤ 20) (y24 : nn (f 24) ≤ 24) : StR h' 62 (setP w u f) ZG := by
  have e0 : ∀ k, k < 244 → setP w u f k = w k := fun k hk => setP_lo hk
  have nS : ∀ i, i ≠ 3 → (i < 62 + 7 + 12 * u ∨ 62 + 7 + 12 * u + 11 < i) → ¬ S i := fun i h1 h2 q => by
    have := hS i q
    omega
  have e62 : aI h' 62 = aI h 62 := e.I (nS _ (by decide) (by omega))
  obtain ⟨s1, s2, s3, s4, s5⟩ := hs
  refine ⟨?_, ?_, ?_, ?_, fun p hp => ?_⟩
  · rw [e62, e0 0 (by decide)]; exact s1
  · rw [e62, e0 1 (by decide)]; exact s2
  · rw [e62, e0 2 (by decide)]; exact s3
  · rw [e0 3 (by decide)]
    have z := s4.eqx e (fun i i1 i2 => nS i (by omega) (by omega))
    unfold EvW at z ⊢
    refine ⟨z.1, fun j j1 j2 => ?_⟩
    rw [e0 _ (by omega), e0 _ (by omega), e0 _ (by omega), e0 _ (by omega)]
    exact z.2 j j1 j2
  · rw [e0 0 (by decide)] at hp
    rw [e0 1 (by decide), hw1]
    by_cases q : p = u
    · subst q
      rw [getP_set, getG_Z]
      exact hd.1.cgF y23 y24 (fun k hk => trP_k hk) (fun k hk => rfl)
    · rw [getP_ne q]
      have z := s5 p hp
      rw [hw1] at z
      exact z.eqx e (fun i i1 i2 => nS i (by omega) (by omega))
theorem PI.n4 {w : Nat → Int32} (h : PI w) : rg (w 0) 0 4 := h.1.1.1.1
theorem PI.ok {w : Nat → Int32} (h : PI w) {p : Nat} (hp : p < nn (w 0)) : PoOK (getP w p) (fun _ => 0) 0 0 := by
  have z := h.1.1.2 p hp
  have e1 : nn (((w, ZG) : Row).1 1) = 0 := by
    show nn (w 1) = 0
    rw [h.2.1]; rfl
  rw [e1] at z
  have z2 : PoOK (getP w p) (getG ZG p) 0 0 := z
  rw [getG_Z] at z2
  exact z2
theorem PI.dr {h : AH} {w : Nat → Int32} (hP : PI w) (hs : StR h 62 w ZG) (hr : RgF h w) (h0 : 0 < nn (w 0)) : DrP h (nn (w 0) - 1) (getP w (nn (w 0) - 1)) := by
  have z := hs.2.2.2.2 (nn (w 0) - 1) (by omega)
  rw [hP.2.1, getG_Z] at z
  exact ⟨z, hr h0⟩
set_option maxRecDepth 100000 in
set_option maxHeartbeats 800000 in
theorem c_X5_readPool {l9 : Launch} {G : GC} {h : AH} {b : Nat → Int32} {n : Nat} {w : Nat → Int32} {p s : Nat} (hW : World h) (hs : RdS h b n (0, p)) (h3 : aI h 3 3 = nI s) (hsn : s ≤ n) (hrw : StR h 62 w ZG) (hP : PI w) : PM l9 G mX5_readPool NT NT [.ref 3, .ref 62] h (fun v h' => v = none ∧ eqx h h' (fun i => i = 3 ∨ SB 62 i) ∧ RdS h' b n (if nn (w 0) < 4 then pooE b n p else (4, s)) ∧ (nn (w 0) < 4 → (pooE b n p).1 = 0 → StR h' 62 (apW w (poA b n p) (poB b n p) (poC b n p)) ZG ∧ (∀ u, u < 8 → aI h' (62 + 7 + 12 * nn (w 0) + 11) u = -1) ∧ aI h' 3 6 = 0)) noX := by
  refine PM.of (by decide +kernel) rfl rfl (Nat.le_of_ble_eq_true rfl) (fun hst _ => ?_)
  have he : eqx h h (fun i => i = 3 ∨ SB 62 i) := eqx.rf
  have h04 : nn (w 0) ≤ 4 := hP.n4.2.2
  obtain ⟨m, m1, m2, m3⟩ := hP.n4.nat
  have em : nn (w 0) = m := by rw [m3]; exact nn_I (by omega)
  refine r_aload_n dX5_readPool_0 rfl ?_
  refine q_getI fl_X5_49 hW kc_62 rfl dX5_readPool_1 ?_
  rw [show aI h 62 1 = nI m from hrw.1.trans m3]
  refine r_iconst (4) dX5_readPool_4 (by decide) ?_
  refine r_icmp_lt 14 dX5_readPool_5 (by decide) (fun c_5 => ?_) (fun c_5 => ?_)
  · have hm4 : m < 4 := (nI_ltI (b := 4) (by omega) (by omega)).mp c_5
    refine r_aload_n dX5_readPool_14 rfl ?_
    refine r_iconst (0) dX5_readPool_15 (by decide) ?_
    refine r_bipush (20) dX5_readPool_16 (by decide) ?_
    refine q_callV2 (cv_X5_readNumber ml_X5_97) hW kc_3 (by decide) rfl ⟨rfl, rfl⟩ rfl (Nat.le_of_ble_eq_true rfl) dX5_readPool_18 (c_X5_readNumber hW hs) (fun v_18 h_18 q_18 => ?_)
    obtain ⟨rfl, eN, hs, t6, n3⟩ := q_18
    have hW := eN.W hW
    have hrw := hrw.eqx eN h04 (fun i i1 i2 q => by have : i = 3 := q; omega)
    have he := he.tr (eN.wk (T := (fun i => i = 3 ∨ SB 62 i)) (fun i q => Or.inl q))
    change RdS h_18 b n (poE1 b n p) at hs
    rw [show vlS b n (0, p) 0 20 = poA b n p from rfl]
    refine r_istore_n (ls2 := [_, some _, _, _, _]) dX5_readPool_21 (by decide) rfl ?_
    refine r_aload_n dX5_readPool_22 rfl ?_
    refine r_iconst (1) dX5_readPool_23 (by decide) ?_
    refine r_iload_n dX5_readPool_24 rfl ?_
    refine q_max mm_X5_100 rfl (Nat.le_of_ble_eq_true rfl) dX5_readPool_25 ?_
    refine r_bipush (20) dX5_readPool_28 (by decide) ?_
    refine q_callV2 (cv_X5_readNumber ml_X5_97) hW kc_3 (by decide) rfl ⟨rfl, rfl⟩ rfl (Nat.le_of_ble_eq_true rfl) dX5_readPool_30 (c_X5_readNumber hW hs) (fun v_30 h_30 q_30 => ?_)
    obtain ⟨rfl, eN, hs, t6, n3⟩ := q_30
    have hW := eN.W hW
    have hrw := hrw.eqx eN h04 (fun i i1 i2 q => by have : i = 3 := q; omega)
    have he := he.tr (eN.wk (T := (fun i => i = 3 ∨ SB 62 i)) (fun i q => Or.inl q))
    change RdS h_30 b n (poE2 b n p) at hs
    rw [show vlS b n (poE1 b n p) (imx 1 (poA b n p)) 20 = poB b n p from rfl]
    refine r_istore_n (ls2 := [_, _, some _, _, _]) dX5_readPool_33 (by decide) rfl ?_
    refine r_aload_n dX5_readPool_34 rfl ?_
    refine r_iconst (1) dX5_readPool_35 (by decide) ?_
    refine r_bipush (100) dX5_readPool_36 (by decide) ?_
    refine q_callV2 (cv_X5_readNumber ml_X5_97) hW kc_3 (by decide) rfl ⟨rfl, rfl⟩ rfl (Nat.le_of_ble_eq_true rfl) dX5_readPool_38 (c_X5_readNumber hW hs) (fun v_38 h_38 q_38 => ?_)
    obtain ⟨rfl, eN, hs, t6, n3⟩ := q_38
    have hW := eN.W hW
    have hrw := hrw.eqx eN h04 (fun i i1 i2 q => by have : i = 3 := q; omega)
    have he := he.tr (eN.wk (T := (fun i => i = 3 ∨ SB 62 i)) (fun i q => Or.inl q))
    change RdS h_38 b n (poE3 b n p) at hs
    rw [show vlS b n (poE2 b n p) 1 100 = poC b n p from rfl]
    refine r_istore (ls2 := [_, _, _, some _, _]) dX5_readPool_41 (by decide) rfl ?_
    refine r_aload_n dX5_readPool_43 rfl ?_
    refine q_callV0 (cv_X5_readSemicolon ml_X5_103) hW kc_3 (by decide) rfl ⟨rfl, rfl⟩ rfl (Nat.le_of_ble_eq_true rfl) dX5_readPool_44 (c_X5_readSemicolon hW hs) (fun v_44 h_44 q_44 => ?_)
    obtain ⟨rfl, eN, hs, t6⟩ := q_44
    have hW := eN.W hW
    have hrw := hrw.eqx eN h04 (fun i i1 i2 q => by have : i = 3 := q; omega)
    have he := he.tr (eN.wk (T := (fun i => i = 3 ∨ SB 62 i)) (fun i q => Or.inl q))
    change RdS h_44 b n (pooE b n p) at hs
    refine r_aload_n dX5_readPool_47 rfl ?_
    refine q_getI fl_X5_28 hW kc_3 rfl dX5_readPool_48 ?_
    rw [hs.2.1.1]
    refine r_if_ne 67 dX5_readPool_51 (by decide) (fun c_51 => ?_) (fun c_51 => ?_)
    · 
      refine r_vret dX5_readPool_67 rfl ⟨Nat.zero_le _, Nat.zero_le _⟩ ?_
      rw [if_pos (show nn (w 0) < 4 by omega)]
      first
        | (have qn : (pooE b n p).1 ≠ 0 := fun q => c_51 (by rw [q]; rfl)
           exact ⟨rfl, he, hs, fun _ q => absurd q qn⟩)
        | (have e9 : eqx h_59 (sI h_59 3 6 0) S3 := (eqx.rf (S := S3)).sI rfl
           refine ⟨rfl, he.tr (e9.wk (fun i q => Or.inl q)), ?_, fun _ _ => ⟨?_, fun u hu => ?_, sI_s⟩⟩
           · obtain ⟨r1, ⟨r2, r3, r4⟩, r5⟩ := hs
             exact ⟨r1.s (by decide), ⟨(sI_k (by decide)).trans r2, fun q => ⟨(sI_k (by decide)).trans (r3 q).1, (sI_k (by decide)).trans (r3 q).2⟩, fun q => (sI_k (by decide)).trans (r4 q)⟩, r5⟩
           · refine sA.eqx e9 ?_ (fun i i1 i2 q => by have : i = 3 := q; omega)
             unfold apW
             rw [setP_lo (by decide), pk_un (by decide), pk_us, m3, nI_1, nn_I (by omega)]
             omega
           · rw [sI_o (by omega)]
             exact fA u hu)
    · have hs71 := hs.2.2.1
      have q0 : (pooE b n p).1 = 0 := (nI_z (by omega)).mp c_51
      refine r_aload_n dX5_readPool_54 rfl ?_
      refine r_iload_n dX5_readPool_55 rfl ?_
      refine r_iload_n dX5_readPool_56 rfl ?_
      refine r_iload dX5_readPool_57 rfl ?_
      refine q_callV3 (cv_X6_addPool ml_X5_106) hW kc_62 (by decide) rfl ⟨rfl, rfl⟩ rfl (Nat.le_of_ble_eq_true rfl) dX5_readPool_59 (c_X6_addPoolF hW kc_62 hrw (by rw [m3]; exact rg_I (Nat.zero_le _) (by omega) (by decide)) hP.2.1 hP.1.1.1.2.2.1 getG_Z (vlS_rg (lo := 0) (hi := 20) (by decide) (by decide)) (poB_rg (b := b) (n := n) (p := p)).1 (vlS_rg (lo := 1) (hi := 100) (by decide) (by decide)) (poB_rg (b := b) (n := n) (p := p)).2) (fun v_59 h_59 q_59 => ?_)
      obtain ⟨rfl, eA, sA, fA⟩ := q_59
      have hW := eA.W hW
      have hs := hs.cg eA (by unfold SB; omega) (by unfold SB; omega)
      have he := he.tr (eA.wk (T := (fun i => i = 3 ∨ SB 62 i)) (fun i q => Or.inr q))
      refine r_aload_n dX5_readPool_62 rfl ?_
      refine r_iconst (0) dX5_readPool_63 (by decide) ?_
      refine q_putI fl_X5_66 hW kc_3 rfl rfl dX5_readPool_64 ?_
      
      refine r_vret dX5_readPool_67 rfl ⟨Nat.zero_le _, Nat.zero_le _⟩ ?_
      rw [if_pos (show nn (w 0) < 4 by omega)]
      first
        | (have qn : (pooE b n p).1 ≠ 0 := fun q => c_51 (by rw [q]; rfl)
           exact ⟨rfl, he, hs, fun _ q => absurd q qn⟩)
        | (have e9 : eqx h_59 (sI h_59 3 6 0) S3 := (eqx.rf (S := S3)).sI rfl
           refine ⟨rfl, he.tr (e9.wk (fun i q => Or.inl q)), ?_, fun _ _ => ⟨?_, fun u hu => ?_, sI_s⟩⟩
           · obtain ⟨r1, ⟨r2, r3, r4⟩, r5⟩ := hs
             exact ⟨r1.s (by decide), ⟨(sI_k (by decide)).trans r2, fun q => ⟨(sI_k (by decide)).trans (r3 q).1, (sI_k (by decide)).trans (r3 q).2⟩, fun q => (sI_k (by decide)).trans (r4 q)⟩, r5⟩
           · refine sA.eqx e9 ?_ (fun i i1 i2 q => by have : i = 3 := q; omega)
             unfold apW
             rw [setP_lo (by decide), pk_un (by decide), pk_us, m3, nI_1, nn_I (by omega)]
             omega
           · rw [sI_o (by omega)]
             exact fA u hu)
  · refine r_aload_n dX5_readPool_8 rfl ?_
    refine r_iconst (4) dX5_readPool_9 (by decide) ?_
    refine q_callV1 (cv_X5_fail ml_X5_52) hW kc_3 (by decide) rfl ⟨rfl, rfl⟩ rfl (Nat.le_of_ble_eq_true rfl) dX5_readPool_10 (c_X5_fail (c := 4) (e := (0, p)) (s := s) hW kn_4 (by decide) h3 hs.2.1.1 (Nat.le_of_ble_eq_true rfl)) (fun v_10 h_10 q_10 => ?_)
    obtain ⟨rfl, eF, fF, -, gF⟩ := q_10
    obtain ⟨g7, g8⟩ := gF rfl
    refine r_vret dX5_readPool_13 rfl ⟨Nat.zero_le _, Nat.zero_le _⟩ ?_
    have hm4 : ¬ nn (w 0) < 4 := fun q => c_5 ((nI_ltI (b := 4) (by omega) (by omega)).mpr (by omega))
    rw [if_neg hm4]
    exact ⟨rfl, eF.wk (fun i q => Or.inl q), RdS.er hs.1 eF fF g7 g8 (by decide) (Nat.le_of_ble_eq_true rfl) hsn, fun q => absurd q hm4⟩
