-- the reference's rows of numbers
theorem nadd {x y : Int32} {a b : Nat} (h1 : x = nI a) (h2 : y = nI b) : x + y = nI (a + b) := by rw [h1, h2, nI_add]
theorem nmul {x y : Int32} {a b : Nat} (h1 : x = nI a) (h2 : y = nI b) : x * y = nI (a * (b)) := by rw [h1, h2, pk_mul]
theorem nsub {x y : Int32} {a b : Nat} (h1 : x = nI a) (h2 : y = nI b) (h : b ≤ a) : x - y = nI (a - b) := by rw [h1, h2, pk_sub h]
theorem nrem {x y : Int32} {a b : Nat} (h1 : x = nI a) (h2 : y = nI b) (ha : a < 2 ^ 31) (h0 : 0 < b) (hb : b < 2 ^ 31) : x - x / y * y = nI (a % b) := by rw [h1, h2, pk_rem ha h0 hb]
theorem ndiv {x y : Int32} {a b : Nat} (h1 : x = nI a) (h2 : y = nI b) (ha : a < 2 ^ 31) (h0 : 0 < b) (hb : b < 2 ^ 31) : x / y = nI (a / b) := by rw [h1, h2, pk_div ha h0 hb]
theorem kn_0 : (0 : Int32) = nI 0 := rfl
theorem kn_1 : (1 : Int32) = nI 1 := rfl
theorem kn_2 : (2 : Int32) = nI 2 := rfl
theorem kn_3 : (3 : Int32) = nI 3 := rfl
theorem kn_4 : (4 : Int32) = nI 4 := rfl
theorem kn_5 : (5 : Int32) = nI 5 := rfl
theorem kn_6 : (6 : Int32) = nI 6 := rfl
theorem kn_7 : (7 : Int32) = nI 7 := rfl
theorem kn_8 : (8 : Int32) = nI 8 := rfl
theorem kn_9 : (9 : Int32) = nI 9 := rfl
theorem kn_10 : (10 : Int32) = nI 10 := rfl
theorem kn_11 : (11 : Int32) = nI 11 := rfl
theorem kn_12 : (12 : Int32) = nI 12 := rfl
theorem kn_13 : (13 : Int32) = nI 13 := rfl
theorem kn_14 : (14 : Int32) = nI 14 := rfl
theorem kn_15 : (15 : Int32) = nI 15 := rfl
theorem kn_16 : (16 : Int32) = nI 16 := rfl
theorem kn_17 : (17 : Int32) = nI 17 := rfl
theorem kn_18 : (18 : Int32) = nI 18 := rfl
theorem kn_19 : (19 : Int32) = nI 19 := rfl
theorem kn_20 : (20 : Int32) = nI 20 := rfl
theorem kn_21 : (21 : Int32) = nI 21 := rfl
theorem kn_22 : (22 : Int32) = nI 22 := rfl
theorem kn_23 : (23 : Int32) = nI 23 := rfl
theorem kn_24 : (24 : Int32) = nI 24 := rfl
theorem kn_25 : (25 : Int32) = nI 25 := rfl
theorem kn_26 : (26 : Int32) = nI 26 := rfl
theorem kn_27 : (27 : Int32) = nI 27 := rfl
theorem kn_28 : (28 : Int32) = nI 28 := rfl
theorem kn_29 : (29 : Int32) = nI 29 := rfl
theorem kn_30 : (30 : Int32) = nI 30 := rfl
theorem kn_32 : (32 : Int32) = nI 32 := rfl
theorem kn_36 : (36 : Int32) = nI 36 := rfl
theorem kn_42 : (42 : Int32) = nI 42 := rfl
theorem kn_45 : (45 : Int32) = nI 45 := rfl
theorem kn_48 : (48 : Int32) = nI 48 := rfl
theorem kn_57 : (57 : Int32) = nI 57 := rfl
theorem kn_59 : (59 : Int32) = nI 59 := rfl
theorem kn_60 : (60 : Int32) = nI 60 := rfl
theorem kn_61 : (61 : Int32) = nI 61 := rfl
theorem kn_63 : (63 : Int32) = nI 63 := rfl
theorem kn_64 : (64 : Int32) = nI 64 := rfl
theorem kn_70 : (70 : Int32) = nI 70 := rfl
theorem kn_84 : (84 : Int32) = nI 84 := rfl
theorem kn_97 : (97 : Int32) = nI 97 := rfl
theorem kn_99 : (99 : Int32) = nI 99 := rfl
theorem kn_100 : (100 : Int32) = nI 100 := rfl
theorem kn_122 : (122 : Int32) = nI 122 := rfl
theorem kn_128 : (128 : Int32) = nI 128 := rfl
theorem kn_180 : (180 : Int32) = nI 180 := rfl
theorem kn_240 : (240 : Int32) = nI 240 := rfl
theorem kn_244 : (244 : Int32) = nI 244 := rfl
theorem kn_255 : (255 : Int32) = nI 255 := rfl
theorem kn_256 : (256 : Int32) = nI 256 := rfl
theorem kn_300 : (300 : Int32) = nI 300 := rfl
theorem kn_512 : (512 : Int32) = nI 512 := rfl
theorem kn_700 : (700 : Int32) = nI 700 := rfl
theorem kn_964 : (964 : Int32) = nI 964 := rfl
theorem kn_999 : (999 : Int32) = nI 999 := rfl
theorem kn_9640 : (9640 : Int32) = nI 9640 := rfl
/-- the arrays of the state hold the row -/
def MW (h : AH) (r : Row) : Prop := (∀ k, k < 964 → aI h 724 k = r.1 k) ∧ ∀ k, k < 24 → aJ h 729 k = r.2 k
/-- .. a pool's own row apart -/
def PV (h : AH) (w : Nat → Int32) (v : Nat → Int64) (p : Nat) (f : Nat → Int32) (g : Nat → Int64) : Prop := MW h (setP w p f, setG v p g)
def SM : Nat → Prop := fun i => i = 724 ∨ i = 729
theorem MW.cgH {h h' : AH} {r : Row} {S : Nat → Prop} (hm : MW h r) (e : eqx h h' S) (h1 : ¬ S 724) (h2 : ¬ S 729) : MW h' r := by
  unfold MW; rw [e.I h1, e.J h2]; exact hm
theorem MW.cg {h : AH} {r r' : Row} (hm : MW h r) (h1 : ∀ k, k < 964 → r'.1 k = r.1 k) (h2 : ∀ k, k < 24 → r'.2 k = r.2 k) : MW h r' :=
  ⟨fun k hk => (hm.1 k hk).trans (h1 k hk).symm, fun k hk => (hm.2 k hk).trans (h2 k hk).symm⟩
theorem setP_get (w : Nat → Int32) (p : Nat) : setP w p (getP w p) = w := by
  funext j
  unfold setP getP
  split
  · rw [if_pos (by omega)]; congr 1; omega
  · rfl
theorem setG_get (v : Nat → Int64) (p : Nat) : setG v p (getG v p) = v := by
  funext j
  unfold setG getG
  split
  · rw [if_pos (by omega)]; congr 1; omega
  · rfl
theorem MW.pv {h : AH} {r : Row} (hm : MW h r) (p : Nat) : PV h r.1 r.2 p (getP r.1 p) (getG r.2 p) := by
  unfold PV; rw [setP_get, setG_get]; exact hm
theorem PV.eF {h : AH} {w : Nat → Int32} {v : Nat → Int64} {p : Nat} {f f' : Nat → Int32} {g g' : Nat → Int64} (hm : PV h w v p f g) (h1 : f' = f) (h2 : g' = g) : PV h w v p f' g' := by rw [h1, h2]; exact hm
theorem upd_setP {w : Nat → Int32} {p k : Nat} {f : Nat → Int32} {x : Int32} (hk : k < 180) : upd (setP w p f) (244 + 180 * p + k) x = setP w p (upd f k x) := by
  funext j
  by_cases e : j = 244 + 180 * p + k
  · rw [e, pk_us]
    unfold setP
    rw [if_pos (by omega), show 244 + 180 * p + k - (244 + 180 * p) = k from by omega, pk_us]
  · rw [pk_un e]
    unfold setP
    split
    · rw [pk_un (by omega)]
    · rfl
theorem upd_setPl {w : Nat → Int32} {p k : Nat} {f : Nat → Int32} {x : Int32} (hk : k < 244) : upd (setP w p f) k x = setP (upd w k x) p f := by
  funext j
  by_cases e : j = k
  · subst e
    rw [pk_us]
    unfold setP
    rw [if_neg (by omega), pk_us]
  · rw [pk_un e]
    unfold setP
    split
    · rfl
    · rw [pk_un e]
theorem setP_at {w : Nat → Int32} {p k : Nat} {f : Nat → Int32} (hk : k < 180) : setP w p f (244 + 180 * p + k) = f k := by
  unfold setP
  rw [if_pos (by omega)]; congr 1; omega
theorem setG_at {v : Nat → Int64} {p k : Nat} {g : Nat → Int64} (hk : k < 6) : setG v p g (6 * p + k) = g k := by
  unfold setG
  rw [if_pos (by omega)]; congr 1; omega
theorem upd_setG {v : Nat → Int64} {p k : Nat} {g : Nat → Int64} {x : Int64} (hk : k < 6) : vp_updL (setG v p g) (6 * p + k) x = setG v p (vp_updL g k x) := by
  funext j
  by_cases e : j = 6 * p + k
  · rw [e, pk_uLs]
    unfold setG
    rw [if_pos (by omega), show 6 * p + k - 6 * p = k from by omega, pk_uLs]
  · rw [pk_uLn e]
    unfold setG
    split
    · rw [pk_uLn (by omega)]
    · rfl
theorem MW.stI {h : AH} {r : Row} {k : Nat} {x : Int32} (hm : MW h r) : MW (sI h 724 k x) (upd r.1 k x, r.2) := by
  refine ⟨fun j hj => ?_, fun j hj => hm.2 j hj⟩
  rw [sI_r]
  show upd (aI h 724) k x j = upd r.1 k x j
  by_cases e : j = k
  · rw [e, pk_us, pk_us]
  · rw [pk_un e, pk_un e]; exact hm.1 j hj
theorem MW.stJ {h : AH} {r : Row} {k : Nat} {x : Int64} (hm : MW h r) : MW (sJ h 729 k x) (r.1, vp_updL r.2 k x) := by
  refine ⟨fun j hj => hm.1 j hj, fun j hj => ?_⟩
  rw [sJ_r]
  show vp_updL (aJ h 729) k x j = vp_updL r.2 k x j
  by_cases e : j = k
  · rw [e, pk_uLs, pk_uLs]
  · rw [pk_uLn e, pk_uLn e]; exact hm.2 j hj
section WR
variable {l : Launch} {G : GC} {M : MD} {R : Room} {Fi : CX → State → Prop} {pc : Nat} {ls : List (Option Value)} {st : List Value} {cs : Nat × Nat} {h : AH} {r : Row} {w : Nat → Int32} {v : Nat → Int64} {p : Nat} {f : Nat → Int32} {g : Nat → Int64}
theorem q_wldMW {k : Nat} {x : Int32} (hW : World h) (hm : MW h r) (hx : x = nI k) (hk : k < 964) (hd : decode (mC M) pc = .ok (.iaload, 1)) (kk : PW l G M R Fi NT (pc + 1) ls (.int (r.1 k) :: st) cs h) : PW l G M R Fi NT pc ls (.int x :: .ref 724 :: st) cs h :=
  q_iald hW kc_724 hx hk (by decide) hd (by rw [hm.1 k hk]; exact kk)
theorem q_wldPV {k : Nat} {x : Int32} (hW : World h) (hm : PV h w v p f g) (hx : x = nI k) (hk : k < 244) (hd : decode (mC M) pc = .ok (.iaload, 1)) (kk : PW l G M R Fi NT (pc + 1) ls (.int (w k) :: st) cs h) : PW l G M R Fi NT pc ls (.int x :: .ref 724 :: st) cs h :=
  q_iald hW kc_724 hx (by omega) (by decide) hd (by rw [hm.1 k (by omega)]; show PW _ _ _ _ _ _ _ _ (.int (setP w p f k) :: st) _ _; rw [setP_lo hk]; exact kk)
theorem q_wstMW {k : Nat} {x y : Int32} (hW : World h) (hm : MW h r) (hx : x = nI k) (hk : k < 964) (hd : decode (mC M) pc = .ok (.iastore, 1)) (kk : ∀ h' : AH, World h' → MW h' (upd r.1 k y, r.2) → eqx h h' SM → PW l G M R Fi NT (pc + 1) ls st cs h') : PW l G M R Fi NT pc ls (.int y :: .int x :: .ref 724 :: st) cs h :=
  q_iast hW kc_724 hx hk (by decide) hd (kk _ (wsI hW) hm.stI (eqx.rf.sI (Or.inl rfl)))
theorem q_wstPV {k : Nat} {x y : Int32} (hW : World h) (hm : PV h w v p f g) (hx : x = nI k) (hk : k < 244) (hd : decode (mC M) pc = .ok (.iastore, 1)) (kk : ∀ h' : AH, World h' → PV h' (upd w k y) v p f g → eqx h h' SM → PW l G M R Fi NT (pc + 1) ls st cs h') : PW l G M R Fi NT pc ls (.int y :: .int x :: .ref 724 :: st) cs h :=
  q_wstMW hW hm hx (by omega) hd (fun h' a b c => kk h' a (by unfold PV; rw [← upd_setPl hk]; exact b) c)
theorem q_vldMW {k : Nat} {x : Int32} (hW : World h) (hm : MW h r) (hx : x = nI k) (hk : k < 24) (hd : decode (mC M) pc = .ok (.laload, 1)) (kk : PW l G M R Fi NT (pc + 1) ls (.long (r.2 k) :: st) cs h) : PW l G M R Fi NT pc ls (.int x :: .ref 729 :: st) cs h :=
  q_lald hW kc_729 hx hk (by decide) hd (by rw [hm.2 k hk]; exact kk)
theorem q_vldPV {k : Nat} {x : Int32} (hW : World h) (hm : PV h w v p f g) (hx : x = nI (6 * p + k)) (hk : k < 6 ∧ p < 4) (hd : decode (mC M) pc = .ok (.laload, 1)) (kk : PW l G M R Fi NT (pc + 1) ls (.long (g k) :: st) cs h) : PW l G M R Fi NT pc ls (.int x :: .ref 729 :: st) cs h :=
  q_lald hW kc_729 hx (by omega) (by decide) hd (by rw [hm.2 _ (by omega)]; show PW _ _ _ _ _ _ _ _ (.long (setG v p g (6 * p + k)) :: st) _ _; rw [setG_at hk.1]; exact kk)
theorem q_vstPV {k : Nat} {x : Int32} {y : Int64} (hW : World h) (hm : PV h w v p f g) (hx : x = nI (6 * p + k)) (hk : k < 6 ∧ p < 4) (hd : decode (mC M) pc = .ok (.lastore, 1)) (kk : ∀ h' : AH, World h' → PV h' w v p f (vp_updL g k y) → eqx h h' SM → PW l G M R Fi NT (pc + 1) ls st cs h') : PW l G M R Fi NT pc ls (.long y :: .int x :: .ref 729 :: st) cs h :=
  q_last hW kc_729 hx (by omega) (by decide) hd (kk _ (wsJ hW) (by
    have b := MW.stJ (k := 6 * p + k) (x := y) hm
    unfold PV; rw [← upd_setG hk.1]; exact b) (eqx.rf.sJ (Or.inr rfl)))
end WR
theorem ix_p {p k : Nat} {x y : Int32} (hx : x = nI p) (hy : y = nI k) : 244 + 180 * x + y = nI (244 + 180 * p + k) := by
  rw [hx, hy]
  exact (congrArg (fun z => z + nI k) ((congrArg (fun z => nI 244 + z) (pk_mul 180 p)).trans (nI_add _ _))).trans (nI_add _ _)
theorem inRange_spec {x a b : Int32} : bI (decide (a ≤ x) && decide (x ≤ b)) = 1 ↔ a ≤ x ∧ x ≤ b := by
  rw [← Bool.decide_and]
  by_cases h : a ≤ x ∧ x ≤ b
  · rw [dT h]; simp [h]
  · rw [dF h]; simp [h]

set_option maxRecDepth 100000 in
set_option maxHeartbeats 4000000 in
theorem c_X9_inRange {l9 : Launch} {G : GC} {h : AH} {x a b : Int32} : PM l9 G mX9_inRange NT NT [.int x, .int a, .int b] h (fun v h' => v = some (.int (bI (decide (a ≤ x ∧ x ≤ b)))) ∧ h' = h) noX := by
  refine PM.of (by decide +kernel) rfl rfl (Nat.le_of_ble_eq_true rfl) (fun hst _ => ?_)
  refine r_iload_n dX9_inRange_0 rfl ?_
  refine r_iload_n dX9_inRange_1 rfl ?_
  refine r_icmp_lt 14 dX9_inRange_2 (by decide) (fun c_2 => ?_) (fun c_2 => ?_)
  · refine r_iconst (0) dX9_inRange_14 (by decide) ?_
    refine r_zret dX9_inRange_15 rfl (by decide) ⟨Nat.zero_le _, Nat.zero_le _⟩ ?_
    first
      | exact ⟨some_int (dF (fun q => absurd c_2 (i_le.mpr q.1))).symm, rfl⟩
      | exact ⟨some_int (dF (fun q => absurd c_7 (i_le.mpr q.2))).symm, rfl⟩
      | exact ⟨some_int (dT ⟨i_le.mp c_2, i_le.mp c_7⟩).symm, rfl⟩
  · refine r_iload_n dX9_inRange_5 rfl ?_
    refine r_iload_n dX9_inRange_6 rfl ?_
    refine r_icmp_gt 14 dX9_inRange_7 (by decide) (fun c_7 => ?_) (fun c_7 => ?_)
    · refine r_iconst (0) dX9_inRange_14 (by decide) ?_
      refine r_zret dX9_inRange_15 rfl (by decide) ⟨Nat.zero_le _, Nat.zero_le _⟩ ?_
      first
        | exact ⟨some_int (dF (fun q => absurd c_2 (i_le.mpr q.1))).symm, rfl⟩
        | exact ⟨some_int (dF (fun q => absurd c_7 (i_le.mpr q.2))).symm, rfl⟩
        | exact ⟨some_int (dT ⟨i_le.mp c_2, i_le.mp c_7⟩).symm, rfl⟩
    · refine r_iconst (1) dX9_inRange_10 (by decide) ?_
      refine r_goto 15 dX9_inRange_11 (by decide) ?_
      refine r_zret dX9_inRange_15 rfl (by decide) ⟨Nat.zero_le _, Nat.zero_le _⟩ ?_
      first
        | exact ⟨some_int (dF (fun q => absurd c_2 (i_le.mpr q.1))).symm, rfl⟩
        | exact ⟨some_int (dF (fun q => absurd c_7 (i_le.mpr q.2))).symm, rfl⟩
        | exact ⟨some_int (dT ⟨i_le.mp c_2, i_le.mp c_7⟩).symm, rfl⟩

set_option maxRecDepth 100000 in
set_option maxHeartbeats 4000000 in
theorem c_X9_up {l9 : Launch} {G : GC} {h : AH} {x y : Int32} (hy : ¬ y = 0) : PM l9 G mX9_up NT NT [.int x, .int y] h (fun v h' => v = some (.int ((x + y - 1) / y)) ∧ h' = h) noX := by
  refine PM.of (by decide +kernel) rfl rfl (Nat.le_of_ble_eq_true rfl) (fun hst _ => ?_)
  refine r_iload_n dX9_up_0 rfl ?_
  refine r_iload_n dX9_up_1 rfl ?_
  refine r_iadd dX9_up_2 ?_
  refine r_iconst (1) dX9_up_3 (by decide) ?_
  refine r_isub dX9_up_4 ?_
  refine r_iload_n dX9_up_5 rfl ?_
  refine r_idiv dX9_up_6 hy ?_
  refine r_iret dX9_up_7 rfl ⟨Nat.zero_le _, Nat.zero_le _⟩ ?_
  exact ⟨rfl, rfl⟩

set_option maxRecDepth 100000 in
set_option maxHeartbeats 4000000 in
theorem c_X9_fails {l9 : Launch} {G : GC} {h : AH} {b : Bool} {x : Int32} (hW : World h) : PM l9 G mX9_fails NT NT [.ref 723, .int (bI b), .int x] h (fun v h' => v = some (.int (bI b)) ∧ h' = if b then sI h 723 12 x else h) noX := by
  refine PM.of (by decide +kernel) rfl rfl (Nat.le_of_ble_eq_true rfl) (fun hst _ => ?_)
  refine r_iload_n dX9_fails_0 rfl ?_
  refine r_if_eq 9 dX9_fails_1 (by decide) (fun c_1 => ?_) (fun c_1 => ?_)
  · refine r_iload_n dX9_fails_9 rfl ?_
    refine r_zret dX9_fails_10 rfl (bI_01 b) ⟨Nat.zero_le _, Nat.zero_le _⟩ ?_
    first
      | (rw [bI_0.mp c_1]; exact ⟨rfl, rfl⟩)
      | (rw [bI_1.mp c_1]; exact ⟨rfl, rfl⟩)
  · refine r_aload_n dX9_fails_4 rfl ?_
    refine r_iload_n dX9_fails_5 rfl ?_
    refine q_putI fl_X9_61 hW kc_723 rfl rfl dX9_fails_6 ?_
    refine r_iload_n dX9_fails_9 rfl ?_
    refine r_zret dX9_fails_10 rfl (bI_01 b) ⟨Nat.zero_le _, Nat.zero_le _⟩ ?_
    first
      | (rw [bI_0.mp c_1]; exact ⟨rfl, rfl⟩)
      | (rw [bI_1.mp c_1]; exact ⟨rfl, rfl⟩)

set_option maxRecDepth 100000 in
set_option maxHeartbeats 4000000 in
theorem c_X9_ofM {l9 : Launch} {G : GC} {h : AH} {r : Row} {p k : Nat} {x y : Int32} (hW : World h) (hm : MW h r) (hp : p < 4) (hx : x = nI p) (hy : y = nI k) (hk : k < 180) : PM l9 G mX9_of NT NT [.ref 723, .int x, .int y] h (fun v h' => v = some (.int (getP r.1 p k)) ∧ h' = h) noX := by
  refine PM.of (by decide +kernel) rfl rfl (Nat.le_of_ble_eq_true rfl) (fun hst _ => ?_)
  refine r_aload_n dX9_of_0 rfl ?_
  refine q_getR fl_X9_7 hW kc_723 rfl (kl_9_0 hW) (by decide) dX9_of_1 ?_
  refine r_sipush (244) dX9_of_4 (by decide) ?_
  refine r_sipush (180) dX9_of_7 (by decide) ?_
  refine r_iload_n dX9_of_10 rfl ?_
  refine r_imul dX9_of_11 ?_
  refine r_iadd dX9_of_12 ?_
  refine r_iload_n dX9_of_13 rfl ?_
  refine r_iadd dX9_of_14 ?_
  refine q_iald hW kc_724 (ix_p hx hy) (by omega) (by decide) dX9_of_15 ?_
  rw [hm.1 _ (by omega)]
  refine r_iret dX9_of_16 rfl ⟨Nat.zero_le _, Nat.zero_le _⟩ ?_
  rw [getP_k hk]; exact ⟨rfl, rfl⟩

set_option maxRecDepth 100000 in
set_option maxHeartbeats 4000000 in
theorem c_X9_of {l9 : Launch} {G : GC} {h : AH} {w : Nat → Int32} {v9 : Nat → Int64} {p : Nat} {f : Nat → Int32} {g : Nat → Int64} {k : Nat} {x y : Int32} (hW : World h) (hm : PV h w v9 p f g) (hp : p < 4) (hx : x = nI p) (hy : y = nI k) (hk : k < 180) : PM l9 G mX9_of NT NT [.ref 723, .int x, .int y] h (fun v h' => v = some (.int (f k)) ∧ h' = h) noX := by
  refine (c_X9_ofM hW hm hp hx hy hk).mono (fun v h' q => ?_) (fun _ _ q => q)
  rw [q.1, q.2]
  exact ⟨some_int (by show getP (setP w p f) p k = f k; rw [getP_set, trP_k hk]), rfl⟩
set_option maxRecDepth 100000 in
set_option maxHeartbeats 4000000 in
theorem c_X9_putM {l9 : Launch} {G : GC} {h : AH} {r : Row} {p k : Nat} {x y : Int32} {z : Int32} (hW : World h) (hm : MW h r) (hp : p < 4) (hx : x = nI p) (hy : y = nI k) (hk : k < 180) : PM l9 G mX9_put NT NT [.ref 723, .int x, .int y, .int z] h (fun v h' => v = none ∧ eqx h h' SM ∧ MW h' (upd r.1 (244 + 180 * p + k) z, r.2)) noX := by
  refine PM.of (by decide +kernel) rfl rfl (Nat.le_of_ble_eq_true rfl) (fun hst _ => ?_)
  refine r_aload_n dX9_put_0 rfl ?_
  refine q_getR fl_X9_7 hW kc_723 rfl (kl_9_0 hW) (by decide) dX9_put_1 ?_
  refine r_sipush (244) dX9_put_4 (by decide) ?_
  refine r_sipush (180) dX9_put_7 (by decide) ?_
  refine r_iload_n dX9_put_10 rfl ?_
  refine r_imul dX9_put_11 ?_
  refine r_iadd dX9_put_12 ?_
  refine r_iload_n dX9_put_13 rfl ?_
  refine r_iadd dX9_put_14 ?_
  refine r_iload_n dX9_put_15 rfl ?_
  refine q_iast hW kc_724 (ix_p hx hy) (by omega) (by decide) dX9_put_16 ?_
  refine r_vret dX9_put_17 rfl ⟨Nat.zero_le _, Nat.zero_le _⟩ ?_
  exact ⟨rfl, eqx.rf.sI (Or.inl rfl), hm.stI⟩

set_option maxRecDepth 100000 in
set_option maxHeartbeats 4000000 in
theorem c_X9_put {l9 : Launch} {G : GC} {h : AH} {w : Nat → Int32} {v9 : Nat → Int64} {p : Nat} {f : Nat → Int32} {g : Nat → Int64} {k : Nat} {x y z : Int32} (hW : World h) (hm : PV h w v9 p f g) (hp : p < 4) (hx : x = nI p) (hy : y = nI k) (hk : k < 180) : PM l9 G mX9_put NT NT [.ref 723, .int x, .int y, .int z] h (fun v h' => v = none ∧ eqx h h' SM ∧ PV h' w v9 p (upd f k z) g) noX := by
  refine (c_X9_putM hW hm hp hx hy hk).mono (fun v h' q => ⟨q.1, q.2.1, ?_⟩) (fun _ _ q => q)
  unfold PV
  rw [← upd_setP hk]; exact q.2.2
set_option maxRecDepth 100000 in
set_option maxHeartbeats 4000000 in
theorem c_X9_addsM {l9 : Launch} {G : GC} {h : AH} {r : Row} {p k : Nat} {x y : Int32} {z : Int32} (hW : World h) (hm : MW h r) (hp : p < 4) (hx : x = nI p) (hy : y = nI k) (hk : k < 180) : PM l9 G mX9_adds NT NT [.ref 723, .int x, .int y, .int z] h (fun v h' => v = none ∧ eqx h h' SM ∧ MW h' (upd r.1 (244 + 180 * p + k) (r.1 (244 + 180 * p + k) + z), r.2)) noX := by
  refine PM.of (by decide +kernel) rfl rfl (Nat.le_of_ble_eq_true rfl) (fun hst _ => ?_)
  refine r_aload_n dX9_adds_0 rfl ?_
  refine q_getR fl_X9_7 hW kc_723 rfl (kl_9_0 hW) (by decide) dX9_adds_1 ?_
  refine r_sipush (244) dX9_adds_4 (by decide) ?_
  refine r_sipush (180) dX9_adds_7 (by decide) ?_
  refine r_iload_n dX9_adds_10 rfl ?_
  refine r_imul dX9_adds_11 ?_
  refine r_iadd dX9_adds_12 ?_
  refine r_iload_n dX9_adds_13 rfl ?_
  refine r_iadd dX9_adds_14 ?_
  refine r_dup2 dX9_adds_15 rfl rfl ?_
  refine q_iald hW kc_724 (ix_p hx hy) (by omega) (by decide) dX9_adds_16 ?_
  rw [hm.1 _ (by omega)]
  refine r_iload_n dX9_adds_17 rfl ?_
  refine r_iadd dX9_adds_18 ?_
  refine q_iast hW kc_724 (ix_p hx hy) (by omega) (by decide) dX9_adds_19 ?_
  refine r_vret dX9_adds_20 rfl ⟨Nat.zero_le _, Nat.zero_le _⟩ ?_
  exact ⟨rfl, eqx.rf.sI (Or.inl rfl), hm.stI⟩

set_option maxRecDepth 100000 in
set_option maxHeartbeats 4000000 in
theorem c_X9_adds {l9 : Launch} {G : GC} {h : AH} {w : Nat → Int32} {v9 : Nat → Int64} {p : Nat} {f : Nat → Int32} {g : Nat → Int64} {k : Nat} {x y z : Int32} (hW : World h) (hm : PV h w v9 p f g) (hp : p < 4) (hx : x = nI p) (hy : y = nI k) (hk : k < 180) : PM l9 G mX9_adds NT NT [.ref 723, .int x, .int y, .int z] h (fun v h' => v = none ∧ eqx h h' SM ∧ PV h' w v9 p (upd f k (f k + z)) g) noX := by
  refine (c_X9_addsM hW hm hp hx hy hk).mono (fun v h' q => ⟨q.1, q.2.1, ?_⟩) (fun _ _ q => q)
  have h3 := q.2.2
  have e : (setP w p f, setG v9 p g).1 (244 + 180 * p + k) = f k := setP_at hk
  rw [e] at h3
  unfold PV
  rw [← upd_setP hk]; exact h3
set_option maxRecDepth 100000 in
set_option maxHeartbeats 4000000 in
theorem c_X9_sumOf {l9 : Launch} {G : GC} {h : AH} {r : Row} {p k : Nat} {x y : Int32} (hW : World h) (hm : MW h r) (hp : p < 4) (hx : x = nI p) (hy : y = nI k) (hk : k < 6) : PM l9 G mX9_sumOf NT NT [.ref 723, .int x, .int y] h (fun v h' => v = some (.long (getG r.2 p k)) ∧ h' = h) noX := by
  refine PM.of (by decide +kernel) rfl rfl (Nat.le_of_ble_eq_true rfl) (fun hst _ => ?_)
  refine r_aload_n dX9_sumOf_0 rfl ?_
  refine q_getR fl_X9_25 hW kc_723 rfl (kl_9_5 hW) (by decide) dX9_sumOf_1 ?_
  refine r_bipush (6) dX9_sumOf_4 (by decide) ?_
  refine r_iload_n dX9_sumOf_6 rfl ?_
  refine r_imul dX9_sumOf_7 ?_
  refine r_iload_n dX9_sumOf_8 rfl ?_
  refine r_iadd dX9_sumOf_9 ?_
  refine q_lald hW kc_729 (nadd (nmul (a := 6) rfl hx) hy) (by omega) (by decide) dX9_sumOf_10 ?_
  rw [hm.2 _ (by omega)]
  refine r_lret dX9_sumOf_11 rfl ⟨Nat.zero_le _, Nat.zero_le _⟩ ?_
  rw [getG_k hk]; exact ⟨rfl, rfl⟩

set_option maxRecDepth 100000 in
set_option maxHeartbeats 4000000 in
theorem c_X9_copies {l9 : Launch} {G : GC} {h : AH} {i j n0 n1 a b : Nat} {x y : Int32} (hW : World h) (hki : ka i 11 n0) (hkj : ka j 11 n1) (hij : i ≠ j ∨ b + 964 ≤ a) (hx : x = nI a) (hy : y = nI b) (ha : a + 964 ≤ n0) (hb : b + 964 ≤ n1) (hn0 : n0 ≤ 9640) (hn1 : n1 ≤ 9640) : PM l9 G mX9_copies NT NT [.ref i, .int x, .ref j, .int y] h (fun v h' => v = none ∧ eqx h h' (btw j j) ∧ (∀ k, k < 964 → aI h' j (b + k) = aI h i (a + k)) ∧ ∀ k, k < b ∨ b + 964 ≤ k → aI h' j k = aI h j k) noX := by
  refine PM.of (by decide +kernel) rfl rfl (Nat.le_of_ble_eq_true rfl) (fun hst _ => ?_)
  subst hx
  subst hy
  refine r_iconst (0) dX9_copies_0 (by decide) ?_
  refine r_istore (ls2 := [_, _, _, some _, _]) dX9_copies_1 (by decide) rfl ?_
  refine loopN (P := fun c => ∀ H : AH, c ≤ 964 → eqx h H (btw j j) → (∀ k, k < c → aI H j (b + k) = aI h i (a + k)) → (∀ k, k < b ∨ b + c ≤ k → aI H j k = aI h j k) → PW l9 G mX9_copies _ _ NT 3 [some (.ref i), some (.int (nI a)), some (.ref j), some (.int (nI b)), some (.int (nI c))] [] (0, 0) H) 964 (fun c ih H hc he h1 h2 => ?_) 0 h (Nat.zero_le _) eqx.rf (fun k hk => absurd hk (Nat.not_lt_zero _)) (fun _ _ => rfl)
  have hWH := he.W hW
  refine r_iload dX9_copies_3 rfl ?_
  refine r_sipush (964) dX9_copies_5 (by decide) ?_
  refine r_icmp_ge 29 dX9_copies_8 (by decide) (fun c_8 => ?_) (fun c_8 => ?_)
  · have hge : c = 964 := by have := (nI_leI (a := 964) (by omega) (by omega)).mp c_8; omega
    refine r_vret dX9_copies_29 rfl ⟨Nat.zero_le _, Nat.zero_le _⟩ ?_
    subst hge
    exact ⟨rfl, he, h1, h2⟩
  · have hlt : c < 964 := (nI_ltI (b := 964) (by omega) (by omega)).mp (i_lt.mp c_8)
    refine r_aload_n dX9_copies_11 rfl ?_
    refine r_iload_n dX9_copies_12 rfl ?_
    refine r_iload dX9_copies_13 rfl ?_
    refine r_iadd dX9_copies_15 ?_
    refine r_aload_n dX9_copies_16 rfl ?_
    refine r_iload_n dX9_copies_17 rfl ?_
    refine r_iload dX9_copies_18 rfl ?_
    refine r_iadd dX9_copies_20 ?_
    refine q_iald hWH hki (nadd rfl rfl) (by omega) (by omega) dX9_copies_21 ?_
    refine q_iast hWH hkj (nadd rfl rfl) (by omega) (by omega) dX9_copies_22 ?_
    refine r_iinc (1) (by decide) (ls2 := [_, _, _, some _, _]) dX9_copies_23 rfl (by decide) rfl ?_
    refine r_goto 3 dX9_copies_26 (by decide) ?_
    rw [nI_1]
    refine ih hlt _ hlt (he.sI (by unfold btw; omega)) (fun k hk => ?_) (fun k hk => ?_)
    · by_cases e : k = c
      · subst e
        rw [sI_s]
        rcases hij with q | q
        · exact congrFun (he.I (by unfold btw; omega)) _
        · by_cases q2 : i = j
          · rw [q2]; exact h2 _ (by omega)
          · exact congrFun (he.I (by unfold btw; omega)) _
      · rw [sI_k (by omega)]; exact h1 k (by omega)
    · rw [sI_k (by omega)]; exact h2 k (by omega)

set_option maxRecDepth 100000 in
set_option maxHeartbeats 4000000 in
theorem c_X9_copies_ {l9 : Launch} {G : GC} {h : AH} {i j n0 n1 a b : Nat} {x y : Int32} (hW : World h) (hki : ka i 12 n0) (hkj : ka j 12 n1) (hij : i ≠ j ∨ b + 24 ≤ a) (hx : x = nI a) (hy : y = nI b) (ha : a + 24 ≤ n0) (hb : b + 24 ≤ n1) (hn0 : n0 ≤ 240) (hn1 : n1 ≤ 240) : PM l9 G mX9_copies_ NT NT [.ref i, .int x, .ref j, .int y] h (fun v h' => v = none ∧ eqx h h' (btw j j) ∧ (∀ k, k < 24 → aJ h' j (b + k) = aJ h i (a + k)) ∧ ∀ k, k < b ∨ b + 24 ≤ k → aJ h' j k = aJ h j k) noX := by
  refine PM.of (by decide +kernel) rfl rfl (Nat.le_of_ble_eq_true rfl) (fun hst _ => ?_)
  subst hx
  subst hy
  refine r_iconst (0) dX9_copies__0 (by decide) ?_
  refine r_istore (ls2 := [_, _, _, some _, _]) dX9_copies__1 (by decide) rfl ?_
  refine loopN (P := fun c => ∀ H : AH, c ≤ 24 → eqx h H (btw j j) → (∀ k, k < c → aJ H j (b + k) = aJ h i (a + k)) → (∀ k, k < b ∨ b + c ≤ k → aJ H j k = aJ h j k) → PW l9 G mX9_copies_ _ _ NT 3 [some (.ref i), some (.int (nI a)), some (.ref j), some (.int (nI b)), some (.int (nI c))] [] (0, 0) H) 24 (fun c ih H hc he h1 h2 => ?_) 0 h (Nat.zero_le _) eqx.rf (fun k hk => absurd hk (Nat.not_lt_zero _)) (fun _ _ => rfl)
  have hWH := he.W hW
  refine r_iload dX9_copies__3 rfl ?_
  refine r_bipush (24) dX9_copies__5 (by decide) ?_
  refine r_icmp_ge 28 dX9_copies__7 (by decide) (fun c_7 => ?_) (fun c_7 => ?_)
  · have hge : c = 24 := by have := (nI_leI (a := 24) (by omega) (by omega)).mp c_7; omega
    refine r_vret dX9_copies__28 rfl ⟨Nat.zero_le _, Nat.zero_le _⟩ ?_
    subst hge
    exact ⟨rfl, he, h1, h2⟩
  · have hlt : c < 24 := (nI_ltI (b := 24) (by omega) (by omega)).mp (i_lt.mp c_7)
    refine r_aload_n dX9_copies__10 rfl ?_
    refine r_iload_n dX9_copies__11 rfl ?_
    refine r_iload dX9_copies__12 rfl ?_
    refine r_iadd dX9_copies__14 ?_
    refine r_aload_n dX9_copies__15 rfl ?_
    refine r_iload_n dX9_copies__16 rfl ?_
    refine r_iload dX9_copies__17 rfl ?_
    refine r_iadd dX9_copies__19 ?_
    refine q_lald hWH hki (nadd rfl rfl) (by omega) (by omega) dX9_copies__20 ?_
    refine q_last hWH hkj (nadd rfl rfl) (by omega) (by omega) dX9_copies__21 ?_
    refine r_iinc (1) (by decide) (ls2 := [_, _, _, some _, _]) dX9_copies__22 rfl (by decide) rfl ?_
    refine r_goto 3 dX9_copies__25 (by decide) ?_
    rw [nI_1]
    refine ih hlt _ hlt (he.sJ (by unfold btw; omega)) (fun k hk => ?_) (fun k hk => ?_)
    · by_cases e : k = c
      · subst e
        rw [sJ_s]
        rcases hij with q | q
        · exact congrFun (he.J (by unfold btw; omega)) _
        · by_cases q2 : i = j
          · rw [q2]; exact h2 _ (by omega)
          · exact congrFun (he.J (by unfold btw; omega)) _
      · rw [sJ_k (by omega)]; exact h1 k (by omega)
    · rw [sJ_k (by omega)]; exact h2 k (by omega)
