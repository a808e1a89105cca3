-- the reference: copies of rows, small questions
def AW (h : AH) (i j : Nat) (r : Row) : Prop := (∀ k, k < 964 → aI h i k = r.1 k) ∧ ∀ k, k < 24 → aJ h j k = r.2 k
def PA (h : AH) (i : Nat) (r : Row) : Prop := (∀ k, k < 964 → aI h 728 (964 * i + k) = r.1 k) ∧ ∀ k, k < 24 → aJ h 733 (24 * i + k) = r.2 k
def r00 : Row := (fun _ => 0, fun _ => 0)
def PsR (h : AH) (L : List Row) : Prop := aI h 723 10 = nI L.length ∧ L.length ≤ 10 ∧ ∀ i, i < L.length → PA h i (L.getD i r00)
theorem AW.cgH {h h' : AH} {i j : Nat} {r : Row} {S : Nat → Prop} (hm : AW h i j r) (e : eqx h h' S) (h1 : ¬ S i) (h2 : ¬ S j) : AW h' i j r := by
  unfold AW; rw [e.I h1, e.J h2]; exact hm
theorem PA.cgH {h h' : AH} {i : Nat} {r : Row} {S : Nat → Prop} (hm : PA h i r) (e : eqx h h' S) (h1 : ¬ S 728) (h2 : ¬ S 733) : PA h' i r := by
  unfold PA; rw [e.I h1, e.J h2]; exact hm
theorem MW.s9 {h : AH} {r : Row} {k : Nat} {x : Int32} (hm : MW h r) : MW (sI h 723 k x) r := hm.cgH (eqx.rf.sI (S := fun i => i = 723) rfl) (by decide) (by decide)
theorem sI_2 {h : AH} {i k : Nat} {a b : Int32} : sI (sI h i k a) i k b = sI h i k b := by
  unfold sI cI
  refine Prod.ext ?_ rfl
  funext j
  show (if j = i then upd (aI (cI h i (upd (aI h i) k a)) i) k b else if j = i then _ else h.1 j) = if j = i then _ else h.1 j
  by_cases e : j = i
  · rw [if_pos e, if_pos e, cI_eq]
    funext t
    by_cases e2 : t = k
    · rw [e2, pk_us, pk_us]
    · rw [pk_un e2, pk_un e2, pk_un e2]
  · rw [if_neg e, if_neg e, if_neg e]
theorem i_nat {x : Int32} (h : 0 ≤ x) : x = nI x.toNatClampNeg := by
  have h1 : (0 : Int) ≤ x.toInt := by
    have := Int32.le_iff_toInt_le.mp h
    simpa using this
  have h2 := x.toInt_lt
  have h3 : x.toNatClampNeg = x.toInt.toNat := rfl
  apply Int32.toInt_inj.mp
  rw [nI_toInt (by omega), h3]
  omega
def okP (r : Row) (x : Int32) : Bool := decide (0 ≤ x ∧ x < r.1 0)
theorem okP_t {r : Row} {x : Int32} {m : Nat} (hO : RoOK r.1 r.2 m) (h : okP r x = true) : ∃ p, p < 4 ∧ p < nn (r.1 0) ∧ x = nI p := by
  have h1 := of_decide_eq_true h
  obtain ⟨n, n1, n2, n3⟩ := hO.1.1.nat
  have e := i_nat h1.1
  have h2 := h1.2
  rw [n3, e] at h2
  have hlt : x.toNatClampNeg < 2 ^ 31 := by
    have := x.toInt_lt
    unfold Int32.toNatClampNeg
    omega
  have h3 := (nI_ltI hlt (by omega)).mp h2
  refine ⟨x.toNatClampNeg, by omega, ?_, e⟩
  rw [n3, nn_I (by omega)]; exact h3
section WM
variable {l : Launch} {G : GC} {M : MD} {R : Room} {Fi : CX → State → Prop} {pc : Nat} {ls : List (Option Value)} {st : List Value} {cs : Nat × Nat} {h : AH} {r : Row}
theorem q_putM {k ix : Nat} {x : Int32} (hf : FL (mY M).cls ix 9 k) (hW : World h) (hm : MW h r) (ht : clY 9 k = .int) (hfi : (clT 9 k).2.2.2 = false) (hd : decode (mC M) pc = .ok (.putfield ix, 3)) (kk : MW (sI h 723 k x) r → PW l G M R Fi NT (pc + 3) ls st cs (sI h 723 k x)) : PW l G M R Fi NT pc ls (.int x :: .ref 723 :: st) cs h :=
  q_putI hf hW kc_723 ht hfi hd (kk hm.s9)
end WM
theorem inR0 {x b : Int32} {n : Nat} (hb : b = nI n) (hn : n < 2 ^ 30) : decide (0 ≤ x ∧ x ≤ b - 1) = decide (0 ≤ x ∧ x < b) := by
  have key : x ≤ b - 1 ↔ x < b := by
    rw [hb]
    have e : (nI n - 1).toInt = (n : Int) - 1 := pk_sub_toInt (a := n) (b := 1) hn (by decide)
    have e2 : (nI n).toInt = (n : Int) := nI_toInt (by omega)
    rw [Int32.le_iff_toInt_le, Int32.lt_iff_toInt_lt, e, e2]
    omega
  exact decide_eq_decide.mpr ⟨fun q => ⟨q.1, key.mp q.2⟩, fun q => ⟨q.1, key.mpr q.2⟩⟩
def cd1 (a : Bool) : Nat := if a then 0 else 1
def cd2 (a b : Bool) : Nat := if a then (if b then 0 else 2) else 1
def cd3 (a b c : Bool) : Nat := if a then (if b then (if c then 0 else 3) else 2) else 1
def cd4 (a b c d : Bool) : Nat := if a then (if b then (if c then (if d then 0 else 4) else 3) else 2) else 1
/-- which exception a method throws, by its code -/
def thr (L : List String) (c : Nat) (E : String) : Prop := c ≠ 0 ∧ L.getD (c - 1) "" = E
set_option maxRecDepth 100000 in
set_option maxHeartbeats 4000000 in
theorem c_X9_fails0 {l9 : Launch} {G : GC} {h : AH} {x : Int32} (hW : World h) : PM l9 G mX9_fails NT NT [.ref 723, .int 0, .int x] h (fun v h' => v = some (.int 0) ∧ h' = h) noX := by
  refine PM.of (by decide +kernel) rfl rfl (Nat.le_of_ble_eq_true rfl) (fun hst _ => ?_)
  refine r_iload_n dX9_fails_0 rfl ?_
  refine r_if_eq 9 dX9_fails_1 (by decide) (fun c_1 => ?_) (fun c_1 => ?_)
  · refine r_iload_n dX9_fails_9 rfl ?_
    refine r_zret dX9_fails_10 rfl (by decide) ⟨Nat.zero_le _, Nat.zero_le _⟩ ?_
    exact ⟨rfl, rfl⟩
  · first | exact absurd c_1 (by decide) | exact absurd (by decide) c_1

set_option maxRecDepth 100000 in
set_option maxHeartbeats 4000000 in
theorem c_X9_fails1 {l9 : Launch} {G : GC} {h : AH} {x : Int32} (hW : World h) : PM l9 G mX9_fails NT NT [.ref 723, .int 1, .int x] h (fun v h' => v = some (.int 1) ∧ h' = sI h 723 12 x) noX := by
  refine PM.of (by decide +kernel) rfl rfl (Nat.le_of_ble_eq_true rfl) (fun hst _ => ?_)
  refine r_iload_n dX9_fails_0 rfl ?_
  refine r_if_eq 9 dX9_fails_1 (by decide) (fun c_1 => ?_) (fun c_1 => ?_)
  · first | exact absurd c_1 (by decide) | exact absurd (by decide) c_1
  · refine r_aload_n dX9_fails_4 rfl ?_
    refine r_iload_n dX9_fails_5 rfl ?_
    refine q_putI fl_X9_61 hW kc_723 rfl rfl dX9_fails_6 ?_
    refine r_iload_n dX9_fails_9 rfl ?_
    refine r_zret dX9_fails_10 rfl (by decide) ⟨Nat.zero_le _, Nat.zero_le _⟩ ?_
    exact ⟨rfl, rfl⟩

set_option maxRecDepth 100000 in
set_option maxHeartbeats 4000000 in
theorem c_X9_noPool {l9 : Launch} {G : GC} {h : AH} {r : Row} {m : Nat} {x : Int32} (hW : World h) (hm : MW h r) (hO : RoOK r.1 r.2 m) : PM l9 G mX9_noPool NT NT [.ref 723, .int x] h (fun v h' => v = some (.int (bI (!okP r x))) ∧ h' = sI h 723 12 (nI (cd1 (okP r x)))) noX := by
  refine PM.of (by decide +kernel) rfl rfl (Nat.le_of_ble_eq_true rfl) (fun hst _ => ?_)
  refine r_aload_n dX9_noPool_0 rfl ?_
  refine r_iconst (0) dX9_noPool_1 (by decide) ?_
  refine q_putM fl_X9_61 hW hm rfl rfl dX9_noPool_2 (fun hm => ?_)
  refine r_aload_n dX9_noPool_5 rfl ?_
  refine r_iload_n dX9_noPool_6 rfl ?_
  refine r_iconst (0) dX9_noPool_7 (by decide) ?_
  refine r_aload_n dX9_noPool_8 rfl ?_
  refine q_getR fl_X9_7 hW kc_723 rfl (kl_9_0 hW) (by decide) dX9_noPool_9 ?_
  refine r_iconst (0) dX9_noPool_12 (by decide) ?_
  refine q_wldMW hW hm kn_0 (by omega) dX9_noPool_13 ?_
  refine r_iconst (1) dX9_noPool_14 (by decide) ?_
  refine r_isub dX9_noPool_15 ?_
  refine q_callS3 (cs_X9_inRange ml_X9_167) ⟨rfl, rfl⟩ rfl (Nat.le_of_ble_eq_true rfl) dX9_noPool_16 c_X9_inRange (fun v_16 h_16 q_16 => ?_)
  obtain ⟨rfl, z9⟩ := q_16
  replace z9 := z9.symm
  subst z9
  obtain ⟨n, n1, n2, n3⟩ := hO.1.1.nat
  rw [inR0 n3 (by omega)]
  have eK : decide (0 ≤ x ∧ x < r.1 0) = okP r x := rfl
  rw [eK]
  refine r_if_ne 26 dX9_noPool_19 (by decide) (fun c_19 => ?_) (fun c_19 => ?_)
  · refine r_iconst (0) dX9_noPool_26 (by decide) ?_
    refine r_iconst (1) dX9_noPool_27 (by decide) ?_
    refine q_callV2 (cv_X9_fails ml_X9_302) hW kc_723 (by decide) rfl ⟨rfl, rfl⟩ rfl (Nat.le_of_ble_eq_true rfl) dX9_noPool_28 (c_X9_fails0 hW) (fun v_28 h_28 q_28 => ?_)
    obtain ⟨rfl, z9⟩ := q_28
    replace z9 := z9.symm
    subst z9
    refine r_zret dX9_noPool_31 rfl (by decide) ⟨Nat.zero_le _, Nat.zero_le _⟩ ?_
    first
      | (have ko : okP r x = true := bI_1.mp c_19
         rw [ko]; exact ⟨rfl, rfl⟩)
      | (have ko : okP r x = false := bI_0.mp (by first | exact c_19 | simpa using c_19)
         rw [ko]; exact ⟨rfl, sI_2⟩)
  · refine r_iconst (1) dX9_noPool_22 (by decide) ?_
    refine r_goto 27 dX9_noPool_23 (by decide) ?_
    refine r_iconst (1) dX9_noPool_27 (by decide) ?_
    refine q_callV2 (cv_X9_fails ml_X9_302) hW kc_723 (by decide) rfl ⟨rfl, rfl⟩ rfl (Nat.le_of_ble_eq_true rfl) dX9_noPool_28 (c_X9_fails1 hW) (fun v_28 h_28 q_28 => ?_)
    obtain ⟨rfl, z9⟩ := q_28
    replace z9 := z9.symm
    subst z9
    replace hm := hm.s9 (k := 12) (x := 1)
    refine r_zret dX9_noPool_31 rfl (by decide) ⟨Nat.zero_le _, Nat.zero_le _⟩ ?_
    first
      | (have ko : okP r x = true := bI_1.mp c_19
         rw [ko]; exact ⟨rfl, rfl⟩)
      | (have ko : okP r x = false := bI_0.mp (by first | exact c_19 | simpa using c_19)
         rw [ko]; exact ⟨rfl, sI_2⟩)

set_option maxRecDepth 100000 in
set_option maxHeartbeats 4000000 in
theorem c_X9_thrown {l9 : Launch} {G : GC} {h : AH} (hW : World h) : PM l9 G mX9_thrown NT NT [.ref 723] h (fun v h' => v = some (.int (aI h 723 12)) ∧ h' = h) noX := by
  refine PM.of (by decide +kernel) rfl rfl (Nat.le_of_ble_eq_true rfl) (fun hst _ => ?_)
  refine r_aload_n dX9_thrown_0 rfl ?_
  refine q_getI fl_X9_61 hW kc_723 rfl dX9_thrown_1 ?_
  refine r_iret dX9_thrown_4 rfl ⟨Nat.zero_le _, Nat.zero_le _⟩ ?_
  exact ⟨rfl, rfl⟩

set_option maxRecDepth 100000 in
set_option maxHeartbeats 4000000 in
theorem c_X9_begins {l9 : Launch} {G : GC} {h : AH} {r : Row} (hW : World h) (hm : AW h 724 729 r) : PM l9 G mX9_begins NT NT [.ref 723] h (fun v h' => v = none ∧ eqx h h' (fun i => i = 726 ∨ i = 731) ∧ AW h' 726 731 r) noX := by
  refine PM.of (by decide +kernel) rfl rfl (Nat.le_of_ble_eq_true rfl) (fun hst _ => ?_)
  refine r_aload_n dX9_begins_0 rfl ?_
  refine q_getR fl_X9_7 hW kc_723 rfl (kl_9_0 hW) (by decide) dX9_begins_1 ?_
  refine r_iconst (0) dX9_begins_4 (by decide) ?_
  refine r_aload_n dX9_begins_5 rfl ?_
  refine q_getR fl_X9_16 hW kc_723 rfl (kl_9_2 hW) (by decide) dX9_begins_6 ?_
  refine r_iconst (0) dX9_begins_9 (by decide) ?_
  refine q_callS4 (cs_X9_copies ml_X9_74) ⟨rfl, rfl⟩ rfl (Nat.le_of_ble_eq_true rfl) dX9_begins_10 (c_X9_copies hW kc_724 kc_726 (Or.inl (by decide)) kn_0 kn_0 (by omega) (by omega) (by decide) (by decide)) (fun v_10 h_10 q_10 => ?_)
  obtain ⟨rfl, e_10, k_10, o_10⟩ := q_10
  have hW := e_10.W hW
  refine r_aload_n dX9_begins_13 rfl ?_
  refine q_getR fl_X9_25 hW kc_723 rfl (kl_9_5 hW) (by decide) dX9_begins_14 ?_
  refine r_iconst (0) dX9_begins_17 (by decide) ?_
  refine r_aload_n dX9_begins_18 rfl ?_
  refine q_getR fl_X9_32 hW kc_723 rfl (kl_9_7 hW) (by decide) dX9_begins_19 ?_
  refine r_iconst (0) dX9_begins_22 (by decide) ?_
  refine q_callS4 (cs_X9_copies_ ml_X9_78) ⟨rfl, rfl⟩ rfl (Nat.le_of_ble_eq_true rfl) dX9_begins_23 (c_X9_copies_ hW kc_729 kc_731 (Or.inl (by decide)) kn_0 kn_0 (by omega) (by omega) (by decide) (by decide)) (fun v_23 h_23 q_23 => ?_)
  obtain ⟨rfl, e_23, k_23, o_23⟩ := q_23
  have hW := e_23.W hW
  refine r_vret dX9_begins_26 rfl ⟨Nat.zero_le _, Nat.zero_le _⟩ ?_
  refine ⟨rfl, (e_10.wk (fun i zi => by unfold btw at *; omega)).tr (e_23.wk (fun i zi => by unfold btw at *; omega)), fun k hk => ?_, fun k hk => ?_⟩
  · rw [e_23.I (by unfold btw; omega)]
    have z := k_10 k hk
    rw [Nat.zero_add] at z
    exact z.trans (hm.1 k hk)
  · have z := k_23 k hk
    rw [Nat.zero_add, e_10.J (by unfold btw; omega)] at z
    exact z.trans (hm.2 k hk)

set_option maxRecDepth 100000 in
set_option maxHeartbeats 4000000 in
theorem c_X9_ends {l9 : Launch} {G : GC} {h : AH} {r : Row} (hW : World h) (hm : AW h 726 731 r) : PM l9 G mX9_ends NT NT [.ref 723] h (fun v h' => v = none ∧ eqx h h' (fun i => i = 724 ∨ i = 729) ∧ AW h' 724 729 r) noX := by
  refine PM.of (by decide +kernel) rfl rfl (Nat.le_of_ble_eq_true rfl) (fun hst _ => ?_)
  refine r_aload_n dX9_ends_0 rfl ?_
  refine q_getR fl_X9_16 hW kc_723 rfl (kl_9_2 hW) (by decide) dX9_ends_1 ?_
  refine r_iconst (0) dX9_ends_4 (by decide) ?_
  refine r_aload_n dX9_ends_5 rfl ?_
  refine q_getR fl_X9_7 hW kc_723 rfl (kl_9_0 hW) (by decide) dX9_ends_6 ?_
  refine r_iconst (0) dX9_ends_9 (by decide) ?_
  refine q_callS4 (cs_X9_copies ml_X9_74) ⟨rfl, rfl⟩ rfl (Nat.le_of_ble_eq_true rfl) dX9_ends_10 (c_X9_copies hW kc_726 kc_724 (Or.inl (by decide)) kn_0 kn_0 (by omega) (by omega) (by decide) (by decide)) (fun v_10 h_10 q_10 => ?_)
  obtain ⟨rfl, e_10, k_10, o_10⟩ := q_10
  have hW := e_10.W hW
  refine r_aload_n dX9_ends_13 rfl ?_
  refine q_getR fl_X9_32 hW kc_723 rfl (kl_9_7 hW) (by decide) dX9_ends_14 ?_
  refine r_iconst (0) dX9_ends_17 (by decide) ?_
  refine r_aload_n dX9_ends_18 rfl ?_
  refine q_getR fl_X9_25 hW kc_723 rfl (kl_9_5 hW) (by decide) dX9_ends_19 ?_
  refine r_iconst (0) dX9_ends_22 (by decide) ?_
  refine q_callS4 (cs_X9_copies_ ml_X9_78) ⟨rfl, rfl⟩ rfl (Nat.le_of_ble_eq_true rfl) dX9_ends_23 (c_X9_copies_ hW kc_731 kc_729 (Or.inl (by decide)) kn_0 kn_0 (by omega) (by omega) (by decide) (by decide)) (fun v_23 h_23 q_23 => ?_)
  obtain ⟨rfl, e_23, k_23, o_23⟩ := q_23
  have hW := e_23.W hW
  refine r_vret dX9_ends_26 rfl ⟨Nat.zero_le _, Nat.zero_le _⟩ ?_
  refine ⟨rfl, (e_10.wk (fun i zi => by unfold btw at *; omega)).tr (e_23.wk (fun i zi => by unfold btw at *; omega)), fun k hk => ?_, fun k hk => ?_⟩
  · rw [e_23.I (by unfold btw; omega)]
    have z := k_10 k hk
    rw [Nat.zero_add] at z
    exact z.trans (hm.1 k hk)
  · have z := k_23 k hk
    rw [Nat.zero_add, e_10.J (by unfold btw; omega)] at z
    exact z.trans (hm.2 k hk)

def pushL (L : List Row) (r : Row) : List Row := (if L.length = 10 then L.tail else L) ++ [r]
theorem pushL_len {L : List Row} {r : Row} (h : L.length ≤ 10) : (pushL L r).length = if L.length = 10 then 10 else L.length + 1 := by
  unfold pushL
  rw [List.length_append]
  split
  · next q => rw [List.length_tail, q]; rfl
  · rfl
theorem pushL_at {L : List Row} {r : Row} {i : Nat} (h : L.length ≤ 10) (hi : i < (pushL L r).length) : (pushL L r).getD i r00 = if i + 1 = (pushL L r).length then r else if L.length = 10 then L.getD (i + 1) r00 else L.getD i r00 := by
  have hl := pushL_len (r := r) h
  unfold pushL at hi hl ⊢
  rw [List.getD_eq_getElem?_getD]
  by_cases q : L.length = 10
  · rw [if_pos q] at hi hl ⊢
    rw [if_pos q] at hl
    rw [if_pos q, hl]
    have ht : L.tail.length = 9 := by rw [List.length_tail, q]
    by_cases e : i + 1 = 10
    · rw [if_pos e, List.getElem?_append_right (by omega), ht, show i - 9 = 0 from by omega]; rfl
    · rw [if_neg e, List.getElem?_append_left (by omega), List.getElem?_tail, List.getD_eq_getElem?_getD]
  · rw [if_neg q] at hi hl ⊢
    rw [if_neg q] at hl
    rw [if_neg q, hl]
    by_cases e : i + 1 = L.length + 1
    · rw [if_pos e, List.getElem?_append_right (by omega), show i - L.length = 0 from by omega]; rfl
    · rw [if_neg e, List.getElem?_append_left (by omega), List.getD_eq_getElem?_getD]
def RM : Nat → Prop := fun i => i = 723 ∨ i = 728 ∨ i = 733
theorem PA.set {h h' h'' : AH} {i a b : Nat} {r : Row} (e1 : eqx h h' (btw 728 728)) (e2 : eqx h' h'' (btw 733 733)) (hr1 : ∀ k, k < 964 → aI h' 728 (964 * i + k) = r.1 k) (hr2 : ∀ k, k < 24 → aJ h'' 733 (24 * i + k) = r.2 k) : PA h'' i r :=
  ⟨fun k hk => by rw [e2.I (by unfold btw; omega)]; exact hr1 k hk, hr2⟩
theorem PA.keep {h h' h'' : AH} {i j : Nat} {r : Row} (hp : PA h j r) (hij : j ≠ i) (e1 : eqx h h' (btw 728 728)) (e2 : eqx h' h'' (btw 733 733)) (h1 : ∀ k, k < 964 * i ∨ 964 * i + 964 ≤ k → aI h' 728 k = aI h 728 k) (h2 : ∀ k, k < 24 * i ∨ 24 * i + 24 ≤ k → aJ h'' 733 k = aJ h' 733 k) : PA h'' j r :=
  ⟨fun k hk => by rw [e2.I (by unfold btw; omega), h1 _ (by omega)]; exact hp.1 k hk, fun k hk => by rw [h2 _ (by omega), e1.J (by unfold btw; omega)]; exact hp.2 k hk⟩
set_option maxRecDepth 100000 in
set_option maxHeartbeats 4000000 in
theorem c_X9_remembers {l9 : Launch} {G : GC} {h : AH} {r : Row} {L : List Row} (hW : World h) (hm : MW h r) (hL : PsR h L) : PM l9 G mX9_remembers NT NT [.ref 723] h (fun v h' => v = none ∧ eqx h h' RM ∧ aI h' 723 = upd (aI h 723) 10 (nI (pushL L r).length) ∧ PsR h' (pushL L r)) noX := by
  refine PM.of (by decide +kernel) rfl rfl (Nat.le_of_ble_eq_true rfl) (fun hst _ => ?_)
  obtain ⟨l1, l2, l3⟩ := hL
  have hpl := pushL_len (r := r) l2
  refine r_aload_n dX9_remembers_0 rfl ?_
  refine q_getI fl_X9_71 hW kc_723 rfl dX9_remembers_1 ?_
  have key : ∀ (H : AH) (n : Nat) (w : Option Value), World H → eqx h H RM → n = (pushL L r).length - 1 → n < 10 → aI H 723 10 = nI n → (∀ k, k ≠ 10 → aI H 723 k = aI h 723 k) → (∀ i, i < n → PA H i ((pushL L r).getD i r00)) → PW l9 G mX9_remembers (mO mX9_remembers) (fiM G mX9_remembers NT (fun v h' => v = none ∧ eqx h h' RM ∧ aI h' 723 = upd (aI h 723) 10 (nI (pushL L r).length) ∧ PsR h' (pushL L r)) noX) NT 77 [some (.ref 723), w] [] (0, 0) H := by
    intro H n w hW he hn hn10 h10 hoth hP
    have hpos : 0 < (pushL L r).length := by rw [hpl]; split <;> omega
    have hmH : MW H r := hm.cgH he (by unfold RM; omega) (by unfold RM; omega)
    refine r_aload_n dX9_remembers_77 rfl ?_
    refine q_getR fl_X9_7 hW kc_723 rfl (kl_9_0 hW) (by decide) dX9_remembers_78 ?_
    refine r_iconst (0) dX9_remembers_81 (by decide) ?_
    refine r_aload_n dX9_remembers_82 rfl ?_
    refine q_getR fl_X9_22 hW kc_723 rfl (kl_9_4 hW) (by decide) dX9_remembers_83 ?_
    refine r_sipush (964) dX9_remembers_86 (by decide) ?_
    refine r_aload_n dX9_remembers_89 rfl ?_
    refine q_getI fl_X9_71 hW kc_723 rfl dX9_remembers_90 ?_
    rw [h10]
    refine r_imul dX9_remembers_93 ?_
    refine q_callS4 (cs_X9_copies ml_X9_74) ⟨rfl, rfl⟩ rfl (Nat.le_of_ble_eq_true rfl) dX9_remembers_94 (c_X9_copies hW kc_724 kc_728 (Or.inl (by decide)) kn_0 (nmul (a := 964) rfl rfl) (by omega) (by omega) (by decide) (by decide)) (fun v_94 h_94 q_94 => ?_)
    obtain ⟨rfl, e_94, k_94, o_94⟩ := q_94
    have hW := e_94.W hW
    refine r_aload_n dX9_remembers_97 rfl ?_
    refine q_getR fl_X9_25 hW kc_723 rfl (kl_9_5 hW) (by decide) dX9_remembers_98 ?_
    refine r_iconst (0) dX9_remembers_101 (by decide) ?_
    refine r_aload_n dX9_remembers_102 rfl ?_
    refine q_getR fl_X9_38 hW kc_723 rfl (kl_9_9 hW) (by decide) dX9_remembers_103 ?_
    refine r_bipush (24) dX9_remembers_106 (by decide) ?_
    refine r_aload_n dX9_remembers_108 rfl ?_
    refine q_getI fl_X9_71 hW kc_723 rfl dX9_remembers_109 ?_
    rw [show aI h_94 723 10 = nI n from by rw [e_94.I (by unfold btw; omega)]; exact h10]
    refine r_imul dX9_remembers_112 ?_
    refine q_callS4 (cs_X9_copies_ ml_X9_78) ⟨rfl, rfl⟩ rfl (Nat.le_of_ble_eq_true rfl) dX9_remembers_113 (c_X9_copies_ hW kc_729 kc_733 (Or.inl (by decide)) kn_0 (nmul (a := 24) rfl rfl) (by omega) (by omega) (by decide) (by decide)) (fun v_113 h_113 q_113 => ?_)
    obtain ⟨rfl, e_113, k_113, o_113⟩ := q_113
    have hW := e_113.W hW
    refine r_aload_n dX9_remembers_116 rfl ?_
    refine r_dup dX9_remembers_117 rfl ?_
    refine q_getI fl_X9_71 hW kc_723 rfl dX9_remembers_118 ?_
    rw [show aI h_113 723 10 = nI n from by rw [e_113.I (by unfold btw; omega), e_94.I (by unfold btw; omega)]; exact h10]
    refine r_iconst (1) dX9_remembers_121 (by decide) ?_
    refine r_iadd dX9_remembers_122 ?_
    rw [nI_1]
    refine q_putI fl_X9_71 hW kc_723 rfl rfl dX9_remembers_123 ?_
    refine r_vret dX9_remembers_126 rfl ⟨Nat.zero_le _, Nat.zero_le _⟩ ?_
    have h723 : aI h_113 723 = aI H 723 := by rw [e_113.I (by unfold btw; omega), e_94.I (by unfold btw; omega)]
    have eN : n + 1 = (pushL L r).length := by omega
    refine ⟨rfl, ?_, ?_, ?_, by rw [← eN]; omega, fun i hi => ?_⟩
    · refine eqx.sI ?_ (Or.inl rfl)
      exact he.tr ((e_94.wk (fun i zi => by unfold btw RM at *; omega)).tr (e_113.wk (fun i zi => by unfold btw RM at *; omega)))
    · rw [sI_r, h723]
      funext k
      by_cases e : k = 10
      · rw [e, pk_us, pk_us, eN]
      · rw [pk_un e, pk_un e]; exact hoth k e
    · rw [sI_s, eN]
    · have hx : PA h_113 i ((pushL L r).getD i r00) := by
        by_cases e : i = n
        · rw [pushL_at l2 hi, if_pos (by omega), e]
          refine PA.set (a := 0) (b := 0) e_94 e_113 (fun k hk => ?_) (fun k hk => ?_)
          · have z := k_94 k hk
            rw [Nat.zero_add] at z
            exact z.trans (hmH.1 k hk)
          · have z := k_113 k hk
            rw [Nat.zero_add, e_94.J (by unfold btw; omega)] at z
            exact z.trans (hmH.2 k hk)
        · exact (hP i (by omega)).keep (i := n) e e_94 e_113 o_94 o_113
      exact hx.cgH (eqx.rf.sI (S := fun i => i = 723) rfl) (by decide) (by decide)
  
  
  rw [l1]
  refine r_bipush (10) dX9_remembers_4 (by decide) ?_
  refine r_icmp_ne 77 dX9_remembers_6 (by decide) (fun c_6 => ?_) (fun c_6 => ?_)
  · first
      | (have hlt : L.length ≠ 10 := fun q => c_6 (by rw [q]; rfl)
         rw [if_neg hlt] at hpl
         refine key h L.length none hW eqx.rf (by omega) (by omega) l1 (fun _ _ => rfl) (fun i hi => ?_)
         rw [pushL_at l2 (by omega), if_neg (by omega), if_neg hlt]
         exact l3 i hi)
  · refine r_iconst (1) dX9_remembers_9 (by decide) ?_
    refine r_istore_n (ls2 := [some _, _]) dX9_remembers_10 (by decide) rfl ?_
    have h10 : L.length = 10 := (nI_eq (b := 10) (by omega) (by decide)).mp (by first | exact c_6 | simpa using c_6)
    rw [if_pos h10] at hpl
    refine loopN (P := fun i => ∀ H : AH, 1 ≤ i → i ≤ 10 → World H → eqx h H RM → aI H 723 = aI h 723 → (∀ j, j < 10 → PA H j (if j + 1 < i then L.getD (j + 1) r00 else L.getD j r00)) → PW l9 G mX9_remembers _ _ NT 11 [some (.ref 723), some (.int (nI i))] [] (0, 0) H) 10 (fun i ih H hi1 hi hW he h9 hP => ?_) 1 h (by decide) (by decide) hW eqx.rf rfl (fun j hj => by rw [if_neg (by omega)]; exact l3 j (by omega))
    refine r_iload_n dX9_remembers_11 rfl ?_
    refine r_bipush (10) dX9_remembers_12 (by decide) ?_
    refine r_icmp_ge 67 dX9_remembers_14 (by decide) (fun c_14 => ?_) (fun c_14 => ?_)
    · have hge : 10 = i := by have := (nI_leI (a := 10) (by omega) (by omega)).mp c_14; omega
      subst hge
      refine r_aload_n dX9_remembers_67 rfl ?_
      refine r_dup dX9_remembers_68 rfl ?_
      refine q_getI fl_X9_71 hW kc_723 rfl dX9_remembers_69 ?_
      refine r_iconst (1) dX9_remembers_72 (by decide) ?_
      rw [show aI H 723 10 = nI 10 from by rw [h9, l1, h10]]
      refine r_isub dX9_remembers_73 ?_
      refine q_putI fl_X9_71 hW kc_723 rfl rfl dX9_remembers_74 ?_
      have hs : eqx H (sI H 723 10 9) (fun i => i = 723) := eqx.rf.sI rfl
      refine key _ 9 _ (hs.W hW) (he.tr (hs.wk (fun i zi => Or.inl zi))) (by omega) (by decide) sI_s (fun k hk => by rw [sI_k hk, h9]) (fun j hj => ?_)
      have hr := hP j (by omega)
      rw [if_pos (by omega)] at hr
      rw [pushL_at l2 (by omega), if_neg (by omega), if_pos h10]
      exact hr.cgH hs (by decide) (by decide)
    · have hlt : i < 10 := (nI_ltI (b := 10) (by omega) (by omega)).mp (i_lt.mp c_14)
      refine r_aload_n dX9_remembers_17 rfl ?_
      refine q_getR fl_X9_22 hW kc_723 rfl (kl_9_4 hW) (by decide) dX9_remembers_18 ?_
      refine r_sipush (964) dX9_remembers_21 (by decide) ?_
      refine r_iload_n dX9_remembers_24 rfl ?_
      refine r_imul dX9_remembers_25 ?_
      refine r_aload_n dX9_remembers_26 rfl ?_
      refine q_getR fl_X9_22 hW kc_723 rfl (kl_9_4 hW) (by decide) dX9_remembers_27 ?_
      refine r_sipush (964) dX9_remembers_30 (by decide) ?_
      refine r_iload_n dX9_remembers_33 rfl ?_
      refine r_iconst (1) dX9_remembers_34 (by decide) ?_
      refine r_isub dX9_remembers_35 ?_
      refine r_imul dX9_remembers_36 ?_
      refine q_callS4 (cs_X9_copies ml_X9_74) ⟨rfl, rfl⟩ rfl (Nat.le_of_ble_eq_true rfl) dX9_remembers_37 (c_X9_copies hW kc_728 kc_728 (Or.inr (by omega)) (nmul kn_964 rfl) (nmul kn_964 (nsub rfl kn_1 (by omega))) (by omega) (by omega) (by decide) (by decide)) (fun v_37 h_37 q_37 => ?_)
      obtain ⟨rfl, e_37, k_37, o_37⟩ := q_37
      have hW := e_37.W hW
      refine r_aload_n dX9_remembers_40 rfl ?_
      refine q_getR fl_X9_38 hW kc_723 rfl (kl_9_9 hW) (by decide) dX9_remembers_41 ?_
      refine r_bipush (24) dX9_remembers_44 (by decide) ?_
      refine r_iload_n dX9_remembers_46 rfl ?_
      refine r_imul dX9_remembers_47 ?_
      refine r_aload_n dX9_remembers_48 rfl ?_
      refine q_getR fl_X9_38 hW kc_723 rfl (kl_9_9 hW) (by decide) dX9_remembers_49 ?_
      refine r_bipush (24) dX9_remembers_52 (by decide) ?_
      refine r_iload_n dX9_remembers_54 rfl ?_
      refine r_iconst (1) dX9_remembers_55 (by decide) ?_
      refine r_isub dX9_remembers_56 ?_
      refine r_imul dX9_remembers_57 ?_
      refine q_callS4 (cs_X9_copies_ ml_X9_78) ⟨rfl, rfl⟩ rfl (Nat.le_of_ble_eq_true rfl) dX9_remembers_58 (c_X9_copies_ hW kc_733 kc_733 (Or.inr (by omega)) (nmul kn_24 rfl) (nmul kn_24 (nsub rfl kn_1 (by omega))) (by omega) (by omega) (by decide) (by decide)) (fun v_58 h_58 q_58 => ?_)
      obtain ⟨rfl, e_58, k_58, o_58⟩ := q_58
      have hW := e_58.W hW
      refine r_iinc (1) (by decide) (ls2 := [some _, _]) dX9_remembers_61 rfl (by decide) rfl ?_
      refine r_goto 11 dX9_remembers_64 (by decide) ?_
      rw [nI_1]
      refine ih hlt _ (by omega) hlt hW ((he.tr (e_37.wk (fun i zi => by unfold btw RM at *; omega))).tr (e_58.wk (fun i zi => by unfold btw RM at *; omega))) (by rw [e_58.I (by unfold btw; omega), e_37.I (by unfold btw; omega)]; exact h9) (fun j hj => ?_)
      by_cases e : j = i - 1
      · rw [if_pos (by omega)]
        have hr := hP i hlt
        rw [if_neg (by omega)] at hr
        rw [e, show i - 1 + 1 = i from by omega]
        exact PA.set (a := 0) (b := 0) e_37 e_58 (fun k hk => (k_37 k hk).trans (hr.1 k hk)) (fun k hk => (k_58 k hk).trans (by rw [e_37.J (by unfold btw; omega)]; exact hr.2 k hk))
      · have hr := (hP j hj).keep (i := i - 1) e e_37 e_58 o_37 o_58
        by_cases q : j + 1 < i
        · rw [if_pos q] at hr; rw [if_pos (by omega)]; exact hr
        · rw [if_neg q] at hr; rw [if_neg (by omega)]; exact hr
