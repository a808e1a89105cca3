-- output: numbers, what is printed of a pool
theorem lg9_sp (v : Nat) : lg9 v ≤ 9 ∧ (lg9 v = 0 ∨ 10 ^ lg9 v ≤ v) ∧ ∀ j, lg9 v < j → j ≤ 9 → v < 10 ^ j := lgT_le v 9
theorem lg9_8 {v : Nat} (h : v < 2 ^ 28) : lg9 v ≤ 8 := by
  obtain ⟨h1, h2, h3⟩ := lg9_sp v
  rcases h2 with q | q
  · omega
  · rcases Nat.lt_or_ge (lg9 v) 9 with z | z
    · omega
    · have e : lg9 v = 9 := by omega
      rw [e] at q
      omega
theorem p10_le {k : Nat} (h : k ≤ 8) : 10 ^ k ≤ 10 ^ 8 := Nat.pow_le_pow_right (by decide) h
theorem p10_pos (k : Nat) : 0 < 10 ^ k := Nat.pow_pos (by decide)
theorem lg_step {v k : Nat} (hk : k ≤ lg9 v) (hv : v < 2 ^ 28) : 10 ≤ v / 10 ^ k ↔ k < lg9 v := by
  obtain ⟨h1, h2, h3⟩ := lg9_sp v
  have h8 := lg9_8 hv
  rw [div10]
  constructor
  · intro q
    rcases Nat.lt_or_ge k (lg9 v) with z | z
    · exact z
    · have := h3 (k + 1) (by omega) (by omega)
      omega
  · intro q
    rcases h2 with z | z
    · omega
    · exact Nat.le_trans (Nat.pow_le_pow_right (by decide) (by omega)) z
theorem dg_b : ∀ d : Nat, d < 10 → vp_nar .byte (nI (48 + d)).toInt8.toInt32 = nI (48 + d) := by decide +kernel
abbrev Ob : Type := (Nat → Int32) × Nat
def wrO (o : Ob) (v : Nat) : Ob := (wrN o.1 o.2 v (lg9 v + 1), o.2 + (lg9 v + 1))
def byO (o : Ob) (x : Int32) : Ob := (upd o.1 o.2 x, o.2 + 1)
def OC (h : AH) (o : Ob) : Prop := OuC h o.1 o.2
def OR (h : AH) (o : Ob) : Prop := OuR h o.1 o.2
def OSc : Nat → Prop := fun i => i = 5 ∨ i = 6
def OSr : Nat → Prop := fun i => i = 723 ∨ i = 736
theorem OC.by {h : AH} {o : Ob} {x : Int32} (h1 : OuC h (CPoolScalerLaw_law_r4467_227dc4.upd o.1 o.2 x) (o.2 + 1)) : OC h (byO o x) := h1
set_option maxRecDepth 100000 in
set_option maxHeartbeats 4000000 in
theorem c_X9_write {l9 : Launch} {G : GC} {h : AH} {o : Ob} {x : Int32} (hW : World h) (ho : OR h o) (hn : o.2 < 300) : PM l9 G mX9_write NT NT [.ref 723, .int x] h (fun v h' => v = none ∧ eqx h h' OSr ∧ (∀ k, k ≠ 29 → aI h' 723 k = aI h 723 k) ∧ OR h' (byO o x)) noX := by
  refine PM.of (by decide +kernel) rfl rfl (Nat.le_of_ble_eq_true rfl) (fun hst _ => ?_)
  refine r_aload_n dX9_write_0 rfl ?_
  refine q_getR fl_X9_51 hW kc_723 rfl (kl_9_28 hW) (by decide) dX9_write_1 ?_
  refine r_aload_n dX9_write_4 rfl ?_
  refine q_getI fl_X9_379 hW kc_723 rfl dX9_write_5 ?_
  rw [ho.1]
  refine r_iload_n dX9_write_8 rfl ?_
  refine q_iast hW kc_736 (k := o.2) rfl (by omega) (by decide) dX9_write_9 ?_
  refine r_aload_n dX9_write_10 rfl ?_
  refine r_dup dX9_write_11 rfl ?_
  refine q_getI fl_X9_379 hW kc_723 rfl dX9_write_12 ?_
  rw [sI_o (by decide), ho.1]
  refine r_iconst (1) dX9_write_15 (by decide) ?_
  refine r_iadd dX9_write_16 ?_
  rw [nI_1]
  refine q_putI fl_X9_379 hW kc_723 rfl rfl dX9_write_17 ?_
  refine r_vret dX9_write_20 rfl ⟨Nat.zero_le _, Nat.zero_le _⟩ ?_
  refine ⟨rfl, (eqx.rf.sI (Or.inr rfl)).sI (Or.inl rfl), fun k hk => by rw [sI_k hk, sI_o (by decide)], sI_s, by show o.2 + 1 ≤ 300; omega, fun i hi => ?_⟩
  rw [sI_o (by decide), sI_r]
  have hi' : i < o.2 + 1 := hi
  by_cases e : i = o.2
  · rw [e, pk_us]; exact pk_us.symm
  · rw [pk_un e]; exact (ho.2.2 i (by omega)).trans (pk_un e).symm

set_option maxRecDepth 100000 in
set_option maxHeartbeats 4000000 in
theorem c_X2_addByteO {l9 : Launch} {G : GC} {h : AH} {o : Ob} {x : Int32} (hW : World h) (ho : OC h o) (hn : o.2 < 300) (hx : vp_nar .byte x.toInt8.toInt32 = x) : PM l9 G mX2_addByte NT NT [.ref 5, .int x] h (fun v h' => v = none ∧ eqx h h' OSc ∧ OC h' (byO o x)) noX := c_X2_addByte hW ho hn hx
set_option maxRecDepth 100000 in
set_option maxHeartbeats 4000000 in
theorem c_X2_addNumber {l9 : Launch} {G : GC} {h : AH} {o : Ob} {v9 : Nat} {x : Int32} (hW : World h) (ho : OC h o) (hv : v9 < 2 ^ 28) (hx : x = nI v9) (hn : o.2 + 10 ≤ 300) : PM l9 G mX2_addNumber NT NT [.ref 5, .int x] h (fun v h' => v = none ∧ eqx h h' OSc ∧ OC h' (wrO o v9)) noX := by
  refine PM.of (by decide +kernel) rfl rfl (Nat.le_of_ble_eq_true rfl) (fun hst _ => ?_)
  have h8 := lg9_8 hv
  have hne : ∀ n : Nat, 0 < n → n ≤ 10 ^ 8 → ¬ nI n = (0 : Int32) := fun n h1 h2 q => absurd ((nI_eq (b := 0) (by omega) (by decide)).mp q) (by omega)
  refine r_iconst (1) dX2_addNumber_0 (by decide) ?_
  refine r_istore_n (ls2 := [_, some _, _, _]) dX2_addNumber_1 (by decide) rfl ?_
  refine r_iconst (1) dX2_addNumber_2 (by decide) ?_
  refine r_istore_n (ls2 := [_, _, some _, _]) dX2_addNumber_3 (by decide) rfl ?_
  refine loopN (P := fun k => k ≤ lg9 v9 → PW l9 G mX2_addNumber _ _ NT 4 [some (.ref 5), some (.int x), some (.int (nI (10 ^ k))), some (.int (nI (k + 1)))] [] (0, 0) h) (lg9 v9) (fun k ih hk => ?_) 0 (Nat.zero_le _)
  have hpp := p10_pos k
  have hp8 := p10_le (k := k) (by omega)
  have hdv := Nat.div_le_self v9 (10 ^ k)
  refine r_iload_n dX2_addNumber_4 rfl ?_
  refine r_bipush (10) dX2_addNumber_5 (by decide) ?_
  refine r_icmp_ge 29 dX2_addNumber_7 (by decide) (fun c_7 => ?_) (fun c_7 => ?_)
  · exact absurd ((nI_leI (a := 10) (by decide) (by omega)).mp c_7) (by omega)
  · refine r_iload_n dX2_addNumber_10 rfl ?_
    refine r_iload_n dX2_addNumber_11 rfl ?_
    refine r_idiv dX2_addNumber_12 (hne _ hpp hp8) ?_
    refine r_bipush (10) dX2_addNumber_13 (by decide) ?_
    rw [show x / nI (10 ^ k) = nI (v9 / 10 ^ k) from ndiv hx rfl (by omega) hpp (by omega)]
    refine r_icmp_lt 29 dX2_addNumber_15 (by decide) (fun c_15 => ?_) (fun c_15 => ?_)
    · have hge : k = lg9 v9 := by
        have q := (nI_ltI (b := 10) (by omega) (by decide)).mp c_15
        have := (not_congr (lg_step hk hv)).mp (by omega)
        omega
      subst hge
      refine loopN (P := fun j => ∀ (H : AH) (z3 : Option Value), j ≤ lg9 v9 + 1 → World H → eqx h H OSc → OC H (wrN o.1 o.2 v9 j, o.2 + j) → PW l9 G mX2_addNumber _ _ NT 29 [some (.ref 5), some (.int x), some (.int (if j ≤ lg9 v9 then nI (10 ^ (lg9 v9 - j)) else 0)), z3] [] _ H) (lg9 v9 + 1) (fun j ih H z3 hj hW he ho => ?_) 0 h _ (Nat.zero_le _) hW eqx.rf ho
      rcases Nat.lt_or_ge j (lg9 v9 + 1) with hjn | hjn
      · rw [if_pos (by omega)]
        have hpp := p10_pos (lg9 v9 - j)
        have hp8 := p10_le (k := lg9 v9 - j) (by omega)
        have hoj : OC H (wrN o.1 o.2 v9 j, o.2 + j) := ho
        have hon : o.2 + j < 300 := by omega
        refine r_iload_n dX2_addNumber_29 rfl ?_
        refine r_if_le 54 dX2_addNumber_30 (by decide) (fun c_30 => ?_) (fun c_30 => ?_)
        · exact absurd c_30 (by rw [Int32.not_le]; exact (nI_ltI (a := 0) (by decide) (by omega)).mpr hpp)
        · refine r_aload_n dX2_addNumber_33 rfl ?_
          refine r_bipush (48) dX2_addNumber_34 (by decide) ?_
          refine r_iload_n dX2_addNumber_36 rfl ?_
          refine r_iload_n dX2_addNumber_37 rfl ?_
          refine r_idiv dX2_addNumber_38 (hne _ hpp hp8) ?_
          refine r_bipush (10) dX2_addNumber_39 (by decide) ?_
          refine r_irem dX2_addNumber_41 (by decide) ?_
          have hmod := Nat.mod_lt (v9 / 10 ^ (lg9 v9 - j)) (show 0 < 10 by decide)
          rw [show x / nI (10 ^ (lg9 v9 - j)) = nI (v9 / 10 ^ (lg9 v9 - j)) from ndiv hx rfl (by omega) hpp (by omega)]
          rw [nrem (a := v9 / 10 ^ (lg9 v9 - j)) (b := 10) rfl kn_10 (by have := Nat.div_le_self v9 (10 ^ (lg9 v9 - j)); omega) (by decide) (by decide)]
          refine r_iadd dX2_addNumber_42 ?_
          rw [show (48 : Int32) + nI (v9 / 10 ^ (lg9 v9 - j) % 10) = nI (dgt v9 (lg9 v9 - j)) from nadd kn_48 rfl]
          have hdb : vp_nar .byte (nI (dgt v9 (lg9 v9 - j))).toInt8.toInt32 = nI (dgt v9 (lg9 v9 - j)) := dg_b _ hmod
          refine q_callV1 (cv_X2_addByte ml_X2_19) hW kc_5 (by decide) rfl ⟨rfl, rfl⟩ rfl (Nat.le_of_ble_eq_true rfl) dX2_addNumber_43 (c_X2_addByteO hW ho (by omega) hdb) (fun v_43 h_43 q_43 => ?_)
          obtain ⟨rfl, eB, hoB⟩ := q_43
          have hW := eB.W hW
          refine r_iload_n dX2_addNumber_46 rfl ?_
          refine r_bipush (10) dX2_addNumber_47 (by decide) ?_
          refine r_idiv dX2_addNumber_49 (by decide) ?_
          refine r_istore_n (ls2 := [_, some _, _, _]) dX2_addNumber_50 (by decide) rfl ?_
          refine r_goto 29 dX2_addNumber_51 (by decide) ?_
          have hth := ih hjn
          have hnx : (nI (10 ^ (lg9 v9 - j)) / 10 : Int32) = if j + 1 ≤ lg9 v9 then nI (10 ^ (lg9 v9 - (j + 1))) else 0 := by
            rw [ndiv (a := 10 ^ (lg9 v9 - j)) (b := 10) rfl kn_10 (by omega) (by decide) (by decide)]
            by_cases q : j + 1 ≤ lg9 v9
            · rw [if_pos q, show lg9 v9 - j = lg9 v9 - (j + 1) + 1 from by omega, Nat.pow_succ, Nat.mul_div_cancel _ (by decide)]
            · rw [if_neg q, show lg9 v9 - j = 0 from by omega]; rfl
          rw [hnx]
          exact hth _ z3 (by omega) hW (he.tr eB) hoB
      · have ej : j = lg9 v9 + 1 := by omega
        subst ej
        rw [if_neg (by omega)]
        have ho9 : OC H (wrO o v9) := ho
        refine r_iload_n dX2_addNumber_29 rfl ?_
        refine r_if_le 54 dX2_addNumber_30 (by decide) (fun c_30 => ?_) (fun c_30 => ?_)
        · refine r_vret dX2_addNumber_54 rfl ⟨Nat.zero_le _, Nat.zero_le _⟩ ?_
          exact ⟨rfl, he, ho9⟩
        · exact absurd (by decide) c_30
    · refine r_iload_n dX2_addNumber_18 rfl ?_
      refine r_bipush (10) dX2_addNumber_19 (by decide) ?_
      refine r_imul dX2_addNumber_21 ?_
      refine r_istore_n (ls2 := [_, some _, _, _]) dX2_addNumber_22 (by decide) rfl ?_
      refine r_iinc (1) (by decide) (ls2 := [_, _, some _, _]) dX2_addNumber_23 rfl (by decide) rfl ?_
      refine r_goto 4 dX2_addNumber_26 (by decide) ?_
      have hlt : k < lg9 v9 := (lg_step hk hv).mp ((nI_leI (a := 10) (by decide) (by omega)).mp (Int32.not_lt.mp c_15))
      rw [nI_1, nmul rfl kn_10, ← Nat.pow_succ]
      exact ih hlt hlt

set_option maxRecDepth 100000 in
set_option maxHeartbeats 4000000 in
theorem c_X9_writeNumber {l9 : Launch} {G : GC} {h : AH} {o : Ob} {v9 : Nat} {x : Int32} (hW : World h) (ho : OR h o) (hv : v9 < 2 ^ 28) (hx : x = nI v9) (hn : o.2 + 10 ≤ 300) : PM l9 G mX9_writeNumber NT NT [.ref 723, .int x] h (fun v h' => v = none ∧ eqx h h' OSr ∧ (∀ k, k ≠ 29 → aI h' 723 k = aI h 723 k) ∧ OR h' (wrO o v9)) noX := by
  refine PM.of (by decide +kernel) rfl rfl (Nat.le_of_ble_eq_true rfl) (fun hst _ => ?_)
  have h8 := lg9_8 hv
  have hne : ∀ n : Nat, 0 < n → n ≤ 10 ^ 8 → ¬ nI n = (0 : Int32) := fun n h1 h2 q => absurd ((nI_eq (b := 0) (by omega) (by decide)).mp q) (by omega)
  refine r_iconst (1) dX9_writeNumber_0 (by decide) ?_
  refine r_istore_n (ls2 := [_, some _, _]) dX9_writeNumber_1 (by decide) rfl ?_
  refine loopN (P := fun k => k ≤ lg9 v9 → PW l9 G mX9_writeNumber _ _ NT 2 [some (.ref 723), some (.int x), some (.int (nI (10 ^ k)))] [] (0, 0) h) (lg9 v9) (fun k ih hk => ?_) 0 (Nat.zero_le _)
  have hpp := p10_pos k
  have hp8 := p10_le (k := k) (by omega)
  have hdv := Nat.div_le_self v9 (10 ^ k)
  refine r_iload_n dX9_writeNumber_2 rfl ?_
  refine r_iload_n dX9_writeNumber_3 rfl ?_
  refine r_idiv dX9_writeNumber_4 (hne _ hpp hp8) ?_
  rw [show x / nI (10 ^ k) = nI (v9 / 10 ^ k) from ndiv hx rfl (by omega) hpp (by omega)]
  refine r_bipush (9) dX9_writeNumber_5 (by decide) ?_
  refine r_icmp_le 18 dX9_writeNumber_7 (by decide) (fun c_7 => ?_) (fun c_7 => ?_)
  · have hge : k = lg9 v9 := by
      have q := (nI_leI (b := 9) (by omega) (by decide)).mp c_7
      have := (not_congr (lg_step hk hv)).mp (by omega)
      omega
    subst hge
    refine loopN (P := fun j => ∀ (H : AH), j ≤ lg9 v9 + 1 → World H → eqx h H OSr → (∀ k, k ≠ 29 → aI H 723 k = aI h 723 k) → OR H (wrN o.1 o.2 v9 j, o.2 + j) → PW l9 G mX9_writeNumber _ _ NT 18 [some (.ref 723), some (.int x), some (.int (if j ≤ lg9 v9 then nI (10 ^ (lg9 v9 - j)) else 0))] [] _ H) (lg9 v9 + 1) (fun j ih H hj hW he hf ho => ?_) 0 h (Nat.zero_le _) hW eqx.rf (fun _ _ => rfl) ho
    rcases Nat.lt_or_ge j (lg9 v9 + 1) with hjn | hjn
    · rw [if_pos (by omega)]
      have hpp := p10_pos (lg9 v9 - j)
      have hp8 := p10_le (k := lg9 v9 - j) (by omega)
      have hoj : OR H (wrN o.1 o.2 v9 j, o.2 + j) := ho
      have hon : o.2 + j < 300 := by omega
      refine r_iload_n dX9_writeNumber_18 rfl ?_
      refine r_if_le 43 dX9_writeNumber_19 (by decide) (fun c_19 => ?_) (fun c_19 => ?_)
      · exact absurd c_19 (by rw [Int32.not_le]; exact (nI_ltI (a := 0) (by decide) (by omega)).mpr hpp)
      · refine r_aload_n dX9_writeNumber_22 rfl ?_
        refine r_bipush (48) dX9_writeNumber_23 (by decide) ?_
        refine r_iload_n dX9_writeNumber_25 rfl ?_
        refine r_iload_n dX9_writeNumber_26 rfl ?_
        refine r_idiv dX9_writeNumber_27 (hne _ hpp hp8) ?_
        refine r_bipush (10) dX9_writeNumber_28 (by decide) ?_
        refine r_irem dX9_writeNumber_30 (by decide) ?_
        have hmod := Nat.mod_lt (v9 / 10 ^ (lg9 v9 - j)) (show 0 < 10 by decide)
        rw [show x / nI (10 ^ (lg9 v9 - j)) = nI (v9 / 10 ^ (lg9 v9 - j)) from ndiv hx rfl (by omega) hpp (by omega)]
        rw [nrem (a := v9 / 10 ^ (lg9 v9 - j)) (b := 10) rfl kn_10 (by have := Nat.div_le_self v9 (10 ^ (lg9 v9 - j)); omega) (by decide) (by decide)]
        refine r_iadd dX9_writeNumber_31 ?_
        rw [show (48 : Int32) + nI (v9 / 10 ^ (lg9 v9 - j) % 10) = nI (dgt v9 (lg9 v9 - j)) from nadd kn_48 rfl]
        have hdb : vp_nar .byte (nI (dgt v9 (lg9 v9 - j))).toInt8.toInt32 = nI (dgt v9 (lg9 v9 - j)) := dg_b _ hmod
        refine q_callV1 (cv_X9_write ml_X9_382) hW kc_723 (by decide) rfl ⟨rfl, rfl⟩ rfl (Nat.le_of_ble_eq_true rfl) dX9_writeNumber_32 (c_X9_write hW ho (by omega)) (fun v_32 h_32 q_32 => ?_)
        obtain ⟨rfl, eB, fB, hoB⟩ := q_32
        have hW := eB.W hW
        refine r_iload_n dX9_writeNumber_35 rfl ?_
        refine r_bipush (10) dX9_writeNumber_36 (by decide) ?_
        refine r_idiv dX9_writeNumber_38 (by decide) ?_
        refine r_istore_n (ls2 := [_, some _, _]) dX9_writeNumber_39 (by decide) rfl ?_
        refine r_goto 18 dX9_writeNumber_40 (by decide) ?_
        have hth := ih hjn
        have hnx : (nI (10 ^ (lg9 v9 - j)) / 10 : Int32) = if j + 1 ≤ lg9 v9 then nI (10 ^ (lg9 v9 - (j + 1))) else 0 := by
          rw [ndiv (a := 10 ^ (lg9 v9 - j)) (b := 10) rfl kn_10 (by omega) (by decide) (by decide)]
          by_cases q : j + 1 ≤ lg9 v9
          · rw [if_pos q, show lg9 v9 - j = lg9 v9 - (j + 1) + 1 from by omega, Nat.pow_succ, Nat.mul_div_cancel _ (by decide)]
          · rw [if_neg q, show lg9 v9 - j = 0 from by omega]; rfl
        rw [hnx]
        exact hth _ (by omega) hW (he.tr eB) (fun k hk => (fB k hk).trans (hf k hk)) hoB
    · have ej : j = lg9 v9 + 1 := by omega
      subst ej
      rw [if_neg (by omega)]
      have ho9 : OR H (wrO o v9) := ho
      refine r_iload_n dX9_writeNumber_18 rfl ?_
      refine r_if_le 43 dX9_writeNumber_19 (by decide) (fun c_19 => ?_) (fun c_19 => ?_)
      · refine r_vret dX9_writeNumber_43 rfl ⟨Nat.zero_le _, Nat.zero_le _⟩ ?_
        exact ⟨rfl, he, hf, ho9⟩
      · exact absurd (by decide) c_19
  · refine r_iload_n dX9_writeNumber_10 rfl ?_
    refine r_bipush (10) dX9_writeNumber_11 (by decide) ?_
    refine r_imul dX9_writeNumber_13 ?_
    refine r_istore_n (ls2 := [_, some _, _]) dX9_writeNumber_14 (by decide) rfl ?_
    refine r_goto 2 dX9_writeNumber_15 (by decide) ?_
    have hlt : k < lg9 v9 := (lg_step hk hv).mp (by have := (not_congr (nI_leI (b := 9) (by omega) (by decide))).mp c_7; omega)
    rw [nmul rfl kn_10, ← Nat.pow_succ]
    exact ih hlt hlt
