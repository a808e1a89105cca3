-- the reference's reader: bytes, tokens
/-- a byte of the reference, 0 .. 255, and the class's -/
def agB (x y : Int32) : Prop := (x = y ∧ 0 ≤ y) ∨ (y < 0 ∧ 127 < x)
def InB (h : AH) (b : Nat → Int32) (n : Nat) : Prop := aI h 723 14 = nI n ∧ n ≤ 700 ∧ ∀ i, i < n → agB (aI h 734 i) (b i)
abbrev S9 : Nat → Prop := fun i => i = 723
theorem agB.rng {x y : Int32} (h : agB x y) {lo hi : Nat} (hh : hi ≤ 127) (hl : lo ≤ 127 := by decide) : (nI lo ≤ x ∧ x ≤ nI hi) ↔ (nI lo ≤ y ∧ y ≤ nI hi) := by
  rcases h with ⟨rfl, -⟩ | ⟨h1, h2⟩
  · exact Iff.rfl
  · refine ⟨fun q => ?_, fun q => ?_⟩
    · have z : (127 : Int32) < nI hi := Int32.lt_of_lt_of_le h2 q.2
      exact absurd ((nI_ltI (a := 127) (b := hi) (by decide) (by omega)).mp z) (by omega)
    · have z := Int32.lt_of_le_of_lt q.1 h1
      exact absurd z (nI_pos (n := lo) (by omega))
theorem agB.eq {x y : Int32} (h : agB x y) {k : Nat} (hk : k ≤ 127) : x = nI k ↔ y = nI k := by
  rcases h with ⟨rfl, -⟩ | ⟨h1, h2⟩
  · exact Iff.rfl
  · refine ⟨fun q => ?_, fun q => ?_⟩
    · rw [q] at h2
      exact absurd ((nI_ltI (a := 127) (b := k) (by decide) (by omega)).mp h2) (by omega)
    · rw [q] at h1
      exact absurd h1 (nI_pos (by omega))
theorem agB.nn {x y : Int32} (h : agB x y) : x ≠ -1 := by
  rcases h with ⟨rfl, h2⟩ | ⟨h1, h2⟩
  · intro q
    rw [q] at h2
    exact absurd h2 (by decide)
  · intro q
    rw [q] at h2
    exact absurd h2 (by decide)
theorem rnB_fu {b : Nat → Int32} {n k : Nat} (hk : k ≠ 0) : ∀ f i, n ≤ i + f → rnB b n k f i = rnB b n k (f + 1) i
  | 0, i, h => by
    show i = (if kdB b n i = k then rnB b n k 0 (i + 1) else i)
    rw [kdB_out (by omega), if_neg (fun q => hk q.symm)]
  | f + 1, i, h => by
    show (if kdB b n i = k then rnB b n k f (i + 1) else i) = (if kdB b n i = k then rnB b n k (f + 1) (i + 1) else i)
    rw [rnB_fu hk f (i + 1) (by omega)]
theorem kdB_1 {b : Nat → Int32} {n i : Nat} : kdB b n i = 1 ↔ i < n ∧ 97 ≤ b i ∧ b i ≤ 122 := by
  unfold kdB
  by_cases h : i < n
  · rw [if_pos h]
    by_cases h1 : 97 ≤ b i ∧ b i ≤ 122
    · rw [if_pos h1]; exact ⟨fun _ => ⟨h, h1⟩, fun _ => rfl⟩
    · rw [if_neg h1]
      refine ⟨fun q => ?_, fun q => absurd q.2 h1⟩
      revert q
      repeat (first | exact fun z => absurd z (by decide) | split)
  · rw [if_neg h]; exact ⟨fun q => absurd q (by decide), fun q => absurd q.1 h⟩
theorem kdB_2 {b : Nat → Int32} {n i : Nat} : kdB b n i = 2 ↔ i < n ∧ 48 ≤ b i ∧ b i ≤ 57 := by
  unfold kdB
  by_cases h : i < n
  · rw [if_pos h]
    by_cases h1 : 97 ≤ b i ∧ b i ≤ 122
    · rw [if_pos h1]
      refine ⟨fun q => absurd q (by decide), fun q => ?_⟩
      exact absurd (Int32.le_trans h1.1 q.2.2) (by decide)
    · rw [if_neg h1]
      by_cases h2 : 48 ≤ b i ∧ b i ≤ 57
      · rw [if_pos h2]; exact ⟨fun _ => ⟨h, h2⟩, fun _ => rfl⟩
      · rw [if_neg h2]
        refine ⟨fun q => ?_, fun q => absurd q.2 h2⟩
        revert q
        repeat (first | exact fun z => absurd z (by decide) | split)
  · rw [if_neg h]; exact ⟨fun q => absurd q (by decide), fun q => absurd q.1 h⟩
theorem kdB_4 {b : Nat → Int32} {n i : Nat} : kdB b n i = 4 ↔ i < n ∧ (b i = 32 ∨ b i = 10) := by
  unfold kdB
  by_cases h : i < n
  · rw [if_pos h]
    by_cases h1 : b i = 32 ∨ b i = 10
    · have n1 : ¬ (97 ≤ b i ∧ b i ≤ 122) := fun q => by rcases h1 with z | z <;> rw [z] at q <;> exact absurd q.1 (by decide)
      have n2 : ¬ (48 ≤ b i ∧ b i ≤ 57) := fun q => by rcases h1 with z | z <;> rw [z] at q <;> exact absurd q.1 (by decide)
      rw [if_neg n1, if_neg n2, if_pos h1]; exact ⟨fun _ => ⟨h, h1⟩, fun _ => rfl⟩
    · refine ⟨fun q => ?_, fun q => absurd q.2 h1⟩
      rw [if_neg h1] at q
      revert q
      repeat (first | exact fun z => absurd z (by decide) | split)
  · rw [if_neg h]; exact ⟨fun q => absurd q (by decide), fun q => absurd q.1 h⟩
theorem kdB_3 {b : Nat → Int32} {n i : Nat} : kdB b n i = 3 ↔ i < n ∧ b i = 59 := by
  unfold kdB
  by_cases h : i < n
  · rw [if_pos h]
    by_cases h1 : b i = 59
    · have n1 : ¬ (97 ≤ b i ∧ b i ≤ 122) := fun q => by rw [h1] at q; exact absurd q.1 (by decide)
      have n2 : ¬ (48 ≤ b i ∧ b i ≤ 57) := fun q => by rw [h1] at q; exact absurd q.2 (by decide)
      have n3 : ¬ (b i = 32 ∨ b i = 10) := fun q => by rw [h1] at q; exact absurd q (by decide)
      rw [if_neg n1, if_neg n2, if_neg n3, if_pos h1]; exact ⟨fun _ => ⟨h, h1⟩, fun _ => rfl⟩
    · refine ⟨fun q => ?_, fun q => absurd q.2 h1⟩
      rw [if_neg h1] at q
      revert q
      repeat (first | exact fun z => absurd z (by decide) | split)
  · rw [if_neg h]; exact ⟨fun q => absurd q (by decide), fun q => absurd q.1 h⟩
/-- the byte at i, -1 behind the text -/
def byR (h : AH) (n i : Nat) : Int32 := if i < n then aI h 734 i else -1
theorem by_1 {h : AH} {b : Nat → Int32} {n i : Nat} (hi : InB h b n) : (97 ≤ byR h n i ∧ byR h n i ≤ 122) ↔ kdB b n i = 1 := by
  rw [kdB_1]
  unfold byR
  by_cases q : i < n
  · rw [if_pos q]
    exact (agB.rng (hi.2.2 i q) (lo := 97) (hi := 122) (by decide)).trans ⟨fun z => ⟨q, z⟩, fun z => z.2⟩
  · rw [if_neg q]; exact ⟨fun z => absurd z.1 (by decide), fun z => absurd z.1 q⟩
theorem by_2 {h : AH} {b : Nat → Int32} {n i : Nat} (hi : InB h b n) : (48 ≤ byR h n i ∧ byR h n i ≤ 57) ↔ kdB b n i = 2 := by
  rw [kdB_2]
  unfold byR
  by_cases q : i < n
  · rw [if_pos q]
    exact (agB.rng (hi.2.2 i q) (lo := 48) (hi := 57) (by decide)).trans ⟨fun z => ⟨q, z⟩, fun z => z.2⟩
  · rw [if_neg q]; exact ⟨fun z => absurd z.1 (by decide), fun z => absurd z.1 q⟩
theorem by_e {h : AH} {b : Nat → Int32} {n i k : Nat} (hi : InB h b n) (hk : k ≤ 127) : byR h n i = nI k ↔ i < n ∧ b i = nI k := by
  unfold byR
  by_cases q : i < n
  · rw [if_pos q]
    exact (agB.eq (hi.2.2 i q) hk).trans ⟨fun z => ⟨q, z⟩, fun z => z.2⟩
  · rw [if_neg q]
    refine ⟨fun z => ?_, fun z => absurd z.1 q⟩
    exact absurd (nI_pos (n := k) (by omega)) (by rw [← z]; decide)
theorem by_0 {h : AH} {b : Nat → Int32} {n i : Nat} (hi : InB h b n) : byR h n i = -1 ↔ kdB b n i = 0 := by
  unfold byR
  by_cases q : i < n
  · rw [if_pos q]
    exact ⟨fun z => absurd z (hi.2.2 i q).nn, fun z => absurd (kdB_0 z) (by omega)⟩
  · rw [if_neg q]; exact ⟨fun _ => kdB_out (by omega), fun _ => rfl⟩
theorem by_d {h : AH} {b : Nat → Int32} {n i : Nat} (hi : InB h b n) (hk : kdB b n i = 2) : byR h n i = b i := by
  obtain ⟨q, q2, q3⟩ := kdB_2.mp hk
  unfold byR
  rw [if_pos q]
  rcases hi.2.2 i q with ⟨z, -⟩ | ⟨z, -⟩
  · exact z
  · exact absurd (Int32.lt_of_le_of_lt q2 z) (by decide)
theorem InB.cg {h h' : AH} {b : Nat → Int32} {n : Nat} {S : Nat → Prop} (hi : InB h b n) (e : eqx h h' S) (h7 : ¬ S 734) (e14 : aI h' 723 14 = aI h 723 14) : InB h' b n := ⟨e14.trans hi.1, hi.2.1, fun i q => by rw [e.I h7]; exact hi.2.2 i q⟩
theorem byR_cg {h h' : AH} {n i : Nat} {S : Nat → Prop} (e : eqx h h' S) (h7 : ¬ S 734) : byR h' n i = byR h n i := by unfold byR; rw [e.I h7]
def tkR (k : Nat) : Nat := if k = 5 then 4 else k
/-- the token read ahead is that from p on -/
def LkS (h : AH) (b : Nat → Int32) (n p : Nat) : Prop := aI h 723 20 = nI (tS b n p) ∧ aI h 723 22 = nI (tkR (tK b n p)) ∧ aI h 723 19 = nI (tE b n p) ∧ (tK b n p = 2 → aI h 723 21 = tV b n p)
set_option maxRecDepth 100000 in
set_option maxHeartbeats 800000 in
theorem c_X9_byteAt {l9 : Launch} {G : GC} {h : AH} {b : Nat → Int32} {n : Nat} {x : Int32} {i : Nat} (hW : World h) (hi : InB h b n) (hx : x = nI i) (h31 : i < 2 ^ 31) : PM l9 G mX9_byteAt NT NT [.ref 723, .int x] h (fun v h' => v = some (.int (byR h n i)) ∧ h' = h) noX := by
  refine PM.of (by decide +kernel) rfl rfl (Nat.le_of_ble_eq_true rfl) (fun hst _ => ?_)
  refine r_iload_n dX9_byteAt_0 rfl ?_
  refine r_aload_n dX9_byteAt_1 rfl ?_
  refine q_getI fl_X9_161 hW kc_723 rfl dX9_byteAt_2 ?_
  have hn7 := hi.2.1
  rw [hx, hi.1]
  refine r_icmp_ge 17 dX9_byteAt_5 (by decide) (fun c_5 => ?_) (fun c_5 => ?_)
  · refine r_iconst (-1) dX9_byteAt_17 (by decide) ?_
    refine r_iret dX9_byteAt_18 rfl ⟨Nat.zero_le _, Nat.zero_le _⟩ ?_
    first
      | exact ⟨some_int (by unfold byR; rw [if_pos hlt]), rfl⟩
      | (have hge := (nI_leI (by omega) (by omega)).mp c_5
         exact ⟨some_int (by unfold byR; rw [if_neg (by omega)]), rfl⟩)
  · have hlt : i < n := (nI_ltI (by omega) (by omega)).mp (i_lt.mp c_5)
    refine r_aload_n dX9_byteAt_8 rfl ?_
    refine q_getR fl_X9_41 hW kc_723 rfl (kl_9_13 hW) (by decide) dX9_byteAt_9 ?_
    refine r_iload_n dX9_byteAt_12 rfl ?_
    refine q_iald hW kc_734 rfl (by omega) (by decide) dX9_byteAt_13 ?_
    refine r_goto 18 dX9_byteAt_14 (by decide) ?_
    refine r_iret dX9_byteAt_18 rfl ⟨Nat.zero_le _, Nat.zero_le _⟩ ?_
    first
      | exact ⟨some_int (by unfold byR; rw [if_pos hlt]), rfl⟩
      | (have hge := (nI_leI (by omega) (by omega)).mp c_5
         exact ⟨some_int (by unfold byR; rw [if_neg (by omega)]), rfl⟩)

set_option maxRecDepth 100000 in
set_option maxHeartbeats 800000 in
theorem c_X9_tokenLength {l9 : Launch} {G : GC} {h : AH} (hW : World h) : PM l9 G mX9_tokenLength NT NT [.ref 723] h (fun v h' => v = some (.int (aI h 723 19 - aI h 723 20)) ∧ h' = h) noX := by
  refine PM.of (by decide +kernel) rfl rfl (Nat.le_of_ble_eq_true rfl) (fun hst _ => ?_)
  refine r_aload_n dX9_tokenLength_0 rfl ?_
  refine q_getI fl_X9_170 hW kc_723 rfl dX9_tokenLength_1 ?_
  refine r_aload_n dX9_tokenLength_4 rfl ?_
  refine q_getI fl_X9_176 hW kc_723 rfl dX9_tokenLength_5 ?_
  refine r_isub dX9_tokenLength_8 ?_
  refine r_iret dX9_tokenLength_9 rfl ⟨Nat.zero_le _, Nat.zero_le _⟩ ?_
  exact ⟨rfl, rfl⟩

set_option maxRecDepth 100000 in
set_option maxHeartbeats 800000 in
theorem c_X9_failsAt {l9 : Launch} {G : GC} {h : AH} {c s : Nat} {x : Int32} (hW : World h) (hx : x = nI c) (h17 : aI h 723 17 = 0) (h20 : aI h 723 20 = nI s) : PM l9 G mX9_failsAt NT NT [.ref 723, .int x] h (fun v h' => v = some (.int 0) ∧ eqx h h' S9 ∧ aI h' 723 17 = nI c ∧ aI h' 723 18 = nI s ∧ ∀ k, k ≠ 17 → k ≠ 18 → aI h' 723 k = aI h 723 k) noX := by
  refine PM.of (by decide +kernel) rfl rfl (Nat.le_of_ble_eq_true rfl) (fun hst _ => ?_)
  refine r_aload_n dX9_failsAt_0 rfl ?_
  refine q_getI fl_X9_185 hW kc_723 rfl dX9_failsAt_1 ?_
  refine r_if_ne 20 dX9_failsAt_4 (by decide) (fun c_4 => ?_) (fun c_4 => ?_)
  · exact absurd h17 c_4
  · refine r_aload_n dX9_failsAt_7 rfl ?_
    refine r_iload_n dX9_failsAt_8 rfl ?_
    refine q_putI fl_X9_185 hW kc_723 rfl rfl dX9_failsAt_9 ?_
    refine r_aload_n dX9_failsAt_12 rfl ?_
    refine r_aload_n dX9_failsAt_13 rfl ?_
    refine q_getI fl_X9_176 hW kc_723 rfl dX9_failsAt_14 ?_
    rw [sI_k (by decide), h20]
    refine q_putI fl_X9_188 hW kc_723 rfl rfl dX9_failsAt_17 ?_
    refine r_iconst (0) dX9_failsAt_20 (by decide) ?_
    refine r_zret dX9_failsAt_21 rfl (by decide) ⟨Nat.zero_le _, Nat.zero_le _⟩ ?_
    exact ⟨rfl, ((eqx.rf (S := S9)).sI rfl).sI rfl, by rw [sI_k (by decide), sI_s, hx], sI_s, fun k k1 k2 => by rw [sI_k k2, sI_k k1]⟩
