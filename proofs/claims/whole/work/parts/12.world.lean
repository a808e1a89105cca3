-- the world of 738 objects: a State is 55 objects from its own number on, a Pool 12
def sK (j : Nat) : Nat := if j = 0 then 6 else if j = 1 then 14 else if j = 2 then 0 else if j < 7 then 11 else
  match (j - 7) % 12 with | 0 => 3 | 1 => 4 | 2 => 11 | 3 => 1 | 4 => 11 | 5 => 11 | 6 => 11 | 7 => 13 | 8 => 7 | _ => 11
def sLn (j : Nat) : Nat := if j = 0 then 0 else if j = 1 then 4 else if j = 2 then 0 else if j < 7 then 60 else
  match (j - 7) % 12 with | 0 => 0 | 1 => 0 | 2 => 24 | 3 => 0 | 4 => 20 | 5 => 20 | 6 => 20 | 7 => 20 | 8 => 0 | 9 => 6 | 10 => 24 | _ => 8
def wK (i : Nat) : Nat := if i = 1 then 8 else if i = 2 then 10 else if i = 3 then 5 else if i = 4 then 10 else if i = 5 then 2 else if i = 6 then 10
  else if i < 172 then sK ((i - 7) % 55) else if i = 172 then 15 else if i < 723 then sK ((i - 173) % 55) else if i = 723 then 9
  else if i < 729 then 11 else if i < 734 then 12 else if i < 737 then 11 else if i = 737 then 12 else 16
def wL (i : Nat) : Nat := if i = 1 then 0 else if i = 2 then 700 else if i = 3 then 0 else if i = 4 then 0 else if i = 5 then 0 else if i = 6 then 300
  else if i < 172 then sLn ((i - 7) % 55) else if i = 172 then 10 else if i < 723 then sLn ((i - 173) % 55) else if i = 723 then 0
  else if i < 728 then 964 else if i = 728 then 9640 else if i < 733 then 24 else if i = 733 then 240 else if i = 734 then 700 else if i = 735 then 3 else if i = 736 then 300 else 1
/-- object i is of kind c -/
def kd (i c : Nat) : Prop := wK i = c ∧ 0 < i ∧ i ≤ NT
def ka (i c n : Nat) : Prop := kd i c ∧ wL i = n
/-- the links of the pools and what they hold, by kind -/
def wR (h : (Nat → Nat → Nat) × (Nat → Nat) × (Nat → Nat)) : Prop :=
  (∀ i, kd i 0 → h.1 i 0 = i + 1 ∧ h.1 i 1 = i + 2 ∧ h.1 i 2 = i + 3 ∧ h.1 i 3 = i + 4) ∧
  (∀ i, kd i 1 → h.1 i 0 = i + 1 ∧ h.1 i 1 = i + 2 ∧ h.1 i 2 = i + 3 ∧ h.1 i 3 = i + 4) ∧
  (∀ i, kd i 3 → h.1 i 0 = i + 1 ∧ h.1 i 1 = i + 3 ∧ h.1 i 2 = i + 8 ∧ h.1 i 3 = i + 10 ∧ h.1 i 5 = i + 11) ∧
  (∀ i, kd i 4 → h.1 i 16 = i + 1) ∧
  (∀ i, kd i 6 → h.1 i 0 = i + 1 ∧ h.1 i 4 = i + 2) ∧
  (∀ i, kd i 7 → h.1 i 9 = i + 1) ∧
  (∀ i, kd i 14 → ∀ p, p < 4 → h.1 i p = i + 6 + 12 * p) ∧
  (h.1 1 0 = 2 ∧ h.1 1 4 = 3 ∧ h.1 1 5 = 5 ∧ h.1 1 6 = 7 ∧ h.1 1 7 = 62 ∧ h.1 1 8 = 117 ∧ h.1 1 10 = 172) ∧ (h.1 5 0 = 6) ∧
  (h.1 723 0 = 724 ∧ h.1 723 1 = 725 ∧ h.1 723 2 = 726 ∧ h.1 723 3 = 727 ∧ h.1 723 4 = 728 ∧ h.1 723 5 = 729 ∧ h.1 723 6 = 730 ∧ h.1 723 7 = 731 ∧ h.1 723 8 = 732 ∧ h.1 723 9 = 733 ∧ h.1 723 13 = 734 ∧ h.1 723 24 = 735 ∧ h.1 723 28 = 736)
def Wd (h : (Nat → Nat → Nat) × (Nat → Nat) × (Nat → Nat)) : Prop := (∀ i, 0 < i → i ≤ NT → h.2.1 i = wK i) ∧ (∀ i, 0 < i → i ≤ NT → h.2.2 i = wL i) ∧ wR h
def World (h : AH) : Prop := Wd h.2.2.2
theorem World.isK {h : AH} (hW : World h) {i c : Nat} (hk : kd i c) : isK NT h i c := ⟨(hW.1 i hk.2.1 hk.2.2).trans hk.1, hk.2⟩
theorem World.isA {h : AH} (hW : World h) {i c n : Nat} (hk : ka i c n) : isA NT h i c n := ⟨hW.isK hk.1, (hW.2.1 i hk.1.2.1 hk.1.2.2).trans hk.2⟩
theorem kd_ne {i j a b : Nat} (hi : kd i a) (hj : kd j b) (h : a ≠ b) : i ≠ j := fun e => h (by rw [← hi.1, ← hj.1, e])
theorem ka_ne {i j a b n : Nat} (hi : kd i a) (hj : ka j b n) (h : a ≠ b) : i ≠ j := kd_ne hi hj.1 h
def kq (a d b n : Nat) : Bool := (List.range 739).all fun i => !(wK i == a && Nat.blt 0 i) || (wK (i + d) == b && wL (i + d) == n && Nat.ble (i + d) 738)
theorem kq_spec {a d b n : Nat} (h : kq a d b n = true) {i : Nat} (hk : kd i a) : ka (i + d) b n := by
  have h1 := List.all_eq_true.mp h i (List.mem_range.mpr (by have := hk.2.2; have : NT = 738 := rfl; omega))
  rw [hk.1] at h1
  have h2 : Nat.blt 0 i = true := Nat.ble_eq_true_of_le hk.2.1
  simp only [h2, beq_self_eq_true, Bool.and_self, Bool.not_true, Bool.false_or, Bool.and_eq_true, beq_iff_eq] at h1
  exact ⟨⟨h1.1.1, by have := hk.2.1; omega, Nat.le_of_ble_eq_true h1.2⟩, h1.1.2⟩

theorem kk_0_0 {i : Nat} (hk : kd i 0) : ka (i + 1) 11 60 := kq_spec (a := 0) (d := 1) (b := 11) (n := 60) (by decide +kernel) hk
theorem kl_0_0 {h : AH} (hW : World h) {i : Nat} (hk : kd i 0) : aR h i 0 = i + 1 := ((hW.2.2.1 i hk).1)
theorem kk_0_1 {i : Nat} (hk : kd i 0) : ka (i + 2) 11 60 := kq_spec (a := 0) (d := 2) (b := 11) (n := 60) (by decide +kernel) hk
theorem kl_0_1 {h : AH} (hW : World h) {i : Nat} (hk : kd i 0) : aR h i 1 = i + 2 := ((hW.2.2.1 i hk).2.1)
theorem kk_0_2 {i : Nat} (hk : kd i 0) : ka (i + 3) 11 60 := kq_spec (a := 0) (d := 3) (b := 11) (n := 60) (by decide +kernel) hk
theorem kl_0_2 {h : AH} (hW : World h) {i : Nat} (hk : kd i 0) : aR h i 2 = i + 3 := ((hW.2.2.1 i hk).2.2.1)
theorem kk_0_3 {i : Nat} (hk : kd i 0) : ka (i + 4) 11 60 := kq_spec (a := 0) (d := 4) (b := 11) (n := 60) (by decide +kernel) hk
theorem kl_0_3 {h : AH} (hW : World h) {i : Nat} (hk : kd i 0) : aR h i 3 = i + 4 := ((hW.2.2.1 i hk).2.2.2)
theorem kk_1_0 {i : Nat} (hk : kd i 1) : ka (i + 1) 11 20 := kq_spec (a := 1) (d := 1) (b := 11) (n := 20) (by decide +kernel) hk
theorem kl_1_0 {h : AH} (hW : World h) {i : Nat} (hk : kd i 1) : aR h i 0 = i + 1 := ((hW.2.2.2.1 i hk).1)
theorem kk_1_1 {i : Nat} (hk : kd i 1) : ka (i + 2) 11 20 := kq_spec (a := 1) (d := 2) (b := 11) (n := 20) (by decide +kernel) hk
theorem kl_1_1 {h : AH} (hW : World h) {i : Nat} (hk : kd i 1) : aR h i 1 = i + 2 := ((hW.2.2.2.1 i hk).2.1)
theorem kk_1_2 {i : Nat} (hk : kd i 1) : ka (i + 3) 11 20 := kq_spec (a := 1) (d := 3) (b := 11) (n := 20) (by decide +kernel) hk
theorem kl_1_2 {h : AH} (hW : World h) {i : Nat} (hk : kd i 1) : aR h i 2 = i + 3 := ((hW.2.2.2.1 i hk).2.2.1)
theorem kk_1_3 {i : Nat} (hk : kd i 1) : ka (i + 4) 13 20 := kq_spec (a := 1) (d := 4) (b := 13) (n := 20) (by decide +kernel) hk
theorem kl_1_3 {h : AH} (hW : World h) {i : Nat} (hk : kd i 1) : aR h i 3 = i + 4 := ((hW.2.2.2.1 i hk).2.2.2)
theorem kk_3_0 {i : Nat} (hk : kd i 3) : kd (i + 1) 4 := kq_spec (a := 3) (d := 1) (b := 4) (n := 0) (by decide +kernel) hk |>.1
theorem kl_3_0 {h : AH} (hW : World h) {i : Nat} (hk : kd i 3) : aR h i 0 = i + 1 := ((hW.2.2.2.2.1 i hk).1)
theorem kk_3_1 {i : Nat} (hk : kd i 3) : kd (i + 3) 1 := kq_spec (a := 3) (d := 3) (b := 1) (n := 0) (by decide +kernel) hk |>.1
theorem kl_3_1 {h : AH} (hW : World h) {i : Nat} (hk : kd i 3) : aR h i 1 = i + 3 := ((hW.2.2.2.2.1 i hk).2.1)
theorem kk_3_2 {i : Nat} (hk : kd i 3) : kd (i + 8) 7 := kq_spec (a := 3) (d := 8) (b := 7) (n := 0) (by decide +kernel) hk |>.1
theorem kl_3_2 {h : AH} (hW : World h) {i : Nat} (hk : kd i 3) : aR h i 2 = i + 8 := ((hW.2.2.2.2.1 i hk).2.2.1)
theorem kk_3_3 {i : Nat} (hk : kd i 3) : ka (i + 10) 11 24 := kq_spec (a := 3) (d := 10) (b := 11) (n := 24) (by decide +kernel) hk
theorem kl_3_3 {h : AH} (hW : World h) {i : Nat} (hk : kd i 3) : aR h i 3 = i + 10 := ((hW.2.2.2.2.1 i hk).2.2.2.1)
theorem kk_3_5 {i : Nat} (hk : kd i 3) : ka (i + 11) 11 8 := kq_spec (a := 3) (d := 11) (b := 11) (n := 8) (by decide +kernel) hk
theorem kl_3_5 {h : AH} (hW : World h) {i : Nat} (hk : kd i 3) : aR h i 5 = i + 11 := ((hW.2.2.2.2.1 i hk).2.2.2.2)
theorem kk_4_16 {i : Nat} (hk : kd i 4) : ka (i + 1) 11 24 := kq_spec (a := 4) (d := 1) (b := 11) (n := 24) (by decide +kernel) hk
theorem kl_4_16 {h : AH} (hW : World h) {i : Nat} (hk : kd i 4) : aR h i 16 = i + 1 := (hW.2.2.2.2.2.1 i hk)
theorem kk_6_0 {i : Nat} (hk : kd i 6) : ka (i + 1) 14 4 := kq_spec (a := 6) (d := 1) (b := 14) (n := 4) (by decide +kernel) hk
theorem kl_6_0 {h : AH} (hW : World h) {i : Nat} (hk : kd i 6) : aR h i 0 = i + 1 := ((hW.2.2.2.2.2.2.1 i hk).1)
theorem kk_6_4 {i : Nat} (hk : kd i 6) : kd (i + 2) 0 := kq_spec (a := 6) (d := 2) (b := 0) (n := 0) (by decide +kernel) hk |>.1
theorem kl_6_4 {h : AH} (hW : World h) {i : Nat} (hk : kd i 6) : aR h i 4 = i + 2 := ((hW.2.2.2.2.2.2.1 i hk).2)
theorem kk_7_9 {i : Nat} (hk : kd i 7) : ka (i + 1) 11 6 := kq_spec (a := 7) (d := 1) (b := 11) (n := 6) (by decide +kernel) hk
theorem kl_7_9 {h : AH} (hW : World h) {i : Nat} (hk : kd i 7) : aR h i 9 = i + 1 := (hW.2.2.2.2.2.2.2.1 i hk)
theorem kk_14 {i p : Nat} (hk : kd i 14) (hp : p < 4) : kd (i + 6 + 12 * p) 3 := by
  have h4 : ∀ q, q < 4 → kq 14 (6 + 12 * q) 3 0 = true := by decide +kernel
  have := (kq_spec (h4 p hp) hk).1
  rwa [← Nat.add_assoc] at this
theorem kl_14 {h : AH} (hW : World h) {i p : Nat} (hk : kd i 14) (hp : p < 4) : aR h i p = i + 6 + 12 * p := hW.2.2.2.2.2.2.2.2.1 i hk p hp
theorem kl_8_0 {h : AH} (hW : World h) : aR h 1 0 = 2 := (hW.2.2.2.2.2.2.2.2.2.1).1
theorem kl_8_4 {h : AH} (hW : World h) : aR h 1 4 = 3 := (hW.2.2.2.2.2.2.2.2.2.1).2.1
theorem kl_8_5 {h : AH} (hW : World h) : aR h 1 5 = 5 := (hW.2.2.2.2.2.2.2.2.2.1).2.2.1
theorem kl_8_6 {h : AH} (hW : World h) : aR h 1 6 = 7 := (hW.2.2.2.2.2.2.2.2.2.1).2.2.2.1
theorem kl_8_7 {h : AH} (hW : World h) : aR h 1 7 = 62 := (hW.2.2.2.2.2.2.2.2.2.1).2.2.2.2.1
theorem kl_8_8 {h : AH} (hW : World h) : aR h 1 8 = 117 := (hW.2.2.2.2.2.2.2.2.2.1).2.2.2.2.2.1
theorem kl_8_10 {h : AH} (hW : World h) : aR h 1 10 = 172 := (hW.2.2.2.2.2.2.2.2.2.1).2.2.2.2.2.2
theorem kl_2_0 {h : AH} (hW : World h) : aR h 5 0 = 6 := hW.2.2.2.2.2.2.2.2.2.2.1
theorem kl_9_0 {h : AH} (hW : World h) : aR h 723 0 = 724 := (hW.2.2.2.2.2.2.2.2.2.2.2).1
theorem kl_9_1 {h : AH} (hW : World h) : aR h 723 1 = 725 := (hW.2.2.2.2.2.2.2.2.2.2.2).2.1
theorem kl_9_2 {h : AH} (hW : World h) : aR h 723 2 = 726 := (hW.2.2.2.2.2.2.2.2.2.2.2).2.2.1
theorem kl_9_3 {h : AH} (hW : World h) : aR h 723 3 = 727 := (hW.2.2.2.2.2.2.2.2.2.2.2).2.2.2.1
theorem kl_9_4 {h : AH} (hW : World h) : aR h 723 4 = 728 := (hW.2.2.2.2.2.2.2.2.2.2.2).2.2.2.2.1
theorem kl_9_5 {h : AH} (hW : World h) : aR h 723 5 = 729 := (hW.2.2.2.2.2.2.2.2.2.2.2).2.2.2.2.2.1
theorem kl_9_6 {h : AH} (hW : World h) : aR h 723 6 = 730 := (hW.2.2.2.2.2.2.2.2.2.2.2).2.2.2.2.2.2.1
theorem kl_9_7 {h : AH} (hW : World h) : aR h 723 7 = 731 := (hW.2.2.2.2.2.2.2.2.2.2.2).2.2.2.2.2.2.2.1
theorem kl_9_8 {h : AH} (hW : World h) : aR h 723 8 = 732 := (hW.2.2.2.2.2.2.2.2.2.2.2).2.2.2.2.2.2.2.2.1
theorem kl_9_9 {h : AH} (hW : World h) : aR h 723 9 = 733 := (hW.2.2.2.2.2.2.2.2.2.2.2).2.2.2.2.2.2.2.2.2.1
theorem kl_9_13 {h : AH} (hW : World h) : aR h 723 13 = 734 := (hW.2.2.2.2.2.2.2.2.2.2.2).2.2.2.2.2.2.2.2.2.2.1
theorem kl_9_24 {h : AH} (hW : World h) : aR h 723 24 = 735 := (hW.2.2.2.2.2.2.2.2.2.2.2).2.2.2.2.2.2.2.2.2.2.2.1
theorem kl_9_28 {h : AH} (hW : World h) : aR h 723 28 = 736 := (hW.2.2.2.2.2.2.2.2.2.2.2).2.2.2.2.2.2.2.2.2.2.2.2
theorem kc_2 : ka 2 10 700 := ⟨⟨by decide +kernel, by decide, by decide⟩, by decide +kernel⟩
theorem kc_3 : kd 3 5 := ⟨by decide +kernel, by decide, by decide⟩
theorem kc_5 : kd 5 2 := ⟨by decide +kernel, by decide, by decide⟩
theorem kc_7 : kd 7 6 := ⟨by decide +kernel, by decide, by decide⟩
theorem kc_62 : kd 62 6 := ⟨by decide +kernel, by decide, by decide⟩
theorem kc_117 : kd 117 6 := ⟨by decide +kernel, by decide, by decide⟩
theorem kc_172 : ka 172 15 10 := ⟨⟨by decide +kernel, by decide, by decide⟩, by decide +kernel⟩
theorem kc_1 : kd 1 8 := ⟨by decide +kernel, by decide, by decide⟩
theorem kc_723 : kd 723 9 := ⟨by decide +kernel, by decide, by decide⟩
theorem kc_6 : ka 6 10 300 := ⟨⟨by decide +kernel, by decide, by decide⟩, by decide +kernel⟩
theorem kc_4 : ka 4 10 0 := ⟨⟨by decide +kernel, by decide, by decide⟩, by decide +kernel⟩
theorem kc_724 : ka 724 11 964 := ⟨⟨by decide +kernel, by decide, by decide⟩, by decide +kernel⟩
theorem kc_725 : ka 725 11 964 := ⟨⟨by decide +kernel, by decide, by decide⟩, by decide +kernel⟩
theorem kc_726 : ka 726 11 964 := ⟨⟨by decide +kernel, by decide, by decide⟩, by decide +kernel⟩
theorem kc_727 : ka 727 11 964 := ⟨⟨by decide +kernel, by decide, by decide⟩, by decide +kernel⟩
theorem kc_728 : ka 728 11 9640 := ⟨⟨by decide +kernel, by decide, by decide⟩, by decide +kernel⟩
theorem kc_729 : ka 729 12 24 := ⟨⟨by decide +kernel, by decide, by decide⟩, by decide +kernel⟩
theorem kc_730 : ka 730 12 24 := ⟨⟨by decide +kernel, by decide, by decide⟩, by decide +kernel⟩
theorem kc_731 : ka 731 12 24 := ⟨⟨by decide +kernel, by decide, by decide⟩, by decide +kernel⟩
theorem kc_732 : ka 732 12 24 := ⟨⟨by decide +kernel, by decide, by decide⟩, by decide +kernel⟩
theorem kc_733 : ka 733 12 240 := ⟨⟨by decide +kernel, by decide, by decide⟩, by decide +kernel⟩
theorem kc_734 : ka 734 11 700 := ⟨⟨by decide +kernel, by decide, by decide⟩, by decide +kernel⟩
theorem kc_735 : ka 735 11 3 := ⟨⟨by decide +kernel, by decide, by decide⟩, by decide +kernel⟩
theorem kc_736 : ka 736 11 300 := ⟨⟨by decide +kernel, by decide, by decide⟩, by decide +kernel⟩
theorem kc_737 : ka 737 12 1 := ⟨⟨by decide +kernel, by decide, by decide⟩, by decide +kernel⟩
theorem kc_738 : ka 738 16 1 := ⟨⟨by decide +kernel, by decide, by decide⟩, by decide +kernel⟩
section QR
variable {l : Launch} {G : GC} {M : MD} {R : Room} {Fi : CX → State → Prop} {pc : Nat} {ls : List (Option Value)} {st : List Value} {cs : Nat × Nat} {h : AH} {K : Option Value → AH → Prop} {X : String → AH → Prop}
theorem q_getI {i c k ix : Nat} (hf : FL (mY M).cls ix c k) (hW : World h) (hk : kd i c) (ht : tk (clY c k) = 0) (hd : decode (mC M) pc = .ok (.getfield ix, 3)) (kk : PW l G M R Fi NT (pc + 3) ls (.int (aI h i k) :: st) cs h) : PW l G M R Fi NT pc ls (.ref i :: st) cs h := r_getI hf (hW.isK hk) ht hd kk
theorem q_getJ {i c k ix : Nat} (hf : FL (mY M).cls ix c k) (hW : World h) (hk : kd i c) (ht : tk (clY c k) = 1) (hd : decode (mC M) pc = .ok (.getfield ix, 3)) (kk : PW l G M R Fi NT (pc + 3) ls (.long (aJ h i k) :: st) cs h) : PW l G M R Fi NT pc ls (.ref i :: st) cs h := r_getJ hf (hW.isK hk) ht hd kk
theorem q_getR {i c k ix r : Nat} (hf : FL (mY M).cls ix c k) (hW : World h) (hk : kd i c) (ht : tk (clY c k) = 2) (hr : aR h i k = r) (h0 : r ≠ 0) (hd : decode (mC M) pc = .ok (.getfield ix, 3)) (kk : PW l G M R Fi NT (pc + 3) ls (.ref r :: st) cs h) : PW l G M R Fi NT pc ls (.ref i :: st) cs h := r_getR hf (hW.isK hk) ht hr h0 hd kk
theorem q_putI {i c k ix : Nat} {x : Int32} (hf : FL (mY M).cls ix c k) (hW : World h) (hk : kd i c) (ht : clY c k = .int) (hfi : (clT c k).2.2.2 = false) (hd : decode (mC M) pc = .ok (.putfield ix, 3)) (kk : PW l G M R Fi NT (pc + 3) ls st cs (sI h i k x)) : PW l G M R Fi NT pc ls (.int x :: .ref i :: st) cs h := r_putI hf (hW.isK hk) ht hfi hd kk
theorem q_putZ {i c k ix : Nat} {x : Int32} (hf : FL (mY M).cls ix c k) (hW : World h) (hk : kd i c) (ht : clY c k = .boolean) (hx : x = 0 ∨ x = 1) (hfi : (clT c k).2.2.2 = false) (hd : decode (mC M) pc = .ok (.putfield ix, 3)) (kk : PW l G M R Fi NT (pc + 3) ls st cs (sI h i k x)) : PW l G M R Fi NT pc ls (.int x :: .ref i :: st) cs h := r_putZ hf (hW.isK hk) ht hx hfi hd kk
theorem q_putJ {i c k ix : Nat} {x : Int64} (hf : FL (mY M).cls ix c k) (hW : World h) (hk : kd i c) (ht : clY c k = .long) (hfi : (clT c k).2.2.2 = false) (hd : decode (mC M) pc = .ok (.putfield ix, 3)) (kk : PW l G M R Fi NT (pc + 3) ls st cs (sJ h i k x)) : PW l G M R Fi NT pc ls (.long x :: .ref i :: st) cs h := r_putJ hf (hW.isK hk) ht hfi hd kk
theorem q_iald {i n k : Nat} {x : Int32} (hW : World h) (ha : ka i 11 n) (hx : x = nI k) (hkn : k < n) (hn : n < 2 ^ 31) (hd : decode (mC M) pc = .ok (.iaload, 1)) (kk : PW l G M R Fi NT (pc + 1) ls (.int (aI h i k) :: st) cs h) : PW l G M R Fi NT pc ls (.int x :: .ref i :: st) cs h := r_iald (hW.isA ha) (by rw [hx]; exact vp_in_nI hkn hn) hd (by rw [hx, nI_clamp (by omega)]; exact kk)
theorem q_bald {i n k : Nat} {x : Int32} (hW : World h) (ha : ka i 10 n) (hx : x = nI k) (hkn : k < n) (hn : n < 2 ^ 31) (hd : decode (mC M) pc = .ok (.baload, 1)) (kk : PW l G M R Fi NT (pc + 1) ls (.int (aI h i k) :: st) cs h) : PW l G M R Fi NT pc ls (.int x :: .ref i :: st) cs h := r_bald (hW.isA ha) (by rw [hx]; exact vp_in_nI hkn hn) hd (by rw [hx, nI_clamp (by omega)]; exact kk)
theorem q_zald {i n k : Nat} {x : Int32} (hW : World h) (ha : ka i 13 n) (hx : x = nI k) (hkn : k < n) (hn : n < 2 ^ 31) (hd : decode (mC M) pc = .ok (.baload, 1)) (kk : PW l G M R Fi NT (pc + 1) ls (.int (aI h i k) :: st) cs h) : PW l G M R Fi NT pc ls (.int x :: .ref i :: st) cs h := r_zald (hW.isA ha) (by rw [hx]; exact vp_in_nI hkn hn) hd (by rw [hx, nI_clamp (by omega)]; exact kk)
theorem q_lald {i n k : Nat} {x : Int32} (hW : World h) (ha : ka i 12 n) (hx : x = nI k) (hkn : k < n) (hn : n < 2 ^ 31) (hd : decode (mC M) pc = .ok (.laload, 1)) (kk : PW l G M R Fi NT (pc + 1) ls (.long (aJ h i k) :: st) cs h) : PW l G M R Fi NT pc ls (.int x :: .ref i :: st) cs h := r_lald (hW.isA ha) (by rw [hx]; exact vp_in_nI hkn hn) hd (by rw [hx, nI_clamp (by omega)]; exact kk)
theorem q_dald {i n k : Nat} {x : Int32} (hW : World h) (ha : ka i 16 n) (hx : x = nI k) (hkn : k < n) (hn : n < 2 ^ 31) (hd : decode (mC M) pc = .ok (.daload, 1)) (kk : PW l G M R Fi NT (pc + 1) ls (.double (aD h i k) :: st) cs h) : PW l G M R Fi NT pc ls (.int x :: .ref i :: st) cs h := r_dald (hW.isA ha) (by rw [hx]; exact vp_in_nI hkn hn) hd (by rw [hx, nI_clamp (by omega)]; exact kk)
theorem q_iast {i n k : Nat} {x v : Int32} (hW : World h) (ha : ka i 11 n) (hx : x = nI k) (hkn : k < n) (hn : n < 2 ^ 31) (hd : decode (mC M) pc = .ok (.iastore, 1)) (kk : PW l G M R Fi NT (pc + 1) ls st cs (sI h i k v)) : PW l G M R Fi NT pc ls (.int v :: .int x :: .ref i :: st) cs h := r_iast (hW.isA ha) (by rw [hx]; exact vp_in_nI hkn hn) hd (by rw [hx, nI_clamp (by omega)]; exact kk)
theorem q_bast {i n k : Nat} {x v : Int32} (hW : World h) (ha : ka i 10 n) (hx : x = nI k) (hkn : k < n) (hn : n < 2 ^ 31) (hd : decode (mC M) pc = .ok (.bastore, 1)) (kk : PW l G M R Fi NT (pc + 1) ls st cs (sI h i k (vp_nar .byte v))) : PW l G M R Fi NT pc ls (.int v :: .int x :: .ref i :: st) cs h := r_bast (hW.isA ha) (by rw [hx]; exact vp_in_nI hkn hn) hd (by rw [hx, nI_clamp (by omega)]; exact kk)
theorem q_zast {i n k : Nat} {x v : Int32} (hW : World h) (ha : ka i 13 n) (hx : x = nI k) (hkn : k < n) (hn : n < 2 ^ 31) (hd : decode (mC M) pc = .ok (.bastore, 1)) (kk : PW l G M R Fi NT (pc + 1) ls st cs (sI h i k (vp_nar .boolean v))) : PW l G M R Fi NT pc ls (.int v :: .int x :: .ref i :: st) cs h := r_zast (hW.isA ha) (by rw [hx]; exact vp_in_nI hkn hn) hd (by rw [hx, nI_clamp (by omega)]; exact kk)
theorem q_last {i n k : Nat} {x : Int32} {v : Int64} (hW : World h) (ha : ka i 12 n) (hx : x = nI k) (hkn : k < n) (hn : n < 2 ^ 31) (hd : decode (mC M) pc = .ok (.lastore, 1)) (kk : PW l G M R Fi NT (pc + 1) ls st cs (sJ h i k v)) : PW l G M R Fi NT pc ls (.long v :: .int x :: .ref i :: st) cs h := r_last (hW.isA ha) (by rw [hx]; exact vp_in_nI hkn hn) hd (by rw [hx, nI_clamp (by omega)]; exact kk)
theorem q_dast {i n k : Nat} {x : Int32} {v : UInt64} (hW : World h) (ha : ka i 16 n) (hx : x = nI k) (hkn : k < n) (hn : n < 2 ^ 31) (hd : decode (mC M) pc = .ok (.dastore, 1)) (kk : PW l G M R Fi NT (pc + 1) ls st cs (sD h i k v)) : PW l G M R Fi NT pc ls (.double v :: .int x :: .ref i :: st) cs h := r_dast (hW.isA ha) (by rw [hx]; exact vp_in_nI hkn hn) hd (by rw [hx, nI_clamp (by omega)]; exact kk)
/-- a pool out of a Pool[] -/
theorem q_pald {i p : Nat} {x : Int32} (hW : World h) (ha : ka i 14 4) (hx : x = nI p) (hp : p < 4) (hd : decode (mC M) pc = .ok (.aaload, 1)) (kk : PW l G M R Fi NT (pc + 1) ls (.ref (i + 6 + 12 * p) :: st) cs h) : PW l G M R Fi NT pc ls (.int x :: .ref i :: st) cs h :=
  r_pald (hW.isA ha) (by rw [hx]; exact vp_in_nI hp (by decide)) (by rw [hx, nI_clamp (by omega)]; exact kl_14 hW ha.1 hp) (by omega) hd kk
theorem q_callV {c i ix : Nat} {M2 : MD} (as : List Value) (hlk : CV (mY M).cls ix M2 as.length) (hW : World h) (hk : kd i c) (hc : c < 10) (hcy : clR c = (mY M2).cls) (hz : (mO M2).cells = 0 ∧ (mO M2).slots = 0) (hrm : rmOK R cs M2 = true) (hst : (st.map fun v => v.category).sum ≤ 8)
    (hd : decode (mC M) pc = .ok (.invokevirtual ix, 3)) (hM : PM l G M2 NT NT (.ref i :: as) h K noX) (kk : ∀ (v : Option Value) (h' : AH), K v h' → PW l G M R Fi NT (pc + 3) ls (v.toList ++ st) cs h') : PW l G M R Fi NT pc ls (as.reverse ++ .ref i :: st) cs h :=
  r_callV as hlk (hW.isK hk) hc hcy hrm hst (Or.inr ⟨rfl, rfl⟩) hd hM (fun v h' q => by rw [hz.1, hz.2]; exact kk v h' q) (fun _ _ q => q.elim)
theorem q_callS {ix : Nat} {M2 : MD} (as : List Value) (hlk : CSt (mY M).cls ix M2 as.length) (hz : (mO M2).cells = 0 ∧ (mO M2).slots = 0) (hrm : rmOK R cs M2 = true) (hst : (st.map fun v => v.category).sum ≤ 8)
    (hd : decode (mC M) pc = .ok (.invokestatic ix, 3)) (hM : PM l G M2 NT NT as h K noX) (kk : ∀ (v : Option Value) (h' : AH), K v h' → PW l G M R Fi NT (pc + 3) ls (v.toList ++ st) cs h') : PW l G M R Fi NT pc ls (as.reverse ++ st) cs h :=
  r_callS as hlk hrm hst (Or.inr ⟨rfl, rfl⟩) hd hM (fun v h' q => by rw [hz.1, hz.2]; exact kk v h' q) (fun _ _ q => q.elim)
theorem q_callSN {ix : Nat} {M2 : MD} {host : String} (as : List Value) (hlk : CNS (mY M).cls ix M2 host as.length) (hz : (mO M2).cells = 0 ∧ (mO M2).slots = 0) (hrm : rmOK R cs M2 = true) (hst : (st.map fun v => v.category).sum ≤ 8)
    (hd : decode (mC M) pc = .ok (.invokestatic ix, 3)) (hM : PM l G M2 NT NT as h K noX) (kk : ∀ (v : Option Value) (h' : AH), K v h' → PW l G M R Fi NT (pc + 3) ls (v.toList ++ st) cs h') : PW l G M R Fi NT pc ls (as.reverse ++ st) cs h :=
  r_callSN as hlk hrm hst (Or.inr ⟨rfl, rfl⟩) hd hM (fun v h' q => by rw [hz.1, hz.2]; exact kk v h' q)
theorem q_callV0 {c i ix : Nat} {M2 : MD} (hlk : CV (mY M).cls ix M2 0) (hW : World h) (hk : kd i c) (hc : c < 10) (hcy : clR c = (mY M2).cls) (hz : (mO M2).cells = 0 ∧ (mO M2).slots = 0) (hrm : rmOK R cs M2 = true) (hst : (st.map fun v => v.category).sum ≤ 8) (hd : decode (mC M) pc = .ok (.invokevirtual ix, 3)) (hM : PM l G M2 NT NT (.ref i :: []) h K noX) (kk : ∀ (v : Option Value) (h' : AH), K v h' → PW l G M R Fi NT (pc + 3) ls (v.toList ++ st) cs h') : PW l G M R Fi NT pc ls (.ref i :: st) cs h := q_callV [] hlk hW hk hc hcy hz hrm hst hd hM kk
theorem q_callS0 {ix : Nat} {M2 : MD} (hlk : CSt (mY M).cls ix M2 0) (hz : (mO M2).cells = 0 ∧ (mO M2).slots = 0) (hrm : rmOK R cs M2 = true) (hst : (st.map fun v => v.category).sum ≤ 8) (hd : decode (mC M) pc = .ok (.invokestatic ix, 3)) (hM : PM l G M2 NT NT [] h K noX) (kk : ∀ (v : Option Value) (h' : AH), K v h' → PW l G M R Fi NT (pc + 3) ls (v.toList ++ st) cs h') : PW l G M R Fi NT pc ls (st) cs h := q_callS [] hlk hz hrm hst hd hM kk
theorem q_callSN0 {ix : Nat} {M2 : MD} {host : String} (hlk : CNS (mY M).cls ix M2 host 0) (hz : (mO M2).cells = 0 ∧ (mO M2).slots = 0) (hrm : rmOK R cs M2 = true) (hst : (st.map fun v => v.category).sum ≤ 8) (hd : decode (mC M) pc = .ok (.invokestatic ix, 3)) (hM : PM l G M2 NT NT [] h K noX) (kk : ∀ (v : Option Value) (h' : AH), K v h' → PW l G M R Fi NT (pc + 3) ls (v.toList ++ st) cs h') : PW l G M R Fi NT pc ls (st) cs h := q_callSN [] hlk hz hrm hst hd hM kk
theorem q_callV1 {c i ix : Nat} {a1 : Value} {M2 : MD} (hlk : CV (mY M).cls ix M2 1) (hW : World h) (hk : kd i c) (hc : c < 10) (hcy : clR c = (mY M2).cls) (hz : (mO M2).cells = 0 ∧ (mO M2).slots = 0) (hrm : rmOK R cs M2 = true) (hst : (st.map fun v => v.category).sum ≤ 8) (hd : decode (mC M) pc = .ok (.invokevirtual ix, 3)) (hM : PM l G M2 NT NT (.ref i :: [a1]) h K noX) (kk : ∀ (v : Option Value) (h' : AH), K v h' → PW l G M R Fi NT (pc + 3) ls (v.toList ++ st) cs h') : PW l G M R Fi NT pc ls (a1 :: .ref i :: st) cs h := q_callV [a1] hlk hW hk hc hcy hz hrm hst hd hM kk
theorem q_callS1 {ix : Nat} {a1 : Value} {M2 : MD} (hlk : CSt (mY M).cls ix M2 1) (hz : (mO M2).cells = 0 ∧ (mO M2).slots = 0) (hrm : rmOK R cs M2 = true) (hst : (st.map fun v => v.category).sum ≤ 8) (hd : decode (mC M) pc = .ok (.invokestatic ix, 3)) (hM : PM l G M2 NT NT [a1] h K noX) (kk : ∀ (v : Option Value) (h' : AH), K v h' → PW l G M R Fi NT (pc + 3) ls (v.toList ++ st) cs h') : PW l G M R Fi NT pc ls (a1 :: st) cs h := q_callS [a1] hlk hz hrm hst hd hM kk
theorem q_callSN1 {ix : Nat} {a1 : Value} {M2 : MD} {host : String} (hlk : CNS (mY M).cls ix M2 host 1) (hz : (mO M2).cells = 0 ∧ (mO M2).slots = 0) (hrm : rmOK R cs M2 = true) (hst : (st.map fun v => v.category).sum ≤ 8) (hd : decode (mC M) pc = .ok (.invokestatic ix, 3)) (hM : PM l G M2 NT NT [a1] h K noX) (kk : ∀ (v : Option Value) (h' : AH), K v h' → PW l G M R Fi NT (pc + 3) ls (v.toList ++ st) cs h') : PW l G M R Fi NT pc ls (a1 :: st) cs h := q_callSN [a1] hlk hz hrm hst hd hM kk
theorem q_callV2 {c i ix : Nat} {a1 a2 : Value} {M2 : MD} (hlk : CV (mY M).cls ix M2 2) (hW : World h) (hk : kd i c) (hc : c < 10) (hcy : clR c = (mY M2).cls) (hz : (mO M2).cells = 0 ∧ (mO M2).slots = 0) (hrm : rmOK R cs M2 = true) (hst : (st.map fun v => v.category).sum ≤ 8) (hd : decode (mC M) pc = .ok (.invokevirtual ix, 3)) (hM : PM l G M2 NT NT (.ref i :: [a1, a2]) h K noX) (kk : ∀ (v : Option Value) (h' : AH), K v h' → PW l G M R Fi NT (pc + 3) ls (v.toList ++ st) cs h') : PW l G M R Fi NT pc ls (a2 :: a1 :: .ref i :: st) cs h := q_callV [a1, a2] hlk hW hk hc hcy hz hrm hst hd hM kk
theorem q_callS2 {ix : Nat} {a1 a2 : Value} {M2 : MD} (hlk : CSt (mY M).cls ix M2 2) (hz : (mO M2).cells = 0 ∧ (mO M2).slots = 0) (hrm : rmOK R cs M2 = true) (hst : (st.map fun v => v.category).sum ≤ 8) (hd : decode (mC M) pc = .ok (.invokestatic ix, 3)) (hM : PM l G M2 NT NT [a1, a2] h K noX) (kk : ∀ (v : Option Value) (h' : AH), K v h' → PW l G M R Fi NT (pc + 3) ls (v.toList ++ st) cs h') : PW l G M R Fi NT pc ls (a2 :: a1 :: st) cs h := q_callS [a1, a2] hlk hz hrm hst hd hM kk
theorem q_callSN2 {ix : Nat} {a1 a2 : Value} {M2 : MD} {host : String} (hlk : CNS (mY M).cls ix M2 host 2) (hz : (mO M2).cells = 0 ∧ (mO M2).slots = 0) (hrm : rmOK R cs M2 = true) (hst : (st.map fun v => v.category).sum ≤ 8) (hd : decode (mC M) pc = .ok (.invokestatic ix, 3)) (hM : PM l G M2 NT NT [a1, a2] h K noX) (kk : ∀ (v : Option Value) (h' : AH), K v h' → PW l G M R Fi NT (pc + 3) ls (v.toList ++ st) cs h') : PW l G M R Fi NT pc ls (a2 :: a1 :: st) cs h := q_callSN [a1, a2] hlk hz hrm hst hd hM kk
theorem q_callV3 {c i ix : Nat} {a1 a2 a3 : Value} {M2 : MD} (hlk : CV (mY M).cls ix M2 3) (hW : World h) (hk : kd i c) (hc : c < 10) (hcy : clR c = (mY M2).cls) (hz : (mO M2).cells = 0 ∧ (mO M2).slots = 0) (hrm : rmOK R cs M2 = true) (hst : (st.map fun v => v.category).sum ≤ 8) (hd : decode (mC M) pc = .ok (.invokevirtual ix, 3)) (hM : PM l G M2 NT NT (.ref i :: [a1, a2, a3]) h K noX) (kk : ∀ (v : Option Value) (h' : AH), K v h' → PW l G M R Fi NT (pc + 3) ls (v.toList ++ st) cs h') : PW l G M R Fi NT pc ls (a3 :: a2 :: a1 :: .ref i :: st) cs h := q_callV [a1, a2, a3] hlk hW hk hc hcy hz hrm hst hd hM kk
theorem q_callS3 {ix : Nat} {a1 a2 a3 : Value} {M2 : MD} (hlk : CSt (mY M).cls ix M2 3) (hz : (mO M2).cells = 0 ∧ (mO M2).slots = 0) (hrm : rmOK R cs M2 = true) (hst : (st.map fun v => v.category).sum ≤ 8) (hd : decode (mC M) pc = .ok (.invokestatic ix, 3)) (hM : PM l G M2 NT NT [a1, a2, a3] h K noX) (kk : ∀ (v : Option Value) (h' : AH), K v h' → PW l G M R Fi NT (pc + 3) ls (v.toList ++ st) cs h') : PW l G M R Fi NT pc ls (a3 :: a2 :: a1 :: st) cs h := q_callS [a1, a2, a3] hlk hz hrm hst hd hM kk
theorem q_callSN3 {ix : Nat} {a1 a2 a3 : Value} {M2 : MD} {host : String} (hlk : CNS (mY M).cls ix M2 host 3) (hz : (mO M2).cells = 0 ∧ (mO M2).slots = 0) (hrm : rmOK R cs M2 = true) (hst : (st.map fun v => v.category).sum ≤ 8) (hd : decode (mC M) pc = .ok (.invokestatic ix, 3)) (hM : PM l G M2 NT NT [a1, a2, a3] h K noX) (kk : ∀ (v : Option Value) (h' : AH), K v h' → PW l G M R Fi NT (pc + 3) ls (v.toList ++ st) cs h') : PW l G M R Fi NT pc ls (a3 :: a2 :: a1 :: st) cs h := q_callSN [a1, a2, a3] hlk hz hrm hst hd hM kk
theorem q_callV4 {c i ix : Nat} {a1 a2 a3 a4 : Value} {M2 : MD} (hlk : CV (mY M).cls ix M2 4) (hW : World h) (hk : kd i c) (hc : c < 10) (hcy : clR c = (mY M2).cls) (hz : (mO M2).cells = 0 ∧ (mO M2).slots = 0) (hrm : rmOK R cs M2 = true) (hst : (st.map fun v => v.category).sum ≤ 8) (hd : decode (mC M) pc = .ok (.invokevirtual ix, 3)) (hM : PM l G M2 NT NT (.ref i :: [a1, a2, a3, a4]) h K noX) (kk : ∀ (v : Option Value) (h' : AH), K v h' → PW l G M R Fi NT (pc + 3) ls (v.toList ++ st) cs h') : PW l G M R Fi NT pc ls (a4 :: a3 :: a2 :: a1 :: .ref i :: st) cs h := q_callV [a1, a2, a3, a4] hlk hW hk hc hcy hz hrm hst hd hM kk
theorem q_callS4 {ix : Nat} {a1 a2 a3 a4 : Value} {M2 : MD} (hlk : CSt (mY M).cls ix M2 4) (hz : (mO M2).cells = 0 ∧ (mO M2).slots = 0) (hrm : rmOK R cs M2 = true) (hst : (st.map fun v => v.category).sum ≤ 8) (hd : decode (mC M) pc = .ok (.invokestatic ix, 3)) (hM : PM l G M2 NT NT [a1, a2, a3, a4] h K noX) (kk : ∀ (v : Option Value) (h' : AH), K v h' → PW l G M R Fi NT (pc + 3) ls (v.toList ++ st) cs h') : PW l G M R Fi NT pc ls (a4 :: a3 :: a2 :: a1 :: st) cs h := q_callS [a1, a2, a3, a4] hlk hz hrm hst hd hM kk
theorem q_callSN4 {ix : Nat} {a1 a2 a3 a4 : Value} {M2 : MD} {host : String} (hlk : CNS (mY M).cls ix M2 host 4) (hz : (mO M2).cells = 0 ∧ (mO M2).slots = 0) (hrm : rmOK R cs M2 = true) (hst : (st.map fun v => v.category).sum ≤ 8) (hd : decode (mC M) pc = .ok (.invokestatic ix, 3)) (hM : PM l G M2 NT NT [a1, a2, a3, a4] h K noX) (kk : ∀ (v : Option Value) (h' : AH), K v h' → PW l G M R Fi NT (pc + 3) ls (v.toList ++ st) cs h') : PW l G M R Fi NT pc ls (a4 :: a3 :: a2 :: a1 :: st) cs h := q_callSN [a1, a2, a3, a4] hlk hz hrm hst hd hM kk
theorem q_callV5 {c i ix : Nat} {a1 a2 a3 a4 a5 : Value} {M2 : MD} (hlk : CV (mY M).cls ix M2 5) (hW : World h) (hk : kd i c) (hc : c < 10) (hcy : clR c = (mY M2).cls) (hz : (mO M2).cells = 0 ∧ (mO M2).slots = 0) (hrm : rmOK R cs M2 = true) (hst : (st.map fun v => v.category).sum ≤ 8) (hd : decode (mC M) pc = .ok (.invokevirtual ix, 3)) (hM : PM l G M2 NT NT (.ref i :: [a1, a2, a3, a4, a5]) h K noX) (kk : ∀ (v : Option Value) (h' : AH), K v h' → PW l G M R Fi NT (pc + 3) ls (v.toList ++ st) cs h') : PW l G M R Fi NT pc ls (a5 :: a4 :: a3 :: a2 :: a1 :: .ref i :: st) cs h := q_callV [a1, a2, a3, a4, a5] hlk hW hk hc hcy hz hrm hst hd hM kk
theorem q_callS5 {ix : Nat} {a1 a2 a3 a4 a5 : Value} {M2 : MD} (hlk : CSt (mY M).cls ix M2 5) (hz : (mO M2).cells = 0 ∧ (mO M2).slots = 0) (hrm : rmOK R cs M2 = true) (hst : (st.map fun v => v.category).sum ≤ 8) (hd : decode (mC M) pc = .ok (.invokestatic ix, 3)) (hM : PM l G M2 NT NT [a1, a2, a3, a4, a5] h K noX) (kk : ∀ (v : Option Value) (h' : AH), K v h' → PW l G M R Fi NT (pc + 3) ls (v.toList ++ st) cs h') : PW l G M R Fi NT pc ls (a5 :: a4 :: a3 :: a2 :: a1 :: st) cs h := q_callS [a1, a2, a3, a4, a5] hlk hz hrm hst hd hM kk
theorem q_callSN5 {ix : Nat} {a1 a2 a3 a4 a5 : Value} {M2 : MD} {host : String} (hlk : CNS (mY M).cls ix M2 host 5) (hz : (mO M2).cells = 0 ∧ (mO M2).slots = 0) (hrm : rmOK R cs M2 = true) (hst : (st.map fun v => v.category).sum ≤ 8) (hd : decode (mC M) pc = .ok (.invokestatic ix, 3)) (hM : PM l G M2 NT NT [a1, a2, a3, a4, a5] h K noX) (kk : ∀ (v : Option Value) (h' : AH), K v h' → PW l G M R Fi NT (pc + 3) ls (v.toList ++ st) cs h') : PW l G M R Fi NT pc ls (a5 :: a4 :: a3 :: a2 :: a1 :: st) cs h := q_callSN [a1, a2, a3, a4, a5] hlk hz hrm hst hd hM kk
end QR
