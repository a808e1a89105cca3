-- laying new objects: kinds, zeros, links
def ZO (h : AH) (j : Nat) : Prop := aI h j = (fun _ => 0) ∧ aJ h j = (fun _ => 0) ∧ aD h j = fun _ => 0
def KO (h : AH) (j : Nat) : Prop := aK h j = wK j ∧ aL h j = wL j
def LO (r : Nat → Nat → Nat) (i : Nat) : Prop :=
  (wK i = 0 → r i 0 = i + 1 ∧ r i 1 = i + 2 ∧ r i 2 = i + 3 ∧ r i 3 = i + 4) ∧
  (wK i = 1 → r i 0 = i + 1 ∧ r i 1 = i + 2 ∧ r i 2 = i + 3 ∧ r i 3 = i + 4) ∧
  (wK i = 3 → r i 0 = i + 1 ∧ r i 1 = i + 3 ∧ r i 2 = i + 8 ∧ r i 3 = i + 10 ∧ r i 5 = i + 11) ∧
  (wK i = 4 → r i 16 = i + 1) ∧ (wK i = 6 → r i 0 = i + 1 ∧ r i 4 = i + 2) ∧ (wK i = 7 → r i 9 = i + 1) ∧
  (wK i = 2 → r i 0 = i + 1) ∧ (wK i = 14 → ∀ p, p < 4 → r i p = i + 6 + 12 * p)
theorem LO.cg {r r' : Nat → Nat → Nat} {i : Nat} (e : r' i = r i) (h : LO r i) : LO r' i := by
  unfold LO at h ⊢; rw [e]; exact h
theorem LO.no {r : Nat → Nat → Nat} {i c : Nat} (e : wK i = c) (hc : c ≠ 0 ∧ c ≠ 1 ∧ c ≠ 3 ∧ c ≠ 4 ∧ c ≠ 6 ∧ c ≠ 7 ∧ c ≠ 2 ∧ c ≠ 14) : LO r i := by
  unfold LO; rw [e]
  exact ⟨fun q => absurd q hc.1, fun q => absurd q hc.2.1, fun q => absurd q hc.2.2.1, fun q => absurd q hc.2.2.2.1, fun q => absurd q hc.2.2.2.2.1, fun q => absurd q hc.2.2.2.2.2.1, fun q => absurd q hc.2.2.2.2.2.2.1, fun q => absurd q hc.2.2.2.2.2.2.2⟩
theorem LO.k0 {r : Nat → Nat → Nat} {i : Nat} (e : wK i = 0) (h : r i 0 = i + 1 ∧ r i 1 = i + 2 ∧ r i 2 = i + 3 ∧ r i 3 = i + 4) : LO r i := by
  unfold LO; rw [e]; exact ⟨fun _ => h, fun q => absurd q (by decide), fun q => absurd q (by decide), fun q => absurd q (by decide), fun q => absurd q (by decide), fun q => absurd q (by decide), fun q => absurd q (by decide), fun q => absurd q (by decide)⟩
theorem LO.k1 {r : Nat → Nat → Nat} {i : Nat} (e : wK i = 1) (h : r i 0 = i + 1 ∧ r i 1 = i + 2 ∧ r i 2 = i + 3 ∧ r i 3 = i + 4) : LO r i := by
  unfold LO; rw [e]; exact ⟨fun q => absurd q (by decide), fun _ => h, fun q => absurd q (by decide), fun q => absurd q (by decide), fun q => absurd q (by decide), fun q => absurd q (by decide), fun q => absurd q (by decide), fun q => absurd q (by decide)⟩
theorem LO.k3 {r : Nat → Nat → Nat} {i : Nat} (e : wK i = 3) (h : r i 0 = i + 1 ∧ r i 1 = i + 3 ∧ r i 2 = i + 8 ∧ r i 3 = i + 10 ∧ r i 5 = i + 11) : LO r i := by
  unfold LO; rw [e]; exact ⟨fun q => absurd q (by decide), fun q => absurd q (by decide), fun _ => h, fun q => absurd q (by decide), fun q => absurd q (by decide), fun q => absurd q (by decide), fun q => absurd q (by decide), fun q => absurd q (by decide)⟩
theorem LO.k4 {r : Nat → Nat → Nat} {i : Nat} (e : wK i = 4) (h : r i 16 = i + 1) : LO r i := by
  unfold LO; rw [e]; exact ⟨fun q => absurd q (by decide), fun q => absurd q (by decide), fun q => absurd q (by decide), fun _ => h, fun q => absurd q (by decide), fun q => absurd q (by decide), fun q => absurd q (by decide), fun q => absurd q (by decide)⟩
theorem LO.k6 {r : Nat → Nat → Nat} {i : Nat} (e : wK i = 6) (h : r i 0 = i + 1 ∧ r i 4 = i + 2) : LO r i := by
  unfold LO; rw [e]; exact ⟨fun q => absurd q (by decide), fun q => absurd q (by decide), fun q => absurd q (by decide), fun q => absurd q (by decide), fun _ => h, fun q => absurd q (by decide), fun q => absurd q (by decide), fun q => absurd q (by decide)⟩
theorem LO.k7 {r : Nat → Nat → Nat} {i : Nat} (e : wK i = 7) (h : r i 9 = i + 1) : LO r i := by
  unfold LO; rw [e]; exact ⟨fun q => absurd q (by decide), fun q => absurd q (by decide), fun q => absurd q (by decide), fun q => absurd q (by decide), fun q => absurd q (by decide), fun _ => h, fun q => absurd q (by decide), fun q => absurd q (by decide)⟩
theorem LO.k2 {r : Nat → Nat → Nat} {i : Nat} (e : wK i = 2) (h : r i 0 = i + 1) : LO r i := by
  unfold LO; rw [e]; exact ⟨fun q => absurd q (by decide), fun q => absurd q (by decide), fun q => absurd q (by decide), fun q => absurd q (by decide), fun q => absurd q (by decide), fun q => absurd q (by decide), fun _ => h, fun q => absurd q (by decide)⟩
theorem LO.k14 {r : Nat → Nat → Nat} {i : Nat} (e : wK i = 14) (h : ∀ p, p < 4 → r i p = i + 6 + 12 * p) : LO r i := by
  unfold LO; rw [e]; exact ⟨fun q => absurd q (by decide), fun q => absurd q (by decide), fun q => absurd q (by decide), fun q => absurd q (by decide), fun q => absurd q (by decide), fun q => absurd q (by decide), fun q => absurd q (by decide), fun _ => h⟩
/-- object j is the same -/
def SO (h h' : AH) (j : Nat) : Prop := aI h' j = aI h j ∧ aJ h' j = aJ h j ∧ aD h' j = aD h j ∧ aR h' j = aR h j ∧ aK h' j = aK h j ∧ aL h' j = aL h j
theorem SO.rf {h : AH} {j : Nat} : SO h h j := ⟨rfl, rfl, rfl, rfl, rfl, rfl⟩
theorem SO.tr {h h1 h2 : AH} {j : Nat} (a : SO h h1 j) (b : SO h1 h2 j) : SO h h2 j := ⟨b.1.trans a.1, b.2.1.trans a.2.1, b.2.2.1.trans a.2.2.1, b.2.2.2.1.trans a.2.2.2.1, b.2.2.2.2.1.trans a.2.2.2.2.1, b.2.2.2.2.2.trans a.2.2.2.2.2⟩
theorem SO.nw {h : AH} {N c n j : Nat} (hj : j ≠ N) : SO h (nW h N c n) j := ⟨nW_I hj, nW_J hj, nW_D hj, nW_R hj, nW_K hj, nW_L hj⟩
theorem SO.sR {h : AH} {i k v j : Nat} (hj : j ≠ i) : SO h (sR h i k v) j := ⟨rfl, rfl, rfl, cR_ne hj, rfl, rfl⟩
theorem SO.zo {h h' : AH} {j : Nat} (s : SO h h' j) (z : ZO h j) : ZO h' j := ⟨s.1.trans z.1, s.2.1.trans z.2.1, s.2.2.1.trans z.2.2⟩
theorem SO.ko {h h' : AH} {j : Nat} (s : SO h h' j) (z : KO h j) : KO h' j := ⟨s.2.2.2.2.1.trans z.1, s.2.2.2.2.2.trans z.2⟩
theorem SO.lo {h h' : AH} {j : Nat} (s : SO h h' j) (z : LO (aR h) j) : LO (aR h') j := z.cg s.2.2.2.1
/-- objects N .. m are laid, all but the links of those of E and the numbers of those of Z; those before N are as they were -/
def Mid (N m : Nat) (Z E : List Nat) (h0 h : AH) : Prop := (0 < N ∧ N ≤ m) ∧ (∀ j, 0 < j → j < N → SO h0 h j) ∧ ∀ j, N ≤ j → j ≤ m → KO h j ∧ (j ∉ Z → ZO h j) ∧ (j ∉ E → LO (aR h) j)
theorem mid_0 {N : Nat} {h : AH} (h0 : 0 < N) (hk : KO h N) (hz : ZO h N) : Mid N N [] [N] h h := by
  refine ⟨⟨h0, Nat.le_refl _⟩, fun _ _ _ => SO.rf, fun j a b => ?_⟩
  obtain rfl : j = N := by omega
  exact ⟨hk, fun _ => hz, fun q => absurd (List.mem_singleton.mpr rfl) q⟩
theorem mid_arr {N m t n : Nat} {Z E : List Nat} {h0 h : AH} (hm : Mid N m Z E h0 h) (hk : wK (m + 1) = t) (hl : wL (m + 1) = n) (ht : 9 ≤ t ∧ t ≠ 14) : Mid N (m + 1) Z E h0 (nW h (m + 1) t n) := by
  obtain ⟨⟨h0, hN⟩, a, b⟩ := hm
  refine ⟨⟨h0, by omega⟩, fun j x y => (a j x y).tr (SO.nw (by omega)), fun j x y => ?_⟩
  by_cases e : j = m + 1
  · subst e
    exact ⟨⟨nW_k.trans hk.symm, nW_l.trans hl.symm⟩, fun _ => ⟨nW_i, nW_j, nW_d⟩, fun _ => LO.no hk (by omega)⟩
  · have s := SO.nw (h := h) (c := t) (n := n) e
    obtain ⟨q1, q2, q3⟩ := b j x (by omega)
    exact ⟨s.ko q1, fun q => s.zo (q2 q), fun q => s.lo (q3 q)⟩
theorem mid_arrE {N m t n : Nat} {Z E : List Nat} {h0 h : AH} (hm : Mid N m Z E h0 h) (hk : wK (m + 1) = t) (hl : wL (m + 1) = n) : Mid N (m + 1) Z ((m + 1) :: E) h0 (nW h (m + 1) t n) := by
  obtain ⟨⟨h0, hN⟩, a, b⟩ := hm
  refine ⟨⟨h0, by omega⟩, fun j x y => (a j x y).tr (SO.nw (by omega)), fun j x y => ?_⟩
  by_cases e : j = m + 1
  · subst e
    exact ⟨⟨nW_k.trans hk.symm, nW_l.trans hl.symm⟩, fun _ => ⟨nW_i, nW_j, nW_d⟩, fun q => absurd List.mem_cons_self q⟩
  · have s := SO.nw (h := h) (c := t) (n := n) e
    obtain ⟨q1, q2, q3⟩ := b j x (by omega)
    exact ⟨s.ko q1, fun q => s.zo (q2 q), fun q => s.lo (q3 fun w => q (List.mem_cons_of_mem _ w))⟩
theorem mid_put {N m i k v : Nat} {Z E : List Nat} {h0 h : AH} (hm : Mid N m Z E h0 h) (hi : i ∈ E) (hN : N ≤ i) : Mid N m Z E h0 (sR h i k v) := by
  obtain ⟨h0, a, b⟩ := hm
  refine ⟨h0, fun j x y => (a j x y).tr (SO.sR (by omega)), fun j x y => ?_⟩
  obtain ⟨q1, q2, q3⟩ := b j x y
  refine ⟨q1, q2, fun q => ?_⟩
  have e : j ≠ i := fun e => q (e ▸ hi)
  exact (SO.sR e).lo (q3 q)
theorem mid_sI {N m i k : Nat} {v : Int32} {Z E : List Nat} {h0 h : AH} (hm : Mid N m Z E h0 h) (hi : i ∈ Z) (hN : N ≤ i) : Mid N m Z E h0 (sI h i k v) := by
  obtain ⟨h0, a, b⟩ := hm
  have s : ∀ j, j ≠ i → SO h (sI h i k v) j := fun j hj => ⟨if_neg hj, rfl, rfl, rfl, rfl, rfl⟩
  refine ⟨h0, fun j x y => (a j x y).tr (s j (by omega)), fun j x y => ?_⟩
  obtain ⟨q1, q2, q3⟩ := b j x y
  exact ⟨q1, fun q => (s j fun e => q (e ▸ hi)).zo (q2 q), q3⟩
def CK (N m : Nat) (h h' : AH) : Prop := Mid N m [] [] h h'
theorem mid_ck {N m m' c : Nat} {Z E : List Nat} {h0 h h' : AH} (hm : Mid N m Z E h0 h) (hc : CK (m + 1) m' (nW h (m + 1) c 0) h') : Mid N m' Z E h0 h' ∧ ∀ i, 0 < i → i ≤ m → SO h h' i := by
  obtain ⟨⟨h0, hN⟩, a, b⟩ := hm
  obtain ⟨⟨g0, gN⟩, c1, d⟩ := hc
  have s : ∀ i, 0 < i → i ≤ m → SO h h' i := fun i x y => (SO.nw (by omega)).tr (c1 i x (by omega))
  refine ⟨⟨⟨h0, by omega⟩, fun j x y => (a j x y).tr (s j x (by omega)), fun j x y => ?_⟩, s⟩
  by_cases e : j ≤ m
  · obtain ⟨q1, q2, q3⟩ := b j x e
    have := s j (by omega) e
    exact ⟨this.ko q1, fun q => this.zo (q2 q), fun q => this.lo (q3 q)⟩
  · obtain ⟨q1, q2, q3⟩ := d j (by omega) y
    exact ⟨q1, fun _ => q2 List.not_mem_nil, fun _ => q3 List.not_mem_nil⟩
theorem mid_end {N m i : Nat} {Z E : List Nat} {h0 h : AH} (hm : Mid N m Z (i :: E) h0 h) (hl : LO (aR h) i) : Mid N m Z E h0 h := by
  obtain ⟨h0, a, b⟩ := hm
  refine ⟨h0, a, fun j x y => ?_⟩
  obtain ⟨q1, q2, q3⟩ := b j x y
  refine ⟨q1, q2, fun q => ?_⟩
  by_cases e : j = i
  · rw [e]; exact hl
  · exact q3 fun w => (List.mem_cons.mp w).elim e q
theorem mid_sw {N m i k : Nat} {Z E : List Nat} {h0 h : AH} (hm : Mid N m Z (i :: k :: E) h0 h) : Mid N m Z (k :: i :: E) h0 h := by
  obtain ⟨h0, a, b⟩ := hm
  refine ⟨h0, a, fun j x y => ?_⟩
  obtain ⟨q1, q2, q3⟩ := b j x y
  refine ⟨q1, q2, fun q => q3 fun w => q ?_⟩
  simp only [List.mem_cons] at w ⊢
  exact w.elim (fun e => .inr (.inl e)) (fun e => e.elim .inl (fun e => .inr (.inr e)))
theorem ko_new {h : AH} {m c : Nat} (hk : wK (m + 1) = c) (hl : wL (m + 1) = 0) : KO (nW h (m + 1) c 0) (m + 1) ∧ ZO (nW h (m + 1) c 0) (m + 1) := ⟨⟨nW_k.trans hk.symm, nW_l.trans hl.symm⟩, nW_i, nW_j, nW_d⟩
theorem mid_K {N m i c : Nat} {Z E : List Nat} {h0 h : AH} (hm : Mid N m Z E h0 h) (hi : N ≤ i) (hi2 : i ≤ m) (hc : wK i = c) : isK m h i c := ⟨(hm.2.2 i hi hi2).1.1.trans hc, by have := hm.1.1; omega, hi2⟩
theorem mid_A {N m i c n : Nat} {Z E : List Nat} {h0 h : AH} (hm : Mid N m Z E h0 h) (hi : N ≤ i) (hi2 : i ≤ m) (hc : wK i = c) (hl : wL i = n) : isA m h i c n := ⟨mid_K hm hi hi2 hc, (hm.2.2 i hi hi2).1.2.trans hl⟩
theorem sR_rne {h : AH} {i k v j : Nat} (hj : j ≠ i) : aR (sR h i k v) j = aR h j := cR_ne hj
/-- the lengths of things with fields -/
theorem wL0 : ∀ i, i ≤ NT → wK i < 10 → wL i = 0 := by
  have h : ((List.range 739).all fun i => Nat.ble 10 (wK i) || Nat.beq (wL i) 0) = true := by decide +kernel
  intro i hi hk
  have h1 := List.all_eq_true.mp h i (List.mem_range.mpr (by have : NT = 738 := rfl; omega))
  rw [Bool.or_eq_true] at h1
  rcases h1 with h1 | h1
  · have := Nat.le_of_ble_eq_true h1; omega
  · exact Nat.eq_of_beq_eq_true h1
theorem nW_R0 {h : AH} {N c n j k : Nat} (hj : j ≠ N) : aR (nW h N c n) j k = aR h j k := by rw [nW_R hj]
theorem sR_rne0 {h : AH} {i k v j q : Nat} (hj : j ≠ i) : aR (sR h i k v) j q = aR h j q := by rw [sR_rne hj]
section NEWR
variable {l : Launch} {G : GC} {M : MD} {R : Room} {Fi : CX → State → Prop} {N N' pc : Nat} {ls : List (Option Value)} {st : List Value} {cs : Nat × Nat} {h : AH} {K : Option Value → AH → Prop}
theorem w_ai : Cond.arrayClass .int ∈ tblG := tgI 215 (by decide +kernel) rfl
theorem w_ab : Cond.arrayClass .byte ∈ tblG := tgI 167 (by decide +kernel) rfl
theorem w_az : Cond.arrayClass .boolean ∈ tblG := tgI 358 (by decide +kernel) rfl
theorem w_aj : Cond.arrayClass .long ∈ tblG := tgI 1649 (by decide +kernel) rfl
theorem w_ad : Cond.arrayClass .double ∈ tblG := tgI 2188 (by decide +kernel) rfl
theorem w_oi : Cond.instanceMethod Lib.objectInit ∈ tblG := tgI 129 (by decide +kernel) rfl
theorem w_oc : Cond.code Lib.objectInit ⟨#[0xb1]⟩ 1 none ∈ tblG := tgI 130 (by decide +kernel) rfl
theorem r_newi {n : Nat} {x : Int32} (hx : x = nI n) (hn : n < 100000) (hN : N + 1 ≤ NT) (hc : Nat.ble (cs.1 + 1) R.cells = true) (hs : Nat.ble (cs.2 + n) R.slots = true) (hd : decode (mC M) pc = .ok (.newarray .int, 2)) (kk : PW l G M R Fi (N + 1) (pc + 2) ls (.ref (N + 1) :: st) (cs.1 + 1, cs.2 + n) (nW h (N + 1) 11 n)) : PW l G M R Fi N pc ls (.int x :: st) cs h :=
  r_newa (ty := .int) (a0 := (n, .inl fun _ => 0)) rfl (by decide) (List.mem_of_getElem? (i := 1) rfl) w_ai (fun _ _ q => q) hx hn hN (Nat.le_of_ble_eq_true hc) (Nat.le_of_ble_eq_true hs) hd (fun _ => rfl) (by unfold entA; rw [if_pos (by decide), nW_l, nW_i]) (by decide) kk
theorem r_newb {n : Nat} {x : Int32} (hx : x = nI n) (hn : n < 100000) (hN : N + 1 ≤ NT) (hc : Nat.ble (cs.1 + 1) R.cells = true) (hs : Nat.ble (cs.2 + n) R.slots = true) (hd : decode (mC M) pc = .ok (.newarray .byte, 2)) (kk : PW l G M R Fi (N + 1) (pc + 2) ls (.ref (N + 1) :: st) (cs.1 + 1, cs.2 + n) (nW h (N + 1) 10 n)) : PW l G M R Fi N pc ls (.int x :: st) cs h :=
  r_newa (ty := .byte) (a0 := (n, .inl fun _ => 0)) rfl (by decide) (List.mem_of_getElem? (i := 0) rfl) w_ab (fun _ _ q => q) hx hn hN (Nat.le_of_ble_eq_true hc) (Nat.le_of_ble_eq_true hs) hd (fun _ => rfl) (by unfold entA; rw [if_pos (by decide), nW_l, nW_i]) (by decide) kk
theorem r_newz {n : Nat} {x : Int32} (hx : x = nI n) (hn : n < 100000) (hN : N + 1 ≤ NT) (hc : Nat.ble (cs.1 + 1) R.cells = true) (hs : Nat.ble (cs.2 + n) R.slots = true) (hd : decode (mC M) pc = .ok (.newarray .boolean, 2)) (kk : PW l G M R Fi (N + 1) (pc + 2) ls (.ref (N + 1) :: st) (cs.1 + 1, cs.2 + n) (nW h (N + 1) 13 n)) : PW l G M R Fi N pc ls (.int x :: st) cs h :=
  r_newa (ty := .boolean) (a0 := (n, .inl fun _ => 0)) rfl (by decide) (List.mem_of_getElem? (i := 3) rfl) w_az (fun _ _ q => q) hx hn hN (Nat.le_of_ble_eq_true hc) (Nat.le_of_ble_eq_true hs) hd (fun _ => rfl) (by unfold entA; rw [if_pos (by decide), nW_l, nW_i]) (by decide) kk
theorem r_newj {n : Nat} {x : Int32} (hx : x = nI n) (hn : n < 100000) (hN : N + 1 ≤ NT) (hc : Nat.ble (cs.1 + 1) R.cells = true) (hs : Nat.ble (cs.2 + n) R.slots = true) (hd : decode (mC M) pc = .ok (.newarray .long, 2)) (kk : PW l G M R Fi (N + 1) (pc + 2) ls (.ref (N + 1) :: st) (cs.1 + 1, cs.2 + n) (nW h (N + 1) 12 n)) : PW l G M R Fi N pc ls (.int x :: st) cs h :=
  r_newa (ty := .long) (a0 := (n, .inr (.inl fun _ => 0))) rfl (by decide) (List.mem_of_getElem? (i := 2) rfl) w_aj (fun _ _ q => q) hx hn hN (Nat.le_of_ble_eq_true hc) (Nat.le_of_ble_eq_true hs) hd (fun _ => rfl) (by unfold entA; rw [if_neg (by decide), if_pos rfl, nW_l, nW_j]) (by decide) kk
theorem r_newd {n : Nat} {x : Int32} (hx : x = nI n) (hn : n < 100000) (hN : N + 1 ≤ NT) (hc : Nat.ble (cs.1 + 1) R.cells = true) (hs : Nat.ble (cs.2 + n) R.slots = true) (hd : decode (mC M) pc = .ok (.newarray .double, 2)) (kk : PW l G M R Fi (N + 1) (pc + 2) ls (.ref (N + 1) :: st) (cs.1 + 1, cs.2 + n) (nW h (N + 1) 16 n)) : PW l G M R Fi N pc ls (.int x :: st) cs h :=
  r_newa (ty := .double) (a0 := (n, .inr (.inr (.inr (.inl fun _ => 0))))) rfl (by decide) (List.mem_of_getElem? (i := 6) rfl) w_ad (fun _ _ q => q) hx hn hN (Nat.le_of_ble_eq_true hc) (Nat.le_of_ble_eq_true hs) hd (fun _ => rfl) (by unfold entA; rw [if_neg (by decide), if_neg (by decide), if_pos rfl, nW_l, nW_d]) (by decide) kk
theorem r_callIN0 {i ix : Nat} {M2 : MD} {host : String} (hlk : CNI (mY M).cls ix M2 host 0) (hrm : rmOK R cs M2 = true) (hst : (st.map fun v => v.category).sum ≤ 8) (hN : N' = N + (mO M2).cells) (hN2 : N' ≤ NT)
    (hd : decode (mC M) pc = .ok (.invokespecial ix, 3)) (hM : PM l G M2 N N' [.ref i] h (fun v h' => v = none ∧ CK i N' h h') noX)
    (kk : ∀ (h' : AH), CK i N' h h' → PW l G M R Fi N' (pc + 3) ls st (cs.1 + (mO M2).cells, cs.2 + (mO M2).slots) h') :
    PW l G M R Fi N pc ls (.ref i :: st) cs h :=
  r_callIN (as := []) hlk hrm hst (Or.inl ⟨hN, hN2⟩) hd hM fun v h' q => by obtain ⟨rfl, q⟩ := q; exact kk h' q
theorem r_callI0 {i ix : Nat} {M2 : MD} (hlk : CI (mY M).cls ix M2 0) (hrm : rmOK R cs M2 = true) (hst : (st.map fun v => v.category).sum ≤ 8) (hN : N' = N + (mO M2).cells) (hN2 : N' ≤ NT)
    (hd : decode (mC M) pc = .ok (.invokespecial ix, 3)) (hM : PM l G M2 N N' [.ref i] h (fun v h' => v = none ∧ CK i N' h h') noX)
    (kk : ∀ (h' : AH), CK i N' h h' → PW l G M R Fi N' (pc + 3) ls st (cs.1 + (mO M2).cells, cs.2 + (mO M2).slots) h') :
    PW l G M R Fi N pc ls (.ref i :: st) cs h :=
  r_callI (as := []) hlk hrm hst (Or.inl ⟨hN, hN2⟩) hd hM fun v h' q => by obtain ⟨rfl, q⟩ := q; exact kk h' q
theorem r_pastN {i n v p : Nat} {x : Int32} (hx : x = nI p) (hp : p < n) (hn : n < 1000) (ha : isA N h i 14 n) (hv : isK N h v 3) (hd : decode (mC M) pc = .ok (.aastore, 1)) (kk : PW l G M R Fi N (pc + 1) ls st cs (sR h i p v)) : PW l G M R Fi N pc ls (.ref v :: .int x :: .ref i :: st) cs h :=
  r_past ha (by rw [hx]; exact vp_in_nI hp (by omega)) hv hd (by rw [hx, nI_clamp (by omega)]; exact kk)
theorem r_sastN {i n v p : Nat} {x : Int32} (hx : x = nI p) (hp : p < n) (hn : n < 1000) (ha : isA N h i 15 n) (hv : isK N h v 6) (hd : decode (mC M) pc = .ok (.aastore, 1)) (kk : PW l G M R Fi N (pc + 1) ls st cs (sR h i p v)) : PW l G M R Fi N pc ls (.ref v :: .int x :: .ref i :: st) cs h :=
  r_sast ha (by rw [hx]; exact vp_in_nI hp (by omega)) hv hd (by rw [hx, nI_clamp (by omega)]; exact kk)
end NEWR
