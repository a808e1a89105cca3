-- the missed load of a pool's ticks alone never falls
def msD (p t : Nat) (s : Tr) : Nat → Nat
  | 0 => 0
  | n + 1 => msD p t s n + nn (lkF (qF (trT p t n s).1) (t + n))
theorem msD_ok {p t : Nat} {s : Tr} (h : TrO t s) : ∀ n, t + n + 1 < 2 ^ 30 → (trT p t n s).2 1 = s.2 1 + lN (msD p t s n) ∧ msD p t s n ≤ 1998 * n
  | 0, _ => ⟨(Int64.add_zero _).symm, Nat.le_refl _⟩
  | n + 1, hb => by
    obtain ⟨i1, i2⟩ := msD_ok h n (by omega)
    obtain ⟨o1, -⟩ := trT_ok (p := p) h n (by omega)
    have e1 : (trT p t (n + 1) s).2 1 = (trT p t n s).2 1 + (lkF (qF (trT p t n s).1) (t + n)).toInt64 := by
      rw [trT_s, tk1_2, pasG_1]
    have e2 : msD p t s (n + 1) = msD p t s n + nn (lkF (qF (trT p t n s).1) (t + n)) := rfl
    rw [e1, e2, i1]
    unfold TrO at o1
    generalize trT p t n s = s' at o1
    obtain ⟨a, b, m1, m2, m3, m4⟩ := lk_split (dmA_rg (u := t + n) (a := 0) o1) (pwF_rg (x := nI (t + n)) o1)
    have m5 : lkF (qF s'.1) (t + n) = nI a := m4
    rw [m5, nn_I (by omega), nI_l (by omega), Int64.add_assoc, lN_add]
    exact ⟨rfl, by omega⟩
theorem lg_eq0 {x y : Int64} : lg_cmp x y = 0 ↔ x = y := by
  unfold lg_cmp
  split
  · next h => exact ⟨fun q => absurd q (by decide), fun q => absurd h (by rw [q]; exact Int64.lt_irrefl)⟩
  · split
    · next _ h => exact ⟨fun _ => h, fun _ => rfl⟩
    · next _ h => exact ⟨fun q => absurd q (by decide), fun q => absurd q h⟩
theorem ms_cmp {r : Row} {m p i : Nat} {x : Int32} (hO : RoOK r.1 r.2 m) (hI : IvR r m) (ex : nn x = p) (pn : p < nn (r.1 0)) (hb : m + 300 < 2 ^ 23) (hi : i ≤ 300) :
    (lg_cmp (getG (tkN i r).2 p 1) (getG r.2 p 1) = 0 ↔ msD p (nn (r.1 1)) (T0 r p) i = 0) ∧ (0 < lg_cmp (getG (tkN i r).2 p 1) (getG r.2 p 1) ↔ 0 < msD p (nn (r.1 1)) (T0 r p) i) ∧ ∀ j, i = j + 1 → msB r x j = decide (0 < msD p (nn (r.1 1)) (T0 r p) i) := by
  have hT1 := hO.1.2.1.2.2
  have hsim := sim_N hO (sim_0 hO pn) i (by omega) (by omega)
  have hT : TrO (nn (r.1 1)) (T0 r p) := hO.2 p pn
  obtain ⟨k1, k2⟩ := msD_ok (p := p) hT i (by omega)
  obtain ⟨a, a1, a2⟩ := (hI p pn).2.2
  have e0 : (T0 r p).2 1 = lN a := a2
  rw [e0, lN_add] at k1
  have e1 : getG (tkN i r).2 p 1 = lN (a + msD p (nn (r.1 1)) (T0 r p) i) := (hsim.2.1 1 (by decide)).trans k1
  have e2 : ∀ j, i = j + 1 → (TN r x (j + 1)).2 1 = lN (a + msD p (nn (r.1 1)) (T0 r p) i) := fun j hj => by
    unfold TN; rw [ex, ← hj]; exact k1
  have e3 : gP r x 1 = lN a := by unfold gP; rw [ex]; exact a2
  generalize msD p (nn (r.1 1)) (T0 r p) i = d at k2 e1 e2
  rw [e1, a2]
  refine ⟨lg_eq0.trans ?_, lg_gt.trans ?_, fun j hj => ?_⟩
  · rw [lN_eqB (by omega) (by omega)]; omega
  · rw [lN_ltB (by omega) (by omega)]; omega
  · unfold msB
    rw [e2 j hj, e3]
    exact decide_eq_decide.mpr (by rw [lN_ltB (by omega) (by omega)]; omega)
theorem ev_N {r : Row} {m p : Nat} (hO : RoOK r.1 r.2 m) (hp : p < nn (r.1 0)) : ∀ n, 100 + 20 * (m + n) < 2 ^ 28 → nn (r.1 1) + n + 1 < 2 ^ 30 → nn (r.1 3) ≤ qE (trT p (nn (r.1 1)) n (T0 r p)).1 ∧ qE (trT p (nn (r.1 1)) n (T0 r p)).1 ≤ nn (r.1 3) + 5 * n
  | 0, _, _ => ⟨Nat.le_refl _, Nat.le_refl _⟩
  | n + 1, hb, ht => by
    obtain ⟨i1, i2⟩ := ev_N hO hp n (by omega) (by omega)
    have hsi := sim_N hO (sim_0 hO hp) n (by omega) (by omega)
    obtain ⟨-, -, v3⟩ := ev_tick (tkN_ok hO n (by omega)) (by omega) (by omega) hsi
    obtain ⟨-, o2⟩ := trT_ok (p := p) (s := T0 r p) (hO.2 p hp) (n + 1) (by omega)
    rw [← trT_s] at v3
    exact ⟨by omega, o2⟩
