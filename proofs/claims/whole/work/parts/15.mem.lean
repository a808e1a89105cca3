-- facts of members
theorem nI_s1 {p : Nat} (h : 1 ≤ p) : nI p - 1 = nI (p - 1) := (show nI p - nI 1 = nI (p - 1) from pk_sub h)
theorem oI_m1 {o : Option Nat} (h : ∀ k, o = some k → k < 2 ^ 31) : oI o = -1 ↔ o = none := by
  cases o with
  | none => exact ⟨fun _ => rfl, fun _ => rfl⟩
  | some k =>
    refine ⟨fun q => ?_, fun q => by cases q⟩
    have h1 : (nI k).toInt = (k : Int) := nI_toInt (h k rfl)
    have h2 : (nI k) = -1 := q
    rw [h2] at h1
    have h3 : (-1 : Int32).toInt = -1 := by decide
    omega
theorem nar_bI (b : Bool) : vp_nar .boolean (bI b) = bI b := by cases b <;> rfl
def sAge (l : List Mb) (t : Int32) : Nat → Int64
  | 0 => 0
  | n + 1 => sAge l t n + (t - mCame l n).toInt64
theorem MemR.lt {h : AH} {o i : Nat} {l : List Mb} (hm : MemR h o l) (hc : ¬ aI h o 4 ≤ nI i) (hi : i ≤ 20) : i < l.length := by
  rw [hm.1] at hc
  have := hm.2.1
  exact (nI_ltI (by omega) (by omega)).mp (i_lt.mp hc)
theorem MemR.ge {h : AH} {o i : Nat} {l : List Mb} (hm : MemR h o l) (hc : aI h o 4 ≤ nI i) (hi : i ≤ l.length) : l.length = i := by
  rw [hm.1] at hc
  have := hm.2.1
  have := (nI_leI (by omega) (by omega)).mp hc
  omega
theorem MemR.app {h h' : AH} {o : Nat} {l : List Mb} {a b c : Int32} {d : Bool} (hm : MemR h o l) (hn : l.length < 20) (h0 : aI h' o 4 = nI (l.length + 1)) (h1 : aI h' (o + 1) = upd (aI h (o + 1)) l.length a) (h2 : aI h' (o + 2) = upd (aI h (o + 2)) l.length b) (h3 : aI h' (o + 3) = upd (aI h (o + 3)) l.length c) (h4 : aI h' (o + 4) = upd (aI h (o + 4)) l.length (bI d)) : MemR h' o (l ++ [(a, b, c, d)]) := by
  refine ⟨by rw [h0, List.length_append]; rfl, by rw [List.length_append]; simp; omega, fun k hk => ?_⟩
  rw [List.length_append] at hk
  have hk' : k < l.length + 1 := by simpa using hk
  unfold mNum mCame mRdy mPrt
  rw [getD_app, h1, h2, h3, h4]
  by_cases e : k = l.length
  · subst e
    rw [if_neg (by omega), if_pos rfl, pk_us, pk_us, pk_us, pk_us]
    exact ⟨rfl, rfl, rfl, rfl⟩
  · rw [if_pos (by omega), pk_un e, pk_un e, pk_un e, pk_un e]
    exact hm.2.2 k (by omega)
def shf (f : Nat → Int32) (g p : Nat) : Nat → Int32 := fun j => if g ≤ j ∧ j + 1 < p then f (j + 1) else f j
theorem shf_0 (f : Nat → Int32) (g : Nat) : shf f g (g + 1) = f := by
  funext j; unfold shf; rw [if_neg (by omega)]
theorem shf_1 {f F : Nat → Int32} {g p : Nat} {v : Int32} (hF : F = shf f g p) (hg : g < p) (hv : v = F p) : upd F (p - 1) v = shf f g (p + 1) := by
  subst hF; subst hv
  funext j
  by_cases e : j = p - 1
  · subst e
    rw [pk_us]; unfold shf
    rw [if_neg (by omega), if_pos (by omega)]
    congr 1; omega
  · rw [pk_un e]; unfold shf
    by_cases h2 : g ≤ j ∧ j + 1 < p
    · rw [if_pos h2, if_pos (by omega)]
    · rw [if_neg h2, if_neg (by omega)]
theorem MemR.del {h h' : AH} {o g : Nat} {l : List Mb} (hm : MemR h o l) (hg : g < l.length) (h0 : aI h' o 4 = nI (l.length - 1)) (h1 : aI h' (o + 1) = shf (aI h (o + 1)) g l.length) (h2 : aI h' (o + 2) = shf (aI h (o + 2)) g l.length) (h3 : aI h' (o + 3) = shf (aI h (o + 3)) g l.length) (h4 : aI h' (o + 4) = shf (aI h (o + 4)) g l.length) : MemR h' o (l.eraseIdx g) := by
  have hlen : (l.eraseIdx g).length = l.length - 1 := List.length_eraseIdx_of_lt hg
  refine ⟨by rw [h0, hlen], by have := hm.2.1; omega, fun k hk => ?_⟩
  rw [hlen] at hk
  unfold mNum mCame mRdy mPrt
  rw [getD_del, h1, h2, h3, h4]
  unfold shf
  by_cases e : k < g
  · have c1 : ¬ (g ≤ k ∧ k + 1 < l.length) := by omega
    simp only [if_neg c1, if_pos e]
    exact hm.2.2 k (by omega)
  · have c1 : g ≤ k ∧ k + 1 < l.length := by omega
    simp only [if_pos c1, if_neg e]
    exact hm.2.2 (k + 1) (by omega)
theorem take_getD {l : List Mb} {i k : Nat} (h : k < i) : (l.take i).getD k mD = l.getD k mD := by
  rw [List.getD_eq_getElem?_getD, List.getElem?_take, if_pos h, List.getD_eq_getElem?_getD]
theorem take_succ' {l : List Mb} {i : Nat} (h : i < l.length) : l.take (i + 1) = l.take i ++ [l.getD i mD] := by
  rw [List.take_succ, List.getD_eq_getElem?_getD, List.getElem?_eq_getElem h]
  rfl
def mSetP (l : List Mb) (k : Nat) (d : Bool) : List Mb := l.set k (mNum l k, mCame l k, mRdy l k, d)
theorem mSetP_len {l : List Mb} {k : Nat} {d : Bool} : (mSetP l k d).length = l.length := List.length_set
theorem mSetP_at {l : List Mb} {k j : Nat} {d : Bool} (hk : k < l.length) : (mSetP l k d).getD j mD = if j = k then (mNum l k, mCame l k, mRdy l k, d) else l.getD j mD := by
  unfold mSetP
  rw [List.getD_eq_getElem?_getD, List.getElem?_set]
  by_cases e : k = j
  · subst e; rw [if_pos rfl, if_pos hk, if_pos rfl]; rfl
  · rw [if_neg e, if_neg (fun q => e q.symm), List.getD_eq_getElem?_getD]
theorem MemR.setP {h : AH} {o k : Nat} {l : List Mb} {d : Bool} (hm : MemR h o l) (hk : k < l.length) : MemR (sI h (o + 4) k (bI d)) o (mSetP l k d) := by
  refine ⟨by rw [sI_o (by omega), mSetP_len]; exact hm.1, by rw [mSetP_len]; exact hm.2.1, fun j hj => ?_⟩
  rw [mSetP_len] at hj
  unfold mNum mCame mRdy mPrt
  rw [mSetP_at hk, sI_o (by omega), sI_o (by omega), sI_o (by omega)]
  by_cases e : j = k
  · subst e
    rw [if_pos rfl, sI_s]
    exact ⟨(hm.2.2 j hj).1, (hm.2.2 j hj).2.1, (hm.2.2 j hj).2.2.1, rfl⟩
  · rw [if_neg e, sI_k e]
    exact hm.2.2 j hj
theorem mSetP_last {l : List Mb} {a b c : Int32} {d d' : Bool} : mSetP (l ++ [(a, b, c, d)]) l.length d' = l ++ [(a, b, c, d')] := by
  have e : (l ++ [(a, b, c, d)]).getD l.length mD = (a, b, c, d) := by rw [getD_app, if_neg (by omega), if_pos rfl]
  unfold mSetP mNum mCame mRdy
  rw [e, List.set_append_right _ _ (Nat.le_refl _), Nat.sub_self]
  rfl
