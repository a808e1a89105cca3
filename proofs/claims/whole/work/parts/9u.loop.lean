-- the law's loop
theorem and63 {x : Int32} : ∃ k, k < 64 ∧ x &&& 63 = nI k := by
  have h : (x &&& 63).toBitVec.toNat < 64 := by
    show (x.toBitVec &&& 63#32).toNat < 64
    rw [BitVec.toNat_and]
    exact Nat.lt_of_le_of_lt Nat.and_le_right (by decide)
  refine ⟨(x &&& 63).toBitVec.toNat, h, ?_⟩
  apply Int32.toBitVec_inj.mp
  apply BitVec.eq_of_toNat_eq
  show _ = (BitVec.ofNat 32 _).toNat
  rw [BitVec.toNat_ofNat]
  omega
theorem ge6 {g k : Nat} (hg : g ≤ 3072) (hk : k ≤ 4000) (h : ¬ nI g - 6 < nI k) : k + 6 ≤ g := by
  have e6 : (6 : Int32).toInt = 6 := rfl
  rw [Int32.lt_iff_toInt_lt, Int32.toInt_sub, nI_toInt (by omega), nI_toInt (by omega), e6] at h
  have eb : ((g : Int) - 6).bmod (2 ^ 32) = (g : Int) - 6 := Int.bmod_eq_of_le (by omega) (by omega)
  rw [eb] at h
  omega
theorem to64 {k : Nat} (h : k < 64) : (nI k).toInt = (k : Int) := nI_toInt (by omega)
set_option maxRecDepth 100000 in
set_option maxHeartbeats 4000000 in
theorem law_sw {l9 : Launch} {G : GC} {Fi : CX → State → Prop} {h : AH} {r s : Row} {L : List Row} {sv : Bool} {b : Nat → Int32} {n j : Nat} {o : Ob} {er eo : Int32} {l6 l7 l8 : Option Value} {cs : Nat × Nat} (hG : GOK G) (hj : 6 * j + 6 ≤ gL G) (hL3 : gL G ≤ 3072) (w : StL h r L r L s sv b n o er eo) (hp : LvP r L s sv b n (300 * j)) (hc1 : cs.1 ≤ 800 + 60 * j) (hc2 : cs.2 ≤ 40000 + 400 * j) (kk : LNx l9 G Fi j) {k : Nat} (hk : k < 64) : PW l9 G mL_law room_1 Fi NT 45 [some (.ref 0), some (.ref 1), some (.ref 723), some (.ref 737), some (.ref 738), some (.int (nI (6 * j))), l6, l7, l8] [.int (nI k)] cs h := by
  by_cases q0_64 : k < 32
  · skip
    by_cases q0_32 : k < 16
    · skip
      by_cases q0_16 : k < 8
      · skip
        by_cases q0_8 : k < 4
        · skip
          by_cases q0_4 : k < 2
          · skip
            by_cases q0_2 : k < 1
            · skip
              obtain rfl : k = 0 := by omega
              refine r_tabIn 316 dL_law_45 (by decide) (by decide) rfl (by decide) ?_
              exact law_0 hG hj hL3 w hp hc1 hc2 kk
            · skip
              obtain rfl : k = 1 := by omega
              refine r_tabIn 389 dL_law_45 (by decide) (by decide) rfl (by decide) ?_
              exact law_1 hG hj hL3 w hp hc1 hc2 kk
          · skip
            by_cases q2_4 : k < 3
            · skip
              obtain rfl : k = 2 := by omega
              refine r_tabIn 414 dL_law_45 (by decide) (by decide) rfl (by decide) ?_
              exact law_2 hG hj hL3 w hp hc1 hc2 kk
            · skip
              obtain rfl : k = 3 := by omega
              refine r_tabIn 427 dL_law_45 (by decide) (by decide) rfl (by decide) ?_
              exact law_3 hG hj hL3 w hp hc1 hc2 kk
        · skip
          by_cases q4_8 : k < 6
          · skip
            by_cases q4_6 : k < 5
            · skip
              obtain rfl : k = 4 := by omega
              refine r_tabIn 440 dL_law_45 (by decide) (by decide) rfl (by decide) ?_
              exact law_4 hG hj hL3 w hp hc1 hc2 kk
            · skip
              obtain rfl : k = 5 := by omega
              refine r_tabIn 453 dL_law_45 (by decide) (by decide) rfl (by decide) ?_
              exact law_5 hG hj hL3 w hp hc1 hc2 kk
          · skip
            by_cases q6_8 : k < 7
            · skip
              obtain rfl : k = 6 := by omega
              refine r_tabIn 509 dL_law_45 (by decide) (by decide) rfl (by decide) ?_
              exact law_6 hG hj hL3 w hp hc1 hc2 kk
            · skip
              obtain rfl : k = 7 := by omega
              refine r_tabIn 577 dL_law_45 (by decide) (by decide) rfl (by decide) ?_
              exact law_7 hG hj hL3 w hp hc1 hc2 kk
      · skip
        by_cases q8_16 : k < 12
        · skip
          by_cases q8_12 : k < 10
          · skip
            by_cases q8_10 : k < 9
            · skip
              obtain rfl : k = 8 := by omega
              refine r_tabIn 645 dL_law_45 (by decide) (by decide) rfl (by decide) ?_
              exact law_8 hG hj hL3 w hp hc1 hc2 kk
            · skip
              obtain rfl : k = 9 := by omega
              refine r_tabIn 713 dL_law_45 (by decide) (by decide) rfl (by decide) ?_
              exact law_9 hG hj hL3 w hp hc1 hc2 kk
          · skip
            by_cases q10_12 : k < 11
            · skip
              obtain rfl : k = 10 := by omega
              refine r_tabIn 781 dL_law_45 (by decide) (by decide) rfl (by decide) ?_
              exact law_10 hG hj hL3 w hp hc1 hc2 kk
            · skip
              obtain rfl : k = 11 := by omega
              refine r_tabIn 849 dL_law_45 (by decide) (by decide) rfl (by decide) ?_
              exact law_11 hG hj hL3 w hp hc1 hc2 kk
        · skip
          by_cases q12_16 : k < 14
          · skip
            by_cases q12_14 : k < 13
            · skip
              obtain rfl : k = 12 := by omega
              refine r_tabIn 905 dL_law_45 (by decide) (by decide) rfl (by decide) ?_
              exact law_12 hG hj hL3 w hp hc1 hc2 kk
            · skip
              obtain rfl : k = 13 := by omega
              refine r_tabIn 961 dL_law_45 (by decide) (by decide) rfl (by decide) ?_
              exact law_13 hG hj hL3 w hp hc1 hc2 kk
          · skip
            by_cases q14_16 : k < 15
            · skip
              obtain rfl : k = 14 := by omega
              refine r_tabIn 1017 dL_law_45 (by decide) (by decide) rfl (by decide) ?_
              exact law_14 hG hj hL3 w hp hc1 hc2 kk
            · skip
              obtain rfl : k = 15 := by omega
              refine r_tabIn 1094 dL_law_45 (by decide) (by decide) rfl (by decide) ?_
              exact law_15 hG hj hL3 w hp hc1 hc2 kk
    · skip
      by_cases q16_32 : k < 24
      · skip
        by_cases q16_24 : k < 20
        · skip
          by_cases q16_20 : k < 18
          · skip
            by_cases q16_18 : k < 17
            · skip
              obtain rfl : k = 16 := by omega
              refine r_tabIn 1150 dL_law_45 (by decide) (by decide) rfl (by decide) ?_
              by_cases hy : gX G (6 * j + 2) = 0
              · exact law_16_0 hG hj hL3 hy w hp hc1 hc2 kk
              · exact law_16_1 hG hj hL3 hy w hp hc1 hc2 kk
            · skip
              obtain rfl : k = 17 := by omega
              refine r_tabIn 1234 dL_law_45 (by decide) (by decide) rfl (by decide) ?_
              exact law_17 hG hj hL3 w hp hc1 hc2 kk
          · skip
            by_cases q18_20 : k < 19
            · skip
              obtain rfl : k = 18 := by omega
              refine r_tabIn 1289 dL_law_45 (by decide) (by decide) rfl (by decide) ?_
              exact law_18 hG hj hL3 w hp hc1 hc2 kk
            · skip
              obtain rfl : k = 19 := by omega
              refine r_tabIn 1344 dL_law_45 (by decide) (by decide) rfl (by decide) ?_
              exact law_19 hG hj hL3 w hp hc1 hc2 kk
        · skip
          by_cases q20_24 : k < 22
          · skip
            by_cases q20_22 : k < 21
            · skip
              obtain rfl : k = 20 := by omega
              refine r_tabIn 1399 dL_law_45 (by decide) (by decide) rfl (by decide) ?_
              exact law_20 hG hj hL3 w hp hc1 hc2 kk
            · skip
              obtain rfl : k = 21 := by omega
              refine r_tabIn 1477 dL_law_45 (by decide) (by decide) rfl (by decide) ?_
              exact law_21 hG hj hL3 w hp hc1 hc2 kk
          · skip
            by_cases q22_24 : k < 23
            · skip
              obtain rfl : k = 22 := by omega
              refine r_tabIn 1554 dL_law_45 (by decide) (by decide) rfl (by decide) ?_
              exact law_22 hG hj hL3 w hp hc1 hc2 kk
            · skip
              obtain rfl : k = 23 := by omega
              refine r_tabIn 1610 dL_law_45 (by decide) (by decide) rfl (by decide) ?_
              exact law_23 hG hj hL3 w hp hc1 hc2 kk
      · skip
        by_cases q24_32 : k < 28
        · skip
          by_cases q24_28 : k < 26
          · skip
            by_cases q24_26 : k < 25
            · skip
              obtain rfl : k = 24 := by omega
              refine r_tabIn 1678 dL_law_45 (by decide) (by decide) rfl (by decide) ?_
              exact law_24 hG hj hL3 w hp hc1 hc2 kk
            · skip
              obtain rfl : k = 25 := by omega
              refine r_tabIn 1746 dL_law_45 (by decide) (by decide) rfl (by decide) ?_
              exact law_25 hG hj hL3 w hp hc1 hc2 kk
          · skip
            by_cases q26_28 : k < 27
            · skip
              obtain rfl : k = 26 := by omega
              refine r_tabIn 1802 dL_law_45 (by decide) (by decide) rfl (by decide) ?_
              exact law_26 hG hj hL3 w hp hc1 hc2 kk
            · skip
              obtain rfl : k = 27 := by omega
              refine r_tabIn 1870 dL_law_45 (by decide) (by decide) rfl (by decide) ?_
              by_cases hy : gX G (6 * j + 2) = 0
              · exact law_27_0 hG hj hL3 hy w hp hc1 hc2 kk
              · exact law_27_1 hG hj hL3 hy w hp hc1 hc2 kk
        · skip
          by_cases q28_32 : k < 30
          · skip
            by_cases q28_30 : k < 29
            · skip
              obtain rfl : k = 28 := by omega
              refine r_tabIn 1961 dL_law_45 (by decide) (by decide) rfl (by decide) ?_
              exact law_28 hG hj hL3 w hp hc1 hc2 kk
            · skip
              obtain rfl : k = 29 := by omega
              refine r_tabIn 2029 dL_law_45 (by decide) (by decide) rfl (by decide) ?_
              exact law_29 hG hj hL3 w hp hc1 hc2 kk
          · skip
            by_cases q30_32 : k < 31
            · skip
              obtain rfl : k = 30 := by omega
              refine r_tabIn 2085 dL_law_45 (by decide) (by decide) rfl (by decide) ?_
              by_cases hy : gX G (6 * j + 2) = 0
              · exact law_30_0 hG hj hL3 hy w hp hc1 hc2 kk
              · exact law_30_1 hG hj hL3 hy w hp hc1 hc2 kk
            · skip
              obtain rfl : k = 31 := by omega
              refine r_tabIn 2176 dL_law_45 (by decide) (by decide) rfl (by decide) ?_
              exact law_31 hG hj hL3 w hp hc1 hc2 kk
  · skip
    by_cases q32_64 : k < 48
    · skip
      by_cases q32_48 : k < 40
      · skip
        by_cases q32_40 : k < 36
        · skip
          by_cases q32_36 : k < 34
          · skip
            by_cases q32_34 : k < 33
            · skip
              obtain rfl : k = 32 := by omega
              refine r_tabIn 2256 dL_law_45 (by decide) (by decide) rfl (by decide) ?_
              exact law_32 hG hj hL3 w hp hc1 hc2 kk
            · skip
              obtain rfl : k = 33 := by omega
              refine r_tabIn 2324 dL_law_45 (by decide) (by decide) rfl (by decide) ?_
              exact law_33 hG hj hL3 w hp hc1 hc2 kk
          · skip
            by_cases q34_36 : k < 35
            · skip
              obtain rfl : k = 34 := by omega
              refine r_tabIn 2404 dL_law_45 (by decide) (by decide) rfl (by decide) ?_
              exact law_34 hG hj hL3 w hp hc1 hc2 kk
            · skip
              obtain rfl : k = 35 := by omega
              refine r_tabIn 2484 dL_law_45 (by decide) (by decide) rfl (by decide) ?_
              exact law_35 hG hj hL3 w hp hc1 hc2 kk
        · skip
          by_cases q36_40 : k < 38
          · skip
            by_cases q36_38 : k < 37
            · skip
              obtain rfl : k = 36 := by omega
              refine r_tabIn 2552 dL_law_45 (by decide) (by decide) rfl (by decide) ?_
              exact law_36 hG hj hL3 w hp hc1 hc2 kk
            · skip
              obtain rfl : k = 37 := by omega
              refine r_tabIn 2619 dL_law_45 (by decide) (by decide) rfl (by decide) ?_
              exact law_37 hG hj hL3 w hp hc1 hc2 kk
          · skip
            by_cases q38_40 : k < 39
            · skip
              obtain rfl : k = 38 := by omega
              refine r_tabIn 2686 dL_law_45 (by decide) (by decide) rfl (by decide) ?_
              exact law_38 hG hj hL3 w hp hc1 hc2 kk
            · skip
              obtain rfl : k = 39 := by omega
              refine r_tabIn 2754 dL_law_45 (by decide) (by decide) rfl (by decide) ?_
              exact law_39 hG hj hL3 w hp hc1 hc2 kk
      · skip
        by_cases q40_48 : k < 44
        · skip
          by_cases q40_44 : k < 42
          · skip
            by_cases q40_42 : k < 41
            · skip
              obtain rfl : k = 40 := by omega
              refine r_tabIn 2822 dL_law_45 (by decide) (by decide) rfl (by decide) ?_
              exact law_40 hG hj hL3 w hp hc1 hc2 kk
            · skip
              obtain rfl : k = 41 := by omega
              refine r_tabIn 2890 dL_law_45 (by decide) (by decide) rfl (by decide) ?_
              exact law_41 hG hj hL3 w hp hc1 hc2 kk
          · skip
            by_cases q42_44 : k < 43
            · skip
              obtain rfl : k = 42 := by omega
              refine r_tabIn 2946 dL_law_45 (by decide) (by decide) rfl (by decide) ?_
              exact law_42 hG hj hL3 w hp hc1 hc2 kk
            · skip
              obtain rfl : k = 43 := by omega
              refine r_tabIn 3014 dL_law_45 (by decide) (by decide) rfl (by decide) ?_
              exact law_43 hG hj hL3 w hp hc1 hc2 kk
        · skip
          by_cases q44_48 : k < 46
          · skip
            by_cases q44_46 : k < 45
            · skip
              obtain rfl : k = 44 := by omega
              refine r_tabIn 3082 dL_law_45 (by decide) (by decide) rfl (by decide) ?_
              exact law_44 hG hj hL3 w hp hc1 hc2 kk
            · skip
              obtain rfl : k = 45 := by omega
              refine r_tabIn 3162 dL_law_45 (by decide) (by decide) rfl (by decide) ?_
              exact law_45 hG hj hL3 w hp hc1 hc2 kk
          · skip
            by_cases q46_48 : k < 47
            · skip
              obtain rfl : k = 46 := by omega
              refine r_tabIn 3218 dL_law_45 (by decide) (by decide) rfl (by decide) ?_
              exact law_46 hG hj hL3 w hp hc1 hc2 kk
            · skip
              obtain rfl : k = 47 := by omega
              refine r_tabIn 3274 dL_law_45 (by decide) (by decide) rfl (by decide) ?_
              exact law_47 hG hj hL3 w hp hc1 hc2 kk
    · skip
      by_cases q48_64 : k < 56
      · skip
        by_cases q48_56 : k < 52
        · skip
          by_cases q48_52 : k < 50
          · skip
            by_cases q48_50 : k < 49
            · skip
              obtain rfl : k = 48 := by omega
              refine r_tabIn 3287 dL_law_45 (by decide) (by decide) rfl (by decide) ?_
              exact law_48 hG hj hL3 w hp hc1 hc2 kk
            · skip
              obtain rfl : k = 49 := by omega
              refine r_tabIn 3355 dL_law_45 (by decide) (by decide) rfl (by decide) ?_
              exact law_49 hG hj hL3 w hp hc1 hc2 kk
          · skip
            by_cases q50_52 : k < 51
            · skip
              obtain rfl : k = 50 := by omega
              refine r_tabIn 3423 dL_law_45 (by decide) (by decide) rfl (by decide) ?_
              exact law_50 hG hj hL3 w hp hc1 hc2 kk
            · skip
              obtain rfl : k = 51 := by omega
              refine r_tabIn 3491 dL_law_45 (by decide) (by decide) rfl (by decide) ?_
              exact law_51 hG hj hL3 w hp hc1 hc2 kk
        · skip
          by_cases q52_56 : k < 54
          · skip
            by_cases q52_54 : k < 53
            · skip
              obtain rfl : k = 52 := by omega
              refine r_tabIn 3568 dL_law_45 (by decide) (by decide) rfl (by decide) ?_
              exact law_52 hG hj hL3 w hp hc1 hc2 kk
            · skip
              obtain rfl : k = 53 := by omega
              refine r_tabIn 3624 dL_law_45 (by decide) (by decide) rfl (by decide) ?_
              exact law_53 hG hj hL3 w hp hc1 hc2 kk
          · skip
            by_cases q54_56 : k < 55
            · skip
              obtain rfl : k = 54 := by omega
              refine r_tabIn 3680 dL_law_45 (by decide) (by decide) rfl (by decide) ?_
              exact law_54 hG hj hL3 w hp hc1 hc2 kk
            · skip
              obtain rfl : k = 55 := by omega
              refine r_tabIn 3748 dL_law_45 (by decide) (by decide) rfl (by decide) ?_
              exact law_55 hG hj hL3 w hp hc1 hc2 kk
      · skip
        by_cases q56_64 : k < 60
        · skip
          by_cases q56_60 : k < 58
          · skip
            by_cases q56_58 : k < 57
            · skip
              obtain rfl : k = 56 := by omega
              refine r_tabIn 3827 dL_law_45 (by decide) (by decide) rfl (by decide) ?_
              exact law_56 hG hj hL3 w hp hc1 hc2 kk
            · skip
              obtain rfl : k = 57 := by omega
              refine r_tabIn 3883 dL_law_45 (by decide) (by decide) rfl (by decide) ?_
              exact law_57 hG hj hL3 w hp hc1 hc2 kk
          · skip
            by_cases q58_60 : k < 59
            · skip
              obtain rfl : k = 58 := by omega
              refine r_tabIn 3963 dL_law_45 (by decide) (by decide) rfl (by decide) ?_
              exact law_58 hG hj hL3 w hp hc1 hc2 kk
            · skip
              obtain rfl : k = 59 := by omega
              refine r_tabIn 3976 dL_law_45 (by decide) (by decide) rfl (by decide) ?_
              exact law_59 hG hj hL3 w hp hc1 hc2 kk
        · skip
          by_cases q60_64 : k < 62
          · skip
            by_cases q60_62 : k < 61
            · skip
              obtain rfl : k = 60 := by omega
              refine r_tabIn 4032 dL_law_45 (by decide) (by decide) rfl (by decide) ?_
              exact law_60 hG hj hL3 w hp hc1 hc2 kk
            · skip
              obtain rfl : k = 61 := by omega
              refine r_tabIn 4057 dL_law_45 (by decide) (by decide) rfl (by decide) ?_
              exact law_61 hG hj hL3 w hp hc1 hc2 kk
          · skip
            by_cases q62_64 : k < 63
            · skip
              obtain rfl : k = 62 := by omega
              refine r_tabIn 4070 dL_law_45 (by decide) (by decide) rfl (by decide) ?_
              exact law_62 hG hj hL3 w hp hc1 hc2 kk
            · skip
              obtain rfl : k = 63 := by omega
              refine r_tabIn 4083 dL_law_45 (by decide) (by decide) rfl (by decide) ?_
              exact law_63 hG hj hL3 w hp hc1 hc2 kk
set_option maxRecDepth 100000 in
theorem law_rd {l9 : Launch} {G : GC} {Fi : CX → State → Prop} {h : AH} {r s : Row} {L : List Row} {sv : Bool} {b : Nat → Int32} {n j : Nat} {o : Ob} {er eo : Int32} {l6 l7 l8 : Option Value} {cs : Nat × Nat} (hG : GOK G) (hj : 6 * j + 6 ≤ gL G) (hL3 : gL G ≤ 3072) (w : StL h r L r L s sv b n o er eo) (hp : LvP r L s sv b n (300 * j)) (hc1 : cs.1 ≤ 800 + 60 * j) (hc2 : cs.2 ≤ 40000 + 400 * j) (kk : LNx l9 G Fi j) : PW l9 G mL_law room_1 Fi NT 38 [some (.ref 0), some (.ref 1), some (.ref 723), some (.ref 737), some (.ref 738), some (.int (nI (6 * j))), l6, l7, l8] [] cs h := by
  refine r_aload_n dL_law_38 rfl ?_
  refine r_iload dL_law_39 rfl ?_
  refine r_sld (k := 6 * j) rfl (by omega) hL3 dL_law_41 ?_
  refine r_bipush (63) dL_law_42 (by decide) ?_
  refine r_iand dL_law_44 ?_
  obtain ⟨k, hk, e⟩ := and63 (x := gX G (6 * j))
  rw [e]
  exact law_sw hG hj hL3 w hp hc1 hc2 kk hk
set_option maxRecDepth 100000 in
theorem law_loop {l9 : Launch} {G : GC} {Fi : CX → State → Prop} (hG : GOK G) (hL3 : gL G ≤ 3072) (hE : ∀ (ls : List (Option Value)) (cs : Nat × Nat) (h : AH), cs.1 ≤ 601024 → cs.2 ≤ 7293034 → PW l9 G mL_law room_1 Fi NT 4134 ls [.int 1] cs h) : ∀ (d j : Nat), gL G ≤ 6 * j + d → j ≤ 512 → ∀ {h : AH} {r s : Row} {L : List Row} {sv : Bool} {b : Nat → Int32} {n : Nat} {o : Ob} {er eo : Int32} {l6 l7 l8 : Option Value} {cs : Nat × Nat}, StL h r L r L s sv b n o er eo → LvP r L s sv b n (300 * j) → cs.1 ≤ 800 + 60 * j → cs.2 ≤ 40000 + 400 * j → PW l9 G mL_law room_1 Fi NT 28 [some (.ref 0), some (.ref 1), some (.ref 723), some (.ref 737), some (.ref 738), some (.int (nI (6 * j))), l6, l7, l8] [] cs h := by
  intro d
  induction d with
  | zero =>
    intro j hd hj5 h r s L sv b n o er eo l6 l7 l8 cs w hp hc1 hc2
    refine r_iload dL_law_28 rfl ?_
    refine r_aload_n dL_law_30 rfl ?_
    refine r_slen hL3 dL_law_31 ?_
    refine r_bipush (6) dL_law_32 (by decide) ?_
    refine r_isub dL_law_34 ?_
    refine r_icmp_gt 4133 dL_law_35 (by decide) (fun _ => ?_) (fun c9 => absurd (ge6 hL3 (by omega) c9) (by omega))
    refine r_iconst (1) dL_law_4133 (by decide) ?_
    exact hE _ _ _ (by omega) (by omega)
  | succ d ih =>
    intro j hd hj5 h r s L sv b n o er eo l6 l7 l8 cs w hp hc1 hc2
    refine r_iload dL_law_28 rfl ?_
    refine r_aload_n dL_law_30 rfl ?_
    refine r_slen hL3 dL_law_31 ?_
    refine r_bipush (6) dL_law_32 (by decide) ?_
    refine r_isub dL_law_34 ?_
    refine r_icmp_gt 4133 dL_law_35 (by decide) (fun _ => ?_) (fun c9 => ?_)
    · refine r_iconst (1) dL_law_4133 (by decide) ?_
      exact hE _ _ _ (by omega) (by omega)
    · have hj := ge6 hL3 (by omega) c9
      refine law_rd hG hj hL3 w hp hc1 hc2 ?_
      intro h' r' L' s' sv' b' n' o' er' eo' k6 k7 k8 cs' w' hp' hd1 hd2
      refine r_iinc (6) (by decide) (ls2 := [some (.ref 0), some (.ref 1), some (.ref 723), some (.ref 737), some (.ref 738), some (.int (nI (6 * (j + 1)))), k6, k7, k8]) dL_law_4127 rfl (by decide) (congrArg (fun z => [some (Value.ref 0), some (.ref 1), some (.ref 723), some (.ref 737), some (.ref 738), some (.int z), k6, k7, k8]) (show nI (6 * j) + 6 = nI (6 * j + 6) from nadd rfl kn_6)) ?_
      refine r_goto 28 dL_law_4130 (by decide) ?_
      exact ih (j + 1) (by omega) (by omega) w' hp' hd1 hd2
