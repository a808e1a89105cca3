-- String constants: length, charAt
section STR
variable {l : Launch} {G : GC} {M : MD} {R : Room} {Fi : CX → State → Prop} {N N' pc : Nat} {ls : List (Option Value)} {st : List Value} {cs : Nat × Nat} {h : AH} {K : Option Value → AH → Prop} {X : String → AH → Prop}
theorem r_nret {x : Int32} {ty : FieldType} (hd : decode (mC M) pc = .ok (.ireturn, 1)) (ht : mR M = some ty) (hx : narrow ty (.int x) = .int x) (hc : cs.1 ≤ (mO M).cells ∧ cs.2 ≤ (mO M).slots) (hq : K (some (.int x)) h) (hy : tyV (some ty) (some (.int x)) := by first | exact trivial | exact ⟨_, rfl⟩) : PW l G M (mO M) (fiM G M N K X) N pc ls [.int x] cs h := by
  intro p e s m args below meth c9 H locs la C hr hs hl
  refine vx_ret (W.widen hc.1 hc.2 (W.zret C.1 C.2.1 (C.2.2.2.1.trans ht) hx (fun t e9 hW => ⟨⟨some (.int x), h, rfl, ⟨(by rw [ht]; exact hy), hq⟩, ?_⟩, hs.F e9⟩) hs.2.2 hd C.2.2.2.2.1))
  show va_P _ _ _ t.heap
  rw [e9]; exact hr.1
theorem r_i2c {x v : Int32} (hd : decode (mC M) pc = .ok (.i2c, 1)) (hv : (x.toUInt32 % 65536).toInt32 = v) (k : PW l G M R Fi N (pc + 1) ls (.int v :: st) cs h) : PW l G M R Fi N pc ls (.int x :: st) cs h :=
  fun p e s m args below meth c H locs la C hr hs hl => lv_i2c C.1 C.2.1 hd hv (k p e s m args below meth c H locs la C hr hs hl)
theorem q_callStr0 {j ix : Nat} {M2 : MD} (hj : j < 30) (hlk : CV (mY M).cls ix M2 0) (hcy : (mY M2).cls = "java/lang/String") (hz : (mO M2).cells = 0 ∧ (mO M2).slots = 0) (hrm : rmOK R cs M2 = true) (hst : (st.map fun v => v.category).sum ≤ 8)
    (hd : decode (mC M) pc = .ok (.invokevirtual ix, 3)) (hM : PM l G M2 NT NT [.ref (1000000 + j)] h K noX) (kk : ∀ (v : Option Value) (h' : AH), K v h' → PW l G M R Fi NT (pc + 3) ls (v.toList ++ st) cs h') : PW l G M R Fi NT pc ls (.ref (1000000 + j) :: st) cs h := by
  refine r_callStr [] hj hlk hcy hrm hst (Or.inr ⟨rfl, rfl⟩) hd hM (fun v h' q => ?_)
  have := kk v h' q
  rw [hz.1, hz.2]
  exact this
theorem q_callStr1 {j ix : Nat} {a1 : Value} {M2 : MD} (hj : j < 30) (hlk : CV (mY M).cls ix M2 1) (hcy : (mY M2).cls = "java/lang/String") (hz : (mO M2).cells = 0 ∧ (mO M2).slots = 0) (hrm : rmOK R cs M2 = true) (hst : (st.map fun v => v.category).sum ≤ 8)
    (hd : decode (mC M) pc = .ok (.invokevirtual ix, 3)) (hM : PM l G M2 NT NT [.ref (1000000 + j), a1] h K noX) (kk : ∀ (v : Option Value) (h' : AH), K v h' → PW l G M R Fi NT (pc + 3) ls (v.toList ++ st) cs h') : PW l G M R Fi NT pc ls (a1 :: .ref (1000000 + j) :: st) cs h := by
  refine r_callStr [a1] hj hlk hcy hrm hst (Or.inr ⟨rfl, rfl⟩) hd hM (fun v h' q => ?_)
  have := kk v h' q
  rw [hz.1, hz.2]
  exact this
end STR
theorem wl_606 : Cond.fieldLink "java/lang/String" 38 "java/lang/String" "COMPACT_STRINGS" "Z" ∈ tblG := tgI 606 (by decide +kernel) rfl
theorem wl_622 : Cond.fieldLink "java/lang/String" 1053 "jdk/internal/util/Preconditions" "SIOOBE_FORMATTER" "Ljava/util/function/BiFunction;" ∈ tblG := tgI 622 (by decide +kernel) rfl
theorem wl_2206 : Cond.fieldLink "java/lang/String" 9 "java/lang/String" "value" "[B" ∈ tblG := tgI 2206 (by decide +kernel) rfl
theorem wl_2207 : Cond.fieldLink "java/lang/String" 15 "java/lang/String" "coder" "B" ∈ tblG := tgI 2207 (by decide +kernel) rfl
theorem c_J0_coder {l9 : Launch} {G : GC} {h : AH} {j : Nat} (hj : j < 30) : PM l9 G mJ0_coder_7d493 NT NT [.ref (1000000 + j)] h (fun v h' => v = some (.int 0) ∧ h' = h) noX := by
  refine PM.of (by decide +kernel) rfl rfl (Nat.le_of_ble_eq_true rfl) (fun hst _ => ?_)
  refine r_gets1 wl_606 dJ0_coder_7d493_0 ?_
  refine r_if_eq 13 dJ0_coder_7d493_3 (by decide) (fun c => ?_) (fun c => ?_)
  · exact absurd c (by decide)
  · refine r_aload_n dJ0_coder_7d493_6 rfl ?_
    refine r_strcod hj wl_2207 dJ0_coder_7d493_7 ?_
    refine r_goto 14 dJ0_coder_7d493_10 (by decide) ?_
    exact r_nret dJ0_coder_7d493_14 rfl rfl ⟨Nat.zero_le _, Nat.zero_le _⟩ ⟨rfl, rfl⟩
theorem c_J0_isLatin1 {l9 : Launch} {G : GC} {h : AH} {j : Nat} (hj : j < 30) : PM l9 G mJ0_isLatin1_aae02 NT NT [.ref (1000000 + j)] h (fun v h' => v = some (.int 1) ∧ h' = h) noX := by
  refine PM.of (by decide +kernel) rfl rfl (Nat.le_of_ble_eq_true rfl) (fun hst _ => ?_)
  refine r_gets1 wl_606 dJ0_isLatin1_aae02_0 ?_
  refine r_if_eq 17 dJ0_isLatin1_aae02_3 (by decide) (fun c => ?_) (fun c => ?_)
  · exact absurd c (by decide)
  · refine r_aload_n dJ0_isLatin1_aae02_6 rfl ?_
    refine r_strcod hj wl_2207 dJ0_isLatin1_aae02_7 ?_
    refine r_if_ne 17 dJ0_isLatin1_aae02_10 (by decide) (fun c => ?_) (fun c => ?_)
    · exact absurd rfl c
    · refine r_iconst (1) dJ0_isLatin1_aae02_13 (by decide) ?_
      refine r_goto 18 dJ0_isLatin1_aae02_14 (by decide) ?_
      exact r_zret dJ0_isLatin1_aae02_18 rfl (by decide) ⟨Nat.zero_le _, Nat.zero_le _⟩ ⟨rfl, rfl⟩
theorem shr_0 {x : Int32} : x >>> ((0 : Int32) &&& 31) = x := by
  rw [show ((0 : Int32) &&& 31) = 0 from by decide]
  exact Int32.shiftRight_zero
theorem c_J0_length {l9 : Launch} {G : GC} {h : AH} {j : Nat} (hG : GOK G) (hj : j < 30) : PM l9 G mJ0_length_8abf5 NT NT [.ref (1000000 + j)] h (fun v h' => v = some (.int (nI (strLen.getD j 0))) ∧ h' = h) noX := by
  refine PM.of (by decide +kernel) rfl rfl (Nat.le_of_ble_eq_true rfl) (fun hst _ => ?_)
  refine r_aload_n dJ0_length_8abf5_0 rfl ?_
  refine r_strval (ref := "") hG hj wl_2206 dJ0_length_8abf5_1 ?_
  refine r_strlen hG hj dJ0_length_8abf5_4 ?_
  refine r_aload_n dJ0_length_8abf5_5 rfl ?_
  refine r_callStr [] hj (cv_J0_coder_7d493 ml_J0_335) rfl rfl (Nat.le_of_ble_eq_true rfl) (Or.inr ⟨rfl, rfl⟩) dJ0_length_8abf5_6 (c_J0_coder hj) (fun v h' q => ?_)
  obtain ⟨rfl, rfl⟩ := q
  refine r_ishr dJ0_length_8abf5_9 ?_
  rw [shr_0]
  exact r_iret dJ0_length_8abf5_10 rfl ⟨Nat.zero_le _, Nat.zero_le _⟩ ⟨rfl, rfl⟩
theorem c_J3_checkIndex {l9 : Launch} {G : GC} {h : AH} {k n : Nat} {v9 : Value} (hk : k < n) (hn : n < 2 ^ 31) (hv : v9.category = 1) : PM l9 G mJ3_checkIndex_8e157 NT NT [.int (nI k), .int (nI n), v9] h (fun v h' => v = some (.int (nI k)) ∧ h' = h) noX := by
  refine PM.of (by decide +kernel) rfl (by simp [hv]; exact ⟨rfl, rfl⟩) (Nat.le_of_ble_eq_true rfl) (fun hst _ => ?_)
  refine r_iload_n dJ3_checkIndex_8e157_0 rfl ?_
  refine r_if_lt 9 dJ3_checkIndex_8e157_1 (by decide) (fun c => ?_) (fun c => ?_)
  · exact absurd c (nI_pos (by omega))
  · refine r_iload_n dJ3_checkIndex_8e157_4 rfl ?_
    refine r_iload_n dJ3_checkIndex_8e157_5 rfl ?_
    refine r_icmp_lt 16 dJ3_checkIndex_8e157_6 (by decide) (fun c => ?_) (fun c => ?_)
    · refine r_iload_n dJ3_checkIndex_8e157_16 rfl ?_
      exact r_iret dJ3_checkIndex_8e157_17 rfl ⟨Nat.zero_le _, Nat.zero_le _⟩ ⟨rfl, rfl⟩
    · exact absurd ((nI_ltI (by omega) (by omega)).mpr hk) (by first | exact c | exact Int32.not_lt.mpr c)
theorem c_J0_checkIndex {l9 : Launch} {G : GC} {h : AH} {k n : Nat} (hG : GOK G) (hk : k < n) (hn : n < 2 ^ 31) : PM l9 G mJ0_checkIndex_df160 NT NT [.int (nI k), .int (nI n)] h (fun v h' => v = none ∧ h' = h) noX := by
  refine PM.of (by decide +kernel) rfl rfl (Nat.le_of_ble_eq_true rfl) (fun hst _ => ?_)
  refine r_iload_n dJ0_checkIndex_df160_0 rfl ?_
  refine r_iload_n dJ0_checkIndex_df160_1 rfl ?_
  refine r_getsF hG wl_622 dJ0_checkIndex_df160_2 (fun v9 hv => ?_)
  refine q_callS3 (cs_J3_checkIndex_8e157 ml_J0_1059) ⟨rfl, rfl⟩ rfl (Nat.le_of_ble_eq_true rfl) dJ0_checkIndex_df160_5 (c_J3_checkIndex hk hn hv) (fun v h' q => ?_)
  obtain ⟨rfl, rfl⟩ := q
  refine r_pop dJ0_checkIndex_df160_8 rfl ?_
  exact r_vret dJ0_checkIndex_df160_9 rfl ⟨Nat.zero_le _, Nat.zero_le _⟩ ⟨rfl, rfl⟩
theorem sb_all : ∀ j, j < 18 → (strLen.getD j 0 < 2 ^ 31 ∧ ∀ k, k < strLen.getD j 0 → ((((strByt.getD j []).getD k 0 &&& 255).toUInt32 % 65536).toInt32 = (strByt.getD j []).getD k 0 ∧ narrow .char (.int ((strByt.getD j []).getD k 0)) = .int ((strByt.getD j []).getD k 0))) := by decide +kernel
theorem c_J1_charAt {l9 : Launch} {G : GC} {h : AH} {j k : Nat} (hG : GOK G) (hj : j < 18) (hk : k < strLen.getD j 0) : PM l9 G mJ1_charAt_3b067 NT NT [.ref (1005000 + gVs G j), .int (nI k)] h (fun v h' => v = some (.int ((strByt.getD j []).getD k 0)) ∧ h' = h) noX := by
  obtain ⟨b1, b2⟩ := sb_all j hj
  obtain ⟨b3, b4⟩ := b2 k hk
  refine PM.of (by decide +kernel) rfl rfl (Nat.le_of_ble_eq_true rfl) (fun hst _ => ?_)
  refine r_iload_n dJ1_charAt_3b067_0 rfl ?_
  refine r_aload_n dJ1_charAt_3b067_1 rfl ?_
  refine r_strlen hG (by omega) dJ1_charAt_3b067_2 ?_
  refine q_callS2 (cs_J0_checkIndex_df160 ml_J1_9) ⟨rfl, rfl⟩ rfl (Nat.le_of_ble_eq_true rfl) dJ1_charAt_3b067_3 (c_J0_checkIndex hG hk b1) (fun v h' q => ?_)
  obtain ⟨rfl, rfl⟩ := q
  refine r_aload_n dJ1_charAt_3b067_6 rfl ?_
  refine r_iload_n dJ1_charAt_3b067_7 rfl ?_
  refine r_strbal hG (by omega) hk b1 dJ1_charAt_3b067_8 ?_
  refine r_sipush 255 dJ1_charAt_3b067_9 (by decide) ?_
  refine r_iand dJ1_charAt_3b067_12 ?_
  refine r_i2c dJ1_charAt_3b067_13 b3 ?_
  exact r_nret dJ1_charAt_3b067_14 rfl b4 ⟨Nat.zero_le _, Nat.zero_le _⟩ ⟨rfl, rfl⟩
theorem c_J0_charAt {l9 : Launch} {G : GC} {h : AH} {j k : Nat} (hG : GOK G) (hj : j < 18) (hk : k < strLen.getD j 0) : PM l9 G mJ0_charAt_5068e NT NT [.ref (1000000 + j), .int (nI k)] h (fun v h' => v = some (.int ((strByt.getD j []).getD k 0)) ∧ h' = h) noX := by
  obtain ⟨b1, b2⟩ := sb_all j hj
  obtain ⟨b3, b4⟩ := b2 k hk
  refine PM.of (by decide +kernel) rfl rfl (Nat.le_of_ble_eq_true rfl) (fun hst _ => ?_)
  refine r_aload_n dJ0_charAt_5068e_0 rfl ?_
  refine r_callStr [] (by omega) (cv_J0_isLatin1_aae02 ml_J0_492) rfl rfl (Nat.le_of_ble_eq_true rfl) (Or.inr ⟨rfl, rfl⟩) dJ0_charAt_5068e_1 (c_J0_isLatin1 (by omega)) (fun v h' q => ?_)
  obtain ⟨rfl, rfl⟩ := q
  refine r_if_eq 16 dJ0_charAt_5068e_4 (by decide) (fun c => ?_) (fun c => ?_)
  · exact absurd c (by decide)
  · refine r_aload_n dJ0_charAt_5068e_7 rfl ?_
    refine r_strval (ref := "") hG (by omega) wl_2206 dJ0_charAt_5068e_8 ?_
    refine r_iload_n dJ0_charAt_5068e_11 rfl ?_
    refine q_callS2 (cs_J1_charAt_3b067 ml_J0_495) ⟨rfl, rfl⟩ rfl (Nat.le_of_ble_eq_true rfl) dJ0_charAt_5068e_12 (c_J1_charAt hG hj hk) (fun v h' q => ?_)
    obtain ⟨rfl, rfl⟩ := q
    exact r_nret dJ0_charAt_5068e_15 rfl b4 ⟨Nat.zero_le _, Nat.zero_le _⟩ ⟨rfl, rfl⟩
theorem sw_X5_195 : (RX5, 195, "pool", 0) ∈ strTab := List.mem_of_getElem? (i := 0) rfl
theorem sw_X5_197 : (RX5, 197, "step", 1) ∈ strTab := List.mem_of_getElem? (i := 1) rfl
theorem sw_X5_199 : (RX5, 199, "cool", 2) ∈ strTab := List.mem_of_getElem? (i := 2) rfl
theorem sw_X5_201 : (RX5, 201, "target", 3) ∈ strTab := List.mem_of_getElem? (i := 3) rfl
theorem sw_X5_202 : (RX5, 202, "warm", 4) ∈ strTab := List.mem_of_getElem? (i := 4) rfl
theorem sw_X5_203 : (RX5, 203, "window", 5) ∈ strTab := List.mem_of_getElem? (i := 5) rfl
theorem sw_X5_204 : (RX5, 204, "lead", 6) ∈ strTab := List.mem_of_getElem? (i := 6) rfl
theorem sw_X5_205 : (RX5, 205, "policy", 7) ∈ strTab := List.mem_of_getElem? (i := 7) rfl
theorem sw_X5_206 : (RX5, 206, "drop", 8) ∈ strTab := List.mem_of_getElem? (i := 8) rfl
theorem sw_X5_208 : (RX5, 208, "cost", 9) ∈ strTab := List.mem_of_getElem? (i := 9) rfl
theorem sw_X5_210 : (RX5, 210, "load", 10) ∈ strTab := List.mem_of_getElem? (i := 10) rfl
theorem sw_X5_212 : (RX5, 212, "protect", 11) ∈ strTab := List.mem_of_getElem? (i := 11) rfl
theorem sw_X5_142 : (RX5, 142, "watch", 12) ∈ strTab := List.mem_of_getElem? (i := 12) rfl
theorem sw_X5_151 : (RX5, 151, "trend", 13) ∈ strTab := List.mem_of_getElem? (i := 13) rfl
theorem sw_X5_153 : (RX5, 153, "season", 14) ∈ strTab := List.mem_of_getElem? (i := 14) rfl
theorem sw_X5_158 : (RX5, 158, "newest", 15) ∈ strTab := List.mem_of_getElem? (i := 15) rfl
theorem sw_X5_163 : (RX5, 163, "oldest", 16) ∈ strTab := List.mem_of_getElem? (i := 16) rfl
theorem sw_X5_165 : (RX5, 165, "cold", 17) ∈ strTab := List.mem_of_getElem? (i := 17) rfl
theorem sw_X9_277 : (RX9, 277, "pool", 0) ∈ strTab := List.mem_of_getElem? (i := 30) rfl
theorem sw_X9_282 : (RX9, 282, "step", 1) ∈ strTab := List.mem_of_getElem? (i := 31) rfl
theorem sw_X9_284 : (RX9, 284, "cool", 2) ∈ strTab := List.mem_of_getElem? (i := 32) rfl
theorem sw_X9_239 : (RX9, 239, "target", 3) ∈ strTab := List.mem_of_getElem? (i := 33) rfl
theorem sw_X9_245 : (RX9, 245, "warm", 4) ∈ strTab := List.mem_of_getElem? (i := 34) rfl
theorem sw_X9_247 : (RX9, 247, "window", 5) ∈ strTab := List.mem_of_getElem? (i := 35) rfl
theorem sw_X9_249 : (RX9, 249, "lead", 6) ∈ strTab := List.mem_of_getElem? (i := 36) rfl
theorem sw_X9_251 : (RX9, 251, "policy", 7) ∈ strTab := List.mem_of_getElem? (i := 37) rfl
theorem sw_X9_223 : (RX9, 223, "watch", 12) ∈ strTab := List.mem_of_getElem? (i := 38) rfl
theorem sw_X9_229 : (RX9, 229, "trend", 13) ∈ strTab := List.mem_of_getElem? (i := 39) rfl
theorem sw_X9_231 : (RX9, 231, "season", 14) ∈ strTab := List.mem_of_getElem? (i := 40) rfl
theorem sw_X9_257 : (RX9, 257, "drop", 8) ∈ strTab := List.mem_of_getElem? (i := 41) rfl
theorem sw_X9_233 : (RX9, 233, "newest", 15) ∈ strTab := List.mem_of_getElem? (i := 42) rfl
theorem sw_X9_235 : (RX9, 235, "oldest", 16) ∈ strTab := List.mem_of_getElem? (i := 43) rfl
theorem sw_X9_237 : (RX9, 237, "cold", 17) ∈ strTab := List.mem_of_getElem? (i := 44) rfl
theorem sw_X9_262 : (RX9, 262, "cost", 9) ∈ strTab := List.mem_of_getElem? (i := 45) rfl
theorem sw_X9_267 : (RX9, 267, "load", 10) ∈ strTab := List.mem_of_getElem? (i := 46) rfl
theorem sw_X9_272 : (RX9, 272, "protect", 11) ∈ strTab := List.mem_of_getElem? (i := 47) rfl
