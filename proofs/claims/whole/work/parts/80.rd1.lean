-- the class's reader: tokens
def RdH (h : AH) (b : Nat → Int32) (n : Nat) : Prop := aR h 3 0 = 2 ∧ aI h 2 = b ∧ aI h 3 1 = nI n ∧ n ≤ 700
/-- the token read last is that from p on -/
def TkS (h : AH) (b : Nat → Int32) (n p : Nat) : Prop := aI h 3 2 = nI (tC b n p) ∧ aI h 3 3 = nI (tS b n p) ∧ aI h 3 4 = nI (tE b n p) ∧ (tC b n p = 2 → aI h 3 5 = tV b n p)
/-- the reader goes on, or has its error -/
def RdE (h : AH) (e : ER) : Prop := aI h 3 7 = nI e.1 ∧ (e.1 = 0 → aI h 3 4 = nI e.2 ∧ aI h 3 8 = -1) ∧ (e.1 ≠ 0 → aI h 3 8 = nI e.2)
abbrev S3 : Nat → Prop := fun i => i = 3
theorem RdH.cg {h h' : AH} {b : Nat → Int32} {n : Nat} (hr : RdH h b n) (e : eqx h h' S3) (e1 : aI h' 3 1 = aI h 3 1) : RdH h' b n := ⟨by rw [e.R]; exact hr.1, by rw [e.I (by decide)]; exact hr.2.1, e1.trans hr.2.2.1, hr.2.2.2⟩
theorem RdH.s {h : AH} {b : Nat → Int32} {n k : Nat} {x : Int32} (hr : RdH h b n) (hk : k ≠ 1) : RdH (sI h 3 k x) b n := ⟨hr.1, (sI_o (by decide)).trans hr.2.1, (sI_k (fun q => hk q.symm)).trans hr.2.2.1, hr.2.2.2⟩
theorem not_lt_le {x y : Int32} (h : ¬ x < y) : y ≤ x := Int32.not_lt.mp h
set_option maxRecDepth 100000 in
set_option maxHeartbeats 800000 in
theorem c_X5_kindAt {l9 : Launch} {G : GC} {h : AH} {b : Nat → Int32} {n : Nat} {i : Nat} (hW : World h) (hr : RdH h b n) (hi : i < 2 ^ 31) : PM l9 G mX5_kindAt NT NT [.ref 3, .int (nI i)] h (fun v h' => v = some (.int (nI (kdB b n i))) ∧ h' = h) noX := by
  refine PM.of (by decide +kernel) rfl rfl (Nat.le_of_ble_eq_true rfl) (fun hst _ => ?_)
  obtain ⟨htx, hb, hn, hn7⟩ := hr
  refine r_iload_n dX5_kindAt_0 rfl ?_
  refine r_if_lt 12 dX5_kindAt_1 (by decide) (fun c_1 => ?_) (fun c_1 => ?_)
  · exact absurd c_1 (nI_pos hi)
  · refine r_iload_n dX5_kindAt_4 rfl ?_
    refine r_aload_n dX5_kindAt_5 rfl ?_
    refine q_getI fl_X5_21 hW kc_3 rfl dX5_kindAt_6 ?_
    rw [hn]
    refine r_icmp_lt 14 dX5_kindAt_9 (by decide) (fun c_9 => ?_) (fun c_9 => ?_)
    · have hin : i < n := by
        have c9 := c_9
        exact (nI_ltI (by omega) (by omega)).mp c9
      refine r_aload_n dX5_kindAt_14 rfl ?_
      refine q_getR fl_X5_9 hW kc_3 rfl htx (by decide) dX5_kindAt_15 ?_
      refine r_iload_n dX5_kindAt_18 rfl ?_
      refine q_bald hW kc_2 rfl (by omega) (by decide) dX5_kindAt_19 ?_
      rw [hb]
      refine r_istore_n (ls2 := [_, some _, _]) dX5_kindAt_20 (by decide) rfl ?_
      refine r_iload_n dX5_kindAt_21 rfl ?_
      refine r_bipush (97) dX5_kindAt_22 (by decide) ?_
      refine r_icmp_lt 35 dX5_kindAt_24 (by decide) (fun c_24 => ?_) (fun c_24 => ?_)
      · refine r_iload_n dX5_kindAt_35 rfl ?_
        refine r_bipush (48) dX5_kindAt_36 (by decide) ?_
        refine r_icmp_lt 49 dX5_kindAt_38 (by decide) (fun c_38 => ?_) (fun c_38 => ?_)
        · refine r_iload_n dX5_kindAt_49 rfl ?_
          refine r_bipush (32) dX5_kindAt_50 (by decide) ?_
          refine r_icmp_eq 61 dX5_kindAt_52 (by decide) (fun c_52 => ?_) (fun c_52 => ?_)
          · refine r_iconst (4) dX5_kindAt_61 (by decide) ?_
            refine r_iret dX5_kindAt_62 rfl ⟨Nat.zero_le _, Nat.zero_le _⟩ ?_
            refine ⟨some_int ?_, rfl⟩
            unfold kdB
            rw [if_pos hin, if_neg (fun q => by first | exact absurd c_24 (i_le.mpr q.1) | exact absurd c_30 (i_le.mpr q.2)), if_neg (fun q => by first | exact absurd c_38 (i_le.mpr q.1) | exact absurd c_44 (i_le.mpr q.2)), if_pos (by first | exact Or.inl c_52 | exact Or.inr c_58)]
            first
              | done
              | rfl
          · refine r_iload_n dX5_kindAt_55 rfl ?_
            refine r_bipush (10) dX5_kindAt_56 (by decide) ?_
            refine r_icmp_ne 63 dX5_kindAt_58 (by decide) (fun c_58 => ?_) (fun c_58 => ?_)
            · refine r_iload_n dX5_kindAt_63 rfl ?_
              refine r_bipush (59) dX5_kindAt_64 (by decide) ?_
              refine r_icmp_ne 73 dX5_kindAt_66 (by decide) (fun c_66 => ?_) (fun c_66 => ?_)
              · refine r_iconst (5) dX5_kindAt_73 (by decide) ?_
                refine r_iret dX5_kindAt_74 rfl ⟨Nat.zero_le _, Nat.zero_le _⟩ ?_
                first
                  | (refine ⟨some_int ?_, rfl⟩
                     unfold kdB
                     rw [if_pos hin, if_neg (fun q => by first | exact absurd c_24 (i_le.mpr q.1) | exact absurd c_30 (i_le.mpr q.2)), if_neg (fun q => by first | exact absurd c_38 (i_le.mpr q.1) | exact absurd c_44 (i_le.mpr q.2)), if_neg (fun q => q.elim c_52 c_58), if_pos c_66]
                     first
                       | done
                       | rfl)
                  | (refine ⟨some_int ?_, rfl⟩
                     unfold kdB
                     rw [if_pos hin, if_neg (fun q => by first | exact absurd c_24 (i_le.mpr q.1) | exact absurd c_30 (i_le.mpr q.2)), if_neg (fun q => by first | exact absurd c_38 (i_le.mpr q.1) | exact absurd c_44 (i_le.mpr q.2)), if_neg (fun q => q.elim c_52 c_58), if_neg c_66]
                     first
                       | done
                       | rfl)
              · refine r_iconst (3) dX5_kindAt_69 (by decide) ?_
                refine r_goto 74 dX5_kindAt_70 (by decide) ?_
                refine r_iret dX5_kindAt_74 rfl ⟨Nat.zero_le _, Nat.zero_le _⟩ ?_
                first
                  | (refine ⟨some_int ?_, rfl⟩
                     unfold kdB
                     rw [if_pos hin, if_neg (fun q => by first | exact absurd c_24 (i_le.mpr q.1) | exact absurd c_30 (i_le.mpr q.2)), if_neg (fun q => by first | exact absurd c_38 (i_le.mpr q.1) | exact absurd c_44 (i_le.mpr q.2)), if_neg (fun q => q.elim c_52 c_58), if_pos c_66]
                     first
                       | done
                       | rfl)
                  | (refine ⟨some_int ?_, rfl⟩
                     unfold kdB
                     rw [if_pos hin, if_neg (fun q => by first | exact absurd c_24 (i_le.mpr q.1) | exact absurd c_30 (i_le.mpr q.2)), if_neg (fun q => by first | exact absurd c_38 (i_le.mpr q.1) | exact absurd c_44 (i_le.mpr q.2)), if_neg (fun q => q.elim c_52 c_58), if_neg c_66]
                     first
                       | done
                       | rfl)
            · refine r_iconst (4) dX5_kindAt_61 (by decide) ?_
              refine r_iret dX5_kindAt_62 rfl ⟨Nat.zero_le _, Nat.zero_le _⟩ ?_
              refine ⟨some_int ?_, rfl⟩
              unfold kdB
              rw [if_pos hin, if_neg (fun q => by first | exact absurd c_24 (i_le.mpr q.1) | exact absurd c_30 (i_le.mpr q.2)), if_neg (fun q => by first | exact absurd c_38 (i_le.mpr q.1) | exact absurd c_44 (i_le.mpr q.2)), if_pos (by first | exact Or.inl c_52 | exact Or.inr c_58)]
              first
                | done
                | rfl
        · refine r_iload_n dX5_kindAt_41 rfl ?_
          refine r_bipush (57) dX5_kindAt_42 (by decide) ?_
          refine r_icmp_gt 49 dX5_kindAt_44 (by decide) (fun c_44 => ?_) (fun c_44 => ?_)
          · refine r_iload_n dX5_kindAt_49 rfl ?_
            refine r_bipush (32) dX5_kindAt_50 (by decide) ?_
            refine r_icmp_eq 61 dX5_kindAt_52 (by decide) (fun c_52 => ?_) (fun c_52 => ?_)
            · refine r_iconst (4) dX5_kindAt_61 (by decide) ?_
              refine r_iret dX5_kindAt_62 rfl ⟨Nat.zero_le _, Nat.zero_le _⟩ ?_
              refine ⟨some_int ?_, rfl⟩
              unfold kdB
              rw [if_pos hin, if_neg (fun q => by first | exact absurd c_24 (i_le.mpr q.1) | exact absurd c_30 (i_le.mpr q.2)), if_neg (fun q => by first | exact absurd c_38 (i_le.mpr q.1) | exact absurd c_44 (i_le.mpr q.2)), if_pos (by first | exact Or.inl c_52 | exact Or.inr c_58)]
              first
                | done
                | rfl
            · refine r_iload_n dX5_kindAt_55 rfl ?_
              refine r_bipush (10) dX5_kindAt_56 (by decide) ?_
              refine r_icmp_ne 63 dX5_kindAt_58 (by decide) (fun c_58 => ?_) (fun c_58 => ?_)
              · refine r_iload_n dX5_kindAt_63 rfl ?_
                refine r_bipush (59) dX5_kindAt_64 (by decide) ?_
                refine r_icmp_ne 73 dX5_kindAt_66 (by decide) (fun c_66 => ?_) (fun c_66 => ?_)
                · refine r_iconst (5) dX5_kindAt_73 (by decide) ?_
                  refine r_iret dX5_kindAt_74 rfl ⟨Nat.zero_le _, Nat.zero_le _⟩ ?_
                  first
                    | (refine ⟨some_int ?_, rfl⟩
                       unfold kdB
                       rw [if_pos hin, if_neg (fun q => by first | exact absurd c_24 (i_le.mpr q.1) | exact absurd c_30 (i_le.mpr q.2)), if_neg (fun q => by first | exact absurd c_38 (i_le.mpr q.1) | exact absurd c_44 (i_le.mpr q.2)), if_neg (fun q => q.elim c_52 c_58), if_pos c_66]
                       first
                         | done
                         | rfl)
                    | (refine ⟨some_int ?_, rfl⟩
                       unfold kdB
                       rw [if_pos hin, if_neg (fun q => by first | exact absurd c_24 (i_le.mpr q.1) | exact absurd c_30 (i_le.mpr q.2)), if_neg (fun q => by first | exact absurd c_38 (i_le.mpr q.1) | exact absurd c_44 (i_le.mpr q.2)), if_neg (fun q => q.elim c_52 c_58), if_neg c_66]
                       first
                         | done
                         | rfl)
                · refine r_iconst (3) dX5_kindAt_69 (by decide) ?_
                  refine r_goto 74 dX5_kindAt_70 (by decide) ?_
                  refine r_iret dX5_kindAt_74 rfl ⟨Nat.zero_le _, Nat.zero_le _⟩ ?_
                  first
                    | (refine ⟨some_int ?_, rfl⟩
                       unfold kdB
                       rw [if_pos hin, if_neg (fun q => by first | exact absurd c_24 (i_le.mpr q.1) | exact absurd c_30 (i_le.mpr q.2)), if_neg (fun q => by first | exact absurd c_38 (i_le.mpr q.1) | exact absurd c_44 (i_le.mpr q.2)), if_neg (fun q => q.elim c_52 c_58), if_pos c_66]
                       first
                         | done
                         | rfl)
                    | (refine ⟨some_int ?_, rfl⟩
                       unfold kdB
                       rw [if_pos hin, if_neg (fun q => by first | exact absurd c_24 (i_le.mpr q.1) | exact absurd c_30 (i_le.mpr q.2)), if_neg (fun q => by first | exact absurd c_38 (i_le.mpr q.1) | exact absurd c_44 (i_le.mpr q.2)), if_neg (fun q => q.elim c_52 c_58), if_neg c_66]
                       first
                         | done
                         | rfl)
              · refine r_iconst (4) dX5_kindAt_61 (by decide) ?_
                refine r_iret dX5_kindAt_62 rfl ⟨Nat.zero_le _, Nat.zero_le _⟩ ?_
                refine ⟨some_int ?_, rfl⟩
                unfold kdB
                rw [if_pos hin, if_neg (fun q => by first | exact absurd c_24 (i_le.mpr q.1) | exact absurd c_30 (i_le.mpr q.2)), if_neg (fun q => by first | exact absurd c_38 (i_le.mpr q.1) | exact absurd c_44 (i_le.mpr q.2)), if_pos (by first | exact Or.inl c_52 | exact Or.inr c_58)]
                first
                  | done
                  | rfl
          · refine r_iconst (2) dX5_kindAt_47 (by decide) ?_
            refine r_iret dX5_kindAt_48 rfl ⟨Nat.zero_le _, Nat.zero_le _⟩ ?_
            refine ⟨some_int ?_, rfl⟩
            unfold kdB
            rw [if_pos hin, if_neg (fun q => by first | exact absurd c_24 (i_le.mpr q.1) | exact absurd c_30 (i_le.mpr q.2)), if_pos ⟨i_le.mp c_38, i_le.mp c_44⟩]
            first
              | done
              | rfl
      · refine r_iload_n dX5_kindAt_27 rfl ?_
        refine r_bipush (122) dX5_kindAt_28 (by decide) ?_
        refine r_icmp_gt 35 dX5_kindAt_30 (by decide) (fun c_30 => ?_) (fun c_30 => ?_)
        · refine r_iload_n dX5_kindAt_35 rfl ?_
          refine r_bipush (48) dX5_kindAt_36 (by decide) ?_
          refine r_icmp_lt 49 dX5_kindAt_38 (by decide) (fun c_38 => ?_) (fun c_38 => ?_)
          · refine r_iload_n dX5_kindAt_49 rfl ?_
            refine r_bipush (32) dX5_kindAt_50 (by decide) ?_
            refine r_icmp_eq 61 dX5_kindAt_52 (by decide) (fun c_52 => ?_) (fun c_52 => ?_)
            · refine r_iconst (4) dX5_kindAt_61 (by decide) ?_
              refine r_iret dX5_kindAt_62 rfl ⟨Nat.zero_le _, Nat.zero_le _⟩ ?_
              refine ⟨some_int ?_, rfl⟩
              unfold kdB
              rw [if_pos hin, if_neg (fun q => by first | exact absurd c_24 (i_le.mpr q.1) | exact absurd c_30 (i_le.mpr q.2)), if_neg (fun q => by first | exact absurd c_38 (i_le.mpr q.1) | exact absurd c_44 (i_le.mpr q.2)), if_pos (by first | exact Or.inl c_52 | exact Or.inr c_58)]
              first
                | done
                | rfl
            · refine r_iload_n dX5_kindAt_55 rfl ?_
              refine r_bipush (10) dX5_kindAt_56 (by decide) ?_
              refine r_icmp_ne 63 dX5_kindAt_58 (by decide) (fun c_58 => ?_) (fun c_58 => ?_)
              · refine r_iload_n dX5_kindAt_63 rfl ?_
                refine r_bipush (59) dX5_kindAt_64 (by decide) ?_
                refine r_icmp_ne 73 dX5_kindAt_66 (by decide) (fun c_66 => ?_) (fun c_66 => ?_)
                · refine r_iconst (5) dX5_kindAt_73 (by decide) ?_
                  refine r_iret dX5_kindAt_74 rfl ⟨Nat.zero_le _, Nat.zero_le _⟩ ?_
                  first
                    | (refine ⟨some_int ?_, rfl⟩
                       unfold kdB
                       rw [if_pos hin, if_neg (fun q => by first | exact absurd c_24 (i_le.mpr q.1) | exact absurd c_30 (i_le.mpr q.2)), if_neg (fun q => by first | exact absurd c_38 (i_le.mpr q.1) | exact absurd c_44 (i_le.mpr q.2)), if_neg (fun q => q.elim c_52 c_58), if_pos c_66]
                       first
                         | done
                         | rfl)
                    | (refine ⟨some_int ?_, rfl⟩
                       unfold kdB
                       rw [if_pos hin, if_neg (fun q => by first | exact absurd c_24 (i_le.mpr q.1) | exact absurd c_30 (i_le.mpr q.2)), if_neg (fun q => by first | exact absurd c_38 (i_le.mpr q.1) | exact absurd c_44 (i_le.mpr q.2)), if_neg (fun q => q.elim c_52 c_58), if_neg c_66]
                       first
                         | done
                         | rfl)
                · refine r_iconst (3) dX5_kindAt_69 (by decide) ?_
                  refine r_goto 74 dX5_kindAt_70 (by decide) ?_
                  refine r_iret dX5_kindAt_74 rfl ⟨Nat.zero_le _, Nat.zero_le _⟩ ?_
                  first
                    | (refine ⟨some_int ?_, rfl⟩
                       unfold kdB
                       rw [if_pos hin, if_neg (fun q => by first | exact absurd c_24 (i_le.mpr q.1) | exact absurd c_30 (i_le.mpr q.2)), if_neg (fun q => by first | exact absurd c_38 (i_le.mpr q.1) | exact absurd c_44 (i_le.mpr q.2)), if_neg (fun q => q.elim c_52 c_58), if_pos c_66]
                       first
                         | done
                         | rfl)
                    | (refine ⟨some_int ?_, rfl⟩
                       unfold kdB
                       rw [if_pos hin, if_neg (fun q => by first | exact absurd c_24 (i_le.mpr q.1) | exact absurd c_30 (i_le.mpr q.2)), if_neg (fun q => by first | exact absurd c_38 (i_le.mpr q.1) | exact absurd c_44 (i_le.mpr q.2)), if_neg (fun q => q.elim c_52 c_58), if_neg c_66]
                       first
                         | done
                         | rfl)
              · refine r_iconst (4) dX5_kindAt_61 (by decide) ?_
                refine r_iret dX5_kindAt_62 rfl ⟨Nat.zero_le _, Nat.zero_le _⟩ ?_
                refine ⟨some_int ?_, rfl⟩
                unfold kdB
                rw [if_pos hin, if_neg (fun q => by first | exact absurd c_24 (i_le.mpr q.1) | exact absurd c_30 (i_le.mpr q.2)), if_neg (fun q => by first | exact absurd c_38 (i_le.mpr q.1) | exact absurd c_44 (i_le.mpr q.2)), if_pos (by first | exact Or.inl c_52 | exact Or.inr c_58)]
                first
                  | done
                  | rfl
          · refine r_iload_n dX5_kindAt_41 rfl ?_
            refine r_bipush (57) dX5_kindAt_42 (by decide) ?_
            refine r_icmp_gt 49 dX5_kindAt_44 (by decide) (fun c_44 => ?_) (fun c_44 => ?_)
            · refine r_iload_n dX5_kindAt_49 rfl ?_
              refine r_bipush (32) dX5_kindAt_50 (by decide) ?_
              refine r_icmp_eq 61 dX5_kindAt_52 (by decide) (fun c_52 => ?_) (fun c_52 => ?_)
              · refine r_iconst (4) dX5_kindAt_61 (by decide) ?_
                refine r_iret dX5_kindAt_62 rfl ⟨Nat.zero_le _, Nat.zero_le _⟩ ?_
                refine ⟨some_int ?_, rfl⟩
                unfold kdB
                rw [if_pos hin, if_neg (fun q => by first | exact absurd c_24 (i_le.mpr q.1) | exact absurd c_30 (i_le.mpr q.2)), if_neg (fun q => by first | exact absurd c_38 (i_le.mpr q.1) | exact absurd c_44 (i_le.mpr q.2)), if_pos (by first | exact Or.inl c_52 | exact Or.inr c_58)]
                first
                  | done
                  | rfl
              · refine r_iload_n dX5_kindAt_55 rfl ?_
                refine r_bipush (10) dX5_kindAt_56 (by decide) ?_
                refine r_icmp_ne 63 dX5_kindAt_58 (by decide) (fun c_58 => ?_) (fun c_58 => ?_)
                · refine r_iload_n dX5_kindAt_63 rfl ?_
                  refine r_bipush (59) dX5_kindAt_64 (by decide) ?_
                  refine r_icmp_ne 73 dX5_kindAt_66 (by decide) (fun c_66 => ?_) (fun c_66 => ?_)
                  · refine r_iconst (5) dX5_kindAt_73 (by decide) ?_
                    refine r_iret dX5_kindAt_74 rfl ⟨Nat.zero_le _, Nat.zero_le _⟩ ?_
                    first
                      | (refine ⟨some_int ?_, rfl⟩
                         unfold kdB
                         rw [if_pos hin, if_neg (fun q => by first | exact absurd c_24 (i_le.mpr q.1) | exact absurd c_30 (i_le.mpr q.2)), if_neg (fun q => by first | exact absurd c_38 (i_le.mpr q.1) | exact absurd c_44 (i_le.mpr q.2)), if_neg (fun q => q.elim c_52 c_58), if_pos c_66]
                         first
                           | done
                           | rfl)
                      | (refine ⟨some_int ?_, rfl⟩
                         unfold kdB
                         rw [if_pos hin, if_neg (fun q => by first | exact absurd c_24 (i_le.mpr q.1) | exact absurd c_30 (i_le.mpr q.2)), if_neg (fun q => by first | exact absurd c_38 (i_le.mpr q.1) | exact absurd c_44 (i_le.mpr q.2)), if_neg (fun q => q.elim c_52 c_58), if_neg c_66]
                         first
                           | done
                           | rfl)
                  · refine r_iconst (3) dX5_kindAt_69 (by decide) ?_
                    refine r_goto 74 dX5_kindAt_70 (by decide) ?_
                    refine r_iret dX5_kindAt_74 rfl ⟨Nat.zero_le _, Nat.zero_le _⟩ ?_
                    first
                      | (refine ⟨some_int ?_, rfl⟩
                         unfold kdB
                         rw [if_pos hin, if_neg (fun q => by first | exact absurd c_24 (i_le.mpr q.1) | exact absurd c_30 (i_le.mpr q.2)), if_neg (fun q => by first | exact absurd c_38 (i_le.mpr q.1) | exact absurd c_44 (i_le.mpr q.2)), if_neg (fun q => q.elim c_52 c_58), if_pos c_66]
                         first
                           | done
                           | rfl)
                      | (refine ⟨some_int ?_, rfl⟩
                         unfold kdB
                         rw [if_pos hin, if_neg (fun q => by first | exact absurd c_24 (i_le.mpr q.1) | exact absurd c_30 (i_le.mpr q.2)), if_neg (fun q => by first | exact absurd c_38 (i_le.mpr q.1) | exact absurd c_44 (i_le.mpr q.2)), if_neg (fun q => q.elim c_52 c_58), if_neg c_66]
                         first
                           | done
                           | rfl)
                · refine r_iconst (4) dX5_kindAt_61 (by decide) ?_
                  refine r_iret dX5_kindAt_62 rfl ⟨Nat.zero_le _, Nat.zero_le _⟩ ?_
                  refine ⟨some_int ?_, rfl⟩
                  unfold kdB
                  rw [if_pos hin, if_neg (fun q => by first | exact absurd c_24 (i_le.mpr q.1) | exact absurd c_30 (i_le.mpr q.2)), if_neg (fun q => by first | exact absurd c_38 (i_le.mpr q.1) | exact absurd c_44 (i_le.mpr q.2)), if_pos (by first | exact Or.inl c_52 | exact Or.inr c_58)]
                  first
                    | done
                    | rfl
            · refine r_iconst (2) dX5_kindAt_47 (by decide) ?_
              refine r_iret dX5_kindAt_48 rfl ⟨Nat.zero_le _, Nat.zero_le _⟩ ?_
              refine ⟨some_int ?_, rfl⟩
              unfold kdB
              rw [if_pos hin, if_neg (fun q => by first | exact absurd c_24 (i_le.mpr q.1) | exact absurd c_30 (i_le.mpr q.2)), if_pos ⟨i_le.mp c_38, i_le.mp c_44⟩]
              first
                | done
                | rfl
        · refine r_iconst (1) dX5_kindAt_33 (by decide) ?_
          refine r_iret dX5_kindAt_34 rfl ⟨Nat.zero_le _, Nat.zero_le _⟩ ?_
          refine ⟨some_int ?_, rfl⟩
          unfold kdB
          rw [if_pos hin, if_pos ⟨i_le.mp c_24, i_le.mp c_30⟩]
          first
            | done
            | rfl
    · refine r_iconst (0) dX5_kindAt_12 (by decide) ?_
      refine r_iret dX5_kindAt_13 rfl ⟨Nat.zero_le _, Nat.zero_le _⟩ ?_
      have hge : n ≤ i := by
        refine Classical.byContradiction fun q => ?_
        exact c_9 ((nI_ltI (by omega) (by omega)).mpr (by omega))
      exact ⟨some_int (by rw [kdB_out hge]; rfl), rfl⟩

set_option maxRecDepth 100000 in
set_option maxHeartbeats 800000 in
theorem c_X5_fail {l9 : Launch} {G : GC} {h : AH} {c : Nat} {x : Int32} {e : ER} {s : Nat} (hW : World h) (hx : x = nI c) (hc : c ≠ 0) (h3 : aI h 3 3 = nI s) (h7 : aI h 3 7 = nI e.1) (he : e.1 < 10) : PM l9 G mX5_fail NT NT [.ref 3, .int x] h (fun v h' => v = none ∧ eqx h h' S3 ∧ (∀ k, k ≠ 7 → k ≠ 8 → aI h' 3 k = aI h 3 k) ∧ (e.1 ≠ 0 → h' = h) ∧ (e.1 = 0 → aI h' 3 7 = nI c ∧ aI h' 3 8 = nI s)) noX := by
  refine PM.of (by decide +kernel) rfl rfl (Nat.le_of_ble_eq_true rfl) (fun hst _ => ?_)
  refine r_aload_n dX5_fail_0 rfl ?_
  refine q_getI fl_X5_28 hW kc_3 rfl dX5_fail_1 ?_
  rw [h7]
  refine r_if_ne 20 dX5_fail_4 (by decide) (fun c_4 => ?_) (fun c_4 => ?_)
  · refine r_vret dX5_fail_20 rfl ⟨Nat.zero_le _, Nat.zero_le _⟩ ?_
    first
      | (have q0 : e.1 ≠ 0 := fun q => absurd c_4 (by rw [q]; exact fun z => z rfl)
         exact ⟨rfl, eqx.rf, fun _ _ _ => rfl, fun _ => rfl, fun q => absurd q q0⟩)
      | (have q0 : e.1 = 0 := by
           have := (nI_eqI (a := e.1) (b := 0) (by omega) (by decide)).mp c_4
           exact this
         exact ⟨rfl, ((eqx.rf (S := S3)).sI rfl).sI rfl, fun k k1 k2 => by rw [sI_k k2, sI_k k1], fun q => absurd q0 q, fun _ => ⟨by rw [sI_k (by decide), sI_s, hx], sI_s⟩⟩)
  · refine r_aload_n dX5_fail_7 rfl ?_
    refine r_iload_n dX5_fail_8 rfl ?_
    refine q_putI fl_X5_28 hW kc_3 rfl rfl dX5_fail_9 ?_
    refine r_aload_n dX5_fail_12 rfl ?_
    refine r_aload_n dX5_fail_13 rfl ?_
    refine q_getI fl_X5_56 hW kc_3 rfl dX5_fail_14 ?_
    rw [sI_k (by decide), h3]
    refine q_putI fl_X5_31 hW kc_3 rfl rfl dX5_fail_17 ?_
    refine r_vret dX5_fail_20 rfl ⟨Nat.zero_le _, Nat.zero_le _⟩ ?_
    first
      | (have q0 : e.1 ≠ 0 := fun q => absurd c_4 (by rw [q]; exact fun z => z rfl)
         exact ⟨rfl, eqx.rf, fun _ _ _ => rfl, fun _ => rfl, fun q => absurd q q0⟩)
      | (have q0 : e.1 = 0 := by
           have := (nI_eqI (a := e.1) (b := 0) (by omega) (by decide)).mp c_4
           exact this
         exact ⟨rfl, ((eqx.rf (S := S3)).sI rfl).sI rfl, fun k k1 k2 => by rw [sI_k k2, sI_k k1], fun q => absurd q0 q, fun _ => ⟨by rw [sI_k (by decide), sI_s, hx], sI_s⟩⟩)

set_option maxRecDepth 100000 in
set_option maxHeartbeats 800000 in
theorem c_X5_readValue {l9 : Launch} {G : GC} {h : AH} {b : Nat → Int32} {n : Nat} {s e : Nat} (hW : World h) (hr : RdH h b n) (h3 : aI h 3 3 = nI s) (h4 : aI h 3 4 = nI e) (hse : s ≤ e) (hen : e ≤ n) : PM l9 G mX5_readValue NT NT [.ref 3] h (fun v h' => v = none ∧ eqx h h' S3 ∧ (∀ k, k ≠ 2 → k ≠ 5 → aI h' 3 k = aI h 3 k) ∧ (3 < e - s → aI h' 3 2 = 5) ∧ (e - s ≤ 3 → aI h' 3 2 = aI h 3 2 ∧ aI h' 3 5 = vlB b s (e - s))) noX := by
  refine PM.of (by decide +kernel) rfl rfl (Nat.le_of_ble_eq_true rfl) (fun hst _ => ?_)
  obtain ⟨htx, hb, hn, hn7⟩ := hr
  refine r_aload_n dX5_readValue_0 rfl ?_
  refine q_getI fl_X5_25 hW kc_3 rfl dX5_readValue_1 ?_
  refine r_aload_n dX5_readValue_4 rfl ?_
  refine q_getI fl_X5_56 hW kc_3 rfl dX5_readValue_5 ?_
  rw [h4, h3]
  refine r_isub dX5_readValue_8 ?_
  rw [pk_sub hse]
  refine r_iconst (3) dX5_readValue_9 (by decide) ?_
  refine r_icmp_le 19 dX5_readValue_10 (by decide) (fun c_10 => ?_) (fun c_10 => ?_)
  · refine r_aload_n dX5_readValue_19 rfl ?_
    refine r_iconst (0) dX5_readValue_20 (by decide) ?_
    refine q_putI fl_X5_192 hW kc_3 rfl rfl dX5_readValue_21 ?_
    refine r_aload_n dX5_readValue_24 rfl ?_
    refine q_getI fl_X5_56 hW kc_3 rfl dX5_readValue_25 ?_
    rw [sI_k (by decide), h3]
    refine r_istore_n (ls2 := [some _, _]) dX5_readValue_28 (by decide) rfl ?_
    have hd3 : e - s ≤ 3 := (nI_leI (a := e - s) (b := 3) (by omega) (by decide)).mp c_10
    obtain ⟨d, hd⟩ : ∃ d, d = e - s := ⟨_, rfl⟩
    refine loopN (P := fun j => j ≤ d → PW l9 G mX5_readValue _ _ NT 29 [some (.ref 3), some (.int (nI (s + j)))] [] (0, 0) (sI h 3 5 (vlB b s j))) d (fun j ih hj => ?_) 0 (Nat.zero_le _)
    refine r_iload_n dX5_readValue_29 rfl ?_
    refine r_aload_n dX5_readValue_30 rfl ?_
    refine q_getI fl_X5_25 hW kc_3 rfl dX5_readValue_31 ?_
    rw [sI_k (by decide), h4]
    refine r_icmp_ge 64 dX5_readValue_34 (by decide) (fun c_34 => ?_) (fun c_34 => ?_)
    · have hge : j = d := by
        have := (nI_leI (a := e) (b := s + j) (by omega) (by omega)).mp c_34
        omega
      refine r_vret dX5_readValue_64 rfl ⟨Nat.zero_le _, Nat.zero_le _⟩ ?_
      exact ⟨rfl, (eqx.rf (S := S3)).sI rfl, fun k k1 k2 => sI_k k2, fun q => absurd q (by omega), fun _ => ⟨sI_k (by decide), by rw [sI_s, hge, hd]⟩⟩
    · have hlt : j < d := by
        have := (nI_ltI (a := s + j) (b := e) (by omega) (by omega)).mp (i_lt.mp c_34)
        omega
      refine r_aload_n dX5_readValue_37 rfl ?_
      refine r_bipush (10) dX5_readValue_38 (by decide) ?_
      refine r_aload_n dX5_readValue_40 rfl ?_
      refine q_getI fl_X5_192 hW kc_3 rfl dX5_readValue_41 ?_
      rw [sI_s]
      refine r_imul dX5_readValue_44 ?_
      refine r_aload_n dX5_readValue_45 rfl ?_
      refine q_getR fl_X5_9 hW kc_3 rfl htx (by decide) dX5_readValue_46 ?_
      refine r_iload_n dX5_readValue_49 rfl ?_
      refine q_bald hW kc_2 rfl (by omega) (by decide) dX5_readValue_50 ?_
      rw [show aI (sI h 3 5 (vlB b s j)) 2 = b from by rw [sI_o (by decide)]; exact hb]
      refine r_iadd dX5_readValue_51 ?_
      refine r_bipush (48) dX5_readValue_52 (by decide) ?_
      refine r_isub dX5_readValue_54 ?_
      refine q_putI fl_X5_192 hW kc_3 rfl rfl dX5_readValue_55 ?_
      refine r_iinc (1) (by decide) (ls2 := [some _, _]) dX5_readValue_58 rfl (by decide) rfl ?_
      refine r_goto 29 dX5_readValue_61 (by decide) ?_
      rw [sI_2, nI_1, Nat.add_assoc, show 10 * vlB b s j + b (s + j) - 48 = vlB b s (j + 1) from rfl]
      exact ih hlt hlt
  · refine r_aload_n dX5_readValue_13 rfl ?_
    refine r_iconst (5) dX5_readValue_14 (by decide) ?_
    refine q_putI fl_X5_42 hW kc_3 rfl rfl dX5_readValue_15 ?_
    refine r_vret dX5_readValue_18 rfl ⟨Nat.zero_le _, Nat.zero_le _⟩ ?_
    have hd3 : 3 < e - s := by
      refine Classical.byContradiction fun q => ?_
      exact c_10 ((nI_leI (a := e - s) (b := 3) (by omega) (by decide)).mpr (by omega))
    exact ⟨rfl, (eqx.rf (S := S3)).sI rfl, fun k k1 k2 => sI_k k1, fun _ => sI_s, fun q => absurd q (by omega)⟩

set_option maxRecDepth 100000 in
set_option maxHeartbeats 800000 in
theorem c_X5_readToken {l9 : Launch} {G : GC} {h : AH} {b : Nat → Int32} {n : Nat} {p : Nat} (hW : World h) (hr : RdH h b n) (h4 : aI h 3 4 = nI p) (hp : p ≤ n) : PM l9 G mX5_readToken NT NT [.ref 3] h (fun v h' => v = none ∧ eqx h h' S3 ∧ TkS h' b n p ∧ ∀ k, k ≠ 2 → k ≠ 3 → k ≠ 4 → k ≠ 5 → aI h' 3 k = aI h 3 k) noX := by
  refine PM.of (by decide +kernel) rfl rfl (Nat.le_of_ble_eq_true rfl) (fun hst _ => ?_)
  have hn7 := hr.2.2.2
  have hn := hr.2.2.1
  have hSl := tS_le (b := b) hp
  have hEl := tE_le (b := b) hp
  have hk6 := tK_lt (b := b) (n := n) (p := p)
  have hr1 : RdH (sI (sI h 3 3 (nI (tS b n p))) 3 2 (nI (tK b n p))) b n := (hr.s (by decide)).s (by decide)
  have hr2 : RdH (sI (sI (sI h 3 3 (nI (tS b n p))) 3 2 (nI (tK b n p))) 3 4 (nI (tE b n p))) b n := hr1.s (by decide)
  have e2 : eqx h (sI (sI (sI h 3 3 (nI (tS b n p))) 3 2 (nI (tK b n p))) 3 4 (nI (tE b n p))) S3 := (((eqx.rf (S := S3)).sI rfl).sI rfl).sI rfl
  have tail2 : PW l9 G mX5_readToken (mO mX5_readToken) (fiM G mX5_readToken NT (fun v h' => v = none ∧ eqx h h' S3 ∧ TkS h' b n p ∧ ∀ k, k ≠ 2 → k ≠ 3 → k ≠ 4 → k ≠ 5 → aI h' 3 k = aI h 3 k) noX) NT 135 [some (.ref 3)] [] (0, 0) (sI (sI (sI h 3 3 (nI (tS b n p))) 3 2 (nI (tK b n p))) 3 4 (nI (tE b n p))) := by
    have hW : World (sI (sI (sI h 3 3 (nI (tS b n p))) 3 2 (nI (tK b n p))) 3 4 (nI (tE b n p))) := wsI (wsI (wsI hW))
    refine r_aload_n dX5_readToken_135 rfl ?_
    refine q_getI fl_X5_42 hW kc_3 rfl dX5_readToken_136 ?_
    rw [show aI (sI (sI (sI h 3 3 (nI (tS b n p))) 3 2 (nI (tK b n p))) 3 4 (nI (tE b n p))) 3 2 = nI (tK b n p) from by rw [sI_k (by decide), sI_s]]
    refine r_iconst (2) dX5_readToken_139 (by decide) ?_
    refine r_icmp_ne 147 dX5_readToken_140 (by decide) (fun c_140 => ?_) (fun c_140 => ?_)
    · refine r_vret dX5_readToken_147 rfl ⟨Nat.zero_le _, Nat.zero_le _⟩ ?_
      first
        | (have k2 : tK b n p = 2 := (nI_eqI (by omega) (by decide)).mp c_140
           refine ⟨rfl, e2.tr eV, ⟨?_, ?_, ?_, fun q => ?_⟩, fun k k1 k2 k3 k4 => by rw [fV k k1 k4, sI_k k3, sI_k k1, sI_k k2]⟩
           · by_cases q : 3 < tE b n p - tS b n p
             · rw [v1 q, show tC b n p = 5 from if_pos ⟨k2, q⟩]; rfl
             · rw [(v2 (by omega)).1, sI_k (by decide), sI_s, show tC b n p = tK b n p from if_neg (fun z => q z.2)]
           · rw [fV 3 (by decide) (by decide), sI_k (by decide), sI_k (by decide), sI_s]
           · rw [fV 4 (by decide) (by decide), sI_s]
           · obtain ⟨-, q2⟩ := tC_2.mp q
             rw [(v2 q2).2]
             unfold tV
             rw [Nat.min_eq_right q2])
        | (have k2 : ¬ tK b n p = 2 := fun q => c_140 ((nI_eqI (by omega) (by decide)).mpr q)
           refine ⟨rfl, e2, ⟨?_, ?_, sI_s, fun q => absurd (tC_2.mp q).1 k2⟩, fun k k1 k2 k3 k4 => by rw [sI_k k3, sI_k k1, sI_k k2]⟩
           · rw [sI_k (by decide), sI_s, show tC b n p = tK b n p from if_neg (fun z => k2 z.1)]
           · rw [sI_k (by decide), sI_k (by decide), sI_s])
    · refine r_aload_n dX5_readToken_143 rfl ?_
      refine q_callV0 (cv_X5_readValue ml_X5_226) hW kc_3 (by decide) rfl ⟨rfl, rfl⟩ rfl (Nat.le_of_ble_eq_true rfl) dX5_readToken_144 (c_X5_readValue hW hr2 (s := tS b n p) (e := tE b n p) (by rw [sI_k (by decide), sI_k (by decide), sI_s]) sI_s tE_ge (tE_le hp)) (fun v_144 h_144 q_144 => ?_)
      obtain ⟨rfl, eV, fV, v1, v2⟩ := q_144
      refine r_vret dX5_readToken_147 rfl ⟨Nat.zero_le _, Nat.zero_le _⟩ ?_
      first
        | (have k2 : tK b n p = 2 := (nI_eqI (by omega) (by decide)).mp c_140
           refine ⟨rfl, e2.tr eV, ⟨?_, ?_, ?_, fun q => ?_⟩, fun k k1 k2 k3 k4 => by rw [fV k k1 k4, sI_k k3, sI_k k1, sI_k k2]⟩
           · by_cases q : 3 < tE b n p - tS b n p
             · rw [v1 q, show tC b n p = 5 from if_pos ⟨k2, q⟩]; rfl
             · rw [(v2 (by omega)).1, sI_k (by decide), sI_s, show tC b n p = tK b n p from if_neg (fun z => q z.2)]
           · rw [fV 3 (by decide) (by decide), sI_k (by decide), sI_k (by decide), sI_s]
           · rw [fV 4 (by decide) (by decide), sI_s]
           · obtain ⟨-, q2⟩ := tC_2.mp q
             rw [(v2 q2).2]
             unfold tV
             rw [Nat.min_eq_right q2])
        | (have k2 : ¬ tK b n p = 2 := fun q => c_140 ((nI_eqI (by omega) (by decide)).mpr q)
           refine ⟨rfl, e2, ⟨?_, ?_, sI_s, fun q => absurd (tC_2.mp q).1 k2⟩, fun k k1 k2 k3 k4 => by rw [sI_k k3, sI_k k1, sI_k k2]⟩
           · rw [sI_k (by decide), sI_s, show tC b n p = tK b n p from if_neg (fun z => k2 z.1)]
           · rw [sI_k (by decide), sI_k (by decide), sI_s])
  have tail : PW l9 G mX5_readToken (mO mX5_readToken) (fiM G mX5_readToken NT (fun v h' => v = none ∧ eqx h h' S3 ∧ TkS h' b n p ∧ ∀ k, k ≠ 2 → k ≠ 3 → k ≠ 4 → k ≠ 5 → aI h' 3 k = aI h 3 k) noX) NT 44 [some (.ref 3)] [] (0, 0) (sI h 3 3 (nI (tS b n p))) := by
    have hW1 : World (sI h 3 3 (nI (tS b n p))) := wsI hW
    refine r_aload_n dX5_readToken_44 rfl ?_
    refine r_aload_n dX5_readToken_45 rfl ?_
    refine r_aload_n dX5_readToken_46 rfl ?_
    refine q_getI fl_X5_56 (by first | exact hW1 | exact wsI hW1) kc_3 rfl dX5_readToken_47 ?_
    rw [show aI (sI h 3 3 (nI (tS b n p))) 3 3 = nI (tS b n p) from sI_s]
    refine q_callV1 (cv_X5_kindAt ml_X5_222) (by first | exact hW1 | exact wsI hW1) kc_3 (by decide) rfl ⟨rfl, rfl⟩ rfl (Nat.le_of_ble_eq_true rfl) dX5_readToken_50 (c_X5_kindAt (by first | exact hW1 | exact wsI hW1) (hr.s (by decide)) (i := tS b n p) (by omega)) (fun v_50 h_50 q_50 => ?_)
    obtain ⟨rfl, z9⟩ := q_50
    replace z9 := z9.symm
    subst z9
    rw [show kdB b n (tS b n p) = tK b n p from rfl]
    have hW1 : World (sI (sI h 3 3 (nI (tS b n p))) 3 2 (nI (tK b n p))) := wsI (wsI hW)
    refine q_putI fl_X5_42 (by first | exact hW1 | exact wsI hW1) kc_3 rfl rfl dX5_readToken_53 ?_
    refine r_aload_n dX5_readToken_56 rfl ?_
    refine r_aload_n dX5_readToken_57 rfl ?_
    refine q_getI fl_X5_42 (by first | exact hW1 | exact wsI hW1) kc_3 rfl dX5_readToken_58 ?_
    rw [show aI (sI (sI h 3 3 (nI (tS b n p))) 3 2 (nI (tK b n p))) 3 2 = nI (tK b n p) from sI_s]
    refine r_if_ne 71 dX5_readToken_61 (by decide) (fun c_61 => ?_) (fun c_61 => ?_)
    · refine r_aload_n dX5_readToken_71 rfl ?_
      refine q_getI fl_X5_56 (by first | exact hW1 | exact wsI hW1) kc_3 rfl dX5_readToken_72 ?_
      rw [show aI (sI (sI h 3 3 (nI (tS b n p))) 3 2 (nI (tK b n p))) 3 3 = nI (tS b n p) from by rw [sI_k (by decide), sI_s]]
      refine r_iconst (1) dX5_readToken_75 (by decide) ?_
      refine r_iadd dX5_readToken_76 ?_
      refine q_putI fl_X5_25 (by first | exact hW1 | exact wsI hW1) kc_3 rfl rfl dX5_readToken_77 ?_
      refine r_aload_n dX5_readToken_80 rfl ?_
      refine q_getI fl_X5_42 (by first | exact hW1 | exact wsI hW1) kc_3 rfl dX5_readToken_81 ?_
      rw [show ∀ x, aI (sI (sI (sI h 3 3 (nI (tS b n p))) 3 2 (nI (tK b n p))) 3 4 x) 3 2 = nI (tK b n p) from fun x => by rw [sI_k (by decide), sI_s]]
      refine r_iconst (1) dX5_readToken_84 (by decide) ?_
      refine r_icmp_eq 96 dX5_readToken_85 (by decide) (fun c_85 => ?_) (fun c_85 => ?_)
      · first
          | exact absurd ((nI_eqI (a := tK b n p) (b := 0) (by omega) (by decide)).mp c_61) (by first | (rw [(nI_eqI (a := tK b n p) (b := 1) (by omega) (by decide)).mp c_85]; decide) | (rw [(nI_eqI (a := tK b n p) (b := 2) (by omega) (by decide)).mp c_93]; decide))
          | skip
        all_goals
          rw [nI_1]
          have hk12 : tK b n p = 1 ∨ tK b n p = 2 := by
            first
              | exact Or.inl ((nI_eqI (a := tK b n p) (b := 1) (by omega) (by decide)).mp c_85)
              | exact Or.inr ((nI_eqI (a := tK b n p) (b := 2) (by omega) (by decide)).mp c_93)
          have hk0 : tK b n p ≠ 0 := by omega
          have hEr : tE b n p = rnB b n (tK b n p) n (tS b n p + 1) := by unfold tE; rw [if_neg hk0, if_pos hk12]
          have hSn : tS b n p < n := kdB_in hk0
          refine loopN (P := fun j => tS b n p + 1 + j ≤ n → tE b n p = rnB b n (tK b n p) (n - j) (tS b n p + 1 + j) → PW l9 G mX5_readToken (mO mX5_readToken) (fiM G mX5_readToken NT (fun v h' => v = none ∧ eqx h h' S3 ∧ TkS h' b n p ∧ ∀ k, k ≠ 2 → k ≠ 3 → k ≠ 4 → k ≠ 5 → aI h' 3 k = aI h 3 k) noX) NT 96 [some (.ref 3)] [] (0, 0) (sI (sI (sI h 3 3 (nI (tS b n p))) 3 2 (nI (tK b n p))) 3 4 (nI (tS b n p + 1 + j)))) n (fun j ih hj hf => ?_) 0 (by omega) hEr
          have hr3 : RdH (sI (sI (sI h 3 3 (nI (tS b n p))) 3 2 (nI (tK b n p))) 3 4 (nI (tS b n p + 1 + j))) b n := (hr1.s (by decide)).s (by decide)
          have hW3 : World (sI (sI (sI h 3 3 (nI (tS b n p))) 3 2 (nI (tK b n p))) 3 4 (nI (tS b n p + 1 + j))) := wsI (wsI (wsI hW))
          refine r_aload_n dX5_readToken_96 rfl ?_
          refine q_getI fl_X5_25 hW3 kc_3 rfl dX5_readToken_97 ?_
          rw [show aI (sI (sI (sI h 3 3 (nI (tS b n p))) 3 2 (nI (tK b n p))) 3 4 (nI (tS b n p + 1 + j))) 3 4 = nI (tS b n p + 1 + j) from sI_s]
          refine r_aload_n dX5_readToken_100 rfl ?_
          refine q_getI fl_X5_21 hW3 kc_3 rfl dX5_readToken_101 ?_
          rw [show aI (sI (sI (sI h 3 3 (nI (tS b n p))) 3 2 (nI (tK b n p))) 3 4 (nI (tS b n p + 1 + j))) 3 1 = nI n from hr3.2.2.1]
          refine r_icmp_ge 135 dX5_readToken_104 (by decide) (fun c_104 => ?_) (fun c_104 => ?_)
          · have hE : tE b n p = tS b n p + 1 + j := by
              refine hf.trans (rnB_no ?_)
              first
                | exact fun q => c_119 (by rw [q])
                | (have hge := (nI_leI (a := n) (b := tS b n p + 1 + j) (by omega) (by omega)).mp c_104
                   rw [kdB_out hge]; exact fun q => hk0 q.symm)
            rw [← hE]
            exact tail2
          · refine r_aload_n dX5_readToken_107 rfl ?_
            refine r_aload_n dX5_readToken_108 rfl ?_
            refine q_getI fl_X5_25 hW3 kc_3 rfl dX5_readToken_109 ?_
            rw [show aI (sI (sI (sI h 3 3 (nI (tS b n p))) 3 2 (nI (tK b n p))) 3 4 (nI (tS b n p + 1 + j))) 3 4 = nI (tS b n p + 1 + j) from sI_s]
            have hlt : tS b n p + 1 + j < n := (nI_ltI (by omega) (by omega)).mp (i_lt.mp c_104)
            refine q_callV1 (cv_X5_kindAt ml_X5_222) hW3 kc_3 (by decide) rfl ⟨rfl, rfl⟩ rfl (Nat.le_of_ble_eq_true rfl) dX5_readToken_112 (c_X5_kindAt hW3 hr3 (i := tS b n p + 1 + j) (by omega)) (fun v_112 h_112 q_112 => ?_)
            obtain ⟨rfl, z9⟩ := q_112
            replace z9 := z9.symm
            subst z9
            refine r_aload_n dX5_readToken_115 rfl ?_
            refine q_getI fl_X5_42 hW3 kc_3 rfl dX5_readToken_116 ?_
            rw [show aI (sI (sI (sI h 3 3 (nI (tS b n p))) 3 2 (nI (tK b n p))) 3 4 (nI (tS b n p + 1 + j))) 3 2 = nI (tK b n p) from by rw [sI_k (by decide), sI_s]]
            have hk6 := kdB_lt (b := b) (n := n) (i := tS b n p + 1 + j)
            refine r_icmp_ne 135 dX5_readToken_119 (by decide) (fun c_119 => ?_) (fun c_119 => ?_)
            · have hE : tE b n p = tS b n p + 1 + j := by
                refine hf.trans (rnB_no ?_)
                first
                  | exact fun q => c_119 (by rw [q])
                  | (have hge := (nI_leI (a := n) (b := tS b n p + 1 + j) (by omega) (by omega)).mp c_104
                     rw [kdB_out hge]; exact fun q => hk0 q.symm)
              rw [← hE]
              exact tail2
            · refine r_aload_n dX5_readToken_122 rfl ?_
              refine r_dup dX5_readToken_123 rfl ?_
              refine q_getI fl_X5_25 hW3 kc_3 rfl dX5_readToken_124 ?_
              rw [show aI (sI (sI (sI h 3 3 (nI (tS b n p))) 3 2 (nI (tK b n p))) 3 4 (nI (tS b n p + 1 + j))) 3 4 = nI (tS b n p + 1 + j) from sI_s]
              refine r_iconst (1) dX5_readToken_127 (by decide) ?_
              refine r_iadd dX5_readToken_128 ?_
              refine q_putI fl_X5_25 hW3 kc_3 rfl rfl dX5_readToken_129 ?_
              refine r_goto 96 dX5_readToken_132 (by decide) ?_
              have hk : kdB b n (tS b n p + 1 + j) = tK b n p := (nI_eqI (by omega) (by omega)).mp c_119
              rw [nI_1, sI_2]
              exact ih (by omega) (by omega) (hf.trans (rnB_go hk0 hk (by omega)))
      · refine r_aload_n dX5_readToken_88 rfl ?_
        refine q_getI fl_X5_42 (by first | exact hW1 | exact wsI hW1) kc_3 rfl dX5_readToken_89 ?_
        rw [show ∀ x, aI (sI (sI (sI h 3 3 (nI (tS b n p))) 3 2 (nI (tK b n p))) 3 4 x) 3 2 = nI (tK b n p) from fun x => by rw [sI_k (by decide), sI_s]]
        refine r_iconst (2) dX5_readToken_92 (by decide) ?_
        refine r_icmp_ne 135 dX5_readToken_93 (by decide) (fun c_93 => ?_) (fun c_93 => ?_)
        · have hn1 : ¬ tK b n p = 1 := fun q => c_85 (by rw [q]; rfl)
          have hn2 : ¬ tK b n p = 2 := fun q => c_93 (by rw [q]; rfl)
          first
            | (have hE : tE b n p = tS b n p := by
                 unfold tE
                 exact if_pos ((nI_eqI (a := tK b n p) (b := 0) (by omega) (by decide)).mp c_61)
               rw [hE] at tail2
               exact tail2)
            | (have hE : tE b n p = tS b n p + 1 := by
                 unfold tE
                 rw [if_neg (fun q => c_61 (by rw [q]; rfl)), if_neg (fun q => q.elim hn1 hn2)]
               rw [hE] at tail2
               rw [nI_1]
               exact tail2)
        · first
            | exact absurd ((nI_eqI (a := tK b n p) (b := 0) (by omega) (by decide)).mp c_61) (by first | (rw [(nI_eqI (a := tK b n p) (b := 1) (by omega) (by decide)).mp c_85]; decide) | (rw [(nI_eqI (a := tK b n p) (b := 2) (by omega) (by decide)).mp c_93]; decide))
            | skip
          all_goals
            rw [nI_1]
            have hk12 : tK b n p = 1 ∨ tK b n p = 2 := by
              first
                | exact Or.inl ((nI_eqI (a := tK b n p) (b := 1) (by omega) (by decide)).mp c_85)
                | exact Or.inr ((nI_eqI (a := tK b n p) (b := 2) (by omega) (by decide)).mp c_93)
            have hk0 : tK b n p ≠ 0 := by omega
            have hEr : tE b n p = rnB b n (tK b n p) n (tS b n p + 1) := by unfold tE; rw [if_neg hk0, if_pos hk12]
            have hSn : tS b n p < n := kdB_in hk0
            refine loopN (P := fun j => tS b n p + 1 + j ≤ n → tE b n p = rnB b n (tK b n p) (n - j) (tS b n p + 1 + j) → PW l9 G mX5_readToken (mO mX5_readToken) (fiM G mX5_readToken NT (fun v h' => v = none ∧ eqx h h' S3 ∧ TkS h' b n p ∧ ∀ k, k ≠ 2 → k ≠ 3 → k ≠ 4 → k ≠ 5 → aI h' 3 k = aI h 3 k) noX) NT 96 [some (.ref 3)] [] (0, 0) (sI (sI (sI h 3 3 (nI (tS b n p))) 3 2 (nI (tK b n p))) 3 4 (nI (tS b n p + 1 + j)))) n (fun j ih hj hf => ?_) 0 (by omega) hEr
            have hr3 : RdH (sI (sI (sI h 3 3 (nI (tS b n p))) 3 2 (nI (tK b n p))) 3 4 (nI (tS b n p + 1 + j))) b n := (hr1.s (by decide)).s (by decide)
            have hW3 : World (sI (sI (sI h 3 3 (nI (tS b n p))) 3 2 (nI (tK b n p))) 3 4 (nI (tS b n p + 1 + j))) := wsI (wsI (wsI hW))
            refine r_aload_n dX5_readToken_96 rfl ?_
            refine q_getI fl_X5_25 hW3 kc_3 rfl dX5_readToken_97 ?_
            rw [show aI (sI (sI (sI h 3 3 (nI (tS b n p))) 3 2 (nI (tK b n p))) 3 4 (nI (tS b n p + 1 + j))) 3 4 = nI (tS b n p + 1 + j) from sI_s]
            refine r_aload_n dX5_readToken_100 rfl ?_
            refine q_getI fl_X5_21 hW3 kc_3 rfl dX5_readToken_101 ?_
            rw [show aI (sI (sI (sI h 3 3 (nI (tS b n p))) 3 2 (nI (tK b n p))) 3 4 (nI (tS b n p + 1 + j))) 3 1 = nI n from hr3.2.2.1]
            refine r_icmp_ge 135 dX5_readToken_104 (by decide) (fun c_104 => ?_) (fun c_104 => ?_)
            · have hE : tE b n p = tS b n p + 1 + j := by
                refine hf.trans (rnB_no ?_)
                first
                  | exact fun q => c_119 (by rw [q])
                  | (have hge := (nI_leI (a := n) (b := tS b n p + 1 + j) (by omega) (by omega)).mp c_104
                     rw [kdB_out hge]; exact fun q => hk0 q.symm)
              rw [← hE]
              exact tail2
            · refine r_aload_n dX5_readToken_107 rfl ?_
              refine r_aload_n dX5_readToken_108 rfl ?_
              refine q_getI fl_X5_25 hW3 kc_3 rfl dX5_readToken_109 ?_
              rw [show aI (sI (sI (sI h 3 3 (nI (tS b n p))) 3 2 (nI (tK b n p))) 3 4 (nI (tS b n p + 1 + j))) 3 4 = nI (tS b n p + 1 + j) from sI_s]
              have hlt : tS b n p + 1 + j < n := (nI_ltI (by omega) (by omega)).mp (i_lt.mp c_104)
              refine q_callV1 (cv_X5_kindAt ml_X5_222) hW3 kc_3 (by decide) rfl ⟨rfl, rfl⟩ rfl (Nat.le_of_ble_eq_true rfl) dX5_readToken_112 (c_X5_kindAt hW3 hr3 (i := tS b n p + 1 + j) (by omega)) (fun v_112 h_112 q_112 => ?_)
              obtain ⟨rfl, z9⟩ := q_112
              replace z9 := z9.symm
              subst z9
              refine r_aload_n dX5_readToken_115 rfl ?_
              refine q_getI fl_X5_42 hW3 kc_3 rfl dX5_readToken_116 ?_
              rw [show aI (sI (sI (sI h 3 3 (nI (tS b n p))) 3 2 (nI (tK b n p))) 3 4 (nI (tS b n p + 1 + j))) 3 2 = nI (tK b n p) from by rw [sI_k (by decide), sI_s]]
              have hk6 := kdB_lt (b := b) (n := n) (i := tS b n p + 1 + j)
              refine r_icmp_ne 135 dX5_readToken_119 (by decide) (fun c_119 => ?_) (fun c_119 => ?_)
              · have hE : tE b n p = tS b n p + 1 + j := by
                  refine hf.trans (rnB_no ?_)
                  first
                    | exact fun q => c_119 (by rw [q])
                    | (have hge := (nI_leI (a := n) (b := tS b n p + 1 + j) (by omega) (by omega)).mp c_104
                       rw [kdB_out hge]; exact fun q => hk0 q.symm)
                rw [← hE]
                exact tail2
              · refine r_aload_n dX5_readToken_122 rfl ?_
                refine r_dup dX5_readToken_123 rfl ?_
                refine q_getI fl_X5_25 hW3 kc_3 rfl dX5_readToken_124 ?_
                rw [show aI (sI (sI (sI h 3 3 (nI (tS b n p))) 3 2 (nI (tK b n p))) 3 4 (nI (tS b n p + 1 + j))) 3 4 = nI (tS b n p + 1 + j) from sI_s]
                refine r_iconst (1) dX5_readToken_127 (by decide) ?_
                refine r_iadd dX5_readToken_128 ?_
                refine q_putI fl_X5_25 hW3 kc_3 rfl rfl dX5_readToken_129 ?_
                refine r_goto 96 dX5_readToken_132 (by decide) ?_
                have hk : kdB b n (tS b n p + 1 + j) = tK b n p := (nI_eqI (by omega) (by omega)).mp c_119
                rw [nI_1, sI_2]
                exact ih (by omega) (by omega) (hf.trans (rnB_go hk0 hk (by omega)))
    · refine r_aload_n dX5_readToken_64 rfl ?_
      refine q_getI fl_X5_56 (by first | exact hW1 | exact wsI hW1) kc_3 rfl dX5_readToken_65 ?_
      rw [show aI (sI (sI h 3 3 (nI (tS b n p))) 3 2 (nI (tK b n p))) 3 3 = nI (tS b n p) from by rw [sI_k (by decide), sI_s]]
      refine r_goto 77 dX5_readToken_68 (by decide) ?_
      refine q_putI fl_X5_25 (by first | exact hW1 | exact wsI hW1) kc_3 rfl rfl dX5_readToken_77 ?_
      refine r_aload_n dX5_readToken_80 rfl ?_
      refine q_getI fl_X5_42 (by first | exact hW1 | exact wsI hW1) kc_3 rfl dX5_readToken_81 ?_
      rw [show ∀ x, aI (sI (sI (sI h 3 3 (nI (tS b n p))) 3 2 (nI (tK b n p))) 3 4 x) 3 2 = nI (tK b n p) from fun x => by rw [sI_k (by decide), sI_s]]
      refine r_iconst (1) dX5_readToken_84 (by decide) ?_
      refine r_icmp_eq 96 dX5_readToken_85 (by decide) (fun c_85 => ?_) (fun c_85 => ?_)
      · first
          | exact absurd ((nI_eqI (a := tK b n p) (b := 0) (by omega) (by decide)).mp c_61) (by first | (rw [(nI_eqI (a := tK b n p) (b := 1) (by omega) (by decide)).mp c_85]; decide) | (rw [(nI_eqI (a := tK b n p) (b := 2) (by omega) (by decide)).mp c_93]; decide))
          | skip
        all_goals
          rw [nI_1]
          have hk12 : tK b n p = 1 ∨ tK b n p = 2 := by
            first
              | exact Or.inl ((nI_eqI (a := tK b n p) (b := 1) (by omega) (by decide)).mp c_85)
              | exact Or.inr ((nI_eqI (a := tK b n p) (b := 2) (by omega) (by decide)).mp c_93)
          have hk0 : tK b n p ≠ 0 := by omega
          have hEr : tE b n p = rnB b n (tK b n p) n (tS b n p + 1) := by unfold tE; rw [if_neg hk0, if_pos hk12]
          have hSn : tS b n p < n := kdB_in hk0
          refine loopN (P := fun j => tS b n p + 1 + j ≤ n → tE b n p = rnB b n (tK b n p) (n - j) (tS b n p + 1 + j) → PW l9 G mX5_readToken (mO mX5_readToken) (fiM G mX5_readToken NT (fun v h' => v = none ∧ eqx h h' S3 ∧ TkS h' b n p ∧ ∀ k, k ≠ 2 → k ≠ 3 → k ≠ 4 → k ≠ 5 → aI h' 3 k = aI h 3 k) noX) NT 96 [some (.ref 3)] [] (0, 0) (sI (sI (sI h 3 3 (nI (tS b n p))) 3 2 (nI (tK b n p))) 3 4 (nI (tS b n p + 1 + j)))) n (fun j ih hj hf => ?_) 0 (by omega) hEr
          have hr3 : RdH (sI (sI (sI h 3 3 (nI (tS b n p))) 3 2 (nI (tK b n p))) 3 4 (nI (tS b n p + 1 + j))) b n := (hr1.s (by decide)).s (by decide)
          have hW3 : World (sI (sI (sI h 3 3 (nI (tS b n p))) 3 2 (nI (tK b n p))) 3 4 (nI (tS b n p + 1 + j))) := wsI (wsI (wsI hW))
          refine r_aload_n dX5_readToken_96 rfl ?_
          refine q_getI fl_X5_25 hW3 kc_3 rfl dX5_readToken_97 ?_
          rw [show aI (sI (sI (sI h 3 3 (nI (tS b n p))) 3 2 (nI (tK b n p))) 3 4 (nI (tS b n p + 1 + j))) 3 4 = nI (tS b n p + 1 + j) from sI_s]
          refine r_aload_n dX5_readToken_100 rfl ?_
          refine q_getI fl_X5_21 hW3 kc_3 rfl dX5_readToken_101 ?_
          rw [show aI (sI (sI (sI h 3 3 (nI (tS b n p))) 3 2 (nI (tK b n p))) 3 4 (nI (tS b n p + 1 + j))) 3 1 = nI n from hr3.2.2.1]
          refine r_icmp_ge 135 dX5_readToken_104 (by decide) (fun c_104 => ?_) (fun c_104 => ?_)
          · have hE : tE b n p = tS b n p + 1 + j := by
              refine hf.trans (rnB_no ?_)
              first
                | exact fun q => c_119 (by rw [q])
                | (have hge := (nI_leI (a := n) (b := tS b n p + 1 + j) (by omega) (by omega)).mp c_104
                   rw [kdB_out hge]; exact fun q => hk0 q.symm)
            rw [← hE]
            exact tail2
          · refine r_aload_n dX5_readToken_107 rfl ?_
            refine r_aload_n dX5_readToken_108 rfl ?_
            refine q_getI fl_X5_25 hW3 kc_3 rfl dX5_readToken_109 ?_
            rw [show aI (sI (sI (sI h 3 3 (nI (tS b n p))) 3 2 (nI (tK b n p))) 3 4 (nI (tS b n p + 1 + j))) 3 4 = nI (tS b n p + 1 + j) from sI_s]
            have hlt : tS b n p + 1 + j < n := (nI_ltI (by omega) (by omega)).mp (i_lt.mp c_104)
            refine q_callV1 (cv_X5_kindAt ml_X5_222) hW3 kc_3 (by decide) rfl ⟨rfl, rfl⟩ rfl (Nat.le_of_ble_eq_true rfl) dX5_readToken_112 (c_X5_kindAt hW3 hr3 (i := tS b n p + 1 + j) (by omega)) (fun v_112 h_112 q_112 => ?_)
            obtain ⟨rfl, z9⟩ := q_112
            replace z9 := z9.symm
            subst z9
            refine r_aload_n dX5_readToken_115 rfl ?_
            refine q_getI fl_X5_42 hW3 kc_3 rfl dX5_readToken_116 ?_
            rw [show aI (sI (sI (sI h 3 3 (nI (tS b n p))) 3 2 (nI (tK b n p))) 3 4 (nI (tS b n p + 1 + j))) 3 2 = nI (tK b n p) from by rw [sI_k (by decide), sI_s]]
            have hk6 := kdB_lt (b := b) (n := n) (i := tS b n p + 1 + j)
            refine r_icmp_ne 135 dX5_readToken_119 (by decide) (fun c_119 => ?_) (fun c_119 => ?_)
            · have hE : tE b n p = tS b n p + 1 + j := by
                refine hf.trans (rnB_no ?_)
                first
                  | exact fun q => c_119 (by rw [q])
                  | (have hge := (nI_leI (a := n) (b := tS b n p + 1 + j) (by omega) (by omega)).mp c_104
                     rw [kdB_out hge]; exact fun q => hk0 q.symm)
              rw [← hE]
              exact tail2
            · refine r_aload_n dX5_readToken_122 rfl ?_
              refine r_dup dX5_readToken_123 rfl ?_
              refine q_getI fl_X5_25 hW3 kc_3 rfl dX5_readToken_124 ?_
              rw [show aI (sI (sI (sI h 3 3 (nI (tS b n p))) 3 2 (nI (tK b n p))) 3 4 (nI (tS b n p + 1 + j))) 3 4 = nI (tS b n p + 1 + j) from sI_s]
              refine r_iconst (1) dX5_readToken_127 (by decide) ?_
              refine r_iadd dX5_readToken_128 ?_
              refine q_putI fl_X5_25 hW3 kc_3 rfl rfl dX5_readToken_129 ?_
              refine r_goto 96 dX5_readToken_132 (by decide) ?_
              have hk : kdB b n (tS b n p + 1 + j) = tK b n p := (nI_eqI (by omega) (by omega)).mp c_119
              rw [nI_1, sI_2]
              exact ih (by omega) (by omega) (hf.trans (rnB_go hk0 hk (by omega)))
      · refine r_aload_n dX5_readToken_88 rfl ?_
        refine q_getI fl_X5_42 (by first | exact hW1 | exact wsI hW1) kc_3 rfl dX5_readToken_89 ?_
        rw [show ∀ x, aI (sI (sI (sI h 3 3 (nI (tS b n p))) 3 2 (nI (tK b n p))) 3 4 x) 3 2 = nI (tK b n p) from fun x => by rw [sI_k (by decide), sI_s]]
        refine r_iconst (2) dX5_readToken_92 (by decide) ?_
        refine r_icmp_ne 135 dX5_readToken_93 (by decide) (fun c_93 => ?_) (fun c_93 => ?_)
        · have hn1 : ¬ tK b n p = 1 := fun q => c_85 (by rw [q]; rfl)
          have hn2 : ¬ tK b n p = 2 := fun q => c_93 (by rw [q]; rfl)
          first
            | (have hE : tE b n p = tS b n p := by
                 unfold tE
                 exact if_pos ((nI_eqI (a := tK b n p) (b := 0) (by omega) (by decide)).mp c_61)
               rw [hE] at tail2
               exact tail2)
            | (have hE : tE b n p = tS b n p + 1 := by
                 unfold tE
                 rw [if_neg (fun q => c_61 (by rw [q]; rfl)), if_neg (fun q => q.elim hn1 hn2)]
               rw [hE] at tail2
               rw [nI_1]
               exact tail2)
        · first
            | exact absurd ((nI_eqI (a := tK b n p) (b := 0) (by omega) (by decide)).mp c_61) (by first | (rw [(nI_eqI (a := tK b n p) (b := 1) (by omega) (by decide)).mp c_85]; decide) | (rw [(nI_eqI (a := tK b n p) (b := 2) (by omega) (by decide)).mp c_93]; decide))
            | skip
          all_goals
            rw [nI_1]
            have hk12 : tK b n p = 1 ∨ tK b n p = 2 := by
              first
                | exact Or.inl ((nI_eqI (a := tK b n p) (b := 1) (by omega) (by decide)).mp c_85)
                | exact Or.inr ((nI_eqI (a := tK b n p) (b := 2) (by omega) (by decide)).mp c_93)
            have hk0 : tK b n p ≠ 0 := by omega
            have hEr : tE b n p = rnB b n (tK b n p) n (tS b n p + 1) := by unfold tE; rw [if_neg hk0, if_pos hk12]
            have hSn : tS b n p < n := kdB_in hk0
            refine loopN (P := fun j => tS b n p + 1 + j ≤ n → tE b n p = rnB b n (tK b n p) (n - j) (tS b n p + 1 + j) → PW l9 G mX5_readToken (mO mX5_readToken) (fiM G mX5_readToken NT (fun v h' => v = none ∧ eqx h h' S3 ∧ TkS h' b n p ∧ ∀ k, k ≠ 2 → k ≠ 3 → k ≠ 4 → k ≠ 5 → aI h' 3 k = aI h 3 k) noX) NT 96 [some (.ref 3)] [] (0, 0) (sI (sI (sI h 3 3 (nI (tS b n p))) 3 2 (nI (tK b n p))) 3 4 (nI (tS b n p + 1 + j)))) n (fun j ih hj hf => ?_) 0 (by omega) hEr
            have hr3 : RdH (sI (sI (sI h 3 3 (nI (tS b n p))) 3 2 (nI (tK b n p))) 3 4 (nI (tS b n p + 1 + j))) b n := (hr1.s (by decide)).s (by decide)
            have hW3 : World (sI (sI (sI h 3 3 (nI (tS b n p))) 3 2 (nI (tK b n p))) 3 4 (nI (tS b n p + 1 + j))) := wsI (wsI (wsI hW))
            refine r_aload_n dX5_readToken_96 rfl ?_
            refine q_getI fl_X5_25 hW3 kc_3 rfl dX5_readToken_97 ?_
            rw [show aI (sI (sI (sI h 3 3 (nI (tS b n p))) 3 2 (nI (tK b n p))) 3 4 (nI (tS b n p + 1 + j))) 3 4 = nI (tS b n p + 1 + j) from sI_s]
            refine r_aload_n dX5_readToken_100 rfl ?_
            refine q_getI fl_X5_21 hW3 kc_3 rfl dX5_readToken_101 ?_
            rw [show aI (sI (sI (sI h 3 3 (nI (tS b n p))) 3 2 (nI (tK b n p))) 3 4 (nI (tS b n p + 1 + j))) 3 1 = nI n from hr3.2.2.1]
            refine r_icmp_ge 135 dX5_readToken_104 (by decide) (fun c_104 => ?_) (fun c_104 => ?_)
            · have hE : tE b n p = tS b n p + 1 + j := by
                refine hf.trans (rnB_no ?_)
                first
                  | exact fun q => c_119 (by rw [q])
                  | (have hge := (nI_leI (a := n) (b := tS b n p + 1 + j) (by omega) (by omega)).mp c_104
                     rw [kdB_out hge]; exact fun q => hk0 q.symm)
              rw [← hE]
              exact tail2
            · refine r_aload_n dX5_readToken_107 rfl ?_
              refine r_aload_n dX5_readToken_108 rfl ?_
              refine q_getI fl_X5_25 hW3 kc_3 rfl dX5_readToken_109 ?_
              rw [show aI (sI (sI (sI h 3 3 (nI (tS b n p))) 3 2 (nI (tK b n p))) 3 4 (nI (tS b n p + 1 + j))) 3 4 = nI (tS b n p + 1 + j) from sI_s]
              have hlt : tS b n p + 1 + j < n := (nI_ltI (by omega) (by omega)).mp (i_lt.mp c_104)
              refine q_callV1 (cv_X5_kindAt ml_X5_222) hW3 kc_3 (by decide) rfl ⟨rfl, rfl⟩ rfl (Nat.le_of_ble_eq_true rfl) dX5_readToken_112 (c_X5_kindAt hW3 hr3 (i := tS b n p + 1 + j) (by omega)) (fun v_112 h_112 q_112 => ?_)
              obtain ⟨rfl, z9⟩ := q_112
              replace z9 := z9.symm
              subst z9
              refine r_aload_n dX5_readToken_115 rfl ?_
              refine q_getI fl_X5_42 hW3 kc_3 rfl dX5_readToken_116 ?_
              rw [show aI (sI (sI (sI h 3 3 (nI (tS b n p))) 3 2 (nI (tK b n p))) 3 4 (nI (tS b n p + 1 + j))) 3 2 = nI (tK b n p) from by rw [sI_k (by decide), sI_s]]
              have hk6 := kdB_lt (b := b) (n := n) (i := tS b n p + 1 + j)
              refine r_icmp_ne 135 dX5_readToken_119 (by decide) (fun c_119 => ?_) (fun c_119 => ?_)
              · have hE : tE b n p = tS b n p + 1 + j := by
                  refine hf.trans (rnB_no ?_)
                  first
                    | exact fun q => c_119 (by rw [q])
                    | (have hge := (nI_leI (a := n) (b := tS b n p + 1 + j) (by omega) (by omega)).mp c_104
                       rw [kdB_out hge]; exact fun q => hk0 q.symm)
                rw [← hE]
                exact tail2
              · refine r_aload_n dX5_readToken_122 rfl ?_
                refine r_dup dX5_readToken_123 rfl ?_
                refine q_getI fl_X5_25 hW3 kc_3 rfl dX5_readToken_124 ?_
                rw [show aI (sI (sI (sI h 3 3 (nI (tS b n p))) 3 2 (nI (tK b n p))) 3 4 (nI (tS b n p + 1 + j))) 3 4 = nI (tS b n p + 1 + j) from sI_s]
                refine r_iconst (1) dX5_readToken_127 (by decide) ?_
                refine r_iadd dX5_readToken_128 ?_
                refine q_putI fl_X5_25 hW3 kc_3 rfl rfl dX5_readToken_129 ?_
                refine r_goto 96 dX5_readToken_132 (by decide) ?_
                have hk : kdB b n (tS b n p + 1 + j) = tK b n p := (nI_eqI (by omega) (by omega)).mp c_119
                rw [nI_1, sI_2]
                exact ih (by omega) (by omega) (hf.trans (rnB_go hk0 hk (by omega)))
  refine r_aload_n dX5_readToken_0 rfl ?_
  refine r_aload_n dX5_readToken_1 rfl ?_
  refine q_getI fl_X5_25 hW kc_3 rfl dX5_readToken_2 ?_
  rw [h4]
  refine q_putI fl_X5_56 hW kc_3 rfl rfl dX5_readToken_5 ?_
  refine loopN (P := fun j => p + j ≤ n → tS b n p = rnB b n 4 (n - j) (p + j) → PW l9 G mX5_readToken (mO mX5_readToken) (fiM G mX5_readToken NT (fun v h' => v = none ∧ eqx h h' S3 ∧ TkS h' b n p ∧ ∀ k, k ≠ 2 → k ≠ 3 → k ≠ 4 → k ≠ 5 → aI h' 3 k = aI h 3 k) noX) NT 8 [some (.ref 3)] [] (0, 0) (sI h 3 3 (nI (p + j)))) n (fun j ih hj hf => ?_) 0 hp rfl
  have hr3 : RdH (sI h 3 3 (nI (p + j))) b n := hr.s (by decide)
  have hW3 : World (sI h 3 3 (nI (p + j))) := wsI hW
  refine r_aload_n dX5_readToken_8 rfl ?_
  refine q_getI fl_X5_56 hW3 kc_3 rfl dX5_readToken_9 ?_
  rw [sI_s]
  refine r_aload_n dX5_readToken_12 rfl ?_
  refine q_getI fl_X5_21 hW3 kc_3 rfl dX5_readToken_13 ?_
  rw [show aI (sI h 3 3 (nI (p + j))) 3 1 = nI n from hr3.2.2.1]
  refine r_icmp_ge 44 dX5_readToken_16 (by decide) (fun c_16 => ?_) (fun c_16 => ?_)
  · have hS : tS b n p = p + j := by
      refine hf.trans (rnB_no ?_)
      first
        | exact fun q => c_28 (by rw [q]; rfl)
        | (have hge := (nI_leI (a := n) (b := p + j) (by omega) (by omega)).mp c_16
           rw [kdB_out hge]; decide)
    rw [← hS]
    exact tail
  · refine r_aload_n dX5_readToken_19 rfl ?_
    refine r_aload_n dX5_readToken_20 rfl ?_
    refine q_getI fl_X5_56 hW3 kc_3 rfl dX5_readToken_21 ?_
    rw [sI_s]
    have hlt : p + j < n := (nI_ltI (by omega) (by omega)).mp (i_lt.mp c_16)
    refine q_callV1 (cv_X5_kindAt ml_X5_222) hW3 kc_3 (by decide) rfl ⟨rfl, rfl⟩ rfl (Nat.le_of_ble_eq_true rfl) dX5_readToken_24 (c_X5_kindAt hW3 hr3 (i := p + j) (by omega)) (fun v_24 h_24 q_24 => ?_)
    obtain ⟨rfl, z9⟩ := q_24
    replace z9 := z9.symm
    subst z9
    refine r_iconst (4) dX5_readToken_27 (by decide) ?_
    have hk6 := kdB_lt (b := b) (n := n) (i := p + j)
    refine r_icmp_ne 44 dX5_readToken_28 (by decide) (fun c_28 => ?_) (fun c_28 => ?_)
    · have hS : tS b n p = p + j := by
        refine hf.trans (rnB_no ?_)
        first
          | exact fun q => c_28 (by rw [q]; rfl)
          | (have hge := (nI_leI (a := n) (b := p + j) (by omega) (by omega)).mp c_16
             rw [kdB_out hge]; decide)
      rw [← hS]
      exact tail
    · refine r_aload_n dX5_readToken_31 rfl ?_
      refine r_dup dX5_readToken_32 rfl ?_
      refine q_getI fl_X5_56 hW3 kc_3 rfl dX5_readToken_33 ?_
      rw [sI_s]
      refine r_iconst (1) dX5_readToken_36 (by decide) ?_
      refine r_iadd dX5_readToken_37 ?_
      refine q_putI fl_X5_56 hW3 kc_3 rfl rfl dX5_readToken_38 ?_
      refine r_goto 8 dX5_readToken_41 (by decide) ?_
      have hk : kdB b n (p + j) = 4 := (nI_eqI (by omega) (by decide)).mp c_28
      rw [nI_1, sI_2]
      exact ih (by omega) (by omega) (hf.trans (rnB_go (by decide) hk (by omega)))
