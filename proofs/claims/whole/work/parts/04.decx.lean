theorem dX0_init_0 : decode cX0_init 0 = .ok (.aload_n 0, 1) := by decide +kernel
theorem dX0_init_1 : decode cX0_init 1 = .ok (.invokespecial 3, 3) := by decide +kernel
theorem dX0_init_4 : decode cX0_init 4 = .ok (.aload_n 0, 1) := by decide +kernel
theorem dX0_init_5 : decode cX0_init 5 = .ok (.bipush 60, 2) := by decide +kernel
theorem dX0_init_7 : decode cX0_init 7 = .ok (.newarray .int, 2) := by decide +kernel
theorem dX0_init_9 : decode cX0_init 9 = .ok (.putfield 9, 3) := by decide +kernel
theorem dX0_init_12 : decode cX0_init 12 = .ok (.aload_n 0, 1) := by decide +kernel
theorem dX0_init_13 : decode cX0_init 13 = .ok (.bipush 60, 2) := by decide +kernel
theorem dX0_init_15 : decode cX0_init 15 = .ok (.newarray .int, 2) := by decide +kernel
theorem dX0_init_17 : decode cX0_init 17 = .ok (.putfield 15, 3) := by decide +kernel
theorem dX0_init_20 : decode cX0_init 20 = .ok (.aload_n 0, 1) := by decide +kernel
theorem dX0_init_21 : decode cX0_init 21 = .ok (.bipush 60, 2) := by decide +kernel
theorem dX0_init_23 : decode cX0_init 23 = .ok (.newarray .int, 2) := by decide +kernel
theorem dX0_init_25 : decode cX0_init 25 = .ok (.putfield 18, 3) := by decide +kernel
theorem dX0_init_28 : decode cX0_init 28 = .ok (.aload_n 0, 1) := by decide +kernel
theorem dX0_init_29 : decode cX0_init 29 = .ok (.bipush 60, 2) := by decide +kernel
theorem dX0_init_31 : decode cX0_init 31 = .ok (.newarray .int, 2) := by decide +kernel
theorem dX0_init_33 : decode cX0_init 33 = .ok (.putfield 21, 3) := by decide +kernel
theorem dX0_init_36 : decode cX0_init 36 = .ok (.return_, 1) := by decide +kernel
theorem dX0_copyFrom_0 : decode cX0_copyFrom 0 = .ok (.aload_n 1, 1) := by decide +kernel
theorem dX0_copyFrom_1 : decode cX0_copyFrom 1 = .ok (.getfield 9, 3) := by decide +kernel
theorem dX0_copyFrom_4 : decode cX0_copyFrom 4 = .ok (.iconst 0, 1) := by decide +kernel
theorem dX0_copyFrom_5 : decode cX0_copyFrom 5 = .ok (.aload_n 0, 1) := by decide +kernel
theorem dX0_copyFrom_6 : decode cX0_copyFrom 6 = .ok (.getfield 9, 3) := by decide +kernel
theorem dX0_copyFrom_9 : decode cX0_copyFrom 9 = .ok (.iconst 0, 1) := by decide +kernel
theorem dX0_copyFrom_10 : decode cX0_copyFrom 10 = .ok (.bipush 60, 2) := by decide +kernel
theorem dX0_copyFrom_12 : decode cX0_copyFrom 12 = .ok (.invokestatic 24, 3) := by decide +kernel
theorem dX0_copyFrom_15 : decode cX0_copyFrom 15 = .ok (.aload_n 1, 1) := by decide +kernel
theorem dX0_copyFrom_16 : decode cX0_copyFrom 16 = .ok (.getfield 15, 3) := by decide +kernel
theorem dX0_copyFrom_19 : decode cX0_copyFrom 19 = .ok (.iconst 0, 1) := by decide +kernel
theorem dX0_copyFrom_20 : decode cX0_copyFrom 20 = .ok (.aload_n 0, 1) := by decide +kernel
theorem dX0_copyFrom_21 : decode cX0_copyFrom 21 = .ok (.getfield 15, 3) := by decide +kernel
theorem dX0_copyFrom_24 : decode cX0_copyFrom 24 = .ok (.iconst 0, 1) := by decide +kernel
theorem dX0_copyFrom_25 : decode cX0_copyFrom 25 = .ok (.bipush 60, 2) := by decide +kernel
theorem dX0_copyFrom_27 : decode cX0_copyFrom 27 = .ok (.invokestatic 24, 3) := by decide +kernel
theorem dX0_copyFrom_30 : decode cX0_copyFrom 30 = .ok (.aload_n 1, 1) := by decide +kernel
theorem dX0_copyFrom_31 : decode cX0_copyFrom 31 = .ok (.getfield 18, 3) := by decide +kernel
theorem dX0_copyFrom_34 : decode cX0_copyFrom 34 = .ok (.iconst 0, 1) := by decide +kernel
theorem dX0_copyFrom_35 : decode cX0_copyFrom 35 = .ok (.aload_n 0, 1) := by decide +kernel
theorem dX0_copyFrom_36 : decode cX0_copyFrom 36 = .ok (.getfield 18, 3) := by decide +kernel
theorem dX0_copyFrom_39 : decode cX0_copyFrom 39 = .ok (.iconst 0, 1) := by decide +kernel
theorem dX0_copyFrom_40 : decode cX0_copyFrom 40 = .ok (.bipush 60, 2) := by decide +kernel
theorem dX0_copyFrom_42 : decode cX0_copyFrom 42 = .ok (.invokestatic 24, 3) := by decide +kernel
theorem dX0_copyFrom_45 : decode cX0_copyFrom 45 = .ok (.aload_n 1, 1) := by decide +kernel
theorem dX0_copyFrom_46 : decode cX0_copyFrom 46 = .ok (.getfield 21, 3) := by decide +kernel
theorem dX0_copyFrom_49 : decode cX0_copyFrom 49 = .ok (.iconst 0, 1) := by decide +kernel
theorem dX0_copyFrom_50 : decode cX0_copyFrom 50 = .ok (.aload_n 0, 1) := by decide +kernel
theorem dX0_copyFrom_51 : decode cX0_copyFrom 51 = .ok (.getfield 21, 3) := by decide +kernel
theorem dX0_copyFrom_54 : decode cX0_copyFrom 54 = .ok (.iconst 0, 1) := by decide +kernel
theorem dX0_copyFrom_55 : decode cX0_copyFrom 55 = .ok (.bipush 60, 2) := by decide +kernel
theorem dX0_copyFrom_57 : decode cX0_copyFrom 57 = .ok (.invokestatic 24, 3) := by decide +kernel
theorem dX0_copyFrom_60 : decode cX0_copyFrom 60 = .ok (.aload_n 0, 1) := by decide +kernel
theorem dX0_copyFrom_61 : decode cX0_copyFrom 61 = .ok (.aload_n 1, 1) := by decide +kernel
theorem dX0_copyFrom_62 : decode cX0_copyFrom 62 = .ok (.getfield 30, 3) := by decide +kernel
theorem dX0_copyFrom_65 : decode cX0_copyFrom 65 = .ok (.putfield 30, 3) := by decide +kernel
theorem dX0_copyFrom_68 : decode cX0_copyFrom 68 = .ok (.return_, 1) := by decide +kernel
theorem dX0_add_0 : decode cX0_add 0 = .ok (.aload_n 0, 1) := by decide +kernel
theorem dX0_add_1 : decode cX0_add 1 = .ok (.getfield 30, 3) := by decide +kernel
theorem dX0_add_4 : decode cX0_add 4 = .ok (.bipush 60, 2) := by decide +kernel
theorem dX0_add_6 : decode cX0_add 6 = .ok (.invokestatic 34, 3) := by decide +kernel
theorem dX0_add_9 : decode cX0_add 9 = .ok (.istore 5, 2) := by decide +kernel
theorem dX0_add_11 : decode cX0_add 11 = .ok (.aload_n 0, 1) := by decide +kernel
theorem dX0_add_12 : decode cX0_add 12 = .ok (.getfield 9, 3) := by decide +kernel
theorem dX0_add_15 : decode cX0_add 15 = .ok (.iload 5, 2) := by decide +kernel
theorem dX0_add_17 : decode cX0_add 17 = .ok (.iload_n 1, 1) := by decide +kernel
theorem dX0_add_18 : decode cX0_add 18 = .ok (.iastore, 1) := by decide +kernel
theorem dX0_add_19 : decode cX0_add 19 = .ok (.aload_n 0, 1) := by decide +kernel
theorem dX0_add_20 : decode cX0_add 20 = .ok (.getfield 15, 3) := by decide +kernel
theorem dX0_add_23 : decode cX0_add 23 = .ok (.iload 5, 2) := by decide +kernel
theorem dX0_add_25 : decode cX0_add 25 = .ok (.iload_n 2, 1) := by decide +kernel
theorem dX0_add_26 : decode cX0_add 26 = .ok (.iastore, 1) := by decide +kernel
theorem dX0_add_27 : decode cX0_add 27 = .ok (.aload_n 0, 1) := by decide +kernel
theorem dX0_add_28 : decode cX0_add 28 = .ok (.getfield 18, 3) := by decide +kernel
theorem dX0_add_31 : decode cX0_add 31 = .ok (.iload 5, 2) := by decide +kernel
theorem dX0_add_33 : decode cX0_add 33 = .ok (.iload_n 3, 1) := by decide +kernel
theorem dX0_add_34 : decode cX0_add 34 = .ok (.iastore, 1) := by decide +kernel
theorem dX0_add_35 : decode cX0_add 35 = .ok (.aload_n 0, 1) := by decide +kernel
theorem dX0_add_36 : decode cX0_add 36 = .ok (.getfield 21, 3) := by decide +kernel
theorem dX0_add_39 : decode cX0_add 39 = .ok (.iload 5, 2) := by decide +kernel
theorem dX0_add_41 : decode cX0_add 41 = .ok (.iload 4, 2) := by decide +kernel
theorem dX0_add_43 : decode cX0_add 43 = .ok (.iastore, 1) := by decide +kernel
theorem dX0_add_44 : decode cX0_add 44 = .ok (.aload_n 0, 1) := by decide +kernel
theorem dX0_add_45 : decode cX0_add 45 = .ok (.dup, 1) := by decide +kernel
theorem dX0_add_46 : decode cX0_add 46 = .ok (.getfield 30, 3) := by decide +kernel
theorem dX0_add_49 : decode cX0_add 49 = .ok (.iconst 1, 1) := by decide +kernel
theorem dX0_add_50 : decode cX0_add 50 = .ok (.iadd, 1) := by decide +kernel
theorem dX0_add_51 : decode cX0_add 51 = .ok (.putfield 30, 3) := by decide +kernel
theorem dX0_add_54 : decode cX0_add 54 = .ok (.return_, 1) := by decide +kernel
theorem dX0_kept_0 : decode cX0_kept 0 = .ok (.bipush 60, 2) := by decide +kernel
theorem dX0_kept_2 : decode cX0_kept 2 = .ok (.aload_n 0, 1) := by decide +kernel
theorem dX0_kept_3 : decode cX0_kept 3 = .ok (.getfield 30, 3) := by decide +kernel
theorem dX0_kept_6 : decode cX0_kept 6 = .ok (.invokestatic 40, 3) := by decide +kernel
theorem dX0_kept_9 : decode cX0_kept 9 = .ok (.ireturn, 1) := by decide +kernel
theorem dX0_part_0 : decode cX0_part 0 = .ok (.aload_n 0, 1) := by decide +kernel
theorem dX0_part_1 : decode cX0_part 1 = .ok (.getfield 30, 3) := by decide +kernel
theorem dX0_part_4 : decode cX0_part 4 = .ok (.iconst 1, 1) := by decide +kernel
theorem dX0_part_5 : decode cX0_part 5 = .ok (.isub, 1) := by decide +kernel
theorem dX0_part_6 : decode cX0_part 6 = .ok (.iload_n 1, 1) := by decide +kernel
theorem dX0_part_7 : decode cX0_part 7 = .ok (.isub, 1) := by decide +kernel
theorem dX0_part_8 : decode cX0_part 8 = .ok (.bipush 60, 2) := by decide +kernel
theorem dX0_part_10 : decode cX0_part 10 = .ok (.invokestatic 34, 3) := by decide +kernel
theorem dX0_part_13 : decode cX0_part 13 = .ok (.istore_n 3, 1) := by decide +kernel
theorem dX0_part_14 : decode cX0_part 14 = .ok (.iload_n 2, 1) := by decide +kernel
theorem dX0_part_15 : decode cX0_part 15 = .ok (.tableswitch 46 0 2 #[25, 32, 39], 25) := by decide +kernel
theorem dX0_part_40 : decode cX0_part 40 = .ok (.aload_n 0, 1) := by decide +kernel
theorem dX0_part_41 : decode cX0_part 41 = .ok (.getfield 9, 3) := by decide +kernel
theorem dX0_part_44 : decode cX0_part 44 = .ok (.iload_n 3, 1) := by decide +kernel
theorem dX0_part_45 : decode cX0_part 45 = .ok (.iaload, 1) := by decide +kernel
theorem dX0_part_46 : decode cX0_part 46 = .ok (.ireturn, 1) := by decide +kernel
theorem dX0_part_47 : decode cX0_part 47 = .ok (.aload_n 0, 1) := by decide +kernel
theorem dX0_part_48 : decode cX0_part 48 = .ok (.getfield 15, 3) := by decide +kernel
theorem dX0_part_51 : decode cX0_part 51 = .ok (.iload_n 3, 1) := by decide +kernel
theorem dX0_part_52 : decode cX0_part 52 = .ok (.iaload, 1) := by decide +kernel
theorem dX0_part_53 : decode cX0_part 53 = .ok (.ireturn, 1) := by decide +kernel
theorem dX0_part_54 : decode cX0_part 54 = .ok (.aload_n 0, 1) := by decide +kernel
theorem dX0_part_55 : decode cX0_part 55 = .ok (.getfield 18, 3) := by decide +kernel
theorem dX0_part_58 : decode cX0_part 58 = .ok (.iload_n 3, 1) := by decide +kernel
theorem dX0_part_59 : decode cX0_part 59 = .ok (.iaload, 1) := by decide +kernel
theorem dX0_part_60 : decode cX0_part 60 = .ok (.ireturn, 1) := by decide +kernel
theorem dX0_part_61 : decode cX0_part 61 = .ok (.aload_n 0, 1) := by decide +kernel
theorem dX0_part_62 : decode cX0_part 62 = .ok (.getfield 21, 3) := by decide +kernel
theorem dX0_part_65 : decode cX0_part 65 = .ok (.iload_n 3, 1) := by decide +kernel
theorem dX0_part_66 : decode cX0_part 66 = .ok (.iaload, 1) := by decide +kernel
theorem dX0_part_67 : decode cX0_part 67 = .ok (.ireturn, 1) := by decide +kernel
theorem dX1_init_0 : decode cX1_init 0 = .ok (.aload_n 0, 1) := by decide +kernel
theorem dX1_init_1 : decode cX1_init 1 = .ok (.invokespecial 3, 3) := by decide +kernel
theorem dX1_init_4 : decode cX1_init 4 = .ok (.aload_n 0, 1) := by decide +kernel
theorem dX1_init_5 : decode cX1_init 5 = .ok (.bipush 20, 2) := by decide +kernel
theorem dX1_init_7 : decode cX1_init 7 = .ok (.newarray .int, 2) := by decide +kernel
theorem dX1_init_9 : decode cX1_init 9 = .ok (.putfield 9, 3) := by decide +kernel
theorem dX1_init_12 : decode cX1_init 12 = .ok (.aload_n 0, 1) := by decide +kernel
theorem dX1_init_13 : decode cX1_init 13 = .ok (.bipush 20, 2) := by decide +kernel
theorem dX1_init_15 : decode cX1_init 15 = .ok (.newarray .int, 2) := by decide +kernel
theorem dX1_init_17 : decode cX1_init 17 = .ok (.putfield 15, 3) := by decide +kernel
theorem dX1_init_20 : decode cX1_init 20 = .ok (.aload_n 0, 1) := by decide +kernel
theorem dX1_init_21 : decode cX1_init 21 = .ok (.bipush 20, 2) := by decide +kernel
theorem dX1_init_23 : decode cX1_init 23 = .ok (.newarray .int, 2) := by decide +kernel
theorem dX1_init_25 : decode cX1_init 25 = .ok (.putfield 18, 3) := by decide +kernel
theorem dX1_init_28 : decode cX1_init 28 = .ok (.aload_n 0, 1) := by decide +kernel
theorem dX1_init_29 : decode cX1_init 29 = .ok (.bipush 20, 2) := by decide +kernel
theorem dX1_init_31 : decode cX1_init 31 = .ok (.newarray .boolean, 2) := by decide +kernel
theorem dX1_init_33 : decode cX1_init 33 = .ok (.putfield 21, 3) := by decide +kernel
theorem dX1_init_36 : decode cX1_init 36 = .ok (.return_, 1) := by decide +kernel
theorem dX1_copyFrom_0 : decode cX1_copyFrom 0 = .ok (.aload_n 0, 1) := by decide +kernel
theorem dX1_copyFrom_1 : decode cX1_copyFrom 1 = .ok (.iconst 0, 1) := by decide +kernel
theorem dX1_copyFrom_2 : decode cX1_copyFrom 2 = .ok (.putfield 25, 3) := by decide +kernel
theorem dX1_copyFrom_5 : decode cX1_copyFrom 5 = .ok (.iconst 0, 1) := by decide +kernel
theorem dX1_copyFrom_6 : decode cX1_copyFrom 6 = .ok (.istore_n 2, 1) := by decide +kernel
theorem dX1_copyFrom_7 : decode cX1_copyFrom 7 = .ok (.iload_n 2, 1) := by decide +kernel
theorem dX1_copyFrom_8 : decode cX1_copyFrom 8 = .ok (.aload_n 1, 1) := by decide +kernel
theorem dX1_copyFrom_9 : decode cX1_copyFrom 9 = .ok (.getfield 25, 3) := by decide +kernel
theorem dX1_copyFrom_12 : decode cX1_copyFrom 12 = .ok (.if_icmp .ge 43, 3) := by decide +kernel
theorem dX1_copyFrom_15 : decode cX1_copyFrom 15 = .ok (.aload_n 0, 1) := by decide +kernel
theorem dX1_copyFrom_16 : decode cX1_copyFrom 16 = .ok (.aload_n 1, 1) := by decide +kernel
theorem dX1_copyFrom_17 : decode cX1_copyFrom 17 = .ok (.getfield 9, 3) := by decide +kernel
theorem dX1_copyFrom_20 : decode cX1_copyFrom 20 = .ok (.iload_n 2, 1) := by decide +kernel
theorem dX1_copyFrom_21 : decode cX1_copyFrom 21 = .ok (.iaload, 1) := by decide +kernel
theorem dX1_copyFrom_22 : decode cX1_copyFrom 22 = .ok (.aload_n 1, 1) := by decide +kernel
theorem dX1_copyFrom_23 : decode cX1_copyFrom 23 = .ok (.getfield 15, 3) := by decide +kernel
theorem dX1_copyFrom_26 : decode cX1_copyFrom 26 = .ok (.iload_n 2, 1) := by decide +kernel
theorem dX1_copyFrom_27 : decode cX1_copyFrom 27 = .ok (.iaload, 1) := by decide +kernel
theorem dX1_copyFrom_28 : decode cX1_copyFrom 28 = .ok (.aload_n 1, 1) := by decide +kernel
theorem dX1_copyFrom_29 : decode cX1_copyFrom 29 = .ok (.getfield 18, 3) := by decide +kernel
theorem dX1_copyFrom_32 : decode cX1_copyFrom 32 = .ok (.iload_n 2, 1) := by decide +kernel
theorem dX1_copyFrom_33 : decode cX1_copyFrom 33 = .ok (.iaload, 1) := by decide +kernel
theorem dX1_copyFrom_34 : decode cX1_copyFrom 34 = .ok (.invokevirtual 29, 3) := by decide +kernel
theorem dX1_copyFrom_37 : decode cX1_copyFrom 37 = .ok (.aload_n 0, 1) := by decide +kernel
theorem dX1_copyFrom_38 : decode cX1_copyFrom 38 = .ok (.getfield 21, 3) := by decide +kernel
theorem dX1_copyFrom_41 : decode cX1_copyFrom 41 = .ok (.iload_n 2, 1) := by decide +kernel
theorem dX1_copyFrom_42 : decode cX1_copyFrom 42 = .ok (.aload_n 1, 1) := by decide +kernel
theorem dX1_copyFrom_43 : decode cX1_copyFrom 43 = .ok (.getfield 21, 3) := by decide +kernel
theorem dX1_copyFrom_46 : decode cX1_copyFrom 46 = .ok (.iload_n 2, 1) := by decide +kernel
theorem dX1_copyFrom_47 : decode cX1_copyFrom 47 = .ok (.baload, 1) := by decide +kernel
theorem dX1_copyFrom_48 : decode cX1_copyFrom 48 = .ok (.bastore, 1) := by decide +kernel
theorem dX1_copyFrom_49 : decode cX1_copyFrom 49 = .ok (.iinc 2 1, 3) := by decide +kernel
theorem dX1_copyFrom_52 : decode cX1_copyFrom 52 = .ok (.goto (-45), 3) := by decide +kernel
theorem dX1_copyFrom_55 : decode cX1_copyFrom 55 = .ok (.return_, 1) := by decide +kernel
theorem dX1_add_0 : decode cX1_add 0 = .ok (.aload_n 0, 1) := by decide +kernel
theorem dX1_add_1 : decode cX1_add 1 = .ok (.getfield 25, 3) := by decide +kernel
theorem dX1_add_4 : decode cX1_add 4 = .ok (.bipush 20, 2) := by decide +kernel
theorem dX1_add_6 : decode cX1_add 6 = .ok (.if_icmp .ge 53, 3) := by decide +kernel
theorem dX1_add_9 : decode cX1_add 9 = .ok (.aload_n 0, 1) := by decide +kernel
theorem dX1_add_10 : decode cX1_add 10 = .ok (.getfield 9, 3) := by decide +kernel
theorem dX1_add_13 : decode cX1_add 13 = .ok (.aload_n 0, 1) := by decide +kernel
theorem dX1_add_14 : decode cX1_add 14 = .ok (.getfield 25, 3) := by decide +kernel
theorem dX1_add_17 : decode cX1_add 17 = .ok (.iload_n 1, 1) := by decide +kernel
theorem dX1_add_18 : decode cX1_add 18 = .ok (.iastore, 1) := by decide +kernel
theorem dX1_add_19 : decode cX1_add 19 = .ok (.aload_n 0, 1) := by decide +kernel
theorem dX1_add_20 : decode cX1_add 20 = .ok (.getfield 15, 3) := by decide +kernel
theorem dX1_add_23 : decode cX1_add 23 = .ok (.aload_n 0, 1) := by decide +kernel
theorem dX1_add_24 : decode cX1_add 24 = .ok (.getfield 25, 3) := by decide +kernel
theorem dX1_add_27 : decode cX1_add 27 = .ok (.iload_n 2, 1) := by decide +kernel
theorem dX1_add_28 : decode cX1_add 28 = .ok (.iastore, 1) := by decide +kernel
theorem dX1_add_29 : decode cX1_add 29 = .ok (.aload_n 0, 1) := by decide +kernel
theorem dX1_add_30 : decode cX1_add 30 = .ok (.getfield 18, 3) := by decide +kernel
theorem dX1_add_33 : decode cX1_add 33 = .ok (.aload_n 0, 1) := by decide +kernel
theorem dX1_add_34 : decode cX1_add 34 = .ok (.getfield 25, 3) := by decide +kernel
theorem dX1_add_37 : decode cX1_add 37 = .ok (.iload_n 3, 1) := by decide +kernel
theorem dX1_add_38 : decode cX1_add 38 = .ok (.iastore, 1) := by decide +kernel
theorem dX1_add_39 : decode cX1_add 39 = .ok (.aload_n 0, 1) := by decide +kernel
theorem dX1_add_40 : decode cX1_add 40 = .ok (.getfield 21, 3) := by decide +kernel
theorem dX1_add_43 : decode cX1_add 43 = .ok (.aload_n 0, 1) := by decide +kernel
theorem dX1_add_44 : decode cX1_add 44 = .ok (.getfield 25, 3) := by decide +kernel
theorem dX1_add_47 : decode cX1_add 47 = .ok (.iconst 0, 1) := by decide +kernel
theorem dX1_add_48 : decode cX1_add 48 = .ok (.bastore, 1) := by decide +kernel
theorem dX1_add_49 : decode cX1_add 49 = .ok (.aload_n 0, 1) := by decide +kernel
theorem dX1_add_50 : decode cX1_add 50 = .ok (.dup, 1) := by decide +kernel
theorem dX1_add_51 : decode cX1_add 51 = .ok (.getfield 25, 3) := by decide +kernel
theorem dX1_add_54 : decode cX1_add 54 = .ok (.iconst 1, 1) := by decide +kernel
theorem dX1_add_55 : decode cX1_add 55 = .ok (.iadd, 1) := by decide +kernel
theorem dX1_add_56 : decode cX1_add 56 = .ok (.putfield 25, 3) := by decide +kernel
theorem dX1_add_59 : decode cX1_add 59 = .ok (.return_, 1) := by decide +kernel
theorem dX1_has_0 : decode cX1_has 0 = .ok (.iload_n 1, 1) := by decide +kernel
theorem dX1_has_1 : decode cX1_has 1 = .ok (.ifCond .lt 15, 3) := by decide +kernel
theorem dX1_has_4 : decode cX1_has 4 = .ok (.iload_n 1, 1) := by decide +kernel
theorem dX1_has_5 : decode cX1_has 5 = .ok (.aload_n 0, 1) := by decide +kernel
theorem dX1_has_6 : decode cX1_has 6 = .ok (.getfield 25, 3) := by decide +kernel
theorem dX1_has_9 : decode cX1_has 9 = .ok (.if_icmp .ge 7, 3) := by decide +kernel
theorem dX1_has_12 : decode cX1_has 12 = .ok (.iconst 1, 1) := by decide +kernel
theorem dX1_has_13 : decode cX1_has 13 = .ok (.goto 4, 3) := by decide +kernel
theorem dX1_has_16 : decode cX1_has 16 = .ok (.iconst 0, 1) := by decide +kernel
theorem dX1_has_17 : decode cX1_has 17 = .ok (.ireturn, 1) := by decide +kernel
theorem dX1_removeAt_0 : decode cX1_removeAt 0 = .ok (.aload_n 0, 1) := by decide +kernel
theorem dX1_removeAt_1 : decode cX1_removeAt 1 = .ok (.iload_n 1, 1) := by decide +kernel
theorem dX1_removeAt_2 : decode cX1_removeAt 2 = .ok (.invokevirtual 33, 3) := by decide +kernel
theorem dX1_removeAt_5 : decode cX1_removeAt 5 = .ok (.ifCond .ne 4, 3) := by decide +kernel
theorem dX1_removeAt_8 : decode cX1_removeAt 8 = .ok (.return_, 1) := by decide +kernel
theorem dX1_removeAt_9 : decode cX1_removeAt 9 = .ok (.iload_n 1, 1) := by decide +kernel
theorem dX1_removeAt_10 : decode cX1_removeAt 10 = .ok (.iconst 1, 1) := by decide +kernel
theorem dX1_removeAt_11 : decode cX1_removeAt 11 = .ok (.iadd, 1) := by decide +kernel
theorem dX1_removeAt_12 : decode cX1_removeAt 12 = .ok (.istore_n 2, 1) := by decide +kernel
theorem dX1_removeAt_13 : decode cX1_removeAt 13 = .ok (.iload_n 2, 1) := by decide +kernel
theorem dX1_removeAt_14 : decode cX1_removeAt 14 = .ok (.aload_n 0, 1) := by decide +kernel
theorem dX1_removeAt_15 : decode cX1_removeAt 15 = .ok (.getfield 25, 3) := by decide +kernel
theorem dX1_removeAt_18 : decode cX1_removeAt 18 = .ok (.if_icmp .ge 65, 3) := by decide +kernel
theorem dX1_removeAt_21 : decode cX1_removeAt 21 = .ok (.aload_n 0, 1) := by decide +kernel
theorem dX1_removeAt_22 : decode cX1_removeAt 22 = .ok (.getfield 9, 3) := by decide +kernel
theorem dX1_removeAt_25 : decode cX1_removeAt 25 = .ok (.iload_n 2, 1) := by decide +kernel
theorem dX1_removeAt_26 : decode cX1_removeAt 26 = .ok (.iconst 1, 1) := by decide +kernel
theorem dX1_removeAt_27 : decode cX1_removeAt 27 = .ok (.isub, 1) := by decide +kernel
theorem dX1_removeAt_28 : decode cX1_removeAt 28 = .ok (.aload_n 0, 1) := by decide +kernel
theorem dX1_removeAt_29 : decode cX1_removeAt 29 = .ok (.getfield 9, 3) := by decide +kernel
theorem dX1_removeAt_32 : decode cX1_removeAt 32 = .ok (.iload_n 2, 1) := by decide +kernel
theorem dX1_removeAt_33 : decode cX1_removeAt 33 = .ok (.iaload, 1) := by decide +kernel
theorem dX1_removeAt_34 : decode cX1_removeAt 34 = .ok (.iastore, 1) := by decide +kernel
theorem dX1_removeAt_35 : decode cX1_removeAt 35 = .ok (.aload_n 0, 1) := by decide +kernel
theorem dX1_removeAt_36 : decode cX1_removeAt 36 = .ok (.getfield 15, 3) := by decide +kernel
theorem dX1_removeAt_39 : decode cX1_removeAt 39 = .ok (.iload_n 2, 1) := by decide +kernel
theorem dX1_removeAt_40 : decode cX1_removeAt 40 = .ok (.iconst 1, 1) := by decide +kernel
theorem dX1_removeAt_41 : decode cX1_removeAt 41 = .ok (.isub, 1) := by decide +kernel
theorem dX1_removeAt_42 : decode cX1_removeAt 42 = .ok (.aload_n 0, 1) := by decide +kernel
theorem dX1_removeAt_43 : decode cX1_removeAt 43 = .ok (.getfield 15, 3) := by decide +kernel
theorem dX1_removeAt_46 : decode cX1_removeAt 46 = .ok (.iload_n 2, 1) := by decide +kernel
theorem dX1_removeAt_47 : decode cX1_removeAt 47 = .ok (.iaload, 1) := by decide +kernel
theorem dX1_removeAt_48 : decode cX1_removeAt 48 = .ok (.iastore, 1) := by decide +kernel
theorem dX1_removeAt_49 : decode cX1_removeAt 49 = .ok (.aload_n 0, 1) := by decide +kernel
theorem dX1_removeAt_50 : decode cX1_removeAt 50 = .ok (.getfield 18, 3) := by decide +kernel
theorem dX1_removeAt_53 : decode cX1_removeAt 53 = .ok (.iload_n 2, 1) := by decide +kernel
theorem dX1_removeAt_54 : decode cX1_removeAt 54 = .ok (.iconst 1, 1) := by decide +kernel
theorem dX1_removeAt_55 : decode cX1_removeAt 55 = .ok (.isub, 1) := by decide +kernel
theorem dX1_removeAt_56 : decode cX1_removeAt 56 = .ok (.aload_n 0, 1) := by decide +kernel
theorem dX1_removeAt_57 : decode cX1_removeAt 57 = .ok (.getfield 18, 3) := by decide +kernel
theorem dX1_removeAt_60 : decode cX1_removeAt 60 = .ok (.iload_n 2, 1) := by decide +kernel
theorem dX1_removeAt_61 : decode cX1_removeAt 61 = .ok (.iaload, 1) := by decide +kernel
theorem dX1_removeAt_62 : decode cX1_removeAt 62 = .ok (.iastore, 1) := by decide +kernel
theorem dX1_removeAt_63 : decode cX1_removeAt 63 = .ok (.aload_n 0, 1) := by decide +kernel
theorem dX1_removeAt_64 : decode cX1_removeAt 64 = .ok (.getfield 21, 3) := by decide +kernel
theorem dX1_removeAt_67 : decode cX1_removeAt 67 = .ok (.iload_n 2, 1) := by decide +kernel
theorem dX1_removeAt_68 : decode cX1_removeAt 68 = .ok (.iconst 1, 1) := by decide +kernel
theorem dX1_removeAt_69 : decode cX1_removeAt 69 = .ok (.isub, 1) := by decide +kernel
theorem dX1_removeAt_70 : decode cX1_removeAt 70 = .ok (.aload_n 0, 1) := by decide +kernel
theorem dX1_removeAt_71 : decode cX1_removeAt 71 = .ok (.getfield 21, 3) := by decide +kernel
theorem dX1_removeAt_74 : decode cX1_removeAt 74 = .ok (.iload_n 2, 1) := by decide +kernel
theorem dX1_removeAt_75 : decode cX1_removeAt 75 = .ok (.baload, 1) := by decide +kernel
theorem dX1_removeAt_76 : decode cX1_removeAt 76 = .ok (.bastore, 1) := by decide +kernel
theorem dX1_removeAt_77 : decode cX1_removeAt 77 = .ok (.iinc 2 1, 3) := by decide +kernel
theorem dX1_removeAt_80 : decode cX1_removeAt 80 = .ok (.goto (-67), 3) := by decide +kernel
theorem dX1_removeAt_83 : decode cX1_removeAt 83 = .ok (.aload_n 0, 1) := by decide +kernel
theorem dX1_removeAt_84 : decode cX1_removeAt 84 = .ok (.dup, 1) := by decide +kernel
theorem dX1_removeAt_85 : decode cX1_removeAt 85 = .ok (.getfield 25, 3) := by decide +kernel
theorem dX1_removeAt_88 : decode cX1_removeAt 88 = .ok (.iconst 1, 1) := by decide +kernel
theorem dX1_removeAt_89 : decode cX1_removeAt 89 = .ok (.isub, 1) := by decide +kernel
theorem dX1_removeAt_90 : decode cX1_removeAt 90 = .ok (.putfield 25, 3) := by decide +kernel
theorem dX1_removeAt_93 : decode cX1_removeAt 93 = .ok (.return_, 1) := by decide +kernel
theorem dX1_placeOf_0 : decode cX1_placeOf 0 = .ok (.iconst 0, 1) := by decide +kernel
theorem dX1_placeOf_1 : decode cX1_placeOf 1 = .ok (.istore_n 2, 1) := by decide +kernel
theorem dX1_placeOf_2 : decode cX1_placeOf 2 = .ok (.iload_n 2, 1) := by decide +kernel
theorem dX1_placeOf_3 : decode cX1_placeOf 3 = .ok (.aload_n 0, 1) := by decide +kernel
theorem dX1_placeOf_4 : decode cX1_placeOf 4 = .ok (.getfield 25, 3) := by decide +kernel
theorem dX1_placeOf_7 : decode cX1_placeOf 7 = .ok (.if_icmp .ge 21, 3) := by decide +kernel
theorem dX1_placeOf_10 : decode cX1_placeOf 10 = .ok (.aload_n 0, 1) := by decide +kernel
theorem dX1_placeOf_11 : decode cX1_placeOf 11 = .ok (.getfield 9, 3) := by decide +kernel
theorem dX1_placeOf_14 : decode cX1_placeOf 14 = .ok (.iload_n 2, 1) := by decide +kernel
theorem dX1_placeOf_15 : decode cX1_placeOf 15 = .ok (.iaload, 1) := by decide +kernel
theorem dX1_placeOf_16 : decode cX1_placeOf 16 = .ok (.iload_n 1, 1) := by decide +kernel
theorem dX1_placeOf_17 : decode cX1_placeOf 17 = .ok (.if_icmp .ne 5, 3) := by decide +kernel
theorem dX1_placeOf_20 : decode cX1_placeOf 20 = .ok (.iload_n 2, 1) := by decide +kernel
theorem dX1_placeOf_21 : decode cX1_placeOf 21 = .ok (.ireturn, 1) := by decide +kernel
theorem dX1_placeOf_22 : decode cX1_placeOf 22 = .ok (.iinc 2 1, 3) := by decide +kernel
theorem dX1_placeOf_25 : decode cX1_placeOf 25 = .ok (.goto (-23), 3) := by decide +kernel
theorem dX1_placeOf_28 : decode cX1_placeOf 28 = .ok (.iconst (-1), 1) := by decide +kernel
theorem dX1_placeOf_29 : decode cX1_placeOf 29 = .ok (.ireturn, 1) := by decide +kernel
theorem dX1_isReady_0 : decode cX1_isReady 0 = .ok (.aload_n 0, 1) := by decide +kernel
theorem dX1_isReady_1 : decode cX1_isReady 1 = .ok (.getfield 18, 3) := by decide +kernel
theorem dX1_isReady_4 : decode cX1_isReady 4 = .ok (.iload_n 1, 1) := by decide +kernel
theorem dX1_isReady_5 : decode cX1_isReady 5 = .ok (.iaload, 1) := by decide +kernel
theorem dX1_isReady_6 : decode cX1_isReady 6 = .ok (.iload_n 2, 1) := by decide +kernel
theorem dX1_isReady_7 : decode cX1_isReady 7 = .ok (.if_icmp .gt 7, 3) := by decide +kernel
theorem dX1_isReady_10 : decode cX1_isReady 10 = .ok (.iconst 1, 1) := by decide +kernel
theorem dX1_isReady_11 : decode cX1_isReady 11 = .ok (.goto 4, 3) := by decide +kernel
theorem dX1_isReady_14 : decode cX1_isReady 14 = .ok (.iconst 0, 1) := by decide +kernel
theorem dX1_isReady_15 : decode cX1_isReady 15 = .ok (.ireturn, 1) := by decide +kernel
theorem dX1_countReady_0 : decode cX1_countReady 0 = .ok (.iconst 0, 1) := by decide +kernel
theorem dX1_countReady_1 : decode cX1_countReady 1 = .ok (.istore_n 2, 1) := by decide +kernel
theorem dX1_countReady_2 : decode cX1_countReady 2 = .ok (.iconst 0, 1) := by decide +kernel
theorem dX1_countReady_3 : decode cX1_countReady 3 = .ok (.istore_n 3, 1) := by decide +kernel
theorem dX1_countReady_4 : decode cX1_countReady 4 = .ok (.iload_n 3, 1) := by decide +kernel
theorem dX1_countReady_5 : decode cX1_countReady 5 = .ok (.aload_n 0, 1) := by decide +kernel
theorem dX1_countReady_6 : decode cX1_countReady 6 = .ok (.getfield 25, 3) := by decide +kernel
theorem dX1_countReady_9 : decode cX1_countReady 9 = .ok (.if_icmp .ge 21, 3) := by decide +kernel
theorem dX1_countReady_12 : decode cX1_countReady 12 = .ok (.aload_n 0, 1) := by decide +kernel
theorem dX1_countReady_13 : decode cX1_countReady 13 = .ok (.iload_n 3, 1) := by decide +kernel
theorem dX1_countReady_14 : decode cX1_countReady 14 = .ok (.iload_n 1, 1) := by decide +kernel
theorem dX1_countReady_15 : decode cX1_countReady 15 = .ok (.invokevirtual 37, 3) := by decide +kernel
theorem dX1_countReady_18 : decode cX1_countReady 18 = .ok (.ifCond .eq 6, 3) := by decide +kernel
theorem dX1_countReady_21 : decode cX1_countReady 21 = .ok (.iinc 2 1, 3) := by decide +kernel
theorem dX1_countReady_24 : decode cX1_countReady 24 = .ok (.iinc 3 1, 3) := by decide +kernel
theorem dX1_countReady_27 : decode cX1_countReady 27 = .ok (.goto (-23), 3) := by decide +kernel
theorem dX1_countReady_30 : decode cX1_countReady 30 = .ok (.iload_n 2, 1) := by decide +kernel
theorem dX1_countReady_31 : decode cX1_countReady 31 = .ok (.ireturn, 1) := by decide +kernel
theorem dX1_countProtected_0 : decode cX1_countProtected 0 = .ok (.iconst 0, 1) := by decide +kernel
theorem dX1_countProtected_1 : decode cX1_countProtected 1 = .ok (.istore_n 1, 1) := by decide +kernel
theorem dX1_countProtected_2 : decode cX1_countProtected 2 = .ok (.iconst 0, 1) := by decide +kernel
theorem dX1_countProtected_3 : decode cX1_countProtected 3 = .ok (.istore_n 2, 1) := by decide +kernel
theorem dX1_countProtected_4 : decode cX1_countProtected 4 = .ok (.iload_n 2, 1) := by decide +kernel
theorem dX1_countProtected_5 : decode cX1_countProtected 5 = .ok (.aload_n 0, 1) := by decide +kernel
theorem dX1_countProtected_6 : decode cX1_countProtected 6 = .ok (.getfield 25, 3) := by decide +kernel
theorem dX1_countProtected_9 : decode cX1_countProtected 9 = .ok (.if_icmp .ge 21, 3) := by decide +kernel
theorem dX1_countProtected_12 : decode cX1_countProtected 12 = .ok (.aload_n 0, 1) := by decide +kernel
theorem dX1_countProtected_13 : decode cX1_countProtected 13 = .ok (.getfield 21, 3) := by decide +kernel
theorem dX1_countProtected_16 : decode cX1_countProtected 16 = .ok (.iload_n 2, 1) := by decide +kernel
theorem dX1_countProtected_17 : decode cX1_countProtected 17 = .ok (.baload, 1) := by decide +kernel
theorem dX1_countProtected_18 : decode cX1_countProtected 18 = .ok (.ifCond .eq 6, 3) := by decide +kernel
theorem dX1_countProtected_21 : decode cX1_countProtected 21 = .ok (.iinc 1 1, 3) := by decide +kernel
theorem dX1_countProtected_24 : decode cX1_countProtected 24 = .ok (.iinc 2 1, 3) := by decide +kernel
theorem dX1_countProtected_27 : decode cX1_countProtected 27 = .ok (.goto (-23), 3) := by decide +kernel
theorem dX1_countProtected_30 : decode cX1_countProtected 30 = .ok (.iload_n 1, 1) := by decide +kernel
theorem dX1_countProtected_31 : decode cX1_countProtected 31 = .ok (.ireturn, 1) := by decide +kernel
theorem dX1_sumOfAges_0 : decode cX1_sumOfAges 0 = .ok (.lconst 0, 1) := by decide +kernel
theorem dX1_sumOfAges_1 : decode cX1_sumOfAges 1 = .ok (.lstore_n 2, 1) := by decide +kernel
theorem dX1_sumOfAges_2 : decode cX1_sumOfAges 2 = .ok (.iconst 0, 1) := by decide +kernel
theorem dX1_sumOfAges_3 : decode cX1_sumOfAges 3 = .ok (.istore 4, 2) := by decide +kernel
theorem dX1_sumOfAges_5 : decode cX1_sumOfAges 5 = .ok (.iload 4, 2) := by decide +kernel
theorem dX1_sumOfAges_7 : decode cX1_sumOfAges 7 = .ok (.aload_n 0, 1) := by decide +kernel
theorem dX1_sumOfAges_8 : decode cX1_sumOfAges 8 = .ok (.getfield 25, 3) := by decide +kernel
theorem dX1_sumOfAges_11 : decode cX1_sumOfAges 11 = .ok (.if_icmp .ge 22, 3) := by decide +kernel
theorem dX1_sumOfAges_14 : decode cX1_sumOfAges 14 = .ok (.lload_n 2, 1) := by decide +kernel
theorem dX1_sumOfAges_15 : decode cX1_sumOfAges 15 = .ok (.iload_n 1, 1) := by decide +kernel
theorem dX1_sumOfAges_16 : decode cX1_sumOfAges 16 = .ok (.aload_n 0, 1) := by decide +kernel
theorem dX1_sumOfAges_17 : decode cX1_sumOfAges 17 = .ok (.getfield 15, 3) := by decide +kernel
theorem dX1_sumOfAges_20 : decode cX1_sumOfAges 20 = .ok (.iload 4, 2) := by decide +kernel
theorem dX1_sumOfAges_22 : decode cX1_sumOfAges 22 = .ok (.iaload, 1) := by decide +kernel
theorem dX1_sumOfAges_23 : decode cX1_sumOfAges 23 = .ok (.isub, 1) := by decide +kernel
theorem dX1_sumOfAges_24 : decode cX1_sumOfAges 24 = .ok (.i2l, 1) := by decide +kernel
theorem dX1_sumOfAges_25 : decode cX1_sumOfAges 25 = .ok (.ladd, 1) := by decide +kernel
theorem dX1_sumOfAges_26 : decode cX1_sumOfAges 26 = .ok (.lstore_n 2, 1) := by decide +kernel
theorem dX1_sumOfAges_27 : decode cX1_sumOfAges 27 = .ok (.iinc 4 1, 3) := by decide +kernel
theorem dX1_sumOfAges_30 : decode cX1_sumOfAges 30 = .ok (.goto (-25), 3) := by decide +kernel
theorem dX1_sumOfAges_33 : decode cX1_sumOfAges 33 = .ok (.lload_n 2, 1) := by decide +kernel
theorem dX1_sumOfAges_34 : decode cX1_sumOfAges 34 = .ok (.lreturn, 1) := by decide +kernel
theorem dX1_nextToGo_0 : decode cX1_nextToGo 0 = .ok (.iconst (-1), 1) := by decide +kernel
theorem dX1_nextToGo_1 : decode cX1_nextToGo 1 = .ok (.istore_n 2, 1) := by decide +kernel
theorem dX1_nextToGo_2 : decode cX1_nextToGo 2 = .ok (.iconst 0, 1) := by decide +kernel
theorem dX1_nextToGo_3 : decode cX1_nextToGo 3 = .ok (.istore_n 3, 1) := by decide +kernel
theorem dX1_nextToGo_4 : decode cX1_nextToGo 4 = .ok (.iload_n 3, 1) := by decide +kernel
theorem dX1_nextToGo_5 : decode cX1_nextToGo 5 = .ok (.aload_n 0, 1) := by decide +kernel
theorem dX1_nextToGo_6 : decode cX1_nextToGo 6 = .ok (.getfield 25, 3) := by decide +kernel
theorem dX1_nextToGo_9 : decode cX1_nextToGo 9 = .ok (.if_icmp .ge 35, 3) := by decide +kernel
theorem dX1_nextToGo_12 : decode cX1_nextToGo 12 = .ok (.aload_n 0, 1) := by decide +kernel
theorem dX1_nextToGo_13 : decode cX1_nextToGo 13 = .ok (.getfield 21, 3) := by decide +kernel
theorem dX1_nextToGo_16 : decode cX1_nextToGo 16 = .ok (.iload_n 3, 1) := by decide +kernel
theorem dX1_nextToGo_17 : decode cX1_nextToGo 17 = .ok (.baload, 1) := by decide +kernel
theorem dX1_nextToGo_18 : decode cX1_nextToGo 18 = .ok (.ifCond .ne 20, 3) := by decide +kernel
theorem dX1_nextToGo_21 : decode cX1_nextToGo 21 = .ok (.iload_n 2, 1) := by decide +kernel
theorem dX1_nextToGo_22 : decode cX1_nextToGo 22 = .ok (.iconst (-1), 1) := by decide +kernel
theorem dX1_nextToGo_23 : decode cX1_nextToGo 23 = .ok (.if_icmp .eq 13, 3) := by decide +kernel
theorem dX1_nextToGo_26 : decode cX1_nextToGo 26 = .ok (.aload_n 0, 1) := by decide +kernel
theorem dX1_nextToGo_27 : decode cX1_nextToGo 27 = .ok (.iload_n 3, 1) := by decide +kernel
theorem dX1_nextToGo_28 : decode cX1_nextToGo 28 = .ok (.iload_n 2, 1) := by decide +kernel
theorem dX1_nextToGo_29 : decode cX1_nextToGo 29 = .ok (.iload_n 1, 1) := by decide +kernel
theorem dX1_nextToGo_30 : decode cX1_nextToGo 30 = .ok (.invokevirtual 41, 3) := by decide +kernel
theorem dX1_nextToGo_33 : decode cX1_nextToGo 33 = .ok (.ifCond .eq 5, 3) := by decide +kernel
theorem dX1_nextToGo_36 : decode cX1_nextToGo 36 = .ok (.iload_n 3, 1) := by decide +kernel
theorem dX1_nextToGo_37 : decode cX1_nextToGo 37 = .ok (.istore_n 2, 1) := by decide +kernel
theorem dX1_nextToGo_38 : decode cX1_nextToGo 38 = .ok (.iinc 3 1, 3) := by decide +kernel
theorem dX1_nextToGo_41 : decode cX1_nextToGo 41 = .ok (.goto (-37), 3) := by decide +kernel
theorem dX1_nextToGo_44 : decode cX1_nextToGo 44 = .ok (.iload_n 2, 1) := by decide +kernel
theorem dX1_nextToGo_45 : decode cX1_nextToGo 45 = .ok (.ireturn, 1) := by decide +kernel
theorem dX1_goesBefore_0 : decode cX1_goesBefore 0 = .ok (.iload_n 3, 1) := by decide +kernel
theorem dX1_goesBefore_1 : decode cX1_goesBefore 1 = .ok (.iconst 2, 1) := by decide +kernel
theorem dX1_goesBefore_2 : decode cX1_goesBefore 2 = .ok (.if_icmp .ne 24, 3) := by decide +kernel
theorem dX1_goesBefore_5 : decode cX1_goesBefore 5 = .ok (.aload_n 0, 1) := by decide +kernel
theorem dX1_goesBefore_6 : decode cX1_goesBefore 6 = .ok (.getfield 18, 3) := by decide +kernel
theorem dX1_goesBefore_9 : decode cX1_goesBefore 9 = .ok (.iload_n 1, 1) := by decide +kernel
theorem dX1_goesBefore_10 : decode cX1_goesBefore 10 = .ok (.iaload, 1) := by decide +kernel
theorem dX1_goesBefore_11 : decode cX1_goesBefore 11 = .ok (.aload_n 0, 1) := by decide +kernel
theorem dX1_goesBefore_12 : decode cX1_goesBefore 12 = .ok (.getfield 18, 3) := by decide +kernel
theorem dX1_goesBefore_15 : decode cX1_goesBefore 15 = .ok (.iload_n 2, 1) := by decide +kernel
theorem dX1_goesBefore_16 : decode cX1_goesBefore 16 = .ok (.iaload, 1) := by decide +kernel
theorem dX1_goesBefore_17 : decode cX1_goesBefore 17 = .ok (.if_icmp .lt 7, 3) := by decide +kernel
theorem dX1_goesBefore_20 : decode cX1_goesBefore 20 = .ok (.iconst 1, 1) := by decide +kernel
theorem dX1_goesBefore_21 : decode cX1_goesBefore 21 = .ok (.goto 4, 3) := by decide +kernel
theorem dX1_goesBefore_24 : decode cX1_goesBefore 24 = .ok (.iconst 0, 1) := by decide +kernel
theorem dX1_goesBefore_25 : decode cX1_goesBefore 25 = .ok (.ireturn, 1) := by decide +kernel
theorem dX1_goesBefore_26 : decode cX1_goesBefore 26 = .ok (.iload_n 3, 1) := by decide +kernel
theorem dX1_goesBefore_27 : decode cX1_goesBefore 27 = .ok (.ifCond .ne 7, 3) := by decide +kernel
theorem dX1_goesBefore_30 : decode cX1_goesBefore 30 = .ok (.iconst 1, 1) := by decide +kernel
theorem dX1_goesBefore_31 : decode cX1_goesBefore 31 = .ok (.goto 4, 3) := by decide +kernel
theorem dX1_goesBefore_34 : decode cX1_goesBefore 34 = .ok (.iconst 0, 1) := by decide +kernel
theorem dX1_goesBefore_35 : decode cX1_goesBefore 35 = .ok (.ireturn, 1) := by decide +kernel
theorem dX2_init_0 : decode cX2_init 0 = .ok (.aload_n 0, 1) := by decide +kernel
theorem dX2_init_1 : decode cX2_init 1 = .ok (.invokespecial 3, 3) := by decide +kernel
theorem dX2_init_4 : decode cX2_init 4 = .ok (.aload_n 0, 1) := by decide +kernel
theorem dX2_init_5 : decode cX2_init 5 = .ok (.sipush 300, 3) := by decide +kernel
theorem dX2_init_8 : decode cX2_init 8 = .ok (.newarray .byte, 2) := by decide +kernel
theorem dX2_init_10 : decode cX2_init 10 = .ok (.putfield 9, 3) := by decide +kernel
theorem dX2_init_13 : decode cX2_init 13 = .ok (.return_, 1) := by decide +kernel
theorem dX2_addByte_0 : decode cX2_addByte 0 = .ok (.aload_n 0, 1) := by decide +kernel
theorem dX2_addByte_1 : decode cX2_addByte 1 = .ok (.getfield 15, 3) := by decide +kernel
theorem dX2_addByte_4 : decode cX2_addByte 4 = .ok (.sipush 300, 3) := by decide +kernel
theorem dX2_addByte_7 : decode cX2_addByte 7 = .ok (.if_icmp .ge 24, 3) := by decide +kernel
theorem dX2_addByte_10 : decode cX2_addByte 10 = .ok (.aload_n 0, 1) := by decide +kernel
theorem dX2_addByte_11 : decode cX2_addByte 11 = .ok (.getfield 9, 3) := by decide +kernel
theorem dX2_addByte_14 : decode cX2_addByte 14 = .ok (.aload_n 0, 1) := by decide +kernel
theorem dX2_addByte_15 : decode cX2_addByte 15 = .ok (.getfield 15, 3) := by decide +kernel
theorem dX2_addByte_18 : decode cX2_addByte 18 = .ok (.iload_n 1, 1) := by decide +kernel
theorem dX2_addByte_19 : decode cX2_addByte 19 = .ok (.i2b, 1) := by decide +kernel
theorem dX2_addByte_20 : decode cX2_addByte 20 = .ok (.bastore, 1) := by decide +kernel
theorem dX2_addByte_21 : decode cX2_addByte 21 = .ok (.aload_n 0, 1) := by decide +kernel
theorem dX2_addByte_22 : decode cX2_addByte 22 = .ok (.dup, 1) := by decide +kernel
theorem dX2_addByte_23 : decode cX2_addByte 23 = .ok (.getfield 15, 3) := by decide +kernel
theorem dX2_addByte_26 : decode cX2_addByte 26 = .ok (.iconst 1, 1) := by decide +kernel
theorem dX2_addByte_27 : decode cX2_addByte 27 = .ok (.iadd, 1) := by decide +kernel
theorem dX2_addByte_28 : decode cX2_addByte 28 = .ok (.putfield 15, 3) := by decide +kernel
theorem dX2_addByte_31 : decode cX2_addByte 31 = .ok (.return_, 1) := by decide +kernel
theorem dX2_addNumber_0 : decode cX2_addNumber 0 = .ok (.iconst 1, 1) := by decide +kernel
theorem dX2_addNumber_1 : decode cX2_addNumber 1 = .ok (.istore_n 2, 1) := by decide +kernel
theorem dX2_addNumber_2 : decode cX2_addNumber 2 = .ok (.iconst 1, 1) := by decide +kernel
theorem dX2_addNumber_3 : decode cX2_addNumber 3 = .ok (.istore_n 3, 1) := by decide +kernel
theorem dX2_addNumber_4 : decode cX2_addNumber 4 = .ok (.iload_n 3, 1) := by decide +kernel
theorem dX2_addNumber_5 : decode cX2_addNumber 5 = .ok (.bipush 10, 2) := by decide +kernel
theorem dX2_addNumber_7 : decode cX2_addNumber 7 = .ok (.if_icmp .ge 22, 3) := by decide +kernel
theorem dX2_addNumber_10 : decode cX2_addNumber 10 = .ok (.iload_n 1, 1) := by decide +kernel
theorem dX2_addNumber_11 : decode cX2_addNumber 11 = .ok (.iload_n 2, 1) := by decide +kernel
theorem dX2_addNumber_12 : decode cX2_addNumber 12 = .ok (.idiv, 1) := by decide +kernel
theorem dX2_addNumber_13 : decode cX2_addNumber 13 = .ok (.bipush 10, 2) := by decide +kernel
theorem dX2_addNumber_15 : decode cX2_addNumber 15 = .ok (.if_icmp .lt 14, 3) := by decide +kernel
theorem dX2_addNumber_18 : decode cX2_addNumber 18 = .ok (.iload_n 2, 1) := by decide +kernel
theorem dX2_addNumber_19 : decode cX2_addNumber 19 = .ok (.bipush 10, 2) := by decide +kernel
theorem dX2_addNumber_21 : decode cX2_addNumber 21 = .ok (.imul, 1) := by decide +kernel
theorem dX2_addNumber_22 : decode cX2_addNumber 22 = .ok (.istore_n 2, 1) := by decide +kernel
theorem dX2_addNumber_23 : decode cX2_addNumber 23 = .ok (.iinc 3 1, 3) := by decide +kernel
theorem dX2_addNumber_26 : decode cX2_addNumber 26 = .ok (.goto (-22), 3) := by decide +kernel
theorem dX2_addNumber_29 : decode cX2_addNumber 29 = .ok (.iload_n 2, 1) := by decide +kernel
theorem dX2_addNumber_30 : decode cX2_addNumber 30 = .ok (.ifCond .le 24, 3) := by decide +kernel
theorem dX2_addNumber_33 : decode cX2_addNumber 33 = .ok (.aload_n 0, 1) := by decide +kernel
theorem dX2_addNumber_34 : decode cX2_addNumber 34 = .ok (.bipush 48, 2) := by decide +kernel
theorem dX2_addNumber_36 : decode cX2_addNumber 36 = .ok (.iload_n 1, 1) := by decide +kernel
theorem dX2_addNumber_37 : decode cX2_addNumber 37 = .ok (.iload_n 2, 1) := by decide +kernel
theorem dX2_addNumber_38 : decode cX2_addNumber 38 = .ok (.idiv, 1) := by decide +kernel
theorem dX2_addNumber_39 : decode cX2_addNumber 39 = .ok (.bipush 10, 2) := by decide +kernel
theorem dX2_addNumber_41 : decode cX2_addNumber 41 = .ok (.irem, 1) := by decide +kernel
theorem dX2_addNumber_42 : decode cX2_addNumber 42 = .ok (.iadd, 1) := by decide +kernel
theorem dX2_addNumber_43 : decode cX2_addNumber 43 = .ok (.invokevirtual 19, 3) := by decide +kernel
theorem dX2_addNumber_46 : decode cX2_addNumber 46 = .ok (.iload_n 2, 1) := by decide +kernel
theorem dX2_addNumber_47 : decode cX2_addNumber 47 = .ok (.bipush 10, 2) := by decide +kernel
theorem dX2_addNumber_49 : decode cX2_addNumber 49 = .ok (.idiv, 1) := by decide +kernel
theorem dX2_addNumber_50 : decode cX2_addNumber 50 = .ok (.istore_n 2, 1) := by decide +kernel
theorem dX2_addNumber_51 : decode cX2_addNumber 51 = .ok (.goto (-22), 3) := by decide +kernel
theorem dX2_addNumber_54 : decode cX2_addNumber 54 = .ok (.return_, 1) := by decide +kernel
theorem dX3_init_0 : decode cX3_init 0 = .ok (.aload_n 0, 1) := by decide +kernel
theorem dX3_init_1 : decode cX3_init 1 = .ok (.invokespecial 3, 3) := by decide +kernel
theorem dX3_init_4 : decode cX3_init 4 = .ok (.aload_n 0, 1) := by decide +kernel
theorem dX3_init_5 : decode cX3_init 5 = .ok (.new 9, 3) := by decide +kernel
theorem dX3_init_8 : decode cX3_init 8 = .ok (.dup, 1) := by decide +kernel
theorem dX3_init_9 : decode cX3_init 9 = .ok (.invokespecial 11, 3) := by decide +kernel
theorem dX3_init_12 : decode cX3_init 12 = .ok (.putfield 12, 3) := by decide +kernel
theorem dX3_init_15 : decode cX3_init 15 = .ok (.aload_n 0, 1) := by decide +kernel
theorem dX3_init_16 : decode cX3_init 16 = .ok (.new 18, 3) := by decide +kernel
theorem dX3_init_19 : decode cX3_init 19 = .ok (.dup, 1) := by decide +kernel
theorem dX3_init_20 : decode cX3_init 20 = .ok (.invokespecial 20, 3) := by decide +kernel
theorem dX3_init_23 : decode cX3_init 23 = .ok (.putfield 21, 3) := by decide +kernel
theorem dX3_init_26 : decode cX3_init 26 = .ok (.aload_n 0, 1) := by decide +kernel
theorem dX3_init_27 : decode cX3_init 27 = .ok (.new 25, 3) := by decide +kernel
theorem dX3_init_30 : decode cX3_init 30 = .ok (.dup, 1) := by decide +kernel
theorem dX3_init_31 : decode cX3_init 31 = .ok (.invokespecial 27, 3) := by decide +kernel
theorem dX3_init_34 : decode cX3_init 34 = .ok (.putfield 28, 3) := by decide +kernel
theorem dX3_init_37 : decode cX3_init 37 = .ok (.aload_n 0, 1) := by decide +kernel
theorem dX3_init_38 : decode cX3_init 38 = .ok (.bipush 24, 2) := by decide +kernel
theorem dX3_init_40 : decode cX3_init 40 = .ok (.newarray .int, 2) := by decide +kernel
theorem dX3_init_42 : decode cX3_init 42 = .ok (.putfield 32, 3) := by decide +kernel
theorem dX3_init_45 : decode cX3_init 45 = .ok (.aload_n 0, 1) := by decide +kernel
theorem dX3_init_46 : decode cX3_init 46 = .ok (.bipush 8, 2) := by decide +kernel
theorem dX3_init_48 : decode cX3_init 48 = .ok (.newarray .int, 2) := by decide +kernel
theorem dX3_init_50 : decode cX3_init 50 = .ok (.putfield 36, 3) := by decide +kernel
theorem dX3_init_53 : decode cX3_init 53 = .ok (.return_, 1) := by decide +kernel
theorem dX3_begin_0 : decode cX3_begin 0 = .ok (.aload_n 0, 1) := by decide +kernel
theorem dX3_begin_1 : decode cX3_begin 1 = .ok (.getfield 12, 3) := by decide +kernel
theorem dX3_begin_4 : decode cX3_begin 4 = .ok (.iload_n 1, 1) := by decide +kernel
theorem dX3_begin_5 : decode cX3_begin 5 = .ok (.iload_n 2, 1) := by decide +kernel
theorem dX3_begin_6 : decode cX3_begin 6 = .ok (.iload_n 3, 1) := by decide +kernel
theorem dX3_begin_7 : decode cX3_begin 7 = .ok (.invokevirtual 39, 3) := by decide +kernel
theorem dX3_begin_10 : decode cX3_begin 10 = .ok (.aload_n 0, 1) := by decide +kernel
theorem dX3_begin_11 : decode cX3_begin 11 = .ok (.getfield 21, 3) := by decide +kernel
theorem dX3_begin_14 : decode cX3_begin 14 = .ok (.iconst 0, 1) := by decide +kernel
theorem dX3_begin_15 : decode cX3_begin 15 = .ok (.putfield 43, 3) := by decide +kernel
theorem dX3_begin_18 : decode cX3_begin 18 = .ok (.aload_n 0, 1) := by decide +kernel
theorem dX3_begin_19 : decode cX3_begin 19 = .ok (.getfield 28, 3) := by decide +kernel
theorem dX3_begin_22 : decode cX3_begin 22 = .ok (.invokevirtual 47, 3) := by decide +kernel
theorem dX3_begin_25 : decode cX3_begin 25 = .ok (.aload_n 0, 1) := by decide +kernel
theorem dX3_begin_26 : decode cX3_begin 26 = .ok (.iconst 0, 1) := by decide +kernel
theorem dX3_begin_27 : decode cX3_begin 27 = .ok (.putfield 49, 3) := by decide +kernel
theorem dX3_begin_30 : decode cX3_begin 30 = .ok (.aload_n 0, 1) := by decide +kernel
theorem dX3_begin_31 : decode cX3_begin 31 = .ok (.getfield 36, 3) := by decide +kernel
theorem dX3_begin_34 : decode cX3_begin 34 = .ok (.iconst (-1), 1) := by decide +kernel
theorem dX3_begin_35 : decode cX3_begin 35 = .ok (.invokestatic 52, 3) := by decide +kernel
theorem dX3_begin_38 : decode cX3_begin 38 = .ok (.aload_n 0, 1) := by decide +kernel
theorem dX3_begin_39 : decode cX3_begin 39 = .ok (.iconst 0, 1) := by decide +kernel
theorem dX3_begin_40 : decode cX3_begin 40 = .ok (.putfield 58, 3) := by decide +kernel
theorem dX3_begin_43 : decode cX3_begin 43 = .ok (.aload_n 0, 1) := by decide +kernel
theorem dX3_begin_44 : decode cX3_begin 44 = .ok (.iconst (-1), 1) := by decide +kernel
theorem dX3_begin_45 : decode cX3_begin 45 = .ok (.putfield 61, 3) := by decide +kernel
theorem dX3_begin_48 : decode cX3_begin 48 = .ok (.aload_n 0, 1) := by decide +kernel
theorem dX3_begin_49 : decode cX3_begin 49 = .ok (.iconst (-1), 1) := by decide +kernel
theorem dX3_begin_50 : decode cX3_begin 50 = .ok (.putfield 64, 3) := by decide +kernel
theorem dX3_begin_53 : decode cX3_begin 53 = .ok (.aload_n 0, 1) := by decide +kernel
theorem dX3_begin_54 : decode cX3_begin 54 = .ok (.iconst (-1), 1) := by decide +kernel
theorem dX3_begin_55 : decode cX3_begin 55 = .ok (.putfield 67, 3) := by decide +kernel
theorem dX3_begin_58 : decode cX3_begin 58 = .ok (.aload_n 0, 1) := by decide +kernel
theorem dX3_begin_59 : decode cX3_begin 59 = .ok (.sipush (-1000), 3) := by decide +kernel
theorem dX3_begin_62 : decode cX3_begin 62 = .ok (.putfield 70, 3) := by decide +kernel
theorem dX3_begin_65 : decode cX3_begin 65 = .ok (.aload_n 0, 1) := by decide +kernel
theorem dX3_begin_66 : decode cX3_begin 66 = .ok (.sipush (-1000), 3) := by decide +kernel
theorem dX3_begin_69 : decode cX3_begin 69 = .ok (.putfield 73, 3) := by decide +kernel
theorem dX3_begin_72 : decode cX3_begin 72 = .ok (.aload_n 0, 1) := by decide +kernel
theorem dX3_begin_73 : decode cX3_begin 73 = .ok (.iconst 0, 1) := by decide +kernel
theorem dX3_begin_74 : decode cX3_begin 74 = .ok (.putfield 76, 3) := by decide +kernel
theorem dX3_begin_77 : decode cX3_begin 77 = .ok (.return_, 1) := by decide +kernel
theorem dX3_copyFrom_0 : decode cX3_copyFrom 0 = .ok (.aload_n 0, 1) := by decide +kernel
theorem dX3_copyFrom_1 : decode cX3_copyFrom 1 = .ok (.getfield 12, 3) := by decide +kernel
theorem dX3_copyFrom_4 : decode cX3_copyFrom 4 = .ok (.aload_n 1, 1) := by decide +kernel
theorem dX3_copyFrom_5 : decode cX3_copyFrom 5 = .ok (.getfield 12, 3) := by decide +kernel
theorem dX3_copyFrom_8 : decode cX3_copyFrom 8 = .ok (.invokevirtual 80, 3) := by decide +kernel
theorem dX3_copyFrom_11 : decode cX3_copyFrom 11 = .ok (.aload_n 0, 1) := by decide +kernel
theorem dX3_copyFrom_12 : decode cX3_copyFrom 12 = .ok (.getfield 21, 3) := by decide +kernel
theorem dX3_copyFrom_15 : decode cX3_copyFrom 15 = .ok (.aload_n 1, 1) := by decide +kernel
theorem dX3_copyFrom_16 : decode cX3_copyFrom 16 = .ok (.getfield 21, 3) := by decide +kernel
theorem dX3_copyFrom_19 : decode cX3_copyFrom 19 = .ok (.invokevirtual 84, 3) := by decide +kernel
theorem dX3_copyFrom_22 : decode cX3_copyFrom 22 = .ok (.aload_n 0, 1) := by decide +kernel
theorem dX3_copyFrom_23 : decode cX3_copyFrom 23 = .ok (.getfield 28, 3) := by decide +kernel
theorem dX3_copyFrom_26 : decode cX3_copyFrom 26 = .ok (.aload_n 1, 1) := by decide +kernel
theorem dX3_copyFrom_27 : decode cX3_copyFrom 27 = .ok (.getfield 28, 3) := by decide +kernel
theorem dX3_copyFrom_30 : decode cX3_copyFrom 30 = .ok (.invokevirtual 87, 3) := by decide +kernel
theorem dX3_copyFrom_33 : decode cX3_copyFrom 33 = .ok (.aload_n 1, 1) := by decide +kernel
theorem dX3_copyFrom_34 : decode cX3_copyFrom 34 = .ok (.getfield 32, 3) := by decide +kernel
theorem dX3_copyFrom_37 : decode cX3_copyFrom 37 = .ok (.iconst 0, 1) := by decide +kernel
theorem dX3_copyFrom_38 : decode cX3_copyFrom 38 = .ok (.aload_n 0, 1) := by decide +kernel
theorem dX3_copyFrom_39 : decode cX3_copyFrom 39 = .ok (.getfield 32, 3) := by decide +kernel
theorem dX3_copyFrom_42 : decode cX3_copyFrom 42 = .ok (.iconst 0, 1) := by decide +kernel
theorem dX3_copyFrom_43 : decode cX3_copyFrom 43 = .ok (.bipush 24, 2) := by decide +kernel
theorem dX3_copyFrom_45 : decode cX3_copyFrom 45 = .ok (.invokestatic 90, 3) := by decide +kernel
theorem dX3_copyFrom_48 : decode cX3_copyFrom 48 = .ok (.aload_n 0, 1) := by decide +kernel
theorem dX3_copyFrom_49 : decode cX3_copyFrom 49 = .ok (.aload_n 1, 1) := by decide +kernel
theorem dX3_copyFrom_50 : decode cX3_copyFrom 50 = .ok (.getfield 49, 3) := by decide +kernel
theorem dX3_copyFrom_53 : decode cX3_copyFrom 53 = .ok (.putfield 49, 3) := by decide +kernel
theorem dX3_copyFrom_56 : decode cX3_copyFrom 56 = .ok (.aload_n 1, 1) := by decide +kernel
theorem dX3_copyFrom_57 : decode cX3_copyFrom 57 = .ok (.getfield 36, 3) := by decide +kernel
theorem dX3_copyFrom_60 : decode cX3_copyFrom 60 = .ok (.iconst 0, 1) := by decide +kernel
theorem dX3_copyFrom_61 : decode cX3_copyFrom 61 = .ok (.aload_n 0, 1) := by decide +kernel
theorem dX3_copyFrom_62 : decode cX3_copyFrom 62 = .ok (.getfield 36, 3) := by decide +kernel
theorem dX3_copyFrom_65 : decode cX3_copyFrom 65 = .ok (.iconst 0, 1) := by decide +kernel
theorem dX3_copyFrom_66 : decode cX3_copyFrom 66 = .ok (.bipush 8, 2) := by decide +kernel
theorem dX3_copyFrom_68 : decode cX3_copyFrom 68 = .ok (.invokestatic 90, 3) := by decide +kernel
theorem dX3_copyFrom_71 : decode cX3_copyFrom 71 = .ok (.aload_n 0, 1) := by decide +kernel
theorem dX3_copyFrom_72 : decode cX3_copyFrom 72 = .ok (.aload_n 1, 1) := by decide +kernel
theorem dX3_copyFrom_73 : decode cX3_copyFrom 73 = .ok (.getfield 58, 3) := by decide +kernel
theorem dX3_copyFrom_76 : decode cX3_copyFrom 76 = .ok (.putfield 58, 3) := by decide +kernel
theorem dX3_copyFrom_79 : decode cX3_copyFrom 79 = .ok (.aload_n 0, 1) := by decide +kernel
theorem dX3_copyFrom_80 : decode cX3_copyFrom 80 = .ok (.aload_n 1, 1) := by decide +kernel
theorem dX3_copyFrom_81 : decode cX3_copyFrom 81 = .ok (.getfield 61, 3) := by decide +kernel
theorem dX3_copyFrom_84 : decode cX3_copyFrom 84 = .ok (.putfield 61, 3) := by decide +kernel
theorem dX3_copyFrom_87 : decode cX3_copyFrom 87 = .ok (.aload_n 0, 1) := by decide +kernel
theorem dX3_copyFrom_88 : decode cX3_copyFrom 88 = .ok (.aload_n 1, 1) := by decide +kernel
theorem dX3_copyFrom_89 : decode cX3_copyFrom 89 = .ok (.getfield 64, 3) := by decide +kernel
theorem dX3_copyFrom_92 : decode cX3_copyFrom 92 = .ok (.putfield 64, 3) := by decide +kernel
theorem dX3_copyFrom_95 : decode cX3_copyFrom 95 = .ok (.aload_n 0, 1) := by decide +kernel
theorem dX3_copyFrom_96 : decode cX3_copyFrom 96 = .ok (.aload_n 1, 1) := by decide +kernel
theorem dX3_copyFrom_97 : decode cX3_copyFrom 97 = .ok (.getfield 67, 3) := by decide +kernel
theorem dX3_copyFrom_100 : decode cX3_copyFrom 100 = .ok (.putfield 67, 3) := by decide +kernel
theorem dX3_copyFrom_103 : decode cX3_copyFrom 103 = .ok (.aload_n 0, 1) := by decide +kernel
theorem dX3_copyFrom_104 : decode cX3_copyFrom 104 = .ok (.aload_n 1, 1) := by decide +kernel
theorem dX3_copyFrom_105 : decode cX3_copyFrom 105 = .ok (.getfield 70, 3) := by decide +kernel
theorem dX3_copyFrom_108 : decode cX3_copyFrom 108 = .ok (.putfield 70, 3) := by decide +kernel
theorem dX3_copyFrom_111 : decode cX3_copyFrom 111 = .ok (.aload_n 0, 1) := by decide +kernel
theorem dX3_copyFrom_112 : decode cX3_copyFrom 112 = .ok (.aload_n 1, 1) := by decide +kernel
theorem dX3_copyFrom_113 : decode cX3_copyFrom 113 = .ok (.getfield 73, 3) := by decide +kernel
theorem dX3_copyFrom_116 : decode cX3_copyFrom 116 = .ok (.putfield 73, 3) := by decide +kernel
theorem dX3_copyFrom_119 : decode cX3_copyFrom 119 = .ok (.aload_n 0, 1) := by decide +kernel
theorem dX3_copyFrom_120 : decode cX3_copyFrom 120 = .ok (.aload_n 1, 1) := by decide +kernel
theorem dX3_copyFrom_121 : decode cX3_copyFrom 121 = .ok (.getfield 76, 3) := by decide +kernel
theorem dX3_copyFrom_124 : decode cX3_copyFrom 124 = .ok (.putfield 76, 3) := by decide +kernel
theorem dX3_copyFrom_127 : decode cX3_copyFrom 127 = .ok (.return_, 1) := by decide +kernel
theorem dX3_powerAt_0 : decode cX3_powerAt 0 = .ok (.aload_n 0, 1) := by decide +kernel
theorem dX3_powerAt_1 : decode cX3_powerAt 1 = .ok (.getfield 12, 3) := by decide +kernel
theorem dX3_powerAt_4 : decode cX3_powerAt 4 = .ok (.getfield 96, 3) := by decide +kernel
theorem dX3_powerAt_7 : decode cX3_powerAt 7 = .ok (.aload_n 0, 1) := by decide +kernel
theorem dX3_powerAt_8 : decode cX3_powerAt 8 = .ok (.getfield 21, 3) := by decide +kernel
theorem dX3_powerAt_11 : decode cX3_powerAt 11 = .ok (.iload_n 1, 1) := by decide +kernel
theorem dX3_powerAt_12 : decode cX3_powerAt 12 = .ok (.invokevirtual 99, 3) := by decide +kernel
theorem dX3_powerAt_15 : decode cX3_powerAt 15 = .ok (.imul, 1) := by decide +kernel
theorem dX3_powerAt_16 : decode cX3_powerAt 16 = .ok (.ireturn, 1) := by decide +kernel
theorem dX3_demandAhead_0 : decode cX3_demandAhead 0 = .ok (.aload_n 0, 1) := by decide +kernel
theorem dX3_demandAhead_1 : decode cX3_demandAhead 1 = .ok (.getfield 12, 3) := by decide +kernel
theorem dX3_demandAhead_4 : decode cX3_demandAhead 4 = .ok (.iload_n 1, 1) := by decide +kernel
theorem dX3_demandAhead_5 : decode cX3_demandAhead 5 = .ok (.iload_n 2, 1) := by decide +kernel
theorem dX3_demandAhead_6 : decode cX3_demandAhead 6 = .ok (.iadd, 1) := by decide +kernel
theorem dX3_demandAhead_7 : decode cX3_demandAhead 7 = .ok (.invokevirtual 103, 3) := by decide +kernel
theorem dX3_demandAhead_10 : decode cX3_demandAhead 10 = .ok (.iload_n 2, 1) := by decide +kernel
theorem dX3_demandAhead_11 : decode cX3_demandAhead 11 = .ok (.ifCond .ne 10, 3) := by decide +kernel
theorem dX3_demandAhead_14 : decode cX3_demandAhead 14 = .ok (.aload_n 0, 1) := by decide +kernel
theorem dX3_demandAhead_15 : decode cX3_demandAhead 15 = .ok (.getfield 58, 3) := by decide +kernel
theorem dX3_demandAhead_18 : decode cX3_demandAhead 18 = .ok (.goto 4, 3) := by decide +kernel
theorem dX3_demandAhead_21 : decode cX3_demandAhead 21 = .ok (.iconst 0, 1) := by decide +kernel
theorem dX3_demandAhead_22 : decode cX3_demandAhead 22 = .ok (.iadd, 1) := by decide +kernel
theorem dX3_demandAhead_23 : decode cX3_demandAhead 23 = .ok (.ireturn, 1) := by decide +kernel
theorem dX3_keptDemands_0 : decode cX3_keptDemands 0 = .ok (.bipush 24, 2) := by decide +kernel
theorem dX3_keptDemands_2 : decode cX3_keptDemands 2 = .ok (.aload_n 0, 1) := by decide +kernel
theorem dX3_keptDemands_3 : decode cX3_keptDemands 3 = .ok (.getfield 49, 3) := by decide +kernel
theorem dX3_keptDemands_6 : decode cX3_keptDemands 6 = .ok (.invokestatic 106, 3) := by decide +kernel
theorem dX3_keptDemands_9 : decode cX3_keptDemands 9 = .ok (.ireturn, 1) := by decide +kernel
theorem dX3_demandBack_0 : decode cX3_demandBack 0 = .ok (.iload_n 1, 1) := by decide +kernel
theorem dX3_demandBack_1 : decode cX3_demandBack 1 = .ok (.ifCond .lt 17, 3) := by decide +kernel
theorem dX3_demandBack_4 : decode cX3_demandBack 4 = .ok (.iload_n 1, 1) := by decide +kernel
theorem dX3_demandBack_5 : decode cX3_demandBack 5 = .ok (.aload_n 0, 1) := by decide +kernel
theorem dX3_demandBack_6 : decode cX3_demandBack 6 = .ok (.getfield 49, 3) := by decide +kernel
theorem dX3_demandBack_9 : decode cX3_demandBack 9 = .ok (.if_icmp .ge 9, 3) := by decide +kernel
theorem dX3_demandBack_12 : decode cX3_demandBack 12 = .ok (.iload_n 1, 1) := by decide +kernel
theorem dX3_demandBack_13 : decode cX3_demandBack 13 = .ok (.bipush 24, 2) := by decide +kernel
theorem dX3_demandBack_15 : decode cX3_demandBack 15 = .ok (.if_icmp .lt 5, 3) := by decide +kernel
theorem dX3_demandBack_18 : decode cX3_demandBack 18 = .ok (.iconst 0, 1) := by decide +kernel
theorem dX3_demandBack_19 : decode cX3_demandBack 19 = .ok (.ireturn, 1) := by decide +kernel
theorem dX3_demandBack_20 : decode cX3_demandBack 20 = .ok (.aload_n 0, 1) := by decide +kernel
theorem dX3_demandBack_21 : decode cX3_demandBack 21 = .ok (.getfield 32, 3) := by decide +kernel
theorem dX3_demandBack_24 : decode cX3_demandBack 24 = .ok (.aload_n 0, 1) := by decide +kernel
theorem dX3_demandBack_25 : decode cX3_demandBack 25 = .ok (.getfield 49, 3) := by decide +kernel
theorem dX3_demandBack_28 : decode cX3_demandBack 28 = .ok (.iconst 1, 1) := by decide +kernel
theorem dX3_demandBack_29 : decode cX3_demandBack 29 = .ok (.isub, 1) := by decide +kernel
theorem dX3_demandBack_30 : decode cX3_demandBack 30 = .ok (.iload_n 1, 1) := by decide +kernel
theorem dX3_demandBack_31 : decode cX3_demandBack 31 = .ok (.isub, 1) := by decide +kernel
theorem dX3_demandBack_32 : decode cX3_demandBack 32 = .ok (.bipush 24, 2) := by decide +kernel
theorem dX3_demandBack_34 : decode cX3_demandBack 34 = .ok (.irem, 1) := by decide +kernel
theorem dX3_demandBack_35 : decode cX3_demandBack 35 = .ok (.iaload, 1) := by decide +kernel
theorem dX3_demandBack_36 : decode cX3_demandBack 36 = .ok (.ireturn, 1) := by decide +kernel
theorem dX3_windowLength_0 : decode cX3_windowLength 0 = .ok (.aload_n 0, 1) := by decide +kernel
theorem dX3_windowLength_1 : decode cX3_windowLength 1 = .ok (.getfield 12, 3) := by decide +kernel
theorem dX3_windowLength_4 : decode cX3_windowLength 4 = .ok (.getfield 112, 3) := by decide +kernel
theorem dX3_windowLength_7 : decode cX3_windowLength 7 = .ok (.aload_n 0, 1) := by decide +kernel
theorem dX3_windowLength_8 : decode cX3_windowLength 8 = .ok (.getfield 49, 3) := by decide +kernel
theorem dX3_windowLength_11 : decode cX3_windowLength 11 = .ok (.invokestatic 106, 3) := by decide +kernel
theorem dX3_windowLength_14 : decode cX3_windowLength 14 = .ok (.ireturn, 1) := by decide +kernel
theorem dX3_windowSum_0 : decode cX3_windowSum 0 = .ok (.iconst 0, 1) := by decide +kernel
theorem dX3_windowSum_1 : decode cX3_windowSum 1 = .ok (.istore_n 1, 1) := by decide +kernel
theorem dX3_windowSum_2 : decode cX3_windowSum 2 = .ok (.aload_n 0, 1) := by decide +kernel
theorem dX3_windowSum_3 : decode cX3_windowSum 3 = .ok (.invokevirtual 115, 3) := by decide +kernel
theorem dX3_windowSum_6 : decode cX3_windowSum 6 = .ok (.istore_n 2, 1) := by decide +kernel
theorem dX3_windowSum_7 : decode cX3_windowSum 7 = .ok (.iconst 0, 1) := by decide +kernel
theorem dX3_windowSum_8 : decode cX3_windowSum 8 = .ok (.istore_n 3, 1) := by decide +kernel
theorem dX3_windowSum_9 : decode cX3_windowSum 9 = .ok (.iload_n 3, 1) := by decide +kernel
theorem dX3_windowSum_10 : decode cX3_windowSum 10 = .ok (.iload_n 2, 1) := by decide +kernel
theorem dX3_windowSum_11 : decode cX3_windowSum 11 = .ok (.if_icmp .ge 17, 3) := by decide +kernel
theorem dX3_windowSum_14 : decode cX3_windowSum 14 = .ok (.iload_n 1, 1) := by decide +kernel
theorem dX3_windowSum_15 : decode cX3_windowSum 15 = .ok (.aload_n 0, 1) := by decide +kernel
theorem dX3_windowSum_16 : decode cX3_windowSum 16 = .ok (.iload_n 3, 1) := by decide +kernel
theorem dX3_windowSum_17 : decode cX3_windowSum 17 = .ok (.invokevirtual 119, 3) := by decide +kernel
theorem dX3_windowSum_20 : decode cX3_windowSum 20 = .ok (.iadd, 1) := by decide +kernel
theorem dX3_windowSum_21 : decode cX3_windowSum 21 = .ok (.istore_n 1, 1) := by decide +kernel
theorem dX3_windowSum_22 : decode cX3_windowSum 22 = .ok (.iinc 3 1, 3) := by decide +kernel
theorem dX3_windowSum_25 : decode cX3_windowSum 25 = .ok (.goto (-16), 3) := by decide +kernel
theorem dX3_windowSum_28 : decode cX3_windowSum 28 = .ok (.iload_n 1, 1) := by decide +kernel
theorem dX3_windowSum_29 : decode cX3_windowSum 29 = .ok (.ireturn, 1) := by decide +kernel
theorem dX3_canSpare_0 : decode cX3_canSpare 0 = .ok (.aload_n 0, 1) := by decide +kernel
theorem dX3_canSpare_1 : decode cX3_canSpare 1 = .ok (.getfield 21, 3) := by decide +kernel
theorem dX3_canSpare_4 : decode cX3_canSpare 4 = .ok (.getfield 43, 3) := by decide +kernel
theorem dX3_canSpare_7 : decode cX3_canSpare 7 = .ok (.aload_n 0, 1) := by decide +kernel
theorem dX3_canSpare_8 : decode cX3_canSpare 8 = .ok (.getfield 12, 3) := by decide +kernel
theorem dX3_canSpare_11 : decode cX3_canSpare 11 = .ok (.getfield 122, 3) := by decide +kernel
theorem dX3_canSpare_14 : decode cX3_canSpare 14 = .ok (.if_icmp .le 30, 3) := by decide +kernel
theorem dX3_canSpare_17 : decode cX3_canSpare 17 = .ok (.aload_n 0, 1) := by decide +kernel
theorem dX3_canSpare_18 : decode cX3_canSpare 18 = .ok (.getfield 21, 3) := by decide +kernel
theorem dX3_canSpare_21 : decode cX3_canSpare 21 = .ok (.iload_n 1, 1) := by decide +kernel
theorem dX3_canSpare_22 : decode cX3_canSpare 22 = .ok (.invokevirtual 124, 3) := by decide +kernel
theorem dX3_canSpare_25 : decode cX3_canSpare 25 = .ok (.ifCond .eq 19, 3) := by decide +kernel
theorem dX3_canSpare_28 : decode cX3_canSpare 28 = .ok (.aload_n 0, 1) := by decide +kernel
theorem dX3_canSpare_29 : decode cX3_canSpare 29 = .ok (.getfield 21, 3) := by decide +kernel
theorem dX3_canSpare_32 : decode cX3_canSpare 32 = .ok (.getfield 128, 3) := by decide +kernel
theorem dX3_canSpare_35 : decode cX3_canSpare 35 = .ok (.iload_n 1, 1) := by decide +kernel
theorem dX3_canSpare_36 : decode cX3_canSpare 36 = .ok (.baload, 1) := by decide +kernel
theorem dX3_canSpare_37 : decode cX3_canSpare 37 = .ok (.ifCond .ne 7, 3) := by decide +kernel
theorem dX3_canSpare_40 : decode cX3_canSpare 40 = .ok (.iconst 1, 1) := by decide +kernel
theorem dX3_canSpare_41 : decode cX3_canSpare 41 = .ok (.goto 4, 3) := by decide +kernel
theorem dX3_canSpare_44 : decode cX3_canSpare 44 = .ok (.iconst 0, 1) := by decide +kernel
theorem dX3_canSpare_45 : decode cX3_canSpare 45 = .ok (.ireturn, 1) := by decide +kernel
theorem dX3_meetDemand_0 : decode cX3_meetDemand 0 = .ok (.aload_n 0, 1) := by decide +kernel
theorem dX3_meetDemand_1 : decode cX3_meetDemand 1 = .ok (.iload_n 1, 1) := by decide +kernel
theorem dX3_meetDemand_2 : decode cX3_meetDemand 2 = .ok (.iconst 0, 1) := by decide +kernel
theorem dX3_meetDemand_3 : decode cX3_meetDemand 3 = .ok (.invokevirtual 132, 3) := by decide +kernel
theorem dX3_meetDemand_6 : decode cX3_meetDemand 6 = .ok (.istore_n 2, 1) := by decide +kernel
theorem dX3_meetDemand_7 : decode cX3_meetDemand 7 = .ok (.aload_n 0, 1) := by decide +kernel
theorem dX3_meetDemand_8 : decode cX3_meetDemand 8 = .ok (.iconst 0, 1) := by decide +kernel
theorem dX3_meetDemand_9 : decode cX3_meetDemand 9 = .ok (.putfield 58, 3) := by decide +kernel
theorem dX3_meetDemand_12 : decode cX3_meetDemand 12 = .ok (.aload_n 0, 1) := by decide +kernel
theorem dX3_meetDemand_13 : decode cX3_meetDemand 13 = .ok (.getfield 32, 3) := by decide +kernel
theorem dX3_meetDemand_16 : decode cX3_meetDemand 16 = .ok (.aload_n 0, 1) := by decide +kernel
theorem dX3_meetDemand_17 : decode cX3_meetDemand 17 = .ok (.getfield 49, 3) := by decide +kernel
theorem dX3_meetDemand_20 : decode cX3_meetDemand 20 = .ok (.bipush 24, 2) := by decide +kernel
theorem dX3_meetDemand_22 : decode cX3_meetDemand 22 = .ok (.invokestatic 135, 3) := by decide +kernel
theorem dX3_meetDemand_25 : decode cX3_meetDemand 25 = .ok (.iload_n 2, 1) := by decide +kernel
theorem dX3_meetDemand_26 : decode cX3_meetDemand 26 = .ok (.iastore, 1) := by decide +kernel
theorem dX3_meetDemand_27 : decode cX3_meetDemand 27 = .ok (.aload_n 0, 1) := by decide +kernel
theorem dX3_meetDemand_28 : decode cX3_meetDemand 28 = .ok (.dup, 1) := by decide +kernel
theorem dX3_meetDemand_29 : decode cX3_meetDemand 29 = .ok (.getfield 49, 3) := by decide +kernel
theorem dX3_meetDemand_32 : decode cX3_meetDemand 32 = .ok (.iconst 1, 1) := by decide +kernel
theorem dX3_meetDemand_33 : decode cX3_meetDemand 33 = .ok (.iadd, 1) := by decide +kernel
theorem dX3_meetDemand_34 : decode cX3_meetDemand 34 = .ok (.putfield 49, 3) := by decide +kernel
theorem dX3_meetDemand_37 : decode cX3_meetDemand 37 = .ok (.aload_n 0, 1) := by decide +kernel
theorem dX3_meetDemand_38 : decode cX3_meetDemand 38 = .ok (.getfield 28, 3) := by decide +kernel
theorem dX3_meetDemand_41 : decode cX3_meetDemand 41 = .ok (.iload_n 2, 1) := by decide +kernel
theorem dX3_meetDemand_42 : decode cX3_meetDemand 42 = .ok (.aload_n 0, 1) := by decide +kernel
theorem dX3_meetDemand_43 : decode cX3_meetDemand 43 = .ok (.iload_n 1, 1) := by decide +kernel
theorem dX3_meetDemand_44 : decode cX3_meetDemand 44 = .ok (.invokevirtual 138, 3) := by decide +kernel
theorem dX3_meetDemand_47 : decode cX3_meetDemand 47 = .ok (.aload_n 0, 1) := by decide +kernel
theorem dX3_meetDemand_48 : decode cX3_meetDemand 48 = .ok (.getfield 12, 3) := by decide +kernel
theorem dX3_meetDemand_51 : decode cX3_meetDemand 51 = .ok (.getfield 141, 3) := by decide +kernel
theorem dX3_meetDemand_54 : decode cX3_meetDemand 54 = .ok (.aload_n 0, 1) := by decide +kernel
theorem dX3_meetDemand_55 : decode cX3_meetDemand 55 = .ok (.getfield 21, 3) := by decide +kernel
theorem dX3_meetDemand_58 : decode cX3_meetDemand 58 = .ok (.getfield 43, 3) := by decide +kernel
theorem dX3_meetDemand_61 : decode cX3_meetDemand 61 = .ok (.imul, 1) := by decide +kernel
theorem dX3_meetDemand_62 : decode cX3_meetDemand 62 = .ok (.aload_n 0, 1) := by decide +kernel
theorem dX3_meetDemand_63 : decode cX3_meetDemand 63 = .ok (.getfield 12, 3) := by decide +kernel
theorem dX3_meetDemand_66 : decode cX3_meetDemand 66 = .ok (.getfield 144, 3) := by decide +kernel
theorem dX3_meetDemand_69 : decode cX3_meetDemand 69 = .ok (.invokevirtual 147, 3) := by decide +kernel
theorem dX3_meetDemand_72 : decode cX3_meetDemand 72 = .ok (.return_, 1) := by decide +kernel
theorem dX3_lookAhead_0 : decode cX3_lookAhead 0 = .ok (.aload_n 0, 1) := by decide +kernel
theorem dX3_lookAhead_1 : decode cX3_lookAhead 1 = .ok (.getfield 36, 3) := by decide +kernel
theorem dX3_lookAhead_4 : decode cX3_lookAhead 4 = .ok (.iload_n 1, 1) := by decide +kernel
theorem dX3_lookAhead_5 : decode cX3_lookAhead 5 = .ok (.bipush 8, 2) := by decide +kernel
theorem dX3_lookAhead_7 : decode cX3_lookAhead 7 = .ok (.invokestatic 135, 3) := by decide +kernel
theorem dX3_lookAhead_10 : decode cX3_lookAhead 10 = .ok (.iaload, 1) := by decide +kernel
theorem dX3_lookAhead_11 : decode cX3_lookAhead 11 = .ok (.istore_n 2, 1) := by decide +kernel
theorem dX3_lookAhead_12 : decode cX3_lookAhead 12 = .ok (.iload_n 2, 1) := by decide +kernel
theorem dX3_lookAhead_13 : decode cX3_lookAhead 13 = .ok (.ifCond .lt 20, 3) := by decide +kernel
theorem dX3_lookAhead_16 : decode cX3_lookAhead 16 = .ok (.aload_n 0, 1) := by decide +kernel
theorem dX3_lookAhead_17 : decode cX3_lookAhead 17 = .ok (.getfield 28, 3) := by decide +kernel
theorem dX3_lookAhead_20 : decode cX3_lookAhead 20 = .ok (.iload_n 2, 1) := by decide +kernel
theorem dX3_lookAhead_21 : decode cX3_lookAhead 21 = .ok (.aload_n 0, 1) := by decide +kernel
theorem dX3_lookAhead_22 : decode cX3_lookAhead 22 = .ok (.iconst 0, 1) := by decide +kernel
theorem dX3_lookAhead_23 : decode cX3_lookAhead 23 = .ok (.invokevirtual 119, 3) := by decide +kernel
theorem dX3_lookAhead_26 : decode cX3_lookAhead 26 = .ok (.isub, 1) := by decide +kernel
theorem dX3_lookAhead_27 : decode cX3_lookAhead 27 = .ok (.invokestatic 151, 3) := by decide +kernel
theorem dX3_lookAhead_30 : decode cX3_lookAhead 30 = .ok (.invokevirtual 154, 3) := by decide +kernel
theorem dX3_lookAhead_33 : decode cX3_lookAhead 33 = .ok (.aload_n 0, 1) := by decide +kernel
theorem dX3_lookAhead_34 : decode cX3_lookAhead 34 = .ok (.getfield 12, 3) := by decide +kernel
theorem dX3_lookAhead_37 : decode cX3_lookAhead 37 = .ok (.getfield 158, 3) := by decide +kernel
theorem dX3_lookAhead_40 : decode cX3_lookAhead 40 = .ok (.lookupswitch 50 #[(1, 28), (2, 39)], 28) := by decide +kernel
theorem dX3_lookAhead_68 : decode cX3_lookAhead 68 = .ok (.aload_n 0, 1) := by decide +kernel
theorem dX3_lookAhead_69 : decode cX3_lookAhead 69 = .ok (.aload_n 0, 1) := by decide +kernel
theorem dX3_lookAhead_70 : decode cX3_lookAhead 70 = .ok (.invokevirtual 161, 3) := by decide +kernel
theorem dX3_lookAhead_73 : decode cX3_lookAhead 73 = .ok (.putfield 61, 3) := by decide +kernel
theorem dX3_lookAhead_76 : decode cX3_lookAhead 76 = .ok (.goto 29, 3) := by decide +kernel
theorem dX3_lookAhead_79 : decode cX3_lookAhead 79 = .ok (.aload_n 0, 1) := by decide +kernel
theorem dX3_lookAhead_80 : decode cX3_lookAhead 80 = .ok (.aload_n 0, 1) := by decide +kernel
theorem dX3_lookAhead_81 : decode cX3_lookAhead 81 = .ok (.invokevirtual 164, 3) := by decide +kernel
theorem dX3_lookAhead_84 : decode cX3_lookAhead 84 = .ok (.putfield 61, 3) := by decide +kernel
theorem dX3_lookAhead_87 : decode cX3_lookAhead 87 = .ok (.goto 18, 3) := by decide +kernel
theorem dX3_lookAhead_90 : decode cX3_lookAhead 90 = .ok (.aload_n 0, 1) := by decide +kernel
theorem dX3_lookAhead_91 : decode cX3_lookAhead 91 = .ok (.aload_n 0, 1) := by decide +kernel
theorem dX3_lookAhead_92 : decode cX3_lookAhead 92 = .ok (.invokevirtual 167, 3) := by decide +kernel
theorem dX3_lookAhead_95 : decode cX3_lookAhead 95 = .ok (.aload_n 0, 1) := by decide +kernel
theorem dX3_lookAhead_96 : decode cX3_lookAhead 96 = .ok (.invokevirtual 115, 3) := by decide +kernel
theorem dX3_lookAhead_99 : decode cX3_lookAhead 99 = .ok (.invokestatic 170, 3) := by decide +kernel
theorem dX3_lookAhead_102 : decode cX3_lookAhead 102 = .ok (.putfield 61, 3) := by decide +kernel
theorem dX3_lookAhead_105 : decode cX3_lookAhead 105 = .ok (.aload_n 0, 1) := by decide +kernel
theorem dX3_lookAhead_106 : decode cX3_lookAhead 106 = .ok (.aload_n 0, 1) := by decide +kernel
theorem dX3_lookAhead_107 : decode cX3_lookAhead 107 = .ok (.getfield 12, 3) := by decide +kernel
theorem dX3_lookAhead_110 : decode cX3_lookAhead 110 = .ok (.aload_n 0, 1) := by decide +kernel
theorem dX3_lookAhead_111 : decode cX3_lookAhead 111 = .ok (.getfield 61, 3) := by decide +kernel
theorem dX3_lookAhead_114 : decode cX3_lookAhead 114 = .ok (.invokevirtual 173, 3) := by decide +kernel
theorem dX3_lookAhead_117 : decode cX3_lookAhead 117 = .ok (.putfield 64, 3) := by decide +kernel
theorem dX3_lookAhead_120 : decode cX3_lookAhead 120 = .ok (.aload_n 0, 1) := by decide +kernel
theorem dX3_lookAhead_121 : decode cX3_lookAhead 121 = .ok (.getfield 36, 3) := by decide +kernel
theorem dX3_lookAhead_124 : decode cX3_lookAhead 124 = .ok (.iload_n 1, 1) := by decide +kernel
theorem dX3_lookAhead_125 : decode cX3_lookAhead 125 = .ok (.aload_n 0, 1) := by decide +kernel
theorem dX3_lookAhead_126 : decode cX3_lookAhead 126 = .ok (.getfield 12, 3) := by decide +kernel
theorem dX3_lookAhead_129 : decode cX3_lookAhead 129 = .ok (.getfield 176, 3) := by decide +kernel
theorem dX3_lookAhead_132 : decode cX3_lookAhead 132 = .ok (.iadd, 1) := by decide +kernel
theorem dX3_lookAhead_133 : decode cX3_lookAhead 133 = .ok (.bipush 8, 2) := by decide +kernel
theorem dX3_lookAhead_135 : decode cX3_lookAhead 135 = .ok (.invokestatic 135, 3) := by decide +kernel
theorem dX3_lookAhead_138 : decode cX3_lookAhead 138 = .ok (.aload_n 0, 1) := by decide +kernel
theorem dX3_lookAhead_139 : decode cX3_lookAhead 139 = .ok (.getfield 61, 3) := by decide +kernel
theorem dX3_lookAhead_142 : decode cX3_lookAhead 142 = .ok (.iastore, 1) := by decide +kernel
theorem dX3_lookAhead_143 : decode cX3_lookAhead 143 = .ok (.return_, 1) := by decide +kernel
theorem dX3_forecastByTrend_0 : decode cX3_forecastByTrend 0 = .ok (.aload_n 0, 1) := by decide +kernel
theorem dX3_forecastByTrend_1 : decode cX3_forecastByTrend 1 = .ok (.iconst 0, 1) := by decide +kernel
theorem dX3_forecastByTrend_2 : decode cX3_forecastByTrend 2 = .ok (.invokevirtual 119, 3) := by decide +kernel
theorem dX3_forecastByTrend_5 : decode cX3_forecastByTrend 5 = .ok (.istore_n 1, 1) := by decide +kernel
theorem dX3_forecastByTrend_6 : decode cX3_forecastByTrend 6 = .ok (.aload_n 0, 1) := by decide +kernel
theorem dX3_forecastByTrend_7 : decode cX3_forecastByTrend 7 = .ok (.aload_n 0, 1) := by decide +kernel
theorem dX3_forecastByTrend_8 : decode cX3_forecastByTrend 8 = .ok (.invokevirtual 115, 3) := by decide +kernel
theorem dX3_forecastByTrend_11 : decode cX3_forecastByTrend 11 = .ok (.iconst 1, 1) := by decide +kernel
theorem dX3_forecastByTrend_12 : decode cX3_forecastByTrend 12 = .ok (.isub, 1) := by decide +kernel
theorem dX3_forecastByTrend_13 : decode cX3_forecastByTrend 13 = .ok (.invokevirtual 119, 3) := by decide +kernel
theorem dX3_forecastByTrend_16 : decode cX3_forecastByTrend 16 = .ok (.istore_n 2, 1) := by decide +kernel
theorem dX3_forecastByTrend_17 : decode cX3_forecastByTrend 17 = .ok (.iconst 1, 1) := by decide +kernel
theorem dX3_forecastByTrend_18 : decode cX3_forecastByTrend 18 = .ok (.aload_n 0, 1) := by decide +kernel
theorem dX3_forecastByTrend_19 : decode cX3_forecastByTrend 19 = .ok (.invokevirtual 115, 3) := by decide +kernel
theorem dX3_forecastByTrend_22 : decode cX3_forecastByTrend 22 = .ok (.iconst 1, 1) := by decide +kernel
theorem dX3_forecastByTrend_23 : decode cX3_forecastByTrend 23 = .ok (.isub, 1) := by decide +kernel
theorem dX3_forecastByTrend_24 : decode cX3_forecastByTrend 24 = .ok (.invokestatic 179, 3) := by decide +kernel
theorem dX3_forecastByTrend_27 : decode cX3_forecastByTrend 27 = .ok (.istore_n 3, 1) := by decide +kernel
theorem dX3_forecastByTrend_28 : decode cX3_forecastByTrend 28 = .ok (.iconst 0, 1) := by decide +kernel
theorem dX3_forecastByTrend_29 : decode cX3_forecastByTrend 29 = .ok (.iload_n 1, 1) := by decide +kernel
theorem dX3_forecastByTrend_30 : decode cX3_forecastByTrend 30 = .ok (.iload_n 1, 1) := by decide +kernel
theorem dX3_forecastByTrend_31 : decode cX3_forecastByTrend 31 = .ok (.iload_n 2, 1) := by decide +kernel
theorem dX3_forecastByTrend_32 : decode cX3_forecastByTrend 32 = .ok (.isub, 1) := by decide +kernel
theorem dX3_forecastByTrend_33 : decode cX3_forecastByTrend 33 = .ok (.aload_n 0, 1) := by decide +kernel
theorem dX3_forecastByTrend_34 : decode cX3_forecastByTrend 34 = .ok (.getfield 12, 3) := by decide +kernel
theorem dX3_forecastByTrend_37 : decode cX3_forecastByTrend 37 = .ok (.getfield 176, 3) := by decide +kernel
theorem dX3_forecastByTrend_40 : decode cX3_forecastByTrend 40 = .ok (.imul, 1) := by decide +kernel
theorem dX3_forecastByTrend_41 : decode cX3_forecastByTrend 41 = .ok (.iload_n 3, 1) := by decide +kernel
theorem dX3_forecastByTrend_42 : decode cX3_forecastByTrend 42 = .ok (.idiv, 1) := by decide +kernel
theorem dX3_forecastByTrend_43 : decode cX3_forecastByTrend 43 = .ok (.iadd, 1) := by decide +kernel
theorem dX3_forecastByTrend_44 : decode cX3_forecastByTrend 44 = .ok (.invokestatic 179, 3) := by decide +kernel
theorem dX3_forecastByTrend_47 : decode cX3_forecastByTrend 47 = .ok (.ireturn, 1) := by decide +kernel
theorem dX3_forecastBySeason_0 : decode cX3_forecastBySeason 0 = .ok (.aload_n 0, 1) := by decide +kernel
theorem dX3_forecastBySeason_1 : decode cX3_forecastBySeason 1 = .ok (.getfield 12, 3) := by decide +kernel
theorem dX3_forecastBySeason_4 : decode cX3_forecastBySeason 4 = .ok (.getfield 176, 3) := by decide +kernel
theorem dX3_forecastBySeason_7 : decode cX3_forecastBySeason 7 = .ok (.aload_n 0, 1) := by decide +kernel
theorem dX3_forecastBySeason_8 : decode cX3_forecastBySeason 8 = .ok (.getfield 12, 3) := by decide +kernel
theorem dX3_forecastBySeason_11 : decode cX3_forecastBySeason 11 = .ok (.getfield 182, 3) := by decide +kernel
theorem dX3_forecastBySeason_14 : decode cX3_forecastBySeason 14 = .ok (.invokestatic 170, 3) := by decide +kernel
theorem dX3_forecastBySeason_17 : decode cX3_forecastBySeason 17 = .ok (.istore_n 1, 1) := by decide +kernel
theorem dX3_forecastBySeason_18 : decode cX3_forecastBySeason 18 = .ok (.iload_n 1, 1) := by decide +kernel
theorem dX3_forecastBySeason_19 : decode cX3_forecastBySeason 19 = .ok (.aload_n 0, 1) := by decide +kernel
theorem dX3_forecastBySeason_20 : decode cX3_forecastBySeason 20 = .ok (.getfield 12, 3) := by decide +kernel
theorem dX3_forecastBySeason_23 : decode cX3_forecastBySeason 23 = .ok (.getfield 182, 3) := by decide +kernel
theorem dX3_forecastBySeason_26 : decode cX3_forecastBySeason 26 = .ok (.imul, 1) := by decide +kernel
theorem dX3_forecastBySeason_27 : decode cX3_forecastBySeason 27 = .ok (.aload_n 0, 1) := by decide +kernel
theorem dX3_forecastBySeason_28 : decode cX3_forecastBySeason 28 = .ok (.getfield 12, 3) := by decide +kernel
theorem dX3_forecastBySeason_31 : decode cX3_forecastBySeason 31 = .ok (.getfield 176, 3) := by decide +kernel
theorem dX3_forecastBySeason_34 : decode cX3_forecastBySeason 34 = .ok (.isub, 1) := by decide +kernel
theorem dX3_forecastBySeason_35 : decode cX3_forecastBySeason 35 = .ok (.istore_n 2, 1) := by decide +kernel
theorem dX3_forecastBySeason_36 : decode cX3_forecastBySeason 36 = .ok (.aload_n 0, 1) := by decide +kernel
theorem dX3_forecastBySeason_37 : decode cX3_forecastBySeason 37 = .ok (.iload_n 2, 1) := by decide +kernel
theorem dX3_forecastBySeason_38 : decode cX3_forecastBySeason 38 = .ok (.aload_n 0, 1) := by decide +kernel
theorem dX3_forecastBySeason_39 : decode cX3_forecastBySeason 39 = .ok (.getfield 49, 3) := by decide +kernel
theorem dX3_forecastBySeason_42 : decode cX3_forecastBySeason 42 = .ok (.if_icmp .ge 7, 3) := by decide +kernel
theorem dX3_forecastBySeason_45 : decode cX3_forecastBySeason 45 = .ok (.iload_n 2, 1) := by decide +kernel
theorem dX3_forecastBySeason_46 : decode cX3_forecastBySeason 46 = .ok (.goto 4, 3) := by decide +kernel
theorem dX3_forecastBySeason_49 : decode cX3_forecastBySeason 49 = .ok (.iconst 0, 1) := by decide +kernel
theorem dX3_forecastBySeason_50 : decode cX3_forecastBySeason 50 = .ok (.invokevirtual 119, 3) := by decide +kernel
theorem dX3_forecastBySeason_53 : decode cX3_forecastBySeason 53 = .ok (.ireturn, 1) := by decide +kernel
theorem dX3_decide_0 : decode cX3_decide 0 = .ok (.aload_n 0, 1) := by decide +kernel
theorem dX3_decide_1 : decode cX3_decide 1 = .ok (.aload_n 0, 1) := by decide +kernel
theorem dX3_decide_2 : decode cX3_decide 2 = .ok (.iload_n 1, 1) := by decide +kernel
theorem dX3_decide_3 : decode cX3_decide 3 = .ok (.invokevirtual 185, 3) := by decide +kernel
theorem dX3_decide_6 : decode cX3_decide 6 = .ok (.putfield 67, 3) := by decide +kernel
theorem dX3_decide_9 : decode cX3_decide 9 = .ok (.aload_n 0, 1) := by decide +kernel
theorem dX3_decide_10 : decode cX3_decide 10 = .ok (.getfield 28, 3) := by decide +kernel
theorem dX3_decide_13 : decode cX3_decide 13 = .ok (.aload_n 0, 1) := by decide +kernel
theorem dX3_decide_14 : decode cX3_decide 14 = .ok (.getfield 67, 3) := by decide +kernel
theorem dX3_decide_17 : decode cX3_decide 17 = .ok (.invokevirtual 188, 3) := by decide +kernel
theorem dX3_decide_20 : decode cX3_decide 20 = .ok (.aload_n 0, 1) := by decide +kernel
theorem dX3_decide_21 : decode cX3_decide 21 = .ok (.getfield 67, 3) := by decide +kernel
theorem dX3_decide_24 : decode cX3_decide 24 = .ok (.ifCond .ne 8, 3) := by decide +kernel
theorem dX3_decide_27 : decode cX3_decide 27 = .ok (.aload_n 0, 1) := by decide +kernel
theorem dX3_decide_28 : decode cX3_decide 28 = .ok (.iload_n 1, 1) := by decide +kernel
theorem dX3_decide_29 : decode cX3_decide 29 = .ok (.putfield 70, 3) := by decide +kernel
theorem dX3_decide_32 : decode cX3_decide 32 = .ok (.aload_n 0, 1) := by decide +kernel
theorem dX3_decide_33 : decode cX3_decide 33 = .ok (.getfield 67, 3) := by decide +kernel
theorem dX3_decide_36 : decode cX3_decide 36 = .ok (.ifCond .eq 11, 3) := by decide +kernel
theorem dX3_decide_39 : decode cX3_decide 39 = .ok (.aload_n 0, 1) := by decide +kernel
theorem dX3_decide_40 : decode cX3_decide 40 = .ok (.getfield 67, 3) := by decide +kernel
theorem dX3_decide_43 : decode cX3_decide 43 = .ok (.iconst 1, 1) := by decide +kernel
theorem dX3_decide_44 : decode cX3_decide 44 = .ok (.if_icmp .ne 8, 3) := by decide +kernel
theorem dX3_decide_47 : decode cX3_decide 47 = .ok (.aload_n 0, 1) := by decide +kernel
theorem dX3_decide_48 : decode cX3_decide 48 = .ok (.iload_n 1, 1) := by decide +kernel
theorem dX3_decide_49 : decode cX3_decide 49 = .ok (.putfield 73, 3) := by decide +kernel
theorem dX3_decide_52 : decode cX3_decide 52 = .ok (.return_, 1) := by decide +kernel
theorem dX3_decisionAt_0 : decode cX3_decisionAt 0 = .ok (.aload_n 0, 1) := by decide +kernel
theorem dX3_decisionAt_1 : decode cX3_decisionAt 1 = .ok (.getfield 76, 3) := by decide +kernel
theorem dX3_decisionAt_4 : decode cX3_decisionAt 4 = .ok (.ifCond .eq 5, 3) := by decide +kernel
theorem dX3_decisionAt_7 : decode cX3_decisionAt 7 = .ok (.iconst 3, 1) := by decide +kernel
theorem dX3_decisionAt_8 : decode cX3_decisionAt 8 = .ok (.ireturn, 1) := by decide +kernel
theorem dX3_decisionAt_9 : decode cX3_decisionAt 9 = .ok (.aload_n 0, 1) := by decide +kernel
theorem dX3_decisionAt_10 : decode cX3_decisionAt 10 = .ok (.getfield 64, 3) := by decide +kernel
theorem dX3_decisionAt_13 : decode cX3_decisionAt 13 = .ok (.aload_n 0, 1) := by decide +kernel
theorem dX3_decisionAt_14 : decode cX3_decisionAt 14 = .ok (.getfield 21, 3) := by decide +kernel
theorem dX3_decisionAt_17 : decode cX3_decisionAt 17 = .ok (.getfield 43, 3) := by decide +kernel
theorem dX3_decisionAt_20 : decode cX3_decisionAt 20 = .ok (.if_icmp .ne 5, 3) := by decide +kernel
theorem dX3_decisionAt_23 : decode cX3_decisionAt 23 = .ok (.iconst 2, 1) := by decide +kernel
theorem dX3_decisionAt_24 : decode cX3_decisionAt 24 = .ok (.ireturn, 1) := by decide +kernel
theorem dX3_decisionAt_25 : decode cX3_decisionAt 25 = .ok (.aload_n 0, 1) := by decide +kernel
theorem dX3_decisionAt_26 : decode cX3_decisionAt 26 = .ok (.getfield 64, 3) := by decide +kernel
theorem dX3_decisionAt_29 : decode cX3_decisionAt 29 = .ok (.aload_n 0, 1) := by decide +kernel
theorem dX3_decisionAt_30 : decode cX3_decisionAt 30 = .ok (.getfield 21, 3) := by decide +kernel
theorem dX3_decisionAt_33 : decode cX3_decisionAt 33 = .ok (.getfield 43, 3) := by decide +kernel
theorem dX3_decisionAt_36 : decode cX3_decisionAt 36 = .ok (.if_icmp .le 25, 3) := by decide +kernel
theorem dX3_decisionAt_39 : decode cX3_decisionAt 39 = .ok (.iload_n 1, 1) := by decide +kernel
theorem dX3_decisionAt_40 : decode cX3_decisionAt 40 = .ok (.aload_n 0, 1) := by decide +kernel
theorem dX3_decisionAt_41 : decode cX3_decisionAt 41 = .ok (.getfield 70, 3) := by decide +kernel
theorem dX3_decisionAt_44 : decode cX3_decisionAt 44 = .ok (.isub, 1) := by decide +kernel
theorem dX3_decisionAt_45 : decode cX3_decisionAt 45 = .ok (.aload_n 0, 1) := by decide +kernel
theorem dX3_decisionAt_46 : decode cX3_decisionAt 46 = .ok (.getfield 12, 3) := by decide +kernel
theorem dX3_decisionAt_49 : decode cX3_decisionAt 49 = .ok (.getfield 191, 3) := by decide +kernel
theorem dX3_decisionAt_52 : decode cX3_decisionAt 52 = .ok (.if_icmp .ge 7, 3) := by decide +kernel
theorem dX3_decisionAt_55 : decode cX3_decisionAt 55 = .ok (.iconst 4, 1) := by decide +kernel
theorem dX3_decisionAt_56 : decode cX3_decisionAt 56 = .ok (.goto 4, 3) := by decide +kernel
theorem dX3_decisionAt_59 : decode cX3_decisionAt 59 = .ok (.iconst 0, 1) := by decide +kernel
theorem dX3_decisionAt_60 : decode cX3_decisionAt 60 = .ok (.ireturn, 1) := by decide +kernel
theorem dX3_decisionAt_61 : decode cX3_decisionAt 61 = .ok (.iload_n 1, 1) := by decide +kernel
theorem dX3_decisionAt_62 : decode cX3_decisionAt 62 = .ok (.aload_n 0, 1) := by decide +kernel
theorem dX3_decisionAt_63 : decode cX3_decisionAt 63 = .ok (.getfield 73, 3) := by decide +kernel
theorem dX3_decisionAt_66 : decode cX3_decisionAt 66 = .ok (.isub, 1) := by decide +kernel
theorem dX3_decisionAt_67 : decode cX3_decisionAt 67 = .ok (.aload_n 0, 1) := by decide +kernel
theorem dX3_decisionAt_68 : decode cX3_decisionAt 68 = .ok (.getfield 12, 3) := by decide +kernel
theorem dX3_decisionAt_71 : decode cX3_decisionAt 71 = .ok (.getfield 194, 3) := by decide +kernel
theorem dX3_decisionAt_74 : decode cX3_decisionAt 74 = .ok (.if_icmp .ge 5, 3) := by decide +kernel
theorem dX3_decisionAt_77 : decode cX3_decisionAt 77 = .ok (.iconst 4, 1) := by decide +kernel
theorem dX3_decisionAt_78 : decode cX3_decisionAt 78 = .ok (.ireturn, 1) := by decide +kernel
theorem dX3_decisionAt_79 : decode cX3_decisionAt 79 = .ok (.aload_n 0, 1) := by decide +kernel
theorem dX3_decisionAt_80 : decode cX3_decisionAt 80 = .ok (.getfield 21, 3) := by decide +kernel
theorem dX3_decisionAt_83 : decode cX3_decisionAt 83 = .ok (.aload_n 0, 1) := by decide +kernel
theorem dX3_decisionAt_84 : decode cX3_decisionAt 84 = .ok (.getfield 12, 3) := by decide +kernel
theorem dX3_decisionAt_87 : decode cX3_decisionAt 87 = .ok (.getfield 197, 3) := by decide +kernel
theorem dX3_decisionAt_90 : decode cX3_decisionAt 90 = .ok (.invokevirtual 200, 3) := by decide +kernel
theorem dX3_decisionAt_93 : decode cX3_decisionAt 93 = .ok (.ifCond .ge 7, 3) := by decide +kernel
theorem dX3_decisionAt_96 : decode cX3_decisionAt 96 = .ok (.iconst 5, 1) := by decide +kernel
theorem dX3_decisionAt_97 : decode cX3_decisionAt 97 = .ok (.goto 4, 3) := by decide +kernel
theorem dX3_decisionAt_100 : decode cX3_decisionAt 100 = .ok (.iconst 1, 1) := by decide +kernel
theorem dX3_decisionAt_101 : decode cX3_decisionAt 101 = .ok (.ireturn, 1) := by decide +kernel
theorem dX3_percentUsed_0 : decode cX3_percentUsed 0 = .ok (.aload_n 0, 1) := by decide +kernel
theorem dX3_percentUsed_1 : decode cX3_percentUsed 1 = .ok (.getfield 49, 3) := by decide +kernel
theorem dX3_percentUsed_4 : decode cX3_percentUsed 4 = .ok (.ifCond .ne 5, 3) := by decide +kernel
theorem dX3_percentUsed_7 : decode cX3_percentUsed 7 = .ok (.iconst 0, 1) := by decide +kernel
theorem dX3_percentUsed_8 : decode cX3_percentUsed 8 = .ok (.ireturn, 1) := by decide +kernel
theorem dX3_percentUsed_9 : decode cX3_percentUsed 9 = .ok (.aload_n 0, 1) := by decide +kernel
theorem dX3_percentUsed_10 : decode cX3_percentUsed 10 = .ok (.iload_n 1, 1) := by decide +kernel
theorem dX3_percentUsed_11 : decode cX3_percentUsed 11 = .ok (.invokevirtual 138, 3) := by decide +kernel
theorem dX3_percentUsed_14 : decode cX3_percentUsed 14 = .ok (.istore_n 2, 1) := by decide +kernel
theorem dX3_percentUsed_15 : decode cX3_percentUsed 15 = .ok (.aload_n 0, 1) := by decide +kernel
theorem dX3_percentUsed_16 : decode cX3_percentUsed 16 = .ok (.invokevirtual 115, 3) := by decide +kernel
theorem dX3_percentUsed_19 : decode cX3_percentUsed 19 = .ok (.iload_n 2, 1) := by decide +kernel
theorem dX3_percentUsed_20 : decode cX3_percentUsed 20 = .ok (.imul, 1) := by decide +kernel
theorem dX3_percentUsed_21 : decode cX3_percentUsed 21 = .ok (.istore_n 3, 1) := by decide +kernel
theorem dX3_percentUsed_22 : decode cX3_percentUsed 22 = .ok (.iload_n 3, 1) := by decide +kernel
theorem dX3_percentUsed_23 : decode cX3_percentUsed 23 = .ok (.ifCond .gt 7, 3) := by decide +kernel
theorem dX3_percentUsed_26 : decode cX3_percentUsed 26 = .ok (.sipush 999, 3) := by decide +kernel
theorem dX3_percentUsed_29 : decode cX3_percentUsed 29 = .ok (.ireturn, 1) := by decide +kernel
theorem dX3_percentUsed_30 : decode cX3_percentUsed 30 = .ok (.sipush 999, 3) := by decide +kernel
theorem dX3_percentUsed_33 : decode cX3_percentUsed 33 = .ok (.bipush 100, 2) := by decide +kernel
theorem dX3_percentUsed_35 : decode cX3_percentUsed 35 = .ok (.aload_n 0, 1) := by decide +kernel
theorem dX3_percentUsed_36 : decode cX3_percentUsed 36 = .ok (.invokevirtual 167, 3) := by decide +kernel
theorem dX3_percentUsed_39 : decode cX3_percentUsed 39 = .ok (.imul, 1) := by decide +kernel
theorem dX3_percentUsed_40 : decode cX3_percentUsed 40 = .ok (.iload_n 3, 1) := by decide +kernel
theorem dX3_percentUsed_41 : decode cX3_percentUsed 41 = .ok (.idiv, 1) := by decide +kernel
theorem dX3_percentUsed_42 : decode cX3_percentUsed 42 = .ok (.invokestatic 106, 3) := by decide +kernel
theorem dX3_percentUsed_45 : decode cX3_percentUsed 45 = .ok (.ireturn, 1) := by decide +kernel
theorem dX3_periodThatRepeatsBest_0 : decode cX3_periodThatRepeatsBest 0 = .ok (.iconst (-1), 1) := by decide +kernel
theorem dX3_periodThatRepeatsBest_1 : decode cX3_periodThatRepeatsBest 1 = .ok (.istore_n 1, 1) := by decide +kernel
theorem dX3_periodThatRepeatsBest_2 : decode cX3_periodThatRepeatsBest 2 = .ok (.dconst 0, 1) := by decide +kernel
theorem dX3_periodThatRepeatsBest_3 : decode cX3_periodThatRepeatsBest 3 = .ok (.dstore_n 2, 1) := by decide +kernel
theorem dX3_periodThatRepeatsBest_4 : decode cX3_periodThatRepeatsBest 4 = .ok (.iconst 2, 1) := by decide +kernel
theorem dX3_periodThatRepeatsBest_5 : decode cX3_periodThatRepeatsBest 5 = .ok (.istore 4, 2) := by decide +kernel
theorem dX3_periodThatRepeatsBest_7 : decode cX3_periodThatRepeatsBest 7 = .ok (.iload 4, 2) := by decide +kernel
theorem dX3_periodThatRepeatsBest_9 : decode cX3_periodThatRepeatsBest 9 = .ok (.bipush 24, 2) := by decide +kernel
theorem dX3_periodThatRepeatsBest_11 : decode cX3_periodThatRepeatsBest 11 = .ok (.if_icmp .gt 54, 3) := by decide +kernel
theorem dX3_periodThatRepeatsBest_14 : decode cX3_periodThatRepeatsBest 14 = .ok (.aload_n 0, 1) := by decide +kernel
theorem dX3_periodThatRepeatsBest_15 : decode cX3_periodThatRepeatsBest 15 = .ok (.invokevirtual 203, 3) := by decide +kernel
theorem dX3_periodThatRepeatsBest_18 : decode cX3_periodThatRepeatsBest 18 = .ok (.iload 4, 2) := by decide +kernel
theorem dX3_periodThatRepeatsBest_20 : decode cX3_periodThatRepeatsBest 20 = .ok (.isub, 1) := by decide +kernel
theorem dX3_periodThatRepeatsBest_21 : decode cX3_periodThatRepeatsBest 21 = .ok (.istore 5, 2) := by decide +kernel
theorem dX3_periodThatRepeatsBest_23 : decode cX3_periodThatRepeatsBest 23 = .ok (.iload 5, 2) := by decide +kernel
theorem dX3_periodThatRepeatsBest_25 : decode cX3_periodThatRepeatsBest 25 = .ok (.ifCond .le 34, 3) := by decide +kernel
theorem dX3_periodThatRepeatsBest_28 : decode cX3_periodThatRepeatsBest 28 = .ok (.aload_n 0, 1) := by decide +kernel
theorem dX3_periodThatRepeatsBest_29 : decode cX3_periodThatRepeatsBest 29 = .ok (.iload 4, 2) := by decide +kernel
theorem dX3_periodThatRepeatsBest_31 : decode cX3_periodThatRepeatsBest 31 = .ok (.invokevirtual 206, 3) := by decide +kernel
theorem dX3_periodThatRepeatsBest_34 : decode cX3_periodThatRepeatsBest 34 = .ok (.i2d, 1) := by decide +kernel
theorem dX3_periodThatRepeatsBest_35 : decode cX3_periodThatRepeatsBest 35 = .ok (.iload 5, 2) := by decide +kernel
theorem dX3_periodThatRepeatsBest_37 : decode cX3_periodThatRepeatsBest 37 = .ok (.i2d, 1) := by decide +kernel
theorem dX3_periodThatRepeatsBest_38 : decode cX3_periodThatRepeatsBest 38 = .ok (.ddiv, 1) := by decide +kernel
theorem dX3_periodThatRepeatsBest_39 : decode cX3_periodThatRepeatsBest 39 = .ok (.dstore 6, 2) := by decide +kernel
theorem dX3_periodThatRepeatsBest_41 : decode cX3_periodThatRepeatsBest 41 = .ok (.iload_n 1, 1) := by decide +kernel
theorem dX3_periodThatRepeatsBest_42 : decode cX3_periodThatRepeatsBest 42 = .ok (.iconst (-1), 1) := by decide +kernel
theorem dX3_periodThatRepeatsBest_43 : decode cX3_periodThatRepeatsBest 43 = .ok (.if_icmp .eq 10, 3) := by decide +kernel
theorem dX3_periodThatRepeatsBest_46 : decode cX3_periodThatRepeatsBest 46 = .ok (.dload 6, 2) := by decide +kernel
theorem dX3_periodThatRepeatsBest_48 : decode cX3_periodThatRepeatsBest 48 = .ok (.dload_n 2, 1) := by decide +kernel
theorem dX3_periodThatRepeatsBest_49 : decode cX3_periodThatRepeatsBest 49 = .ok (.dcmp .g, 1) := by decide +kernel
theorem dX3_periodThatRepeatsBest_50 : decode cX3_periodThatRepeatsBest 50 = .ok (.ifCond .ge 9, 3) := by decide +kernel
theorem dX3_periodThatRepeatsBest_53 : decode cX3_periodThatRepeatsBest 53 = .ok (.iload 4, 2) := by decide +kernel
theorem dX3_periodThatRepeatsBest_55 : decode cX3_periodThatRepeatsBest 55 = .ok (.istore_n 1, 1) := by decide +kernel
theorem dX3_periodThatRepeatsBest_56 : decode cX3_periodThatRepeatsBest 56 = .ok (.dload 6, 2) := by decide +kernel
theorem dX3_periodThatRepeatsBest_58 : decode cX3_periodThatRepeatsBest 58 = .ok (.dstore_n 2, 1) := by decide +kernel
theorem dX3_periodThatRepeatsBest_59 : decode cX3_periodThatRepeatsBest 59 = .ok (.iinc 4 1, 3) := by decide +kernel
theorem dX3_periodThatRepeatsBest_62 : decode cX3_periodThatRepeatsBest 62 = .ok (.goto (-55), 3) := by decide +kernel
theorem dX3_periodThatRepeatsBest_65 : decode cX3_periodThatRepeatsBest 65 = .ok (.iload_n 1, 1) := by decide +kernel
theorem dX3_periodThatRepeatsBest_66 : decode cX3_periodThatRepeatsBest 66 = .ok (.ireturn, 1) := by decide +kernel
theorem dX3_sumOfDifferences_0 : decode cX3_sumOfDifferences 0 = .ok (.iconst 0, 1) := by decide +kernel
theorem dX3_sumOfDifferences_1 : decode cX3_sumOfDifferences 1 = .ok (.istore_n 2, 1) := by decide +kernel
theorem dX3_sumOfDifferences_2 : decode cX3_sumOfDifferences 2 = .ok (.iconst 0, 1) := by decide +kernel
theorem dX3_sumOfDifferences_3 : decode cX3_sumOfDifferences 3 = .ok (.istore_n 3, 1) := by decide +kernel
theorem dX3_sumOfDifferences_4 : decode cX3_sumOfDifferences 4 = .ok (.iload_n 3, 1) := by decide +kernel
theorem dX3_sumOfDifferences_5 : decode cX3_sumOfDifferences 5 = .ok (.iload_n 1, 1) := by decide +kernel
theorem dX3_sumOfDifferences_6 : decode cX3_sumOfDifferences 6 = .ok (.iadd, 1) := by decide +kernel
theorem dX3_sumOfDifferences_7 : decode cX3_sumOfDifferences 7 = .ok (.aload_n 0, 1) := by decide +kernel
theorem dX3_sumOfDifferences_8 : decode cX3_sumOfDifferences 8 = .ok (.invokevirtual 203, 3) := by decide +kernel
theorem dX3_sumOfDifferences_11 : decode cX3_sumOfDifferences 11 = .ok (.if_icmp .ge 28, 3) := by decide +kernel
theorem dX3_sumOfDifferences_14 : decode cX3_sumOfDifferences 14 = .ok (.iload_n 2, 1) := by decide +kernel
theorem dX3_sumOfDifferences_15 : decode cX3_sumOfDifferences 15 = .ok (.aload_n 0, 1) := by decide +kernel
theorem dX3_sumOfDifferences_16 : decode cX3_sumOfDifferences 16 = .ok (.iload_n 3, 1) := by decide +kernel
theorem dX3_sumOfDifferences_17 : decode cX3_sumOfDifferences 17 = .ok (.invokevirtual 119, 3) := by decide +kernel
theorem dX3_sumOfDifferences_20 : decode cX3_sumOfDifferences 20 = .ok (.aload_n 0, 1) := by decide +kernel
theorem dX3_sumOfDifferences_21 : decode cX3_sumOfDifferences 21 = .ok (.iload_n 3, 1) := by decide +kernel
theorem dX3_sumOfDifferences_22 : decode cX3_sumOfDifferences 22 = .ok (.iload_n 1, 1) := by decide +kernel
theorem dX3_sumOfDifferences_23 : decode cX3_sumOfDifferences 23 = .ok (.iadd, 1) := by decide +kernel
theorem dX3_sumOfDifferences_24 : decode cX3_sumOfDifferences 24 = .ok (.invokevirtual 119, 3) := by decide +kernel
theorem dX3_sumOfDifferences_27 : decode cX3_sumOfDifferences 27 = .ok (.isub, 1) := by decide +kernel
theorem dX3_sumOfDifferences_28 : decode cX3_sumOfDifferences 28 = .ok (.invokestatic 151, 3) := by decide +kernel
theorem dX3_sumOfDifferences_31 : decode cX3_sumOfDifferences 31 = .ok (.iadd, 1) := by decide +kernel
theorem dX3_sumOfDifferences_32 : decode cX3_sumOfDifferences 32 = .ok (.istore_n 2, 1) := by decide +kernel
theorem dX3_sumOfDifferences_33 : decode cX3_sumOfDifferences 33 = .ok (.iinc 3 1, 3) := by decide +kernel
theorem dX3_sumOfDifferences_36 : decode cX3_sumOfDifferences 36 = .ok (.goto (-32), 3) := by decide +kernel
theorem dX3_sumOfDifferences_39 : decode cX3_sumOfDifferences 39 = .ok (.iload_n 2, 1) := by decide +kernel
theorem dX3_sumOfDifferences_40 : decode cX3_sumOfDifferences 40 = .ok (.ireturn, 1) := by decide +kernel
theorem dX3_countDemands_0 : decode cX3_countDemands 0 = .ok (.iconst 0, 1) := by decide +kernel
theorem dX3_countDemands_1 : decode cX3_countDemands 1 = .ok (.istore_n 3, 1) := by decide +kernel
theorem dX3_countDemands_2 : decode cX3_countDemands 2 = .ok (.iconst 0, 1) := by decide +kernel
theorem dX3_countDemands_3 : decode cX3_countDemands 3 = .ok (.istore 4, 2) := by decide +kernel
theorem dX3_countDemands_5 : decode cX3_countDemands 5 = .ok (.iload 4, 2) := by decide +kernel
theorem dX3_countDemands_7 : decode cX3_countDemands 7 = .ok (.aload_n 0, 1) := by decide +kernel
theorem dX3_countDemands_8 : decode cX3_countDemands 8 = .ok (.invokevirtual 203, 3) := by decide +kernel
theorem dX3_countDemands_11 : decode cX3_countDemands 11 = .ok (.if_icmp .ge 32, 3) := by decide +kernel
theorem dX3_countDemands_14 : decode cX3_countDemands 14 = .ok (.aload_n 0, 1) := by decide +kernel
theorem dX3_countDemands_15 : decode cX3_countDemands 15 = .ok (.iload 4, 2) := by decide +kernel
theorem dX3_countDemands_17 : decode cX3_countDemands 17 = .ok (.invokevirtual 119, 3) := by decide +kernel
theorem dX3_countDemands_20 : decode cX3_countDemands 20 = .ok (.istore 5, 2) := by decide +kernel
theorem dX3_countDemands_22 : decode cX3_countDemands 22 = .ok (.iload_n 1, 1) := by decide +kernel
theorem dX3_countDemands_23 : decode cX3_countDemands 23 = .ok (.iload 5, 2) := by decide +kernel
theorem dX3_countDemands_25 : decode cX3_countDemands 25 = .ok (.if_icmp .gt 12, 3) := by decide +kernel
theorem dX3_countDemands_28 : decode cX3_countDemands 28 = .ok (.iload 5, 2) := by decide +kernel
theorem dX3_countDemands_30 : decode cX3_countDemands 30 = .ok (.iload_n 2, 1) := by decide +kernel
theorem dX3_countDemands_31 : decode cX3_countDemands 31 = .ok (.if_icmp .gt 6, 3) := by decide +kernel
theorem dX3_countDemands_34 : decode cX3_countDemands 34 = .ok (.iinc 3 1, 3) := by decide +kernel
theorem dX3_countDemands_37 : decode cX3_countDemands 37 = .ok (.iinc 4 1, 3) := by decide +kernel
theorem dX3_countDemands_40 : decode cX3_countDemands 40 = .ok (.goto (-35), 3) := by decide +kernel
theorem dX3_countDemands_43 : decode cX3_countDemands 43 = .ok (.iload_n 3, 1) := by decide +kernel
theorem dX3_countDemands_44 : decode cX3_countDemands 44 = .ok (.ireturn, 1) := by decide +kernel
theorem dX3_middleDemand_0 : decode cX3_middleDemand 0 = .ok (.aload_n 0, 1) := by decide +kernel
theorem dX3_middleDemand_1 : decode cX3_middleDemand 1 = .ok (.invokevirtual 203, 3) := by decide +kernel
theorem dX3_middleDemand_4 : decode cX3_middleDemand 4 = .ok (.iconst 1, 1) := by decide +kernel
theorem dX3_middleDemand_5 : decode cX3_middleDemand 5 = .ok (.isub, 1) := by decide +kernel
theorem dX3_middleDemand_6 : decode cX3_middleDemand 6 = .ok (.iconst 2, 1) := by decide +kernel
theorem dX3_middleDemand_7 : decode cX3_middleDemand 7 = .ok (.idiv, 1) := by decide +kernel
theorem dX3_middleDemand_8 : decode cX3_middleDemand 8 = .ok (.istore_n 1, 1) := by decide +kernel
theorem dX3_middleDemand_9 : decode cX3_middleDemand 9 = .ok (.iconst 0, 1) := by decide +kernel
theorem dX3_middleDemand_10 : decode cX3_middleDemand 10 = .ok (.istore_n 2, 1) := by decide +kernel
theorem dX3_middleDemand_11 : decode cX3_middleDemand 11 = .ok (.iload_n 2, 1) := by decide +kernel
theorem dX3_middleDemand_12 : decode cX3_middleDemand 12 = .ok (.aload_n 0, 1) := by decide +kernel
theorem dX3_middleDemand_13 : decode cX3_middleDemand 13 = .ok (.invokevirtual 203, 3) := by decide +kernel
theorem dX3_middleDemand_16 : decode cX3_middleDemand 16 = .ok (.if_icmp .ge 39, 3) := by decide +kernel
theorem dX3_middleDemand_19 : decode cX3_middleDemand 19 = .ok (.aload_n 0, 1) := by decide +kernel
theorem dX3_middleDemand_20 : decode cX3_middleDemand 20 = .ok (.iload_n 2, 1) := by decide +kernel
theorem dX3_middleDemand_21 : decode cX3_middleDemand 21 = .ok (.invokevirtual 119, 3) := by decide +kernel
theorem dX3_middleDemand_24 : decode cX3_middleDemand 24 = .ok (.istore_n 3, 1) := by decide +kernel
theorem dX3_middleDemand_25 : decode cX3_middleDemand 25 = .ok (.aload_n 0, 1) := by decide +kernel
theorem dX3_middleDemand_26 : decode cX3_middleDemand 26 = .ok (.iconst 0, 1) := by decide +kernel
theorem dX3_middleDemand_27 : decode cX3_middleDemand 27 = .ok (.iload_n 3, 1) := by decide +kernel
theorem dX3_middleDemand_28 : decode cX3_middleDemand 28 = .ok (.iconst 1, 1) := by decide +kernel
theorem dX3_middleDemand_29 : decode cX3_middleDemand 29 = .ok (.isub, 1) := by decide +kernel
theorem dX3_middleDemand_30 : decode cX3_middleDemand 30 = .ok (.invokevirtual 209, 3) := by decide +kernel
theorem dX3_middleDemand_33 : decode cX3_middleDemand 33 = .ok (.iload_n 1, 1) := by decide +kernel
theorem dX3_middleDemand_34 : decode cX3_middleDemand 34 = .ok (.if_icmp .gt 15, 3) := by decide +kernel
theorem dX3_middleDemand_37 : decode cX3_middleDemand 37 = .ok (.iload_n 1, 1) := by decide +kernel
theorem dX3_middleDemand_38 : decode cX3_middleDemand 38 = .ok (.aload_n 0, 1) := by decide +kernel
theorem dX3_middleDemand_39 : decode cX3_middleDemand 39 = .ok (.iconst 0, 1) := by decide +kernel
theorem dX3_middleDemand_40 : decode cX3_middleDemand 40 = .ok (.iload_n 3, 1) := by decide +kernel
theorem dX3_middleDemand_41 : decode cX3_middleDemand 41 = .ok (.invokevirtual 209, 3) := by decide +kernel
theorem dX3_middleDemand_44 : decode cX3_middleDemand 44 = .ok (.if_icmp .ge 5, 3) := by decide +kernel
theorem dX3_middleDemand_47 : decode cX3_middleDemand 47 = .ok (.iload_n 3, 1) := by decide +kernel
theorem dX3_middleDemand_48 : decode cX3_middleDemand 48 = .ok (.ireturn, 1) := by decide +kernel
theorem dX3_middleDemand_49 : decode cX3_middleDemand 49 = .ok (.iinc 2 1, 3) := by decide +kernel
theorem dX3_middleDemand_52 : decode cX3_middleDemand 52 = .ok (.goto (-41), 3) := by decide +kernel
theorem dX3_middleDemand_55 : decode cX3_middleDemand 55 = .ok (.iconst 0, 1) := by decide +kernel
theorem dX3_middleDemand_56 : decode cX3_middleDemand 56 = .ok (.ireturn, 1) := by decide +kernel
theorem dX4_init_0 : decode cX4_init 0 = .ok (.aload_n 0, 1) := by decide +kernel
theorem dX4_init_1 : decode cX4_init 1 = .ok (.invokespecial 3, 3) := by decide +kernel
theorem dX4_init_4 : decode cX4_init 4 = .ok (.aload_n 0, 1) := by decide +kernel
theorem dX4_init_5 : decode cX4_init 5 = .ok (.bipush 24, 2) := by decide +kernel
theorem dX4_init_7 : decode cX4_init 7 = .ok (.newarray .int, 2) := by decide +kernel
theorem dX4_init_9 : decode cX4_init 9 = .ok (.putfield 9, 3) := by decide +kernel
theorem dX4_init_12 : decode cX4_init 12 = .ok (.return_, 1) := by decide +kernel
theorem dX4_begin_0 : decode cX4_begin 0 = .ok (.aload_n 0, 1) := by decide +kernel
theorem dX4_begin_1 : decode cX4_begin 1 = .ok (.iload_n 1, 1) := by decide +kernel
theorem dX4_begin_2 : decode cX4_begin 2 = .ok (.putfield 15, 3) := by decide +kernel
theorem dX4_begin_5 : decode cX4_begin 5 = .ok (.aload_n 0, 1) := by decide +kernel
theorem dX4_begin_6 : decode cX4_begin 6 = .ok (.iload_n 2, 1) := by decide +kernel
theorem dX4_begin_7 : decode cX4_begin 7 = .ok (.putfield 19, 3) := by decide +kernel
theorem dX4_begin_10 : decode cX4_begin 10 = .ok (.aload_n 0, 1) := by decide +kernel
theorem dX4_begin_11 : decode cX4_begin 11 = .ok (.iload_n 3, 1) := by decide +kernel
theorem dX4_begin_12 : decode cX4_begin 12 = .ok (.putfield 22, 3) := by decide +kernel
theorem dX4_begin_15 : decode cX4_begin 15 = .ok (.aload_n 0, 1) := by decide +kernel
theorem dX4_begin_16 : decode cX4_begin 16 = .ok (.bipush 70, 2) := by decide +kernel
theorem dX4_begin_18 : decode cX4_begin 18 = .ok (.putfield 25, 3) := by decide +kernel
theorem dX4_begin_21 : decode cX4_begin 21 = .ok (.aload_n 0, 1) := by decide +kernel
theorem dX4_begin_22 : decode cX4_begin 22 = .ok (.iconst 2, 1) := by decide +kernel
theorem dX4_begin_23 : decode cX4_begin 23 = .ok (.putfield 28, 3) := by decide +kernel
theorem dX4_begin_26 : decode cX4_begin 26 = .ok (.aload_n 0, 1) := by decide +kernel
theorem dX4_begin_27 : decode cX4_begin 27 = .ok (.iconst 4, 1) := by decide +kernel
theorem dX4_begin_28 : decode cX4_begin 28 = .ok (.putfield 31, 3) := by decide +kernel
theorem dX4_begin_31 : decode cX4_begin 31 = .ok (.aload_n 0, 1) := by decide +kernel
theorem dX4_begin_32 : decode cX4_begin 32 = .ok (.iconst 2, 1) := by decide +kernel
theorem dX4_begin_33 : decode cX4_begin 33 = .ok (.putfield 34, 3) := by decide +kernel
theorem dX4_begin_36 : decode cX4_begin 36 = .ok (.aload_n 0, 1) := by decide +kernel
theorem dX4_begin_37 : decode cX4_begin 37 = .ok (.iconst 0, 1) := by decide +kernel
theorem dX4_begin_38 : decode cX4_begin 38 = .ok (.putfield 37, 3) := by decide +kernel
theorem dX4_begin_41 : decode cX4_begin 41 = .ok (.aload_n 0, 1) := by decide +kernel
theorem dX4_begin_42 : decode cX4_begin 42 = .ok (.iconst 0, 1) := by decide +kernel
theorem dX4_begin_43 : decode cX4_begin 43 = .ok (.putfield 40, 3) := by decide +kernel
theorem dX4_begin_46 : decode cX4_begin 46 = .ok (.aload_n 0, 1) := by decide +kernel
theorem dX4_begin_47 : decode cX4_begin 47 = .ok (.iconst 0, 1) := by decide +kernel
theorem dX4_begin_48 : decode cX4_begin 48 = .ok (.putfield 43, 3) := by decide +kernel
theorem dX4_begin_51 : decode cX4_begin 51 = .ok (.aload_n 0, 1) := by decide +kernel
theorem dX4_begin_52 : decode cX4_begin 52 = .ok (.iconst 1, 1) := by decide +kernel
theorem dX4_begin_53 : decode cX4_begin 53 = .ok (.putfield 46, 3) := by decide +kernel
theorem dX4_begin_56 : decode cX4_begin 56 = .ok (.aload_n 0, 1) := by decide +kernel
theorem dX4_begin_57 : decode cX4_begin 57 = .ok (.iconst 1, 1) := by decide +kernel
theorem dX4_begin_58 : decode cX4_begin 58 = .ok (.putfield 49, 3) := by decide +kernel
theorem dX4_begin_61 : decode cX4_begin 61 = .ok (.aload_n 0, 1) := by decide +kernel
theorem dX4_begin_62 : decode cX4_begin 62 = .ok (.iconst 3, 1) := by decide +kernel
theorem dX4_begin_63 : decode cX4_begin 63 = .ok (.putfield 52, 3) := by decide +kernel
theorem dX4_begin_66 : decode cX4_begin 66 = .ok (.aload_n 0, 1) := by decide +kernel
theorem dX4_begin_67 : decode cX4_begin 67 = .ok (.iconst 5, 1) := by decide +kernel
theorem dX4_begin_68 : decode cX4_begin 68 = .ok (.putfield 55, 3) := by decide +kernel
theorem dX4_begin_71 : decode cX4_begin 71 = .ok (.aload_n 0, 1) := by decide +kernel
theorem dX4_begin_72 : decode cX4_begin 72 = .ok (.iconst 1, 1) := by decide +kernel
theorem dX4_begin_73 : decode cX4_begin 73 = .ok (.putfield 58, 3) := by decide +kernel
theorem dX4_begin_76 : decode cX4_begin 76 = .ok (.aload_n 0, 1) := by decide +kernel
theorem dX4_begin_77 : decode cX4_begin 77 = .ok (.iconst 1, 1) := by decide +kernel
theorem dX4_begin_78 : decode cX4_begin 78 = .ok (.putfield 61, 3) := by decide +kernel
theorem dX4_begin_81 : decode cX4_begin 81 = .ok (.aload_n 0, 1) := by decide +kernel
theorem dX4_begin_82 : decode cX4_begin 82 = .ok (.iconst 0, 1) := by decide +kernel
theorem dX4_begin_83 : decode cX4_begin 83 = .ok (.putfield 64, 3) := by decide +kernel
theorem dX4_begin_86 : decode cX4_begin 86 = .ok (.return_, 1) := by decide +kernel
theorem dX4_copyFrom_0 : decode cX4_copyFrom 0 = .ok (.aload_n 0, 1) := by decide +kernel
theorem dX4_copyFrom_1 : decode cX4_copyFrom 1 = .ok (.aload_n 1, 1) := by decide +kernel
theorem dX4_copyFrom_2 : decode cX4_copyFrom 2 = .ok (.getfield 15, 3) := by decide +kernel
theorem dX4_copyFrom_5 : decode cX4_copyFrom 5 = .ok (.putfield 15, 3) := by decide +kernel
theorem dX4_copyFrom_8 : decode cX4_copyFrom 8 = .ok (.aload_n 0, 1) := by decide +kernel
theorem dX4_copyFrom_9 : decode cX4_copyFrom 9 = .ok (.aload_n 1, 1) := by decide +kernel
theorem dX4_copyFrom_10 : decode cX4_copyFrom 10 = .ok (.getfield 19, 3) := by decide +kernel
theorem dX4_copyFrom_13 : decode cX4_copyFrom 13 = .ok (.putfield 19, 3) := by decide +kernel
theorem dX4_copyFrom_16 : decode cX4_copyFrom 16 = .ok (.aload_n 0, 1) := by decide +kernel
theorem dX4_copyFrom_17 : decode cX4_copyFrom 17 = .ok (.aload_n 1, 1) := by decide +kernel
theorem dX4_copyFrom_18 : decode cX4_copyFrom 18 = .ok (.getfield 22, 3) := by decide +kernel
theorem dX4_copyFrom_21 : decode cX4_copyFrom 21 = .ok (.putfield 22, 3) := by decide +kernel
theorem dX4_copyFrom_24 : decode cX4_copyFrom 24 = .ok (.aload_n 0, 1) := by decide +kernel
theorem dX4_copyFrom_25 : decode cX4_copyFrom 25 = .ok (.aload_n 1, 1) := by decide +kernel
theorem dX4_copyFrom_26 : decode cX4_copyFrom 26 = .ok (.getfield 25, 3) := by decide +kernel
theorem dX4_copyFrom_29 : decode cX4_copyFrom 29 = .ok (.putfield 25, 3) := by decide +kernel
theorem dX4_copyFrom_32 : decode cX4_copyFrom 32 = .ok (.aload_n 0, 1) := by decide +kernel
theorem dX4_copyFrom_33 : decode cX4_copyFrom 33 = .ok (.aload_n 1, 1) := by decide +kernel
theorem dX4_copyFrom_34 : decode cX4_copyFrom 34 = .ok (.getfield 28, 3) := by decide +kernel
theorem dX4_copyFrom_37 : decode cX4_copyFrom 37 = .ok (.putfield 28, 3) := by decide +kernel
theorem dX4_copyFrom_40 : decode cX4_copyFrom 40 = .ok (.aload_n 0, 1) := by decide +kernel
theorem dX4_copyFrom_41 : decode cX4_copyFrom 41 = .ok (.aload_n 1, 1) := by decide +kernel
theorem dX4_copyFrom_42 : decode cX4_copyFrom 42 = .ok (.getfield 31, 3) := by decide +kernel
theorem dX4_copyFrom_45 : decode cX4_copyFrom 45 = .ok (.putfield 31, 3) := by decide +kernel
theorem dX4_copyFrom_48 : decode cX4_copyFrom 48 = .ok (.aload_n 0, 1) := by decide +kernel
theorem dX4_copyFrom_49 : decode cX4_copyFrom 49 = .ok (.aload_n 1, 1) := by decide +kernel
theorem dX4_copyFrom_50 : decode cX4_copyFrom 50 = .ok (.getfield 34, 3) := by decide +kernel
theorem dX4_copyFrom_53 : decode cX4_copyFrom 53 = .ok (.putfield 34, 3) := by decide +kernel
theorem dX4_copyFrom_56 : decode cX4_copyFrom 56 = .ok (.aload_n 0, 1) := by decide +kernel
theorem dX4_copyFrom_57 : decode cX4_copyFrom 57 = .ok (.aload_n 1, 1) := by decide +kernel
theorem dX4_copyFrom_58 : decode cX4_copyFrom 58 = .ok (.getfield 37, 3) := by decide +kernel
theorem dX4_copyFrom_61 : decode cX4_copyFrom 61 = .ok (.putfield 37, 3) := by decide +kernel
theorem dX4_copyFrom_64 : decode cX4_copyFrom 64 = .ok (.aload_n 0, 1) := by decide +kernel
theorem dX4_copyFrom_65 : decode cX4_copyFrom 65 = .ok (.aload_n 1, 1) := by decide +kernel
theorem dX4_copyFrom_66 : decode cX4_copyFrom 66 = .ok (.getfield 40, 3) := by decide +kernel
theorem dX4_copyFrom_69 : decode cX4_copyFrom 69 = .ok (.putfield 40, 3) := by decide +kernel
theorem dX4_copyFrom_72 : decode cX4_copyFrom 72 = .ok (.aload_n 0, 1) := by decide +kernel
theorem dX4_copyFrom_73 : decode cX4_copyFrom 73 = .ok (.aload_n 1, 1) := by decide +kernel
theorem dX4_copyFrom_74 : decode cX4_copyFrom 74 = .ok (.getfield 43, 3) := by decide +kernel
theorem dX4_copyFrom_77 : decode cX4_copyFrom 77 = .ok (.putfield 43, 3) := by decide +kernel
theorem dX4_copyFrom_80 : decode cX4_copyFrom 80 = .ok (.aload_n 0, 1) := by decide +kernel
theorem dX4_copyFrom_81 : decode cX4_copyFrom 81 = .ok (.aload_n 1, 1) := by decide +kernel
theorem dX4_copyFrom_82 : decode cX4_copyFrom 82 = .ok (.getfield 46, 3) := by decide +kernel
theorem dX4_copyFrom_85 : decode cX4_copyFrom 85 = .ok (.putfield 46, 3) := by decide +kernel
theorem dX4_copyFrom_88 : decode cX4_copyFrom 88 = .ok (.aload_n 0, 1) := by decide +kernel
theorem dX4_copyFrom_89 : decode cX4_copyFrom 89 = .ok (.aload_n 1, 1) := by decide +kernel
theorem dX4_copyFrom_90 : decode cX4_copyFrom 90 = .ok (.getfield 49, 3) := by decide +kernel
theorem dX4_copyFrom_93 : decode cX4_copyFrom 93 = .ok (.putfield 49, 3) := by decide +kernel
theorem dX4_copyFrom_96 : decode cX4_copyFrom 96 = .ok (.aload_n 0, 1) := by decide +kernel
theorem dX4_copyFrom_97 : decode cX4_copyFrom 97 = .ok (.aload_n 1, 1) := by decide +kernel
theorem dX4_copyFrom_98 : decode cX4_copyFrom 98 = .ok (.getfield 52, 3) := by decide +kernel
theorem dX4_copyFrom_101 : decode cX4_copyFrom 101 = .ok (.putfield 52, 3) := by decide +kernel
theorem dX4_copyFrom_104 : decode cX4_copyFrom 104 = .ok (.aload_n 0, 1) := by decide +kernel
theorem dX4_copyFrom_105 : decode cX4_copyFrom 105 = .ok (.aload_n 1, 1) := by decide +kernel
theorem dX4_copyFrom_106 : decode cX4_copyFrom 106 = .ok (.getfield 55, 3) := by decide +kernel
theorem dX4_copyFrom_109 : decode cX4_copyFrom 109 = .ok (.putfield 55, 3) := by decide +kernel
theorem dX4_copyFrom_112 : decode cX4_copyFrom 112 = .ok (.aload_n 0, 1) := by decide +kernel
theorem dX4_copyFrom_113 : decode cX4_copyFrom 113 = .ok (.aload_n 1, 1) := by decide +kernel
theorem dX4_copyFrom_114 : decode cX4_copyFrom 114 = .ok (.getfield 58, 3) := by decide +kernel
theorem dX4_copyFrom_117 : decode cX4_copyFrom 117 = .ok (.putfield 58, 3) := by decide +kernel
theorem dX4_copyFrom_120 : decode cX4_copyFrom 120 = .ok (.aload_n 0, 1) := by decide +kernel
theorem dX4_copyFrom_121 : decode cX4_copyFrom 121 = .ok (.aload_n 1, 1) := by decide +kernel
theorem dX4_copyFrom_122 : decode cX4_copyFrom 122 = .ok (.getfield 61, 3) := by decide +kernel
theorem dX4_copyFrom_125 : decode cX4_copyFrom 125 = .ok (.putfield 61, 3) := by decide +kernel
theorem dX4_copyFrom_128 : decode cX4_copyFrom 128 = .ok (.aload_n 1, 1) := by decide +kernel
theorem dX4_copyFrom_129 : decode cX4_copyFrom 129 = .ok (.getfield 9, 3) := by decide +kernel
theorem dX4_copyFrom_132 : decode cX4_copyFrom 132 = .ok (.iconst 0, 1) := by decide +kernel
theorem dX4_copyFrom_133 : decode cX4_copyFrom 133 = .ok (.aload_n 0, 1) := by decide +kernel
theorem dX4_copyFrom_134 : decode cX4_copyFrom 134 = .ok (.getfield 9, 3) := by decide +kernel
theorem dX4_copyFrom_137 : decode cX4_copyFrom 137 = .ok (.iconst 0, 1) := by decide +kernel
theorem dX4_copyFrom_138 : decode cX4_copyFrom 138 = .ok (.bipush 24, 2) := by decide +kernel
theorem dX4_copyFrom_140 : decode cX4_copyFrom 140 = .ok (.invokestatic 67, 3) := by decide +kernel
theorem dX4_copyFrom_143 : decode cX4_copyFrom 143 = .ok (.aload_n 0, 1) := by decide +kernel
theorem dX4_copyFrom_144 : decode cX4_copyFrom 144 = .ok (.aload_n 1, 1) := by decide +kernel
theorem dX4_copyFrom_145 : decode cX4_copyFrom 145 = .ok (.getfield 64, 3) := by decide +kernel
theorem dX4_copyFrom_148 : decode cX4_copyFrom 148 = .ok (.putfield 64, 3) := by decide +kernel
theorem dX4_copyFrom_151 : decode cX4_copyFrom 151 = .ok (.return_, 1) := by decide +kernel
theorem dX4_numbered_0 : decode cX4_numbered 0 = .ok (.iload_n 1, 1) := by decide +kernel
theorem dX4_numbered_1 : decode cX4_numbered 1 = .ok (.tableswitch 171 0 18 #[91, 96, 101, 171, 171, 171, 106, 111, 116, 121, 126, 131, 136, 141, 146, 151, 156, 161, 166], 91) := by decide +kernel
theorem dX4_numbered_92 : decode cX4_numbered 92 = .ok (.aload_n 0, 1) := by decide +kernel
theorem dX4_numbered_93 : decode cX4_numbered 93 = .ok (.getfield 15, 3) := by decide +kernel
theorem dX4_numbered_96 : decode cX4_numbered 96 = .ok (.ireturn, 1) := by decide +kernel
theorem dX4_numbered_97 : decode cX4_numbered 97 = .ok (.aload_n 0, 1) := by decide +kernel
theorem dX4_numbered_98 : decode cX4_numbered 98 = .ok (.getfield 19, 3) := by decide +kernel
theorem dX4_numbered_101 : decode cX4_numbered 101 = .ok (.ireturn, 1) := by decide +kernel
theorem dX4_numbered_102 : decode cX4_numbered 102 = .ok (.aload_n 0, 1) := by decide +kernel
theorem dX4_numbered_103 : decode cX4_numbered 103 = .ok (.getfield 22, 3) := by decide +kernel
theorem dX4_numbered_106 : decode cX4_numbered 106 = .ok (.ireturn, 1) := by decide +kernel
theorem dX4_numbered_107 : decode cX4_numbered 107 = .ok (.aload_n 0, 1) := by decide +kernel
theorem dX4_numbered_108 : decode cX4_numbered 108 = .ok (.getfield 25, 3) := by decide +kernel
theorem dX4_numbered_111 : decode cX4_numbered 111 = .ok (.ireturn, 1) := by decide +kernel
theorem dX4_numbered_112 : decode cX4_numbered 112 = .ok (.aload_n 0, 1) := by decide +kernel
theorem dX4_numbered_113 : decode cX4_numbered 113 = .ok (.getfield 28, 3) := by decide +kernel
theorem dX4_numbered_116 : decode cX4_numbered 116 = .ok (.ireturn, 1) := by decide +kernel
theorem dX4_numbered_117 : decode cX4_numbered 117 = .ok (.aload_n 0, 1) := by decide +kernel
theorem dX4_numbered_118 : decode cX4_numbered 118 = .ok (.getfield 31, 3) := by decide +kernel
theorem dX4_numbered_121 : decode cX4_numbered 121 = .ok (.ireturn, 1) := by decide +kernel
theorem dX4_numbered_122 : decode cX4_numbered 122 = .ok (.aload_n 0, 1) := by decide +kernel
theorem dX4_numbered_123 : decode cX4_numbered 123 = .ok (.getfield 34, 3) := by decide +kernel
theorem dX4_numbered_126 : decode cX4_numbered 126 = .ok (.ireturn, 1) := by decide +kernel
theorem dX4_numbered_127 : decode cX4_numbered 127 = .ok (.aload_n 0, 1) := by decide +kernel
theorem dX4_numbered_128 : decode cX4_numbered 128 = .ok (.getfield 37, 3) := by decide +kernel
theorem dX4_numbered_131 : decode cX4_numbered 131 = .ok (.ireturn, 1) := by decide +kernel
theorem dX4_numbered_132 : decode cX4_numbered 132 = .ok (.aload_n 0, 1) := by decide +kernel
theorem dX4_numbered_133 : decode cX4_numbered 133 = .ok (.getfield 40, 3) := by decide +kernel
theorem dX4_numbered_136 : decode cX4_numbered 136 = .ok (.ireturn, 1) := by decide +kernel
theorem dX4_numbered_137 : decode cX4_numbered 137 = .ok (.aload_n 0, 1) := by decide +kernel
theorem dX4_numbered_138 : decode cX4_numbered 138 = .ok (.getfield 43, 3) := by decide +kernel
theorem dX4_numbered_141 : decode cX4_numbered 141 = .ok (.ireturn, 1) := by decide +kernel
theorem dX4_numbered_142 : decode cX4_numbered 142 = .ok (.aload_n 0, 1) := by decide +kernel
theorem dX4_numbered_143 : decode cX4_numbered 143 = .ok (.getfield 46, 3) := by decide +kernel
theorem dX4_numbered_146 : decode cX4_numbered 146 = .ok (.ireturn, 1) := by decide +kernel
theorem dX4_numbered_147 : decode cX4_numbered 147 = .ok (.aload_n 0, 1) := by decide +kernel
theorem dX4_numbered_148 : decode cX4_numbered 148 = .ok (.getfield 49, 3) := by decide +kernel
theorem dX4_numbered_151 : decode cX4_numbered 151 = .ok (.ireturn, 1) := by decide +kernel
theorem dX4_numbered_152 : decode cX4_numbered 152 = .ok (.aload_n 0, 1) := by decide +kernel
theorem dX4_numbered_153 : decode cX4_numbered 153 = .ok (.getfield 52, 3) := by decide +kernel
theorem dX4_numbered_156 : decode cX4_numbered 156 = .ok (.ireturn, 1) := by decide +kernel
theorem dX4_numbered_157 : decode cX4_numbered 157 = .ok (.aload_n 0, 1) := by decide +kernel
theorem dX4_numbered_158 : decode cX4_numbered 158 = .ok (.getfield 55, 3) := by decide +kernel
theorem dX4_numbered_161 : decode cX4_numbered 161 = .ok (.ireturn, 1) := by decide +kernel
theorem dX4_numbered_162 : decode cX4_numbered 162 = .ok (.aload_n 0, 1) := by decide +kernel
theorem dX4_numbered_163 : decode cX4_numbered 163 = .ok (.getfield 58, 3) := by decide +kernel
theorem dX4_numbered_166 : decode cX4_numbered 166 = .ok (.ireturn, 1) := by decide +kernel
theorem dX4_numbered_167 : decode cX4_numbered 167 = .ok (.aload_n 0, 1) := by decide +kernel
theorem dX4_numbered_168 : decode cX4_numbered 168 = .ok (.getfield 61, 3) := by decide +kernel
theorem dX4_numbered_171 : decode cX4_numbered 171 = .ok (.ireturn, 1) := by decide +kernel
theorem dX4_numbered_172 : decode cX4_numbered 172 = .ok (.iconst (-1), 1) := by decide +kernel
theorem dX4_numbered_173 : decode cX4_numbered 173 = .ok (.ireturn, 1) := by decide +kernel
theorem dX4_tryPolicy_0 : decode cX4_tryPolicy 0 = .ok (.iload_n 1, 1) := by decide +kernel
theorem dX4_tryPolicy_1 : decode cX4_tryPolicy 1 = .ok (.iconst 2, 1) := by decide +kernel
theorem dX4_tryPolicy_2 : decode cX4_tryPolicy 2 = .ok (.if_icmp .eq 11, 3) := by decide +kernel
theorem dX4_tryPolicy_5 : decode cX4_tryPolicy 5 = .ok (.aload_n 0, 1) := by decide +kernel
theorem dX4_tryPolicy_6 : decode cX4_tryPolicy 6 = .ok (.iconst 0, 1) := by decide +kernel
theorem dX4_tryPolicy_7 : decode cX4_tryPolicy 7 = .ok (.putfield 40, 3) := by decide +kernel
theorem dX4_tryPolicy_10 : decode cX4_tryPolicy 10 = .ok (.goto 17, 3) := by decide +kernel
theorem dX4_tryPolicy_13 : decode cX4_tryPolicy 13 = .ok (.aload_n 0, 1) := by decide +kernel
theorem dX4_tryPolicy_14 : decode cX4_tryPolicy 14 = .ok (.getfield 37, 3) := by decide +kernel
theorem dX4_tryPolicy_17 : decode cX4_tryPolicy 17 = .ok (.iconst 2, 1) := by decide +kernel
theorem dX4_tryPolicy_18 : decode cX4_tryPolicy 18 = .ok (.if_icmp .eq 9, 3) := by decide +kernel
theorem dX4_tryPolicy_21 : decode cX4_tryPolicy 21 = .ok (.aload_n 0, 1) := by decide +kernel
theorem dX4_tryPolicy_22 : decode cX4_tryPolicy 22 = .ok (.bipush 24, 2) := by decide +kernel
theorem dX4_tryPolicy_24 : decode cX4_tryPolicy 24 = .ok (.putfield 40, 3) := by decide +kernel
theorem dX4_tryPolicy_27 : decode cX4_tryPolicy 27 = .ok (.aload_n 0, 1) := by decide +kernel
theorem dX4_tryPolicy_28 : decode cX4_tryPolicy 28 = .ok (.iload_n 1, 1) := by decide +kernel
theorem dX4_tryPolicy_29 : decode cX4_tryPolicy 29 = .ok (.putfield 37, 3) := by decide +kernel
theorem dX4_tryPolicy_32 : decode cX4_tryPolicy 32 = .ok (.return_, 1) := by decide +kernel
theorem dX4_loadAt_0 : decode cX4_loadAt 0 = .ok (.aload_n 0, 1) := by decide +kernel
theorem dX4_loadAt_1 : decode cX4_loadAt 1 = .ok (.getfield 64, 3) := by decide +kernel
theorem dX4_loadAt_4 : decode cX4_loadAt 4 = .ok (.ifCond .gt 7, 3) := by decide +kernel
theorem dX4_loadAt_7 : decode cX4_loadAt 7 = .ok (.iconst 0, 1) := by decide +kernel
theorem dX4_loadAt_8 : decode cX4_loadAt 8 = .ok (.goto 16, 3) := by decide +kernel
theorem dX4_loadAt_11 : decode cX4_loadAt 11 = .ok (.aload_n 0, 1) := by decide +kernel
theorem dX4_loadAt_12 : decode cX4_loadAt 12 = .ok (.getfield 9, 3) := by decide +kernel
theorem dX4_loadAt_15 : decode cX4_loadAt 15 = .ok (.iload_n 1, 1) := by decide +kernel
theorem dX4_loadAt_16 : decode cX4_loadAt 16 = .ok (.aload_n 0, 1) := by decide +kernel
theorem dX4_loadAt_17 : decode cX4_loadAt 17 = .ok (.getfield 64, 3) := by decide +kernel
theorem dX4_loadAt_20 : decode cX4_loadAt 20 = .ok (.invokestatic 73, 3) := by decide +kernel
theorem dX4_loadAt_23 : decode cX4_loadAt 23 = .ok (.iaload, 1) := by decide +kernel
theorem dX4_loadAt_24 : decode cX4_loadAt 24 = .ok (.ireturn, 1) := by decide +kernel
theorem dX4_sizeFor_0 : decode cX4_sizeFor 0 = .ok (.bipush 100, 2) := by decide +kernel
theorem dX4_sizeFor_2 : decode cX4_sizeFor 2 = .ok (.iload_n 1, 1) := by decide +kernel
theorem dX4_sizeFor_3 : decode cX4_sizeFor 3 = .ok (.imul, 1) := by decide +kernel
theorem dX4_sizeFor_4 : decode cX4_sizeFor 4 = .ok (.aload_n 0, 1) := by decide +kernel
theorem dX4_sizeFor_5 : decode cX4_sizeFor 5 = .ok (.getfield 25, 3) := by decide +kernel
theorem dX4_sizeFor_8 : decode cX4_sizeFor 8 = .ok (.aload_n 0, 1) := by decide +kernel
theorem dX4_sizeFor_9 : decode cX4_sizeFor 9 = .ok (.getfield 22, 3) := by decide +kernel
theorem dX4_sizeFor_12 : decode cX4_sizeFor 12 = .ok (.imul, 1) := by decide +kernel
theorem dX4_sizeFor_13 : decode cX4_sizeFor 13 = .ok (.invokestatic 79, 3) := by decide +kernel
theorem dX4_sizeFor_16 : decode cX4_sizeFor 16 = .ok (.istore_n 2, 1) := by decide +kernel
theorem dX4_sizeFor_17 : decode cX4_sizeFor 17 = .ok (.aload_n 0, 1) := by decide +kernel
theorem dX4_sizeFor_18 : decode cX4_sizeFor 18 = .ok (.getfield 19, 3) := by decide +kernel
theorem dX4_sizeFor_21 : decode cX4_sizeFor 21 = .ok (.aload_n 0, 1) := by decide +kernel
theorem dX4_sizeFor_22 : decode cX4_sizeFor 22 = .ok (.getfield 15, 3) := by decide +kernel
theorem dX4_sizeFor_25 : decode cX4_sizeFor 25 = .ok (.iload_n 2, 1) := by decide +kernel
theorem dX4_sizeFor_26 : decode cX4_sizeFor 26 = .ok (.invokestatic 82, 3) := by decide +kernel
theorem dX4_sizeFor_29 : decode cX4_sizeFor 29 = .ok (.invokestatic 84, 3) := by decide +kernel
theorem dX4_sizeFor_32 : decode cX4_sizeFor 32 = .ok (.ireturn, 1) := by decide +kernel
theorem dX5_init_0 : decode cX5_init 0 = .ok (.aload_n 0, 1) := by decide +kernel
theorem dX5_init_1 : decode cX5_init 1 = .ok (.invokespecial 3, 3) := by decide +kernel
theorem dX5_init_4 : decode cX5_init 4 = .ok (.aload_n 0, 1) := by decide +kernel
theorem dX5_init_5 : decode cX5_init 5 = .ok (.iconst 0, 1) := by decide +kernel
theorem dX5_init_6 : decode cX5_init 6 = .ok (.newarray .byte, 2) := by decide +kernel
theorem dX5_init_8 : decode cX5_init 8 = .ok (.putfield 9, 3) := by decide +kernel
theorem dX5_init_11 : decode cX5_init 11 = .ok (.return_, 1) := by decide +kernel
theorem dX5_readSetup_0 : decode cX5_readSetup 0 = .ok (.aload_n 0, 1) := by decide +kernel
theorem dX5_readSetup_1 : decode cX5_readSetup 1 = .ok (.aload_n 1, 1) := by decide +kernel
theorem dX5_readSetup_2 : decode cX5_readSetup 2 = .ok (.putfield 9, 3) := by decide +kernel
theorem dX5_readSetup_5 : decode cX5_readSetup 5 = .ok (.aload_n 0, 1) := by decide +kernel
theorem dX5_readSetup_6 : decode cX5_readSetup 6 = .ok (.iload_n 2, 1) := by decide +kernel
theorem dX5_readSetup_7 : decode cX5_readSetup 7 = .ok (.aload_n 1, 1) := by decide +kernel
theorem dX5_readSetup_8 : decode cX5_readSetup 8 = .ok (.arraylength, 1) := by decide +kernel
theorem dX5_readSetup_9 : decode cX5_readSetup 9 = .ok (.invokestatic 15, 3) := by decide +kernel
theorem dX5_readSetup_12 : decode cX5_readSetup 12 = .ok (.putfield 21, 3) := by decide +kernel
theorem dX5_readSetup_15 : decode cX5_readSetup 15 = .ok (.aload_n 0, 1) := by decide +kernel
theorem dX5_readSetup_16 : decode cX5_readSetup 16 = .ok (.iconst 0, 1) := by decide +kernel
theorem dX5_readSetup_17 : decode cX5_readSetup 17 = .ok (.putfield 25, 3) := by decide +kernel
theorem dX5_readSetup_20 : decode cX5_readSetup 20 = .ok (.aload_n 0, 1) := by decide +kernel
theorem dX5_readSetup_21 : decode cX5_readSetup 21 = .ok (.iconst 0, 1) := by decide +kernel
theorem dX5_readSetup_22 : decode cX5_readSetup 22 = .ok (.putfield 28, 3) := by decide +kernel
theorem dX5_readSetup_25 : decode cX5_readSetup 25 = .ok (.aload_n 0, 1) := by decide +kernel
theorem dX5_readSetup_26 : decode cX5_readSetup 26 = .ok (.iconst (-1), 1) := by decide +kernel
theorem dX5_readSetup_27 : decode cX5_readSetup 27 = .ok (.putfield 31, 3) := by decide +kernel
theorem dX5_readSetup_30 : decode cX5_readSetup 30 = .ok (.aload_n 3, 1) := by decide +kernel
theorem dX5_readSetup_31 : decode cX5_readSetup 31 = .ok (.invokevirtual 34, 3) := by decide +kernel
theorem dX5_readSetup_34 : decode cX5_readSetup 34 = .ok (.iconst 0, 1) := by decide +kernel
theorem dX5_readSetup_35 : decode cX5_readSetup 35 = .ok (.istore 4, 2) := by decide +kernel
theorem dX5_readSetup_37 : decode cX5_readSetup 37 = .ok (.iload 4, 2) := by decide +kernel
theorem dX5_readSetup_39 : decode cX5_readSetup 39 = .ok (.aload_n 0, 1) := by decide +kernel
theorem dX5_readSetup_40 : decode cX5_readSetup 40 = .ok (.getfield 21, 3) := by decide +kernel
theorem dX5_readSetup_43 : decode cX5_readSetup 43 = .ok (.if_icmp .gt 36, 3) := by decide +kernel
theorem dX5_readSetup_46 : decode cX5_readSetup 46 = .ok (.aload_n 0, 1) := by decide +kernel
theorem dX5_readSetup_47 : decode cX5_readSetup 47 = .ok (.invokevirtual 39, 3) := by decide +kernel
theorem dX5_readSetup_50 : decode cX5_readSetup 50 = .ok (.aload_n 0, 1) := by decide +kernel
theorem dX5_readSetup_51 : decode cX5_readSetup 51 = .ok (.getfield 42, 3) := by decide +kernel
theorem dX5_readSetup_54 : decode cX5_readSetup 54 = .ok (.ifCond .ne 6, 3) := by decide +kernel
theorem dX5_readSetup_57 : decode cX5_readSetup 57 = .ok (.goto 22, 3) := by decide +kernel
theorem dX5_readSetup_60 : decode cX5_readSetup 60 = .ok (.aload_n 0, 1) := by decide +kernel
theorem dX5_readSetup_61 : decode cX5_readSetup 61 = .ok (.aload_n 3, 1) := by decide +kernel
theorem dX5_readSetup_62 : decode cX5_readSetup 62 = .ok (.invokevirtual 45, 3) := by decide +kernel
theorem dX5_readSetup_65 : decode cX5_readSetup 65 = .ok (.aload_n 0, 1) := by decide +kernel
theorem dX5_readSetup_66 : decode cX5_readSetup 66 = .ok (.getfield 28, 3) := by decide +kernel
theorem dX5_readSetup_69 : decode cX5_readSetup 69 = .ok (.ifCond .eq 4, 3) := by decide +kernel
theorem dX5_readSetup_72 : decode cX5_readSetup 72 = .ok (.return_, 1) := by decide +kernel
theorem dX5_readSetup_73 : decode cX5_readSetup 73 = .ok (.iinc 4 1, 3) := by decide +kernel
theorem dX5_readSetup_76 : decode cX5_readSetup 76 = .ok (.goto (-39), 3) := by decide +kernel
theorem dX5_readSetup_79 : decode cX5_readSetup 79 = .ok (.aload_n 3, 1) := by decide +kernel
theorem dX5_readSetup_80 : decode cX5_readSetup 80 = .ok (.getfield 49, 3) := by decide +kernel
theorem dX5_readSetup_83 : decode cX5_readSetup 83 = .ok (.ifCond .ne 8, 3) := by decide +kernel
theorem dX5_readSetup_86 : decode cX5_readSetup 86 = .ok (.aload_n 0, 1) := by decide +kernel
theorem dX5_readSetup_87 : decode cX5_readSetup 87 = .ok (.iconst 5, 1) := by decide +kernel
theorem dX5_readSetup_88 : decode cX5_readSetup 88 = .ok (.invokevirtual 52, 3) := by decide +kernel
theorem dX5_readSetup_91 : decode cX5_readSetup 91 = .ok (.return_, 1) := by decide +kernel
theorem dX5_fail_0 : decode cX5_fail 0 = .ok (.aload_n 0, 1) := by decide +kernel
theorem dX5_fail_1 : decode cX5_fail 1 = .ok (.getfield 28, 3) := by decide +kernel
theorem dX5_fail_4 : decode cX5_fail 4 = .ok (.ifCond .ne 16, 3) := by decide +kernel
theorem dX5_fail_7 : decode cX5_fail 7 = .ok (.aload_n 0, 1) := by decide +kernel
theorem dX5_fail_8 : decode cX5_fail 8 = .ok (.iload_n 1, 1) := by decide +kernel
theorem dX5_fail_9 : decode cX5_fail 9 = .ok (.putfield 28, 3) := by decide +kernel
theorem dX5_fail_12 : decode cX5_fail 12 = .ok (.aload_n 0, 1) := by decide +kernel
theorem dX5_fail_13 : decode cX5_fail 13 = .ok (.aload_n 0, 1) := by decide +kernel
theorem dX5_fail_14 : decode cX5_fail 14 = .ok (.getfield 56, 3) := by decide +kernel
theorem dX5_fail_17 : decode cX5_fail 17 = .ok (.putfield 31, 3) := by decide +kernel
theorem dX5_fail_20 : decode cX5_fail 20 = .ok (.return_, 1) := by decide +kernel
theorem dX5_readStatement_0 : decode cX5_readStatement 0 = .ok (.aload_n 0, 1) := by decide +kernel
theorem dX5_readStatement_1 : decode cX5_readStatement 1 = .ok (.invokevirtual 59, 3) := by decide +kernel
theorem dX5_readStatement_4 : decode cX5_readStatement 4 = .ok (.istore_n 2, 1) := by decide +kernel
theorem dX5_readStatement_5 : decode cX5_readStatement 5 = .ok (.iload_n 2, 1) := by decide +kernel
theorem dX5_readStatement_6 : decode cX5_readStatement 6 = .ok (.ifCond .ne 9, 3) := by decide +kernel
theorem dX5_readStatement_9 : decode cX5_readStatement 9 = .ok (.aload_n 0, 1) := by decide +kernel
theorem dX5_readStatement_10 : decode cX5_readStatement 10 = .ok (.aload_n 1, 1) := by decide +kernel
theorem dX5_readStatement_11 : decode cX5_readStatement 11 = .ok (.invokevirtual 63, 3) := by decide +kernel
theorem dX5_readStatement_14 : decode cX5_readStatement 14 = .ok (.return_, 1) := by decide +kernel
theorem dX5_readStatement_15 : decode cX5_readStatement 15 = .ok (.iload_n 2, 1) := by decide +kernel
theorem dX5_readStatement_16 : decode cX5_readStatement 16 = .ok (.iconst (-1), 1) := by decide +kernel
theorem dX5_readStatement_17 : decode cX5_readStatement 17 = .ok (.if_icmp .eq 10, 3) := by decide +kernel
theorem dX5_readStatement_20 : decode cX5_readStatement 20 = .ok (.aload_n 1, 1) := by decide +kernel
theorem dX5_readStatement_21 : decode cX5_readStatement 21 = .ok (.getfield 49, 3) := by decide +kernel
theorem dX5_readStatement_24 : decode cX5_readStatement 24 = .ok (.ifCond .gt 9, 3) := by decide +kernel
theorem dX5_readStatement_27 : decode cX5_readStatement 27 = .ok (.aload_n 0, 1) := by decide +kernel
theorem dX5_readStatement_28 : decode cX5_readStatement 28 = .ok (.iconst 1, 1) := by decide +kernel
theorem dX5_readStatement_29 : decode cX5_readStatement 29 = .ok (.invokevirtual 52, 3) := by decide +kernel
theorem dX5_readStatement_32 : decode cX5_readStatement 32 = .ok (.return_, 1) := by decide +kernel
theorem dX5_readStatement_33 : decode cX5_readStatement 33 = .ok (.iload_n 2, 1) := by decide +kernel
theorem dX5_readStatement_34 : decode cX5_readStatement 34 = .ok (.bipush 11, 2) := by decide +kernel
theorem dX5_readStatement_36 : decode cX5_readStatement 36 = .ok (.if_icmp .eq 20, 3) := by decide +kernel
theorem dX5_readStatement_39 : decode cX5_readStatement 39 = .ok (.aload_n 0, 1) := by decide +kernel
theorem dX5_readStatement_40 : decode cX5_readStatement 40 = .ok (.getfield 66, 3) := by decide +kernel
theorem dX5_readStatement_43 : decode cX5_readStatement 43 = .ok (.iconst 1, 1) := by decide +kernel
theorem dX5_readStatement_44 : decode cX5_readStatement 44 = .ok (.iload_n 2, 1) := by decide +kernel
theorem dX5_readStatement_45 : decode cX5_readStatement 45 = .ok (.ishl, 1) := by decide +kernel
theorem dX5_readStatement_46 : decode cX5_readStatement 46 = .ok (.iand, 1) := by decide +kernel
theorem dX5_readStatement_47 : decode cX5_readStatement 47 = .ok (.ifCond .eq 9, 3) := by decide +kernel
theorem dX5_readStatement_50 : decode cX5_readStatement 50 = .ok (.aload_n 0, 1) := by decide +kernel
theorem dX5_readStatement_51 : decode cX5_readStatement 51 = .ok (.iconst 3, 1) := by decide +kernel
theorem dX5_readStatement_52 : decode cX5_readStatement 52 = .ok (.invokevirtual 52, 3) := by decide +kernel
theorem dX5_readStatement_55 : decode cX5_readStatement 55 = .ok (.return_, 1) := by decide +kernel
theorem dX5_readStatement_56 : decode cX5_readStatement 56 = .ok (.aload_n 0, 1) := by decide +kernel
theorem dX5_readStatement_57 : decode cX5_readStatement 57 = .ok (.dup, 1) := by decide +kernel
theorem dX5_readStatement_58 : decode cX5_readStatement 58 = .ok (.getfield 66, 3) := by decide +kernel
theorem dX5_readStatement_61 : decode cX5_readStatement 61 = .ok (.iconst 1, 1) := by decide +kernel
theorem dX5_readStatement_62 : decode cX5_readStatement 62 = .ok (.iload_n 2, 1) := by decide +kernel
theorem dX5_readStatement_63 : decode cX5_readStatement 63 = .ok (.ishl, 1) := by decide +kernel
theorem dX5_readStatement_64 : decode cX5_readStatement 64 = .ok (.ior, 1) := by decide +kernel
theorem dX5_readStatement_65 : decode cX5_readStatement 65 = .ok (.putfield 66, 3) := by decide +kernel
theorem dX5_readStatement_68 : decode cX5_readStatement 68 = .ok (.aload_n 1, 1) := by decide +kernel
theorem dX5_readStatement_69 : decode cX5_readStatement 69 = .ok (.getfield 69, 3) := by decide +kernel
theorem dX5_readStatement_72 : decode cX5_readStatement 72 = .ok (.aload_n 1, 1) := by decide +kernel
theorem dX5_readStatement_73 : decode cX5_readStatement 73 = .ok (.getfield 49, 3) := by decide +kernel
theorem dX5_readStatement_76 : decode cX5_readStatement 76 = .ok (.iconst 1, 1) := by decide +kernel
theorem dX5_readStatement_77 : decode cX5_readStatement 77 = .ok (.isub, 1) := by decide +kernel
theorem dX5_readStatement_78 : decode cX5_readStatement 78 = .ok (.aaload, 1) := by decide +kernel
theorem dX5_readStatement_79 : decode cX5_readStatement 79 = .ok (.astore_n 3, 1) := by decide +kernel
theorem dX5_readStatement_80 : decode cX5_readStatement 80 = .ok (.iload_n 2, 1) := by decide +kernel
theorem dX5_readStatement_81 : decode cX5_readStatement 81 = .ok (.tableswitch 76 7 11 #[54, 65, 76, 35, 46], 35) := by decide +kernel
theorem dX5_readStatement_116 : decode cX5_readStatement 116 = .ok (.aload_n 0, 1) := by decide +kernel
theorem dX5_readStatement_117 : decode cX5_readStatement 117 = .ok (.aload_n 3, 1) := by decide +kernel
theorem dX5_readStatement_118 : decode cX5_readStatement 118 = .ok (.getfield 73, 3) := by decide +kernel
theorem dX5_readStatement_121 : decode cX5_readStatement 121 = .ok (.invokevirtual 79, 3) := by decide +kernel
theorem dX5_readStatement_124 : decode cX5_readStatement 124 = .ok (.goto 42, 3) := by decide +kernel
theorem dX5_readStatement_127 : decode cX5_readStatement 127 = .ok (.aload_n 0, 1) := by decide +kernel
theorem dX5_readStatement_128 : decode cX5_readStatement 128 = .ok (.aload_n 3, 1) := by decide +kernel
theorem dX5_readStatement_129 : decode cX5_readStatement 129 = .ok (.invokevirtual 83, 3) := by decide +kernel
theorem dX5_readStatement_132 : decode cX5_readStatement 132 = .ok (.goto 34, 3) := by decide +kernel
theorem dX5_readStatement_135 : decode cX5_readStatement 135 = .ok (.aload_n 0, 1) := by decide +kernel
theorem dX5_readStatement_136 : decode cX5_readStatement 136 = .ok (.aload_n 3, 1) := by decide +kernel
theorem dX5_readStatement_137 : decode cX5_readStatement 137 = .ok (.getfield 73, 3) := by decide +kernel
theorem dX5_readStatement_140 : decode cX5_readStatement 140 = .ok (.invokevirtual 87, 3) := by decide +kernel
theorem dX5_readStatement_143 : decode cX5_readStatement 143 = .ok (.goto 23, 3) := by decide +kernel
theorem dX5_readStatement_146 : decode cX5_readStatement 146 = .ok (.aload_n 0, 1) := by decide +kernel
theorem dX5_readStatement_147 : decode cX5_readStatement 147 = .ok (.aload_n 3, 1) := by decide +kernel
theorem dX5_readStatement_148 : decode cX5_readStatement 148 = .ok (.getfield 73, 3) := by decide +kernel
theorem dX5_readStatement_151 : decode cX5_readStatement 151 = .ok (.invokevirtual 90, 3) := by decide +kernel
theorem dX5_readStatement_154 : decode cX5_readStatement 154 = .ok (.goto 12, 3) := by decide +kernel
theorem dX5_readStatement_157 : decode cX5_readStatement 157 = .ok (.aload_n 0, 1) := by decide +kernel
theorem dX5_readStatement_158 : decode cX5_readStatement 158 = .ok (.iload_n 2, 1) := by decide +kernel
theorem dX5_readStatement_159 : decode cX5_readStatement 159 = .ok (.aload_n 3, 1) := by decide +kernel
theorem dX5_readStatement_160 : decode cX5_readStatement 160 = .ok (.getfield 73, 3) := by decide +kernel
theorem dX5_readStatement_163 : decode cX5_readStatement 163 = .ok (.invokevirtual 93, 3) := by decide +kernel
theorem dX5_readStatement_166 : decode cX5_readStatement 166 = .ok (.return_, 1) := by decide +kernel
theorem dX5_readPool_0 : decode cX5_readPool 0 = .ok (.aload_n 1, 1) := by decide +kernel
theorem dX5_readPool_1 : decode cX5_readPool 1 = .ok (.getfield 49, 3) := by decide +kernel
theorem dX5_readPool_4 : decode cX5_readPool 4 = .ok (.iconst 4, 1) := by decide +kernel
theorem dX5_readPool_5 : decode cX5_readPool 5 = .ok (.if_icmp .lt 9, 3) := by decide +kernel
theorem dX5_readPool_8 : decode cX5_readPool 8 = .ok (.aload_n 0, 1) := by decide +kernel
theorem dX5_readPool_9 : decode cX5_readPool 9 = .ok (.iconst 4, 1) := by decide +kernel
theorem dX5_readPool_10 : decode cX5_readPool 10 = .ok (.invokevirtual 52, 3) := by decide +kernel
theorem dX5_readPool_13 : decode cX5_readPool 13 = .ok (.return_, 1) := by decide +kernel
theorem dX5_readPool_14 : decode cX5_readPool 14 = .ok (.aload_n 0, 1) := by decide +kernel
theorem dX5_readPool_15 : decode cX5_readPool 15 = .ok (.iconst 0, 1) := by decide +kernel
theorem dX5_readPool_16 : decode cX5_readPool 16 = .ok (.bipush 20, 2) := by decide +kernel
theorem dX5_readPool_18 : decode cX5_readPool 18 = .ok (.invokevirtual 97, 3) := by decide +kernel
theorem dX5_readPool_21 : decode cX5_readPool 21 = .ok (.istore_n 2, 1) := by decide +kernel
theorem dX5_readPool_22 : decode cX5_readPool 22 = .ok (.aload_n 0, 1) := by decide +kernel
theorem dX5_readPool_23 : decode cX5_readPool 23 = .ok (.iconst 1, 1) := by decide +kernel
theorem dX5_readPool_24 : decode cX5_readPool 24 = .ok (.iload_n 2, 1) := by decide +kernel
theorem dX5_readPool_25 : decode cX5_readPool 25 = .ok (.invokestatic 100, 3) := by decide +kernel
theorem dX5_readPool_28 : decode cX5_readPool 28 = .ok (.bipush 20, 2) := by decide +kernel
theorem dX5_readPool_30 : decode cX5_readPool 30 = .ok (.invokevirtual 97, 3) := by decide +kernel
theorem dX5_readPool_33 : decode cX5_readPool 33 = .ok (.istore_n 3, 1) := by decide +kernel
theorem dX5_readPool_34 : decode cX5_readPool 34 = .ok (.aload_n 0, 1) := by decide +kernel
theorem dX5_readPool_35 : decode cX5_readPool 35 = .ok (.iconst 1, 1) := by decide +kernel
theorem dX5_readPool_36 : decode cX5_readPool 36 = .ok (.bipush 100, 2) := by decide +kernel
theorem dX5_readPool_38 : decode cX5_readPool 38 = .ok (.invokevirtual 97, 3) := by decide +kernel
theorem dX5_readPool_41 : decode cX5_readPool 41 = .ok (.istore 4, 2) := by decide +kernel
theorem dX5_readPool_43 : decode cX5_readPool 43 = .ok (.aload_n 0, 1) := by decide +kernel
theorem dX5_readPool_44 : decode cX5_readPool 44 = .ok (.invokevirtual 103, 3) := by decide +kernel
theorem dX5_readPool_47 : decode cX5_readPool 47 = .ok (.aload_n 0, 1) := by decide +kernel
theorem dX5_readPool_48 : decode cX5_readPool 48 = .ok (.getfield 28, 3) := by decide +kernel
theorem dX5_readPool_51 : decode cX5_readPool 51 = .ok (.ifCond .ne 16, 3) := by decide +kernel
theorem dX5_readPool_54 : decode cX5_readPool 54 = .ok (.aload_n 1, 1) := by decide +kernel
theorem dX5_readPool_55 : decode cX5_readPool 55 = .ok (.iload_n 2, 1) := by decide +kernel
theorem dX5_readPool_56 : decode cX5_readPool 56 = .ok (.iload_n 3, 1) := by decide +kernel
theorem dX5_readPool_57 : decode cX5_readPool 57 = .ok (.iload 4, 2) := by decide +kernel
theorem dX5_readPool_59 : decode cX5_readPool 59 = .ok (.invokevirtual 106, 3) := by decide +kernel
theorem dX5_readPool_62 : decode cX5_readPool 62 = .ok (.aload_n 0, 1) := by decide +kernel
theorem dX5_readPool_63 : decode cX5_readPool 63 = .ok (.iconst 0, 1) := by decide +kernel
theorem dX5_readPool_64 : decode cX5_readPool 64 = .ok (.putfield 66, 3) := by decide +kernel
theorem dX5_readPool_67 : decode cX5_readPool 67 = .ok (.return_, 1) := by decide +kernel
theorem dX5_readSettings_0 : decode cX5_readSettings 0 = .ok (.iload_n 1, 1) := by decide +kernel
theorem dX5_readSettings_1 : decode cX5_readSettings 1 = .ok (.tableswitch 144 1 6 #[39, 62, 87, 102, 116, 130], 39) := by decide +kernel
theorem dX5_readSettings_40 : decode cX5_readSettings 40 = .ok (.aload_n 2, 1) := by decide +kernel
theorem dX5_readSettings_41 : decode cX5_readSettings 41 = .ok (.aload_n 0, 1) := by decide +kernel
theorem dX5_readSettings_42 : decode cX5_readSettings 42 = .ok (.iconst 1, 1) := by decide +kernel
theorem dX5_readSettings_43 : decode cX5_readSettings 43 = .ok (.iconst 5, 1) := by decide +kernel
theorem dX5_readSettings_44 : decode cX5_readSettings 44 = .ok (.invokevirtual 97, 3) := by decide +kernel
theorem dX5_readSettings_47 : decode cX5_readSettings 47 = .ok (.putfield 110, 3) := by decide +kernel
theorem dX5_readSettings_50 : decode cX5_readSettings 50 = .ok (.aload_n 2, 1) := by decide +kernel
theorem dX5_readSettings_51 : decode cX5_readSettings 51 = .ok (.aload_n 0, 1) := by decide +kernel
theorem dX5_readSettings_52 : decode cX5_readSettings 52 = .ok (.iconst 1, 1) := by decide +kernel
theorem dX5_readSettings_53 : decode cX5_readSettings 53 = .ok (.iconst 5, 1) := by decide +kernel
theorem dX5_readSettings_54 : decode cX5_readSettings 54 = .ok (.invokevirtual 97, 3) := by decide +kernel
theorem dX5_readSettings_57 : decode cX5_readSettings 57 = .ok (.putfield 115, 3) := by decide +kernel
theorem dX5_readSettings_60 : decode cX5_readSettings 60 = .ok (.goto 107, 3) := by decide +kernel
theorem dX5_readSettings_63 : decode cX5_readSettings 63 = .ok (.aload_n 2, 1) := by decide +kernel
theorem dX5_readSettings_64 : decode cX5_readSettings 64 = .ok (.aload_n 0, 1) := by decide +kernel
theorem dX5_readSettings_65 : decode cX5_readSettings 65 = .ok (.iconst 0, 1) := by decide +kernel
theorem dX5_readSettings_66 : decode cX5_readSettings 66 = .ok (.bipush 30, 2) := by decide +kernel
theorem dX5_readSettings_68 : decode cX5_readSettings 68 = .ok (.invokevirtual 97, 3) := by decide +kernel
theorem dX5_readSettings_71 : decode cX5_readSettings 71 = .ok (.putfield 118, 3) := by decide +kernel
theorem dX5_readSettings_74 : decode cX5_readSettings 74 = .ok (.aload_n 2, 1) := by decide +kernel
theorem dX5_readSettings_75 : decode cX5_readSettings 75 = .ok (.aload_n 0, 1) := by decide +kernel
theorem dX5_readSettings_76 : decode cX5_readSettings 76 = .ok (.iconst 0, 1) := by decide +kernel
theorem dX5_readSettings_77 : decode cX5_readSettings 77 = .ok (.bipush 30, 2) := by decide +kernel
theorem dX5_readSettings_79 : decode cX5_readSettings 79 = .ok (.invokevirtual 97, 3) := by decide +kernel
theorem dX5_readSettings_82 : decode cX5_readSettings 82 = .ok (.putfield 121, 3) := by decide +kernel
theorem dX5_readSettings_85 : decode cX5_readSettings 85 = .ok (.goto 82, 3) := by decide +kernel
theorem dX5_readSettings_88 : decode cX5_readSettings 88 = .ok (.aload_n 2, 1) := by decide +kernel
theorem dX5_readSettings_89 : decode cX5_readSettings 89 = .ok (.aload_n 0, 1) := by decide +kernel
theorem dX5_readSettings_90 : decode cX5_readSettings 90 = .ok (.bipush 10, 2) := by decide +kernel
theorem dX5_readSettings_92 : decode cX5_readSettings 92 = .ok (.bipush 100, 2) := by decide +kernel
theorem dX5_readSettings_94 : decode cX5_readSettings 94 = .ok (.invokevirtual 97, 3) := by decide +kernel
theorem dX5_readSettings_97 : decode cX5_readSettings 97 = .ok (.putfield 124, 3) := by decide +kernel
theorem dX5_readSettings_100 : decode cX5_readSettings 100 = .ok (.goto 67, 3) := by decide +kernel
theorem dX5_readSettings_103 : decode cX5_readSettings 103 = .ok (.aload_n 2, 1) := by decide +kernel
theorem dX5_readSettings_104 : decode cX5_readSettings 104 = .ok (.aload_n 0, 1) := by decide +kernel
theorem dX5_readSettings_105 : decode cX5_readSettings 105 = .ok (.iconst 0, 1) := by decide +kernel
theorem dX5_readSettings_106 : decode cX5_readSettings 106 = .ok (.bipush 9, 2) := by decide +kernel
theorem dX5_readSettings_108 : decode cX5_readSettings 108 = .ok (.invokevirtual 97, 3) := by decide +kernel
theorem dX5_readSettings_111 : decode cX5_readSettings 111 = .ok (.putfield 127, 3) := by decide +kernel
theorem dX5_readSettings_114 : decode cX5_readSettings 114 = .ok (.goto 53, 3) := by decide +kernel
theorem dX5_readSettings_117 : decode cX5_readSettings 117 = .ok (.aload_n 2, 1) := by decide +kernel
theorem dX5_readSettings_118 : decode cX5_readSettings 118 = .ok (.aload_n 0, 1) := by decide +kernel
theorem dX5_readSettings_119 : decode cX5_readSettings 119 = .ok (.iconst 1, 1) := by decide +kernel
theorem dX5_readSettings_120 : decode cX5_readSettings 120 = .ok (.bipush 8, 2) := by decide +kernel
theorem dX5_readSettings_122 : decode cX5_readSettings 122 = .ok (.invokevirtual 97, 3) := by decide +kernel
theorem dX5_readSettings_125 : decode cX5_readSettings 125 = .ok (.putfield 130, 3) := by decide +kernel
theorem dX5_readSettings_128 : decode cX5_readSettings 128 = .ok (.goto 39, 3) := by decide +kernel
theorem dX5_readSettings_131 : decode cX5_readSettings 131 = .ok (.aload_n 2, 1) := by decide +kernel
theorem dX5_readSettings_132 : decode cX5_readSettings 132 = .ok (.aload_n 0, 1) := by decide +kernel
theorem dX5_readSettings_133 : decode cX5_readSettings 133 = .ok (.iconst 1, 1) := by decide +kernel
theorem dX5_readSettings_134 : decode cX5_readSettings 134 = .ok (.bipush 8, 2) := by decide +kernel
theorem dX5_readSettings_136 : decode cX5_readSettings 136 = .ok (.invokevirtual 97, 3) := by decide +kernel
theorem dX5_readSettings_139 : decode cX5_readSettings 139 = .ok (.putfield 133, 3) := by decide +kernel
theorem dX5_readSettings_142 : decode cX5_readSettings 142 = .ok (.goto 25, 3) := by decide +kernel
theorem dX5_readSettings_145 : decode cX5_readSettings 145 = .ok (.aload_n 2, 1) := by decide +kernel
theorem dX5_readSettings_146 : decode cX5_readSettings 146 = .ok (.aload_n 0, 1) := by decide +kernel
theorem dX5_readSettings_147 : decode cX5_readSettings 147 = .ok (.iconst 0, 1) := by decide +kernel
theorem dX5_readSettings_148 : decode cX5_readSettings 148 = .ok (.bipush 99, 2) := by decide +kernel
theorem dX5_readSettings_150 : decode cX5_readSettings 150 = .ok (.invokevirtual 97, 3) := by decide +kernel
theorem dX5_readSettings_153 : decode cX5_readSettings 153 = .ok (.putfield 136, 3) := by decide +kernel
theorem dX5_readSettings_156 : decode cX5_readSettings 156 = .ok (.aload_n 2, 1) := by decide +kernel
theorem dX5_readSettings_157 : decode cX5_readSettings 157 = .ok (.aload_n 0, 1) := by decide +kernel
theorem dX5_readSettings_158 : decode cX5_readSettings 158 = .ok (.iconst 0, 1) := by decide +kernel
theorem dX5_readSettings_159 : decode cX5_readSettings 159 = .ok (.bipush 99, 2) := by decide +kernel
theorem dX5_readSettings_161 : decode cX5_readSettings 161 = .ok (.invokevirtual 97, 3) := by decide +kernel
theorem dX5_readSettings_164 : decode cX5_readSettings 164 = .ok (.putfield 139, 3) := by decide +kernel
theorem dX5_readSettings_167 : decode cX5_readSettings 167 = .ok (.aload_n 0, 1) := by decide +kernel
theorem dX5_readSettings_168 : decode cX5_readSettings 168 = .ok (.invokevirtual 103, 3) := by decide +kernel
theorem dX5_readSettings_171 : decode cX5_readSettings 171 = .ok (.return_, 1) := by decide +kernel
theorem dX5_readPolicy_0 : decode cX5_readPolicy 0 = .ok (.aload_n 0, 1) := by decide +kernel
theorem dX5_readPolicy_1 : decode cX5_readPolicy 1 = .ok (.invokevirtual 39, 3) := by decide +kernel
theorem dX5_readPolicy_4 : decode cX5_readPolicy 4 = .ok (.aload_n 0, 1) := by decide +kernel
theorem dX5_readPolicy_5 : decode cX5_readPolicy 5 = .ok (.ldc 142, 2) := by decide +kernel
theorem dX5_readPolicy_7 : decode cX5_readPolicy 7 = .ok (.invokevirtual 144, 3) := by decide +kernel
theorem dX5_readPolicy_10 : decode cX5_readPolicy 10 = .ok (.ifCond .eq 11, 3) := by decide +kernel
theorem dX5_readPolicy_13 : decode cX5_readPolicy 13 = .ok (.aload_n 1, 1) := by decide +kernel
theorem dX5_readPolicy_14 : decode cX5_readPolicy 14 = .ok (.iconst 0, 1) := by decide +kernel
theorem dX5_readPolicy_15 : decode cX5_readPolicy 15 = .ok (.putfield 148, 3) := by decide +kernel
theorem dX5_readPolicy_18 : decode cX5_readPolicy 18 = .ok (.goto 53, 3) := by decide +kernel
theorem dX5_readPolicy_21 : decode cX5_readPolicy 21 = .ok (.aload_n 0, 1) := by decide +kernel
theorem dX5_readPolicy_22 : decode cX5_readPolicy 22 = .ok (.ldc 151, 2) := by decide +kernel
theorem dX5_readPolicy_24 : decode cX5_readPolicy 24 = .ok (.invokevirtual 144, 3) := by decide +kernel
theorem dX5_readPolicy_27 : decode cX5_readPolicy 27 = .ok (.ifCond .eq 11, 3) := by decide +kernel
theorem dX5_readPolicy_30 : decode cX5_readPolicy 30 = .ok (.aload_n 1, 1) := by decide +kernel
theorem dX5_readPolicy_31 : decode cX5_readPolicy 31 = .ok (.iconst 1, 1) := by decide +kernel
theorem dX5_readPolicy_32 : decode cX5_readPolicy 32 = .ok (.putfield 148, 3) := by decide +kernel
theorem dX5_readPolicy_35 : decode cX5_readPolicy 35 = .ok (.goto 36, 3) := by decide +kernel
theorem dX5_readPolicy_38 : decode cX5_readPolicy 38 = .ok (.aload_n 0, 1) := by decide +kernel
theorem dX5_readPolicy_39 : decode cX5_readPolicy 39 = .ok (.ldc 153, 2) := by decide +kernel
theorem dX5_readPolicy_41 : decode cX5_readPolicy 41 = .ok (.invokevirtual 144, 3) := by decide +kernel
theorem dX5_readPolicy_44 : decode cX5_readPolicy 44 = .ok (.ifCond .eq 22, 3) := by decide +kernel
theorem dX5_readPolicy_47 : decode cX5_readPolicy 47 = .ok (.aload_n 1, 1) := by decide +kernel
theorem dX5_readPolicy_48 : decode cX5_readPolicy 48 = .ok (.iconst 2, 1) := by decide +kernel
theorem dX5_readPolicy_49 : decode cX5_readPolicy 49 = .ok (.putfield 148, 3) := by decide +kernel
theorem dX5_readPolicy_52 : decode cX5_readPolicy 52 = .ok (.aload_n 1, 1) := by decide +kernel
theorem dX5_readPolicy_53 : decode cX5_readPolicy 53 = .ok (.aload_n 0, 1) := by decide +kernel
theorem dX5_readPolicy_54 : decode cX5_readPolicy 54 = .ok (.iconst 2, 1) := by decide +kernel
theorem dX5_readPolicy_55 : decode cX5_readPolicy 55 = .ok (.bipush 24, 2) := by decide +kernel
theorem dX5_readPolicy_57 : decode cX5_readPolicy 57 = .ok (.invokevirtual 97, 3) := by decide +kernel
theorem dX5_readPolicy_60 : decode cX5_readPolicy 60 = .ok (.putfield 155, 3) := by decide +kernel
theorem dX5_readPolicy_63 : decode cX5_readPolicy 63 = .ok (.goto 8, 3) := by decide +kernel
theorem dX5_readPolicy_66 : decode cX5_readPolicy 66 = .ok (.aload_n 0, 1) := by decide +kernel
theorem dX5_readPolicy_67 : decode cX5_readPolicy 67 = .ok (.iconst 1, 1) := by decide +kernel
theorem dX5_readPolicy_68 : decode cX5_readPolicy 68 = .ok (.invokevirtual 52, 3) := by decide +kernel
theorem dX5_readPolicy_71 : decode cX5_readPolicy 71 = .ok (.aload_n 0, 1) := by decide +kernel
theorem dX5_readPolicy_72 : decode cX5_readPolicy 72 = .ok (.invokevirtual 103, 3) := by decide +kernel
theorem dX5_readPolicy_75 : decode cX5_readPolicy 75 = .ok (.return_, 1) := by decide +kernel
theorem dX5_readRule_0 : decode cX5_readRule 0 = .ok (.aload_n 0, 1) := by decide +kernel
theorem dX5_readRule_1 : decode cX5_readRule 1 = .ok (.invokevirtual 39, 3) := by decide +kernel
theorem dX5_readRule_4 : decode cX5_readRule 4 = .ok (.aload_n 0, 1) := by decide +kernel
theorem dX5_readRule_5 : decode cX5_readRule 5 = .ok (.ldc 158, 2) := by decide +kernel
theorem dX5_readRule_7 : decode cX5_readRule 7 = .ok (.invokevirtual 144, 3) := by decide +kernel
theorem dX5_readRule_10 : decode cX5_readRule 10 = .ok (.ifCond .eq 11, 3) := by decide +kernel
theorem dX5_readRule_13 : decode cX5_readRule 13 = .ok (.aload_n 1, 1) := by decide +kernel
theorem dX5_readRule_14 : decode cX5_readRule 14 = .ok (.iconst 0, 1) := by decide +kernel
theorem dX5_readRule_15 : decode cX5_readRule 15 = .ok (.putfield 160, 3) := by decide +kernel
theorem dX5_readRule_18 : decode cX5_readRule 18 = .ok (.goto 42, 3) := by decide +kernel
theorem dX5_readRule_21 : decode cX5_readRule 21 = .ok (.aload_n 0, 1) := by decide +kernel
theorem dX5_readRule_22 : decode cX5_readRule 22 = .ok (.ldc 163, 2) := by decide +kernel
theorem dX5_readRule_24 : decode cX5_readRule 24 = .ok (.invokevirtual 144, 3) := by decide +kernel
theorem dX5_readRule_27 : decode cX5_readRule 27 = .ok (.ifCond .eq 11, 3) := by decide +kernel
theorem dX5_readRule_30 : decode cX5_readRule 30 = .ok (.aload_n 1, 1) := by decide +kernel
theorem dX5_readRule_31 : decode cX5_readRule 31 = .ok (.iconst 1, 1) := by decide +kernel
theorem dX5_readRule_32 : decode cX5_readRule 32 = .ok (.putfield 160, 3) := by decide +kernel
theorem dX5_readRule_35 : decode cX5_readRule 35 = .ok (.goto 25, 3) := by decide +kernel
theorem dX5_readRule_38 : decode cX5_readRule 38 = .ok (.aload_n 0, 1) := by decide +kernel
theorem dX5_readRule_39 : decode cX5_readRule 39 = .ok (.ldc 165, 2) := by decide +kernel
theorem dX5_readRule_41 : decode cX5_readRule 41 = .ok (.invokevirtual 144, 3) := by decide +kernel
theorem dX5_readRule_44 : decode cX5_readRule 44 = .ok (.ifCond .eq 11, 3) := by decide +kernel
theorem dX5_readRule_47 : decode cX5_readRule 47 = .ok (.aload_n 1, 1) := by decide +kernel
theorem dX5_readRule_48 : decode cX5_readRule 48 = .ok (.iconst 2, 1) := by decide +kernel
theorem dX5_readRule_49 : decode cX5_readRule 49 = .ok (.putfield 160, 3) := by decide +kernel
theorem dX5_readRule_52 : decode cX5_readRule 52 = .ok (.goto 8, 3) := by decide +kernel
theorem dX5_readRule_55 : decode cX5_readRule 55 = .ok (.aload_n 0, 1) := by decide +kernel
theorem dX5_readRule_56 : decode cX5_readRule 56 = .ok (.iconst 1, 1) := by decide +kernel
theorem dX5_readRule_57 : decode cX5_readRule 57 = .ok (.invokevirtual 52, 3) := by decide +kernel
theorem dX5_readRule_60 : decode cX5_readRule 60 = .ok (.aload_n 0, 1) := by decide +kernel
theorem dX5_readRule_61 : decode cX5_readRule 61 = .ok (.invokevirtual 103, 3) := by decide +kernel
theorem dX5_readRule_64 : decode cX5_readRule 64 = .ok (.return_, 1) := by decide +kernel
theorem dX5_readLoads_0 : decode cX5_readLoads 0 = .ok (.aload_n 1, 1) := by decide +kernel
theorem dX5_readLoads_1 : decode cX5_readLoads 1 = .ok (.getfield 167, 3) := by decide +kernel
theorem dX5_readLoads_4 : decode cX5_readLoads 4 = .ok (.iconst 0, 1) := by decide +kernel
theorem dX5_readLoads_5 : decode cX5_readLoads 5 = .ok (.aload_n 0, 1) := by decide +kernel
theorem dX5_readLoads_6 : decode cX5_readLoads 6 = .ok (.iconst 0, 1) := by decide +kernel
theorem dX5_readLoads_7 : decode cX5_readLoads 7 = .ok (.sipush 999, 3) := by decide +kernel
theorem dX5_readLoads_10 : decode cX5_readLoads 10 = .ok (.invokevirtual 97, 3) := by decide +kernel
theorem dX5_readLoads_13 : decode cX5_readLoads 13 = .ok (.iastore, 1) := by decide +kernel
theorem dX5_readLoads_14 : decode cX5_readLoads 14 = .ok (.aload_n 1, 1) := by decide +kernel
theorem dX5_readLoads_15 : decode cX5_readLoads 15 = .ok (.iconst 1, 1) := by decide +kernel
theorem dX5_readLoads_16 : decode cX5_readLoads 16 = .ok (.putfield 171, 3) := by decide +kernel
theorem dX5_readLoads_19 : decode cX5_readLoads 19 = .ok (.iconst 1, 1) := by decide +kernel
theorem dX5_readLoads_20 : decode cX5_readLoads 20 = .ok (.istore_n 2, 1) := by decide +kernel
theorem dX5_readLoads_21 : decode cX5_readLoads 21 = .ok (.iload_n 2, 1) := by decide +kernel
theorem dX5_readLoads_22 : decode cX5_readLoads 22 = .ok (.bipush 24, 2) := by decide +kernel
theorem dX5_readLoads_24 : decode cX5_readLoads 24 = .ok (.if_icmp .gt 64, 3) := by decide +kernel
theorem dX5_readLoads_27 : decode cX5_readLoads 27 = .ok (.aload_n 0, 1) := by decide +kernel
theorem dX5_readLoads_28 : decode cX5_readLoads 28 = .ok (.getfield 28, 3) := by decide +kernel
theorem dX5_readLoads_31 : decode cX5_readLoads 31 = .ok (.ifCond .ne 57, 3) := by decide +kernel
theorem dX5_readLoads_34 : decode cX5_readLoads 34 = .ok (.aload_n 0, 1) := by decide +kernel
theorem dX5_readLoads_35 : decode cX5_readLoads 35 = .ok (.invokevirtual 39, 3) := by decide +kernel
theorem dX5_readLoads_38 : decode cX5_readLoads 38 = .ok (.aload_n 0, 1) := by decide +kernel
theorem dX5_readLoads_39 : decode cX5_readLoads 39 = .ok (.getfield 42, 3) := by decide +kernel
theorem dX5_readLoads_42 : decode cX5_readLoads 42 = .ok (.iconst 3, 1) := by decide +kernel
theorem dX5_readLoads_43 : decode cX5_readLoads 43 = .ok (.if_icmp .ne 4, 3) := by decide +kernel
theorem dX5_readLoads_46 : decode cX5_readLoads 46 = .ok (.return_, 1) := by decide +kernel
theorem dX5_readLoads_47 : decode cX5_readLoads 47 = .ok (.iload_n 2, 1) := by decide +kernel
theorem dX5_readLoads_48 : decode cX5_readLoads 48 = .ok (.bipush 24, 2) := by decide +kernel
theorem dX5_readLoads_50 : decode cX5_readLoads 50 = .ok (.if_icmp .ne 11, 3) := by decide +kernel
theorem dX5_readLoads_53 : decode cX5_readLoads 53 = .ok (.aload_n 0, 1) := by decide +kernel
theorem dX5_readLoads_54 : decode cX5_readLoads 54 = .ok (.iconst 1, 1) := by decide +kernel
theorem dX5_readLoads_55 : decode cX5_readLoads 55 = .ok (.invokevirtual 52, 3) := by decide +kernel
theorem dX5_readLoads_58 : decode cX5_readLoads 58 = .ok (.goto 24, 3) := by decide +kernel
theorem dX5_readLoads_61 : decode cX5_readLoads 61 = .ok (.aload_n 1, 1) := by decide +kernel
theorem dX5_readLoads_62 : decode cX5_readLoads 62 = .ok (.getfield 167, 3) := by decide +kernel
theorem dX5_readLoads_65 : decode cX5_readLoads 65 = .ok (.iload_n 2, 1) := by decide +kernel
theorem dX5_readLoads_66 : decode cX5_readLoads 66 = .ok (.aload_n 0, 1) := by decide +kernel
theorem dX5_readLoads_67 : decode cX5_readLoads 67 = .ok (.iconst 0, 1) := by decide +kernel
theorem dX5_readLoads_68 : decode cX5_readLoads 68 = .ok (.sipush 999, 3) := by decide +kernel
theorem dX5_readLoads_71 : decode cX5_readLoads 71 = .ok (.invokevirtual 174, 3) := by decide +kernel
theorem dX5_readLoads_74 : decode cX5_readLoads 74 = .ok (.iastore, 1) := by decide +kernel
theorem dX5_readLoads_75 : decode cX5_readLoads 75 = .ok (.aload_n 1, 1) := by decide +kernel
theorem dX5_readLoads_76 : decode cX5_readLoads 76 = .ok (.iload_n 2, 1) := by decide +kernel
theorem dX5_readLoads_77 : decode cX5_readLoads 77 = .ok (.iconst 1, 1) := by decide +kernel
theorem dX5_readLoads_78 : decode cX5_readLoads 78 = .ok (.iadd, 1) := by decide +kernel
theorem dX5_readLoads_79 : decode cX5_readLoads 79 = .ok (.putfield 171, 3) := by decide +kernel
theorem dX5_readLoads_82 : decode cX5_readLoads 82 = .ok (.iinc 2 1, 3) := by decide +kernel
theorem dX5_readLoads_85 : decode cX5_readLoads 85 = .ok (.goto (-64), 3) := by decide +kernel
theorem dX5_readLoads_88 : decode cX5_readLoads 88 = .ok (.return_, 1) := by decide +kernel
theorem dX5_readProtect_0 : decode cX5_readProtect 0 = .ok (.aload_n 0, 1) := by decide +kernel
theorem dX5_readProtect_1 : decode cX5_readProtect 1 = .ok (.iconst 0, 1) := by decide +kernel
theorem dX5_readProtect_2 : decode cX5_readProtect 2 = .ok (.aload_n 1, 1) := by decide +kernel
theorem dX5_readProtect_3 : decode cX5_readProtect 3 = .ok (.getfield 73, 3) := by decide +kernel
theorem dX5_readProtect_6 : decode cX5_readProtect 6 = .ok (.getfield 177, 3) := by decide +kernel
theorem dX5_readProtect_9 : decode cX5_readProtect 9 = .ok (.iconst 1, 1) := by decide +kernel
theorem dX5_readProtect_10 : decode cX5_readProtect 10 = .ok (.isub, 1) := by decide +kernel
theorem dX5_readProtect_11 : decode cX5_readProtect 11 = .ok (.invokevirtual 97, 3) := by decide +kernel
theorem dX5_readProtect_14 : decode cX5_readProtect 14 = .ok (.istore_n 2, 1) := by decide +kernel
theorem dX5_readProtect_15 : decode cX5_readProtect 15 = .ok (.aload_n 0, 1) := by decide +kernel
theorem dX5_readProtect_16 : decode cX5_readProtect 16 = .ok (.getfield 28, 3) := by decide +kernel
theorem dX5_readProtect_19 : decode cX5_readProtect 19 = .ok (.ifCond .ne 41, 3) := by decide +kernel
theorem dX5_readProtect_22 : decode cX5_readProtect 22 = .ok (.iload_n 2, 1) := by decide +kernel
theorem dX5_readProtect_23 : decode cX5_readProtect 23 = .ok (.aload_n 1, 1) := by decide +kernel
theorem dX5_readProtect_24 : decode cX5_readProtect 24 = .ok (.getfield 179, 3) := by decide +kernel
theorem dX5_readProtect_27 : decode cX5_readProtect 27 = .ok (.getfield 183, 3) := by decide +kernel
theorem dX5_readProtect_30 : decode cX5_readProtect 30 = .ok (.if_icmp .ge 30, 3) := by decide +kernel
theorem dX5_readProtect_33 : decode cX5_readProtect 33 = .ok (.aload_n 1, 1) := by decide +kernel
theorem dX5_readProtect_34 : decode cX5_readProtect 34 = .ok (.getfield 179, 3) := by decide +kernel
theorem dX5_readProtect_37 : decode cX5_readProtect 37 = .ok (.getfield 188, 3) := by decide +kernel
theorem dX5_readProtect_40 : decode cX5_readProtect 40 = .ok (.iload_n 2, 1) := by decide +kernel
theorem dX5_readProtect_41 : decode cX5_readProtect 41 = .ok (.baload, 1) := by decide +kernel
theorem dX5_readProtect_42 : decode cX5_readProtect 42 = .ok (.ifCond .eq 8, 3) := by decide +kernel
theorem dX5_readProtect_45 : decode cX5_readProtect 45 = .ok (.aload_n 0, 1) := by decide +kernel
theorem dX5_readProtect_46 : decode cX5_readProtect 46 = .ok (.iconst 3, 1) := by decide +kernel
theorem dX5_readProtect_47 : decode cX5_readProtect 47 = .ok (.invokevirtual 52, 3) := by decide +kernel
theorem dX5_readProtect_50 : decode cX5_readProtect 50 = .ok (.aload_n 1, 1) := by decide +kernel
theorem dX5_readProtect_51 : decode cX5_readProtect 51 = .ok (.getfield 179, 3) := by decide +kernel
theorem dX5_readProtect_54 : decode cX5_readProtect 54 = .ok (.getfield 188, 3) := by decide +kernel
theorem dX5_readProtect_57 : decode cX5_readProtect 57 = .ok (.iload_n 2, 1) := by decide +kernel
theorem dX5_readProtect_58 : decode cX5_readProtect 58 = .ok (.iconst 1, 1) := by decide +kernel
theorem dX5_readProtect_59 : decode cX5_readProtect 59 = .ok (.bastore, 1) := by decide +kernel
theorem dX5_readProtect_60 : decode cX5_readProtect 60 = .ok (.aload_n 0, 1) := by decide +kernel
theorem dX5_readProtect_61 : decode cX5_readProtect 61 = .ok (.invokevirtual 103, 3) := by decide +kernel
theorem dX5_readProtect_64 : decode cX5_readProtect 64 = .ok (.return_, 1) := by decide +kernel
theorem dX5_readNumber_0 : decode cX5_readNumber 0 = .ok (.aload_n 0, 1) := by decide +kernel
theorem dX5_readNumber_1 : decode cX5_readNumber 1 = .ok (.getfield 28, 3) := by decide +kernel
theorem dX5_readNumber_4 : decode cX5_readNumber 4 = .ok (.ifCond .eq 5, 3) := by decide +kernel
theorem dX5_readNumber_7 : decode cX5_readNumber 7 = .ok (.iload_n 1, 1) := by decide +kernel
theorem dX5_readNumber_8 : decode cX5_readNumber 8 = .ok (.ireturn, 1) := by decide +kernel
theorem dX5_readNumber_9 : decode cX5_readNumber 9 = .ok (.aload_n 0, 1) := by decide +kernel
theorem dX5_readNumber_10 : decode cX5_readNumber 10 = .ok (.invokevirtual 39, 3) := by decide +kernel
theorem dX5_readNumber_13 : decode cX5_readNumber 13 = .ok (.aload_n 0, 1) := by decide +kernel
theorem dX5_readNumber_14 : decode cX5_readNumber 14 = .ok (.iload_n 1, 1) := by decide +kernel
theorem dX5_readNumber_15 : decode cX5_readNumber 15 = .ok (.iload_n 2, 1) := by decide +kernel
theorem dX5_readNumber_16 : decode cX5_readNumber 16 = .ok (.invokevirtual 174, 3) := by decide +kernel
theorem dX5_readNumber_19 : decode cX5_readNumber 19 = .ok (.ireturn, 1) := by decide +kernel
theorem dX5_numberOfToken_0 : decode cX5_numberOfToken 0 = .ok (.aload_n 0, 1) := by decide +kernel
theorem dX5_numberOfToken_1 : decode cX5_numberOfToken 1 = .ok (.getfield 42, 3) := by decide +kernel
theorem dX5_numberOfToken_4 : decode cX5_numberOfToken 4 = .ok (.iconst 2, 1) := by decide +kernel
theorem dX5_numberOfToken_5 : decode cX5_numberOfToken 5 = .ok (.if_icmp .eq 10, 3) := by decide +kernel
theorem dX5_numberOfToken_8 : decode cX5_numberOfToken 8 = .ok (.aload_n 0, 1) := by decide +kernel
theorem dX5_numberOfToken_9 : decode cX5_numberOfToken 9 = .ok (.iconst 1, 1) := by decide +kernel
theorem dX5_numberOfToken_10 : decode cX5_numberOfToken 10 = .ok (.invokevirtual 52, 3) := by decide +kernel
theorem dX5_numberOfToken_13 : decode cX5_numberOfToken 13 = .ok (.iload_n 1, 1) := by decide +kernel
theorem dX5_numberOfToken_14 : decode cX5_numberOfToken 14 = .ok (.ireturn, 1) := by decide +kernel
theorem dX5_numberOfToken_15 : decode cX5_numberOfToken 15 = .ok (.aload_n 0, 1) := by decide +kernel
theorem dX5_numberOfToken_16 : decode cX5_numberOfToken 16 = .ok (.getfield 192, 3) := by decide +kernel
theorem dX5_numberOfToken_19 : decode cX5_numberOfToken 19 = .ok (.iload_n 1, 1) := by decide +kernel
theorem dX5_numberOfToken_20 : decode cX5_numberOfToken 20 = .ok (.if_icmp .lt 11, 3) := by decide +kernel
theorem dX5_numberOfToken_23 : decode cX5_numberOfToken 23 = .ok (.aload_n 0, 1) := by decide +kernel
theorem dX5_numberOfToken_24 : decode cX5_numberOfToken 24 = .ok (.getfield 192, 3) := by decide +kernel
theorem dX5_numberOfToken_27 : decode cX5_numberOfToken 27 = .ok (.iload_n 2, 1) := by decide +kernel
theorem dX5_numberOfToken_28 : decode cX5_numberOfToken 28 = .ok (.if_icmp .le 10, 3) := by decide +kernel
theorem dX5_numberOfToken_31 : decode cX5_numberOfToken 31 = .ok (.aload_n 0, 1) := by decide +kernel
theorem dX5_numberOfToken_32 : decode cX5_numberOfToken 32 = .ok (.iconst 2, 1) := by decide +kernel
theorem dX5_numberOfToken_33 : decode cX5_numberOfToken 33 = .ok (.invokevirtual 52, 3) := by decide +kernel
theorem dX5_numberOfToken_36 : decode cX5_numberOfToken 36 = .ok (.iload_n 1, 1) := by decide +kernel
theorem dX5_numberOfToken_37 : decode cX5_numberOfToken 37 = .ok (.ireturn, 1) := by decide +kernel
theorem dX5_numberOfToken_38 : decode cX5_numberOfToken 38 = .ok (.aload_n 0, 1) := by decide +kernel
theorem dX5_numberOfToken_39 : decode cX5_numberOfToken 39 = .ok (.getfield 192, 3) := by decide +kernel
theorem dX5_numberOfToken_42 : decode cX5_numberOfToken 42 = .ok (.ireturn, 1) := by decide +kernel
theorem dX5_readSemicolon_0 : decode cX5_readSemicolon 0 = .ok (.aload_n 0, 1) := by decide +kernel
theorem dX5_readSemicolon_1 : decode cX5_readSemicolon 1 = .ok (.getfield 28, 3) := by decide +kernel
theorem dX5_readSemicolon_4 : decode cX5_readSemicolon 4 = .ok (.ifCond .eq 4, 3) := by decide +kernel
theorem dX5_readSemicolon_7 : decode cX5_readSemicolon 7 = .ok (.return_, 1) := by decide +kernel
theorem dX5_readSemicolon_8 : decode cX5_readSemicolon 8 = .ok (.aload_n 0, 1) := by decide +kernel
theorem dX5_readSemicolon_9 : decode cX5_readSemicolon 9 = .ok (.invokevirtual 39, 3) := by decide +kernel
theorem dX5_readSemicolon_12 : decode cX5_readSemicolon 12 = .ok (.aload_n 0, 1) := by decide +kernel
theorem dX5_readSemicolon_13 : decode cX5_readSemicolon 13 = .ok (.getfield 42, 3) := by decide +kernel
theorem dX5_readSemicolon_16 : decode cX5_readSemicolon 16 = .ok (.iconst 3, 1) := by decide +kernel
theorem dX5_readSemicolon_17 : decode cX5_readSemicolon 17 = .ok (.if_icmp .eq 8, 3) := by decide +kernel
theorem dX5_readSemicolon_20 : decode cX5_readSemicolon 20 = .ok (.aload_n 0, 1) := by decide +kernel
theorem dX5_readSemicolon_21 : decode cX5_readSemicolon 21 = .ok (.iconst 1, 1) := by decide +kernel
theorem dX5_readSemicolon_22 : decode cX5_readSemicolon 22 = .ok (.invokevirtual 52, 3) := by decide +kernel
theorem dX5_readSemicolon_25 : decode cX5_readSemicolon 25 = .ok (.return_, 1) := by decide +kernel
theorem dX5_statementOfWord_0 : decode cX5_statementOfWord 0 = .ok (.aload_n 0, 1) := by decide +kernel
theorem dX5_statementOfWord_1 : decode cX5_statementOfWord 1 = .ok (.ldc 195, 2) := by decide +kernel
theorem dX5_statementOfWord_3 : decode cX5_statementOfWord 3 = .ok (.invokevirtual 144, 3) := by decide +kernel
theorem dX5_statementOfWord_6 : decode cX5_statementOfWord 6 = .ok (.ifCond .eq 5, 3) := by decide +kernel
theorem dX5_statementOfWord_9 : decode cX5_statementOfWord 9 = .ok (.iconst 0, 1) := by decide +kernel
theorem dX5_statementOfWord_10 : decode cX5_statementOfWord 10 = .ok (.ireturn, 1) := by decide +kernel
theorem dX5_statementOfWord_11 : decode cX5_statementOfWord 11 = .ok (.aload_n 0, 1) := by decide +kernel
theorem dX5_statementOfWord_12 : decode cX5_statementOfWord 12 = .ok (.ldc 197, 2) := by decide +kernel
theorem dX5_statementOfWord_14 : decode cX5_statementOfWord 14 = .ok (.invokevirtual 144, 3) := by decide +kernel
theorem dX5_statementOfWord_17 : decode cX5_statementOfWord 17 = .ok (.ifCond .eq 5, 3) := by decide +kernel
theorem dX5_statementOfWord_20 : decode cX5_statementOfWord 20 = .ok (.iconst 1, 1) := by decide +kernel
theorem dX5_statementOfWord_21 : decode cX5_statementOfWord 21 = .ok (.ireturn, 1) := by decide +kernel
theorem dX5_statementOfWord_22 : decode cX5_statementOfWord 22 = .ok (.aload_n 0, 1) := by decide +kernel
theorem dX5_statementOfWord_23 : decode cX5_statementOfWord 23 = .ok (.ldc 199, 2) := by decide +kernel
theorem dX5_statementOfWord_25 : decode cX5_statementOfWord 25 = .ok (.invokevirtual 144, 3) := by decide +kernel
theorem dX5_statementOfWord_28 : decode cX5_statementOfWord 28 = .ok (.ifCond .eq 5, 3) := by decide +kernel
theorem dX5_statementOfWord_31 : decode cX5_statementOfWord 31 = .ok (.iconst 2, 1) := by decide +kernel
theorem dX5_statementOfWord_32 : decode cX5_statementOfWord 32 = .ok (.ireturn, 1) := by decide +kernel
theorem dX5_statementOfWord_33 : decode cX5_statementOfWord 33 = .ok (.aload_n 0, 1) := by decide +kernel
theorem dX5_statementOfWord_34 : decode cX5_statementOfWord 34 = .ok (.ldc 201, 2) := by decide +kernel
theorem dX5_statementOfWord_36 : decode cX5_statementOfWord 36 = .ok (.invokevirtual 144, 3) := by decide +kernel
theorem dX5_statementOfWord_39 : decode cX5_statementOfWord 39 = .ok (.ifCond .eq 5, 3) := by decide +kernel
theorem dX5_statementOfWord_42 : decode cX5_statementOfWord 42 = .ok (.iconst 3, 1) := by decide +kernel
theorem dX5_statementOfWord_43 : decode cX5_statementOfWord 43 = .ok (.ireturn, 1) := by decide +kernel
theorem dX5_statementOfWord_44 : decode cX5_statementOfWord 44 = .ok (.aload_n 0, 1) := by decide +kernel
theorem dX5_statementOfWord_45 : decode cX5_statementOfWord 45 = .ok (.ldc 202, 2) := by decide +kernel
theorem dX5_statementOfWord_47 : decode cX5_statementOfWord 47 = .ok (.invokevirtual 144, 3) := by decide +kernel
theorem dX5_statementOfWord_50 : decode cX5_statementOfWord 50 = .ok (.ifCond .eq 5, 3) := by decide +kernel
theorem dX5_statementOfWord_53 : decode cX5_statementOfWord 53 = .ok (.iconst 4, 1) := by decide +kernel
theorem dX5_statementOfWord_54 : decode cX5_statementOfWord 54 = .ok (.ireturn, 1) := by decide +kernel
theorem dX5_statementOfWord_55 : decode cX5_statementOfWord 55 = .ok (.aload_n 0, 1) := by decide +kernel
theorem dX5_statementOfWord_56 : decode cX5_statementOfWord 56 = .ok (.ldc 203, 2) := by decide +kernel
theorem dX5_statementOfWord_58 : decode cX5_statementOfWord 58 = .ok (.invokevirtual 144, 3) := by decide +kernel
theorem dX5_statementOfWord_61 : decode cX5_statementOfWord 61 = .ok (.ifCond .eq 5, 3) := by decide +kernel
theorem dX5_statementOfWord_64 : decode cX5_statementOfWord 64 = .ok (.iconst 5, 1) := by decide +kernel
theorem dX5_statementOfWord_65 : decode cX5_statementOfWord 65 = .ok (.ireturn, 1) := by decide +kernel
theorem dX5_statementOfWord_66 : decode cX5_statementOfWord 66 = .ok (.aload_n 0, 1) := by decide +kernel
theorem dX5_statementOfWord_67 : decode cX5_statementOfWord 67 = .ok (.ldc 204, 2) := by decide +kernel
theorem dX5_statementOfWord_69 : decode cX5_statementOfWord 69 = .ok (.invokevirtual 144, 3) := by decide +kernel
theorem dX5_statementOfWord_72 : decode cX5_statementOfWord 72 = .ok (.ifCond .eq 6, 3) := by decide +kernel
theorem dX5_statementOfWord_75 : decode cX5_statementOfWord 75 = .ok (.bipush 6, 2) := by decide +kernel
theorem dX5_statementOfWord_77 : decode cX5_statementOfWord 77 = .ok (.ireturn, 1) := by decide +kernel
theorem dX5_statementOfWord_78 : decode cX5_statementOfWord 78 = .ok (.aload_n 0, 1) := by decide +kernel
theorem dX5_statementOfWord_79 : decode cX5_statementOfWord 79 = .ok (.ldc 205, 2) := by decide +kernel
theorem dX5_statementOfWord_81 : decode cX5_statementOfWord 81 = .ok (.invokevirtual 144, 3) := by decide +kernel
theorem dX5_statementOfWord_84 : decode cX5_statementOfWord 84 = .ok (.ifCond .eq 6, 3) := by decide +kernel
theorem dX5_statementOfWord_87 : decode cX5_statementOfWord 87 = .ok (.bipush 7, 2) := by decide +kernel
theorem dX5_statementOfWord_89 : decode cX5_statementOfWord 89 = .ok (.ireturn, 1) := by decide +kernel
theorem dX5_statementOfWord_90 : decode cX5_statementOfWord 90 = .ok (.aload_n 0, 1) := by decide +kernel
theorem dX5_statementOfWord_91 : decode cX5_statementOfWord 91 = .ok (.ldc 206, 2) := by decide +kernel
theorem dX5_statementOfWord_93 : decode cX5_statementOfWord 93 = .ok (.invokevirtual 144, 3) := by decide +kernel
theorem dX5_statementOfWord_96 : decode cX5_statementOfWord 96 = .ok (.ifCond .eq 6, 3) := by decide +kernel
theorem dX5_statementOfWord_99 : decode cX5_statementOfWord 99 = .ok (.bipush 8, 2) := by decide +kernel
theorem dX5_statementOfWord_101 : decode cX5_statementOfWord 101 = .ok (.ireturn, 1) := by decide +kernel
theorem dX5_statementOfWord_102 : decode cX5_statementOfWord 102 = .ok (.aload_n 0, 1) := by decide +kernel
theorem dX5_statementOfWord_103 : decode cX5_statementOfWord 103 = .ok (.ldc 208, 2) := by decide +kernel
theorem dX5_statementOfWord_105 : decode cX5_statementOfWord 105 = .ok (.invokevirtual 144, 3) := by decide +kernel
theorem dX5_statementOfWord_108 : decode cX5_statementOfWord 108 = .ok (.ifCond .eq 6, 3) := by decide +kernel
theorem dX5_statementOfWord_111 : decode cX5_statementOfWord 111 = .ok (.bipush 9, 2) := by decide +kernel
theorem dX5_statementOfWord_113 : decode cX5_statementOfWord 113 = .ok (.ireturn, 1) := by decide +kernel
theorem dX5_statementOfWord_114 : decode cX5_statementOfWord 114 = .ok (.aload_n 0, 1) := by decide +kernel
theorem dX5_statementOfWord_115 : decode cX5_statementOfWord 115 = .ok (.ldc 210, 2) := by decide +kernel
theorem dX5_statementOfWord_117 : decode cX5_statementOfWord 117 = .ok (.invokevirtual 144, 3) := by decide +kernel
theorem dX5_statementOfWord_120 : decode cX5_statementOfWord 120 = .ok (.ifCond .eq 6, 3) := by decide +kernel
theorem dX5_statementOfWord_123 : decode cX5_statementOfWord 123 = .ok (.bipush 10, 2) := by decide +kernel
theorem dX5_statementOfWord_125 : decode cX5_statementOfWord 125 = .ok (.ireturn, 1) := by decide +kernel
theorem dX5_statementOfWord_126 : decode cX5_statementOfWord 126 = .ok (.aload_n 0, 1) := by decide +kernel
theorem dX5_statementOfWord_127 : decode cX5_statementOfWord 127 = .ok (.ldc 212, 2) := by decide +kernel
theorem dX5_statementOfWord_129 : decode cX5_statementOfWord 129 = .ok (.invokevirtual 144, 3) := by decide +kernel
theorem dX5_statementOfWord_132 : decode cX5_statementOfWord 132 = .ok (.ifCond .eq 6, 3) := by decide +kernel
theorem dX5_statementOfWord_135 : decode cX5_statementOfWord 135 = .ok (.bipush 11, 2) := by decide +kernel
theorem dX5_statementOfWord_137 : decode cX5_statementOfWord 137 = .ok (.ireturn, 1) := by decide +kernel
theorem dX5_statementOfWord_138 : decode cX5_statementOfWord 138 = .ok (.iconst (-1), 1) := by decide +kernel
theorem dX5_statementOfWord_139 : decode cX5_statementOfWord 139 = .ok (.ireturn, 1) := by decide +kernel
theorem dX5_isWord_0 : decode cX5_isWord 0 = .ok (.aload_n 0, 1) := by decide +kernel
theorem dX5_isWord_1 : decode cX5_isWord 1 = .ok (.getfield 42, 3) := by decide +kernel
theorem dX5_isWord_4 : decode cX5_isWord 4 = .ok (.iconst 1, 1) := by decide +kernel
theorem dX5_isWord_5 : decode cX5_isWord 5 = .ok (.if_icmp .ne 19, 3) := by decide +kernel
theorem dX5_isWord_8 : decode cX5_isWord 8 = .ok (.aload_n 0, 1) := by decide +kernel
theorem dX5_isWord_9 : decode cX5_isWord 9 = .ok (.getfield 25, 3) := by decide +kernel
theorem dX5_isWord_12 : decode cX5_isWord 12 = .ok (.aload_n 0, 1) := by decide +kernel
theorem dX5_isWord_13 : decode cX5_isWord 13 = .ok (.getfield 56, 3) := by decide +kernel
theorem dX5_isWord_16 : decode cX5_isWord 16 = .ok (.isub, 1) := by decide +kernel
theorem dX5_isWord_17 : decode cX5_isWord 17 = .ok (.aload_n 1, 1) := by decide +kernel
theorem dX5_isWord_18 : decode cX5_isWord 18 = .ok (.invokevirtual 214, 3) := by decide +kernel
theorem dX5_isWord_21 : decode cX5_isWord 21 = .ok (.if_icmp .eq 5, 3) := by decide +kernel
theorem dX5_isWord_24 : decode cX5_isWord 24 = .ok (.iconst 0, 1) := by decide +kernel
theorem dX5_isWord_25 : decode cX5_isWord 25 = .ok (.ireturn, 1) := by decide +kernel
theorem dX5_isWord_26 : decode cX5_isWord 26 = .ok (.iconst 0, 1) := by decide +kernel
theorem dX5_isWord_27 : decode cX5_isWord 27 = .ok (.istore_n 2, 1) := by decide +kernel
theorem dX5_isWord_28 : decode cX5_isWord 28 = .ok (.iload_n 2, 1) := by decide +kernel
theorem dX5_isWord_29 : decode cX5_isWord 29 = .ok (.aload_n 1, 1) := by decide +kernel
theorem dX5_isWord_30 : decode cX5_isWord 30 = .ok (.invokevirtual 214, 3) := by decide +kernel
theorem dX5_isWord_33 : decode cX5_isWord 33 = .ok (.if_icmp .ge 30, 3) := by decide +kernel
theorem dX5_isWord_36 : decode cX5_isWord 36 = .ok (.aload_n 0, 1) := by decide +kernel
theorem dX5_isWord_37 : decode cX5_isWord 37 = .ok (.getfield 9, 3) := by decide +kernel
theorem dX5_isWord_40 : decode cX5_isWord 40 = .ok (.aload_n 0, 1) := by decide +kernel
theorem dX5_isWord_41 : decode cX5_isWord 41 = .ok (.getfield 56, 3) := by decide +kernel
theorem dX5_isWord_44 : decode cX5_isWord 44 = .ok (.iload_n 2, 1) := by decide +kernel
theorem dX5_isWord_45 : decode cX5_isWord 45 = .ok (.iadd, 1) := by decide +kernel
theorem dX5_isWord_46 : decode cX5_isWord 46 = .ok (.baload, 1) := by decide +kernel
theorem dX5_isWord_47 : decode cX5_isWord 47 = .ok (.aload_n 1, 1) := by decide +kernel
theorem dX5_isWord_48 : decode cX5_isWord 48 = .ok (.iload_n 2, 1) := by decide +kernel
theorem dX5_isWord_49 : decode cX5_isWord 49 = .ok (.invokevirtual 218, 3) := by decide +kernel
theorem dX5_isWord_52 : decode cX5_isWord 52 = .ok (.if_icmp .eq 5, 3) := by decide +kernel
theorem dX5_isWord_55 : decode cX5_isWord 55 = .ok (.iconst 0, 1) := by decide +kernel
theorem dX5_isWord_56 : decode cX5_isWord 56 = .ok (.ireturn, 1) := by decide +kernel
theorem dX5_isWord_57 : decode cX5_isWord 57 = .ok (.iinc 2 1, 3) := by decide +kernel
theorem dX5_isWord_60 : decode cX5_isWord 60 = .ok (.goto (-32), 3) := by decide +kernel
theorem dX5_isWord_63 : decode cX5_isWord 63 = .ok (.iconst 1, 1) := by decide +kernel
theorem dX5_isWord_64 : decode cX5_isWord 64 = .ok (.ireturn, 1) := by decide +kernel
theorem dX5_readToken_0 : decode cX5_readToken 0 = .ok (.aload_n 0, 1) := by decide +kernel
theorem dX5_readToken_1 : decode cX5_readToken 1 = .ok (.aload_n 0, 1) := by decide +kernel
theorem dX5_readToken_2 : decode cX5_readToken 2 = .ok (.getfield 25, 3) := by decide +kernel
theorem dX5_readToken_5 : decode cX5_readToken 5 = .ok (.putfield 56, 3) := by decide +kernel
theorem dX5_readToken_8 : decode cX5_readToken 8 = .ok (.aload_n 0, 1) := by decide +kernel
theorem dX5_readToken_9 : decode cX5_readToken 9 = .ok (.getfield 56, 3) := by decide +kernel
theorem dX5_readToken_12 : decode cX5_readToken 12 = .ok (.aload_n 0, 1) := by decide +kernel
theorem dX5_readToken_13 : decode cX5_readToken 13 = .ok (.getfield 21, 3) := by decide +kernel
theorem dX5_readToken_16 : decode cX5_readToken 16 = .ok (.if_icmp .ge 28, 3) := by decide +kernel
theorem dX5_readToken_19 : decode cX5_readToken 19 = .ok (.aload_n 0, 1) := by decide +kernel
theorem dX5_readToken_20 : decode cX5_readToken 20 = .ok (.aload_n 0, 1) := by decide +kernel
theorem dX5_readToken_21 : decode cX5_readToken 21 = .ok (.getfield 56, 3) := by decide +kernel
theorem dX5_readToken_24 : decode cX5_readToken 24 = .ok (.invokevirtual 222, 3) := by decide +kernel
theorem dX5_readToken_27 : decode cX5_readToken 27 = .ok (.iconst 4, 1) := by decide +kernel
theorem dX5_readToken_28 : decode cX5_readToken 28 = .ok (.if_icmp .ne 16, 3) := by decide +kernel
theorem dX5_readToken_31 : decode cX5_readToken 31 = .ok (.aload_n 0, 1) := by decide +kernel
theorem dX5_readToken_32 : decode cX5_readToken 32 = .ok (.dup, 1) := by decide +kernel
theorem dX5_readToken_33 : decode cX5_readToken 33 = .ok (.getfield 56, 3) := by decide +kernel
theorem dX5_readToken_36 : decode cX5_readToken 36 = .ok (.iconst 1, 1) := by decide +kernel
theorem dX5_readToken_37 : decode cX5_readToken 37 = .ok (.iadd, 1) := by decide +kernel
theorem dX5_readToken_38 : decode cX5_readToken 38 = .ok (.putfield 56, 3) := by decide +kernel
theorem dX5_readToken_41 : decode cX5_readToken 41 = .ok (.goto (-33), 3) := by decide +kernel
theorem dX5_readToken_44 : decode cX5_readToken 44 = .ok (.aload_n 0, 1) := by decide +kernel
theorem dX5_readToken_45 : decode cX5_readToken 45 = .ok (.aload_n 0, 1) := by decide +kernel
theorem dX5_readToken_46 : decode cX5_readToken 46 = .ok (.aload_n 0, 1) := by decide +kernel
theorem dX5_readToken_47 : decode cX5_readToken 47 = .ok (.getfield 56, 3) := by decide +kernel
theorem dX5_readToken_50 : decode cX5_readToken 50 = .ok (.invokevirtual 222, 3) := by decide +kernel
theorem dX5_readToken_53 : decode cX5_readToken 53 = .ok (.putfield 42, 3) := by decide +kernel
theorem dX5_readToken_56 : decode cX5_readToken 56 = .ok (.aload_n 0, 1) := by decide +kernel
theorem dX5_readToken_57 : decode cX5_readToken 57 = .ok (.aload_n 0, 1) := by decide +kernel
theorem dX5_readToken_58 : decode cX5_readToken 58 = .ok (.getfield 42, 3) := by decide +kernel
theorem dX5_readToken_61 : decode cX5_readToken 61 = .ok (.ifCond .ne 10, 3) := by decide +kernel
theorem dX5_readToken_64 : decode cX5_readToken 64 = .ok (.aload_n 0, 1) := by decide +kernel
theorem dX5_readToken_65 : decode cX5_readToken 65 = .ok (.getfield 56, 3) := by decide +kernel
theorem dX5_readToken_68 : decode cX5_readToken 68 = .ok (.goto 9, 3) := by decide +kernel
theorem dX5_readToken_71 : decode cX5_readToken 71 = .ok (.aload_n 0, 1) := by decide +kernel
theorem dX5_readToken_72 : decode cX5_readToken 72 = .ok (.getfield 56, 3) := by decide +kernel
theorem dX5_readToken_75 : decode cX5_readToken 75 = .ok (.iconst 1, 1) := by decide +kernel
theorem dX5_readToken_76 : decode cX5_readToken 76 = .ok (.iadd, 1) := by decide +kernel
theorem dX5_readToken_77 : decode cX5_readToken 77 = .ok (.putfield 25, 3) := by decide +kernel
theorem dX5_readToken_80 : decode cX5_readToken 80 = .ok (.aload_n 0, 1) := by decide +kernel
theorem dX5_readToken_81 : decode cX5_readToken 81 = .ok (.getfield 42, 3) := by decide +kernel
theorem dX5_readToken_84 : decode cX5_readToken 84 = .ok (.iconst 1, 1) := by decide +kernel
theorem dX5_readToken_85 : decode cX5_readToken 85 = .ok (.if_icmp .eq 11, 3) := by decide +kernel
theorem dX5_readToken_88 : decode cX5_readToken 88 = .ok (.aload_n 0, 1) := by decide +kernel
theorem dX5_readToken_89 : decode cX5_readToken 89 = .ok (.getfield 42, 3) := by decide +kernel
theorem dX5_readToken_92 : decode cX5_readToken 92 = .ok (.iconst 2, 1) := by decide +kernel
theorem dX5_readToken_93 : decode cX5_readToken 93 = .ok (.if_icmp .ne 42, 3) := by decide +kernel
theorem dX5_readToken_96 : decode cX5_readToken 96 = .ok (.aload_n 0, 1) := by decide +kernel
theorem dX5_readToken_97 : decode cX5_readToken 97 = .ok (.getfield 25, 3) := by decide +kernel
theorem dX5_readToken_100 : decode cX5_readToken 100 = .ok (.aload_n 0, 1) := by decide +kernel
theorem dX5_readToken_101 : decode cX5_readToken 101 = .ok (.getfield 21, 3) := by decide +kernel
theorem dX5_readToken_104 : decode cX5_readToken 104 = .ok (.if_icmp .ge 31, 3) := by decide +kernel
theorem dX5_readToken_107 : decode cX5_readToken 107 = .ok (.aload_n 0, 1) := by decide +kernel
theorem dX5_readToken_108 : decode cX5_readToken 108 = .ok (.aload_n 0, 1) := by decide +kernel
theorem dX5_readToken_109 : decode cX5_readToken 109 = .ok (.getfield 25, 3) := by decide +kernel
theorem dX5_readToken_112 : decode cX5_readToken 112 = .ok (.invokevirtual 222, 3) := by decide +kernel
theorem dX5_readToken_115 : decode cX5_readToken 115 = .ok (.aload_n 0, 1) := by decide +kernel
theorem dX5_readToken_116 : decode cX5_readToken 116 = .ok (.getfield 42, 3) := by decide +kernel
theorem dX5_readToken_119 : decode cX5_readToken 119 = .ok (.if_icmp .ne 16, 3) := by decide +kernel
theorem dX5_readToken_122 : decode cX5_readToken 122 = .ok (.aload_n 0, 1) := by decide +kernel
theorem dX5_readToken_123 : decode cX5_readToken 123 = .ok (.dup, 1) := by decide +kernel
theorem dX5_readToken_124 : decode cX5_readToken 124 = .ok (.getfield 25, 3) := by decide +kernel
theorem dX5_readToken_127 : decode cX5_readToken 127 = .ok (.iconst 1, 1) := by decide +kernel
theorem dX5_readToken_128 : decode cX5_readToken 128 = .ok (.iadd, 1) := by decide +kernel
theorem dX5_readToken_129 : decode cX5_readToken 129 = .ok (.putfield 25, 3) := by decide +kernel
theorem dX5_readToken_132 : decode cX5_readToken 132 = .ok (.goto (-36), 3) := by decide +kernel
theorem dX5_readToken_135 : decode cX5_readToken 135 = .ok (.aload_n 0, 1) := by decide +kernel
theorem dX5_readToken_136 : decode cX5_readToken 136 = .ok (.getfield 42, 3) := by decide +kernel
theorem dX5_readToken_139 : decode cX5_readToken 139 = .ok (.iconst 2, 1) := by decide +kernel
theorem dX5_readToken_140 : decode cX5_readToken 140 = .ok (.if_icmp .ne 7, 3) := by decide +kernel
theorem dX5_readToken_143 : decode cX5_readToken 143 = .ok (.aload_n 0, 1) := by decide +kernel
theorem dX5_readToken_144 : decode cX5_readToken 144 = .ok (.invokevirtual 226, 3) := by decide +kernel
theorem dX5_readToken_147 : decode cX5_readToken 147 = .ok (.return_, 1) := by decide +kernel
theorem dX5_readValue_0 : decode cX5_readValue 0 = .ok (.aload_n 0, 1) := by decide +kernel
theorem dX5_readValue_1 : decode cX5_readValue 1 = .ok (.getfield 25, 3) := by decide +kernel
theorem dX5_readValue_4 : decode cX5_readValue 4 = .ok (.aload_n 0, 1) := by decide +kernel
theorem dX5_readValue_5 : decode cX5_readValue 5 = .ok (.getfield 56, 3) := by decide +kernel
theorem dX5_readValue_8 : decode cX5_readValue 8 = .ok (.isub, 1) := by decide +kernel
theorem dX5_readValue_9 : decode cX5_readValue 9 = .ok (.iconst 3, 1) := by decide +kernel
theorem dX5_readValue_10 : decode cX5_readValue 10 = .ok (.if_icmp .le 9, 3) := by decide +kernel
theorem dX5_readValue_13 : decode cX5_readValue 13 = .ok (.aload_n 0, 1) := by decide +kernel
theorem dX5_readValue_14 : decode cX5_readValue 14 = .ok (.iconst 5, 1) := by decide +kernel
theorem dX5_readValue_15 : decode cX5_readValue 15 = .ok (.putfield 42, 3) := by decide +kernel
theorem dX5_readValue_18 : decode cX5_readValue 18 = .ok (.return_, 1) := by decide +kernel
theorem dX5_readValue_19 : decode cX5_readValue 19 = .ok (.aload_n 0, 1) := by decide +kernel
theorem dX5_readValue_20 : decode cX5_readValue 20 = .ok (.iconst 0, 1) := by decide +kernel
theorem dX5_readValue_21 : decode cX5_readValue 21 = .ok (.putfield 192, 3) := by decide +kernel
theorem dX5_readValue_24 : decode cX5_readValue 24 = .ok (.aload_n 0, 1) := by decide +kernel
theorem dX5_readValue_25 : decode cX5_readValue 25 = .ok (.getfield 56, 3) := by decide +kernel
theorem dX5_readValue_28 : decode cX5_readValue 28 = .ok (.istore_n 1, 1) := by decide +kernel
theorem dX5_readValue_29 : decode cX5_readValue 29 = .ok (.iload_n 1, 1) := by decide +kernel
theorem dX5_readValue_30 : decode cX5_readValue 30 = .ok (.aload_n 0, 1) := by decide +kernel
theorem dX5_readValue_31 : decode cX5_readValue 31 = .ok (.getfield 25, 3) := by decide +kernel
theorem dX5_readValue_34 : decode cX5_readValue 34 = .ok (.if_icmp .ge 30, 3) := by decide +kernel
theorem dX5_readValue_37 : decode cX5_readValue 37 = .ok (.aload_n 0, 1) := by decide +kernel
theorem dX5_readValue_38 : decode cX5_readValue 38 = .ok (.bipush 10, 2) := by decide +kernel
theorem dX5_readValue_40 : decode cX5_readValue 40 = .ok (.aload_n 0, 1) := by decide +kernel
theorem dX5_readValue_41 : decode cX5_readValue 41 = .ok (.getfield 192, 3) := by decide +kernel
theorem dX5_readValue_44 : decode cX5_readValue 44 = .ok (.imul, 1) := by decide +kernel
theorem dX5_readValue_45 : decode cX5_readValue 45 = .ok (.aload_n 0, 1) := by decide +kernel
theorem dX5_readValue_46 : decode cX5_readValue 46 = .ok (.getfield 9, 3) := by decide +kernel
theorem dX5_readValue_49 : decode cX5_readValue 49 = .ok (.iload_n 1, 1) := by decide +kernel
theorem dX5_readValue_50 : decode cX5_readValue 50 = .ok (.baload, 1) := by decide +kernel
theorem dX5_readValue_51 : decode cX5_readValue 51 = .ok (.iadd, 1) := by decide +kernel
theorem dX5_readValue_52 : decode cX5_readValue 52 = .ok (.bipush 48, 2) := by decide +kernel
theorem dX5_readValue_54 : decode cX5_readValue 54 = .ok (.isub, 1) := by decide +kernel
theorem dX5_readValue_55 : decode cX5_readValue 55 = .ok (.putfield 192, 3) := by decide +kernel
theorem dX5_readValue_58 : decode cX5_readValue 58 = .ok (.iinc 1 1, 3) := by decide +kernel
theorem dX5_readValue_61 : decode cX5_readValue 61 = .ok (.goto (-32), 3) := by decide +kernel
theorem dX5_readValue_64 : decode cX5_readValue 64 = .ok (.return_, 1) := by decide +kernel
theorem dX5_kindAt_0 : decode cX5_kindAt 0 = .ok (.iload_n 1, 1) := by decide +kernel
theorem dX5_kindAt_1 : decode cX5_kindAt 1 = .ok (.ifCond .lt 11, 3) := by decide +kernel
theorem dX5_kindAt_4 : decode cX5_kindAt 4 = .ok (.iload_n 1, 1) := by decide +kernel
theorem dX5_kindAt_5 : decode cX5_kindAt 5 = .ok (.aload_n 0, 1) := by decide +kernel
theorem dX5_kindAt_6 : decode cX5_kindAt 6 = .ok (.getfield 21, 3) := by decide +kernel
theorem dX5_kindAt_9 : decode cX5_kindAt 9 = .ok (.if_icmp .lt 5, 3) := by decide +kernel
theorem dX5_kindAt_12 : decode cX5_kindAt 12 = .ok (.iconst 0, 1) := by decide +kernel
theorem dX5_kindAt_13 : decode cX5_kindAt 13 = .ok (.ireturn, 1) := by decide +kernel
theorem dX5_kindAt_14 : decode cX5_kindAt 14 = .ok (.aload_n 0, 1) := by decide +kernel
theorem dX5_kindAt_15 : decode cX5_kindAt 15 = .ok (.getfield 9, 3) := by decide +kernel
theorem dX5_kindAt_18 : decode cX5_kindAt 18 = .ok (.iload_n 1, 1) := by decide +kernel
theorem dX5_kindAt_19 : decode cX5_kindAt 19 = .ok (.baload, 1) := by decide +kernel
theorem dX5_kindAt_20 : decode cX5_kindAt 20 = .ok (.istore_n 2, 1) := by decide +kernel
theorem dX5_kindAt_21 : decode cX5_kindAt 21 = .ok (.iload_n 2, 1) := by decide +kernel
theorem dX5_kindAt_22 : decode cX5_kindAt 22 = .ok (.bipush 97, 2) := by decide +kernel
theorem dX5_kindAt_24 : decode cX5_kindAt 24 = .ok (.if_icmp .lt 11, 3) := by decide +kernel
theorem dX5_kindAt_27 : decode cX5_kindAt 27 = .ok (.iload_n 2, 1) := by decide +kernel
theorem dX5_kindAt_28 : decode cX5_kindAt 28 = .ok (.bipush 122, 2) := by decide +kernel
theorem dX5_kindAt_30 : decode cX5_kindAt 30 = .ok (.if_icmp .gt 5, 3) := by decide +kernel
theorem dX5_kindAt_33 : decode cX5_kindAt 33 = .ok (.iconst 1, 1) := by decide +kernel
theorem dX5_kindAt_34 : decode cX5_kindAt 34 = .ok (.ireturn, 1) := by decide +kernel
theorem dX5_kindAt_35 : decode cX5_kindAt 35 = .ok (.iload_n 2, 1) := by decide +kernel
theorem dX5_kindAt_36 : decode cX5_kindAt 36 = .ok (.bipush 48, 2) := by decide +kernel
theorem dX5_kindAt_38 : decode cX5_kindAt 38 = .ok (.if_icmp .lt 11, 3) := by decide +kernel
theorem dX5_kindAt_41 : decode cX5_kindAt 41 = .ok (.iload_n 2, 1) := by decide +kernel
theorem dX5_kindAt_42 : decode cX5_kindAt 42 = .ok (.bipush 57, 2) := by decide +kernel
theorem dX5_kindAt_44 : decode cX5_kindAt 44 = .ok (.if_icmp .gt 5, 3) := by decide +kernel
theorem dX5_kindAt_47 : decode cX5_kindAt 47 = .ok (.iconst 2, 1) := by decide +kernel
theorem dX5_kindAt_48 : decode cX5_kindAt 48 = .ok (.ireturn, 1) := by decide +kernel
theorem dX5_kindAt_49 : decode cX5_kindAt 49 = .ok (.iload_n 2, 1) := by decide +kernel
theorem dX5_kindAt_50 : decode cX5_kindAt 50 = .ok (.bipush 32, 2) := by decide +kernel
theorem dX5_kindAt_52 : decode cX5_kindAt 52 = .ok (.if_icmp .eq 9, 3) := by decide +kernel
theorem dX5_kindAt_55 : decode cX5_kindAt 55 = .ok (.iload_n 2, 1) := by decide +kernel
theorem dX5_kindAt_56 : decode cX5_kindAt 56 = .ok (.bipush 10, 2) := by decide +kernel
theorem dX5_kindAt_58 : decode cX5_kindAt 58 = .ok (.if_icmp .ne 5, 3) := by decide +kernel
theorem dX5_kindAt_61 : decode cX5_kindAt 61 = .ok (.iconst 4, 1) := by decide +kernel
theorem dX5_kindAt_62 : decode cX5_kindAt 62 = .ok (.ireturn, 1) := by decide +kernel
theorem dX5_kindAt_63 : decode cX5_kindAt 63 = .ok (.iload_n 2, 1) := by decide +kernel
theorem dX5_kindAt_64 : decode cX5_kindAt 64 = .ok (.bipush 59, 2) := by decide +kernel
theorem dX5_kindAt_66 : decode cX5_kindAt 66 = .ok (.if_icmp .ne 7, 3) := by decide +kernel
theorem dX5_kindAt_69 : decode cX5_kindAt 69 = .ok (.iconst 3, 1) := by decide +kernel
theorem dX5_kindAt_70 : decode cX5_kindAt 70 = .ok (.goto 4, 3) := by decide +kernel
theorem dX5_kindAt_73 : decode cX5_kindAt 73 = .ok (.iconst 5, 1) := by decide +kernel
theorem dX5_kindAt_74 : decode cX5_kindAt 74 = .ok (.ireturn, 1) := by decide +kernel
theorem dX6_init_0 : decode cX6_init 0 = .ok (.aload_n 0, 1) := by decide +kernel
theorem dX6_init_1 : decode cX6_init 1 = .ok (.invokespecial 3, 3) := by decide +kernel
theorem dX6_init_4 : decode cX6_init 4 = .ok (.aload_n 0, 1) := by decide +kernel
theorem dX6_init_5 : decode cX6_init 5 = .ok (.iconst 4, 1) := by decide +kernel
theorem dX6_init_6 : decode cX6_init 6 = .ok (.anewarray 9, 3) := by decide +kernel
theorem dX6_init_9 : decode cX6_init 9 = .ok (.putfield 11, 3) := by decide +kernel
theorem dX6_init_12 : decode cX6_init 12 = .ok (.aload_n 0, 1) := by decide +kernel
theorem dX6_init_13 : decode cX6_init 13 = .ok (.new 17, 3) := by decide +kernel
theorem dX6_init_16 : decode cX6_init 16 = .ok (.dup, 1) := by decide +kernel
theorem dX6_init_17 : decode cX6_init 17 = .ok (.invokespecial 19, 3) := by decide +kernel
theorem dX6_init_20 : decode cX6_init 20 = .ok (.putfield 20, 3) := by decide +kernel
theorem dX6_init_23 : decode cX6_init 23 = .ok (.iconst 0, 1) := by decide +kernel
theorem dX6_init_24 : decode cX6_init 24 = .ok (.istore_n 1, 1) := by decide +kernel
theorem dX6_init_25 : decode cX6_init 25 = .ok (.iload_n 1, 1) := by decide +kernel
theorem dX6_init_26 : decode cX6_init 26 = .ok (.iconst 4, 1) := by decide +kernel
theorem dX6_init_27 : decode cX6_init 27 = .ok (.if_icmp .ge 22, 3) := by decide +kernel
theorem dX6_init_30 : decode cX6_init 30 = .ok (.aload_n 0, 1) := by decide +kernel
theorem dX6_init_31 : decode cX6_init 31 = .ok (.getfield 11, 3) := by decide +kernel
theorem dX6_init_34 : decode cX6_init 34 = .ok (.iload_n 1, 1) := by decide +kernel
theorem dX6_init_35 : decode cX6_init 35 = .ok (.new 9, 3) := by decide +kernel
theorem dX6_init_38 : decode cX6_init 38 = .ok (.dup, 1) := by decide +kernel
theorem dX6_init_39 : decode cX6_init 39 = .ok (.invokespecial 24, 3) := by decide +kernel
theorem dX6_init_42 : decode cX6_init 42 = .ok (.aastore, 1) := by decide +kernel
theorem dX6_init_43 : decode cX6_init 43 = .ok (.iinc 1 1, 3) := by decide +kernel
theorem dX6_init_46 : decode cX6_init 46 = .ok (.goto (-21), 3) := by decide +kernel
theorem dX6_init_49 : decode cX6_init 49 = .ok (.return_, 1) := by decide +kernel
theorem dX6_clear_0 : decode cX6_clear 0 = .ok (.aload_n 0, 1) := by decide +kernel
theorem dX6_clear_1 : decode cX6_clear 1 = .ok (.iconst 0, 1) := by decide +kernel
theorem dX6_clear_2 : decode cX6_clear 2 = .ok (.putfield 25, 3) := by decide +kernel
theorem dX6_clear_5 : decode cX6_clear 5 = .ok (.aload_n 0, 1) := by decide +kernel
theorem dX6_clear_6 : decode cX6_clear 6 = .ok (.iconst 0, 1) := by decide +kernel
theorem dX6_clear_7 : decode cX6_clear 7 = .ok (.putfield 29, 3) := by decide +kernel
theorem dX6_clear_10 : decode cX6_clear 10 = .ok (.aload_n 0, 1) := by decide +kernel
theorem dX6_clear_11 : decode cX6_clear 11 = .ok (.iconst 0, 1) := by decide +kernel
theorem dX6_clear_12 : decode cX6_clear 12 = .ok (.putfield 32, 3) := by decide +kernel
theorem dX6_clear_15 : decode cX6_clear 15 = .ok (.aload_n 0, 1) := by decide +kernel
theorem dX6_clear_16 : decode cX6_clear 16 = .ok (.getfield 20, 3) := by decide +kernel
theorem dX6_clear_19 : decode cX6_clear 19 = .ok (.iconst 0, 1) := by decide +kernel
theorem dX6_clear_20 : decode cX6_clear 20 = .ok (.putfield 35, 3) := by decide +kernel
theorem dX6_clear_23 : decode cX6_clear 23 = .ok (.return_, 1) := by decide +kernel
theorem dX6_copyFrom_0 : decode cX6_copyFrom 0 = .ok (.aload_n 0, 1) := by decide +kernel
theorem dX6_copyFrom_1 : decode cX6_copyFrom 1 = .ok (.aload_n 1, 1) := by decide +kernel
theorem dX6_copyFrom_2 : decode cX6_copyFrom 2 = .ok (.getfield 25, 3) := by decide +kernel
theorem dX6_copyFrom_5 : decode cX6_copyFrom 5 = .ok (.putfield 25, 3) := by decide +kernel
theorem dX6_copyFrom_8 : decode cX6_copyFrom 8 = .ok (.iconst 0, 1) := by decide +kernel
theorem dX6_copyFrom_9 : decode cX6_copyFrom 9 = .ok (.istore_n 2, 1) := by decide +kernel
theorem dX6_copyFrom_10 : decode cX6_copyFrom 10 = .ok (.iload_n 2, 1) := by decide +kernel
theorem dX6_copyFrom_11 : decode cX6_copyFrom 11 = .ok (.aload_n 0, 1) := by decide +kernel
theorem dX6_copyFrom_12 : decode cX6_copyFrom 12 = .ok (.getfield 25, 3) := by decide +kernel
theorem dX6_copyFrom_15 : decode cX6_copyFrom 15 = .ok (.if_icmp .ge 24, 3) := by decide +kernel
theorem dX6_copyFrom_18 : decode cX6_copyFrom 18 = .ok (.aload_n 0, 1) := by decide +kernel
theorem dX6_copyFrom_19 : decode cX6_copyFrom 19 = .ok (.getfield 11, 3) := by decide +kernel
theorem dX6_copyFrom_22 : decode cX6_copyFrom 22 = .ok (.iload_n 2, 1) := by decide +kernel
theorem dX6_copyFrom_23 : decode cX6_copyFrom 23 = .ok (.aaload, 1) := by decide +kernel
theorem dX6_copyFrom_24 : decode cX6_copyFrom 24 = .ok (.aload_n 1, 1) := by decide +kernel
theorem dX6_copyFrom_25 : decode cX6_copyFrom 25 = .ok (.getfield 11, 3) := by decide +kernel
theorem dX6_copyFrom_28 : decode cX6_copyFrom 28 = .ok (.iload_n 2, 1) := by decide +kernel
theorem dX6_copyFrom_29 : decode cX6_copyFrom 29 = .ok (.aaload, 1) := by decide +kernel
theorem dX6_copyFrom_30 : decode cX6_copyFrom 30 = .ok (.invokevirtual 38, 3) := by decide +kernel
theorem dX6_copyFrom_33 : decode cX6_copyFrom 33 = .ok (.iinc 2 1, 3) := by decide +kernel
theorem dX6_copyFrom_36 : decode cX6_copyFrom 36 = .ok (.goto (-26), 3) := by decide +kernel
theorem dX6_copyFrom_39 : decode cX6_copyFrom 39 = .ok (.aload_n 0, 1) := by decide +kernel
theorem dX6_copyFrom_40 : decode cX6_copyFrom 40 = .ok (.aload_n 1, 1) := by decide +kernel
theorem dX6_copyFrom_41 : decode cX6_copyFrom 41 = .ok (.getfield 29, 3) := by decide +kernel
theorem dX6_copyFrom_44 : decode cX6_copyFrom 44 = .ok (.putfield 29, 3) := by decide +kernel
theorem dX6_copyFrom_47 : decode cX6_copyFrom 47 = .ok (.aload_n 0, 1) := by decide +kernel
theorem dX6_copyFrom_48 : decode cX6_copyFrom 48 = .ok (.aload_n 1, 1) := by decide +kernel
theorem dX6_copyFrom_49 : decode cX6_copyFrom 49 = .ok (.getfield 32, 3) := by decide +kernel
theorem dX6_copyFrom_52 : decode cX6_copyFrom 52 = .ok (.putfield 32, 3) := by decide +kernel
theorem dX6_copyFrom_55 : decode cX6_copyFrom 55 = .ok (.aload_n 0, 1) := by decide +kernel
theorem dX6_copyFrom_56 : decode cX6_copyFrom 56 = .ok (.getfield 20, 3) := by decide +kernel
theorem dX6_copyFrom_59 : decode cX6_copyFrom 59 = .ok (.aload_n 1, 1) := by decide +kernel
theorem dX6_copyFrom_60 : decode cX6_copyFrom 60 = .ok (.getfield 20, 3) := by decide +kernel
theorem dX6_copyFrom_63 : decode cX6_copyFrom 63 = .ok (.invokevirtual 42, 3) := by decide +kernel
theorem dX6_copyFrom_66 : decode cX6_copyFrom 66 = .ok (.return_, 1) := by decide +kernel
theorem dX6_addPool_0 : decode cX6_addPool 0 = .ok (.aload_n 0, 1) := by decide +kernel
theorem dX6_addPool_1 : decode cX6_addPool 1 = .ok (.getfield 25, 3) := by decide +kernel
theorem dX6_addPool_4 : decode cX6_addPool 4 = .ok (.iconst 4, 1) := by decide +kernel
theorem dX6_addPool_5 : decode cX6_addPool 5 = .ok (.if_icmp .lt 4, 3) := by decide +kernel
theorem dX6_addPool_8 : decode cX6_addPool 8 = .ok (.return_, 1) := by decide +kernel
theorem dX6_addPool_9 : decode cX6_addPool 9 = .ok (.aload_n 0, 1) := by decide +kernel
theorem dX6_addPool_10 : decode cX6_addPool 10 = .ok (.getfield 11, 3) := by decide +kernel
theorem dX6_addPool_13 : decode cX6_addPool 13 = .ok (.aload_n 0, 1) := by decide +kernel
theorem dX6_addPool_14 : decode cX6_addPool 14 = .ok (.getfield 25, 3) := by decide +kernel
theorem dX6_addPool_17 : decode cX6_addPool 17 = .ok (.aaload, 1) := by decide +kernel
theorem dX6_addPool_18 : decode cX6_addPool 18 = .ok (.astore 4, 2) := by decide +kernel
theorem dX6_addPool_20 : decode cX6_addPool 20 = .ok (.aload_n 0, 1) := by decide +kernel
theorem dX6_addPool_21 : decode cX6_addPool 21 = .ok (.dup, 1) := by decide +kernel
theorem dX6_addPool_22 : decode cX6_addPool 22 = .ok (.getfield 25, 3) := by decide +kernel
theorem dX6_addPool_25 : decode cX6_addPool 25 = .ok (.iconst 1, 1) := by decide +kernel
theorem dX6_addPool_26 : decode cX6_addPool 26 = .ok (.iadd, 1) := by decide +kernel
theorem dX6_addPool_27 : decode cX6_addPool 27 = .ok (.putfield 25, 3) := by decide +kernel
theorem dX6_addPool_30 : decode cX6_addPool 30 = .ok (.aload 4, 2) := by decide +kernel
theorem dX6_addPool_32 : decode cX6_addPool 32 = .ok (.iload_n 1, 1) := by decide +kernel
theorem dX6_addPool_33 : decode cX6_addPool 33 = .ok (.iload_n 2, 1) := by decide +kernel
theorem dX6_addPool_34 : decode cX6_addPool 34 = .ok (.iload_n 3, 1) := by decide +kernel
theorem dX6_addPool_35 : decode cX6_addPool 35 = .ok (.invokevirtual 45, 3) := by decide +kernel
theorem dX6_addPool_38 : decode cX6_addPool 38 = .ok (.iconst 0, 1) := by decide +kernel
theorem dX6_addPool_39 : decode cX6_addPool 39 = .ok (.istore 5, 2) := by decide +kernel
theorem dX6_addPool_41 : decode cX6_addPool 41 = .ok (.iload 5, 2) := by decide +kernel
theorem dX6_addPool_43 : decode cX6_addPool 43 = .ok (.iload_n 1, 1) := by decide +kernel
theorem dX6_addPool_44 : decode cX6_addPool 44 = .ok (.if_icmp .ge 33, 3) := by decide +kernel
theorem dX6_addPool_47 : decode cX6_addPool 47 = .ok (.aload 4, 2) := by decide +kernel
theorem dX6_addPool_49 : decode cX6_addPool 49 = .ok (.getfield 49, 3) := by decide +kernel
theorem dX6_addPool_52 : decode cX6_addPool 52 = .ok (.aload_n 0, 1) := by decide +kernel
theorem dX6_addPool_53 : decode cX6_addPool 53 = .ok (.getfield 32, 3) := by decide +kernel
theorem dX6_addPool_56 : decode cX6_addPool 56 = .ok (.iconst 0, 1) := by decide +kernel
theorem dX6_addPool_57 : decode cX6_addPool 57 = .ok (.iconst 0, 1) := by decide +kernel
theorem dX6_addPool_58 : decode cX6_addPool 58 = .ok (.invokevirtual 53, 3) := by decide +kernel
theorem dX6_addPool_61 : decode cX6_addPool 61 = .ok (.aload_n 0, 1) := by decide +kernel
theorem dX6_addPool_62 : decode cX6_addPool 62 = .ok (.dup, 1) := by decide +kernel
theorem dX6_addPool_63 : decode cX6_addPool 63 = .ok (.getfield 32, 3) := by decide +kernel
theorem dX6_addPool_66 : decode cX6_addPool 66 = .ok (.iconst 1, 1) := by decide +kernel
theorem dX6_addPool_67 : decode cX6_addPool 67 = .ok (.iadd, 1) := by decide +kernel
theorem dX6_addPool_68 : decode cX6_addPool 68 = .ok (.putfield 32, 3) := by decide +kernel
theorem dX6_addPool_71 : decode cX6_addPool 71 = .ok (.iinc 5 1, 3) := by decide +kernel
theorem dX6_addPool_74 : decode cX6_addPool 74 = .ok (.goto (-33), 3) := by decide +kernel
theorem dX6_addPool_77 : decode cX6_addPool 77 = .ok (.return_, 1) := by decide +kernel
theorem dX6_countMembers_0 : decode cX6_countMembers 0 = .ok (.iconst 0, 1) := by decide +kernel
theorem dX6_countMembers_1 : decode cX6_countMembers 1 = .ok (.istore_n 1, 1) := by decide +kernel
theorem dX6_countMembers_2 : decode cX6_countMembers 2 = .ok (.iconst 0, 1) := by decide +kernel
theorem dX6_countMembers_3 : decode cX6_countMembers 3 = .ok (.istore_n 2, 1) := by decide +kernel
theorem dX6_countMembers_4 : decode cX6_countMembers 4 = .ok (.iload_n 2, 1) := by decide +kernel
theorem dX6_countMembers_5 : decode cX6_countMembers 5 = .ok (.aload_n 0, 1) := by decide +kernel
theorem dX6_countMembers_6 : decode cX6_countMembers 6 = .ok (.getfield 25, 3) := by decide +kernel
theorem dX6_countMembers_9 : decode cX6_countMembers 9 = .ok (.if_icmp .ge 24, 3) := by decide +kernel
theorem dX6_countMembers_12 : decode cX6_countMembers 12 = .ok (.iload_n 1, 1) := by decide +kernel
theorem dX6_countMembers_13 : decode cX6_countMembers 13 = .ok (.aload_n 0, 1) := by decide +kernel
theorem dX6_countMembers_14 : decode cX6_countMembers 14 = .ok (.getfield 11, 3) := by decide +kernel
theorem dX6_countMembers_17 : decode cX6_countMembers 17 = .ok (.iload_n 2, 1) := by decide +kernel
theorem dX6_countMembers_18 : decode cX6_countMembers 18 = .ok (.aaload, 1) := by decide +kernel
theorem dX6_countMembers_19 : decode cX6_countMembers 19 = .ok (.getfield 49, 3) := by decide +kernel
theorem dX6_countMembers_22 : decode cX6_countMembers 22 = .ok (.getfield 58, 3) := by decide +kernel
theorem dX6_countMembers_25 : decode cX6_countMembers 25 = .ok (.iadd, 1) := by decide +kernel
theorem dX6_countMembers_26 : decode cX6_countMembers 26 = .ok (.istore_n 1, 1) := by decide +kernel
theorem dX6_countMembers_27 : decode cX6_countMembers 27 = .ok (.iinc 2 1, 3) := by decide +kernel
theorem dX6_countMembers_30 : decode cX6_countMembers 30 = .ok (.goto (-26), 3) := by decide +kernel
theorem dX6_countMembers_33 : decode cX6_countMembers 33 = .ok (.iload_n 1, 1) := by decide +kernel
theorem dX6_countMembers_34 : decode cX6_countMembers 34 = .ok (.ireturn, 1) := by decide +kernel
theorem dX6_homeOf_0 : decode cX6_homeOf 0 = .ok (.iconst 0, 1) := by decide +kernel
theorem dX6_homeOf_1 : decode cX6_homeOf 1 = .ok (.istore_n 2, 1) := by decide +kernel
theorem dX6_homeOf_2 : decode cX6_homeOf 2 = .ok (.iload_n 2, 1) := by decide +kernel
theorem dX6_homeOf_3 : decode cX6_homeOf 3 = .ok (.aload_n 0, 1) := by decide +kernel
theorem dX6_homeOf_4 : decode cX6_homeOf 4 = .ok (.getfield 25, 3) := by decide +kernel
theorem dX6_homeOf_7 : decode cX6_homeOf 7 = .ok (.if_icmp .ge 27, 3) := by decide +kernel
theorem dX6_homeOf_10 : decode cX6_homeOf 10 = .ok (.aload_n 0, 1) := by decide +kernel
theorem dX6_homeOf_11 : decode cX6_homeOf 11 = .ok (.getfield 11, 3) := by decide +kernel
theorem dX6_homeOf_14 : decode cX6_homeOf 14 = .ok (.iload_n 2, 1) := by decide +kernel
theorem dX6_homeOf_15 : decode cX6_homeOf 15 = .ok (.aaload, 1) := by decide +kernel
theorem dX6_homeOf_16 : decode cX6_homeOf 16 = .ok (.getfield 49, 3) := by decide +kernel
theorem dX6_homeOf_19 : decode cX6_homeOf 19 = .ok (.iload_n 1, 1) := by decide +kernel
theorem dX6_homeOf_20 : decode cX6_homeOf 20 = .ok (.invokevirtual 61, 3) := by decide +kernel
theorem dX6_homeOf_23 : decode cX6_homeOf 23 = .ok (.ifCond .lt 5, 3) := by decide +kernel
theorem dX6_homeOf_26 : decode cX6_homeOf 26 = .ok (.iload_n 2, 1) := by decide +kernel
theorem dX6_homeOf_27 : decode cX6_homeOf 27 = .ok (.ireturn, 1) := by decide +kernel
theorem dX6_homeOf_28 : decode cX6_homeOf 28 = .ok (.iinc 2 1, 3) := by decide +kernel
theorem dX6_homeOf_31 : decode cX6_homeOf 31 = .ok (.goto (-29), 3) := by decide +kernel
theorem dX6_homeOf_34 : decode cX6_homeOf 34 = .ok (.iconst (-1), 1) := by decide +kernel
theorem dX6_homeOf_35 : decode cX6_homeOf 35 = .ok (.ireturn, 1) := by decide +kernel
theorem dX6_placeIn_0 : decode cX6_placeIn 0 = .ok (.iload_n 1, 1) := by decide +kernel
theorem dX6_placeIn_1 : decode cX6_placeIn 1 = .ok (.ifCond .lt 11, 3) := by decide +kernel
theorem dX6_placeIn_4 : decode cX6_placeIn 4 = .ok (.iload_n 1, 1) := by decide +kernel
theorem dX6_placeIn_5 : decode cX6_placeIn 5 = .ok (.aload_n 0, 1) := by decide +kernel
theorem dX6_placeIn_6 : decode cX6_placeIn 6 = .ok (.getfield 25, 3) := by decide +kernel
theorem dX6_placeIn_9 : decode cX6_placeIn 9 = .ok (.if_icmp .lt 7, 3) := by decide +kernel
theorem dX6_placeIn_12 : decode cX6_placeIn 12 = .ok (.iconst (-1), 1) := by decide +kernel
theorem dX6_placeIn_13 : decode cX6_placeIn 13 = .ok (.goto 16, 3) := by decide +kernel
theorem dX6_placeIn_16 : decode cX6_placeIn 16 = .ok (.aload_n 0, 1) := by decide +kernel
theorem dX6_placeIn_17 : decode cX6_placeIn 17 = .ok (.getfield 11, 3) := by decide +kernel
theorem dX6_placeIn_20 : decode cX6_placeIn 20 = .ok (.iload_n 1, 1) := by decide +kernel
theorem dX6_placeIn_21 : decode cX6_placeIn 21 = .ok (.aaload, 1) := by decide +kernel
theorem dX6_placeIn_22 : decode cX6_placeIn 22 = .ok (.getfield 49, 3) := by decide +kernel
theorem dX6_placeIn_25 : decode cX6_placeIn 25 = .ok (.iload_n 2, 1) := by decide +kernel
theorem dX6_placeIn_26 : decode cX6_placeIn 26 = .ok (.invokevirtual 61, 3) := by decide +kernel
theorem dX6_placeIn_29 : decode cX6_placeIn 29 = .ok (.ireturn, 1) := by decide +kernel
theorem dX6_addMember_0 : decode cX6_addMember 0 = .ok (.aload_n 0, 1) := by decide +kernel
theorem dX6_addMember_1 : decode cX6_addMember 1 = .ok (.getfield 32, 3) := by decide +kernel
theorem dX6_addMember_4 : decode cX6_addMember 4 = .ok (.istore_n 3, 1) := by decide +kernel
theorem dX6_addMember_5 : decode cX6_addMember 5 = .ok (.aload_n 0, 1) := by decide +kernel
theorem dX6_addMember_6 : decode cX6_addMember 6 = .ok (.dup, 1) := by decide +kernel
theorem dX6_addMember_7 : decode cX6_addMember 7 = .ok (.getfield 32, 3) := by decide +kernel
theorem dX6_addMember_10 : decode cX6_addMember 10 = .ok (.iconst 1, 1) := by decide +kernel
theorem dX6_addMember_11 : decode cX6_addMember 11 = .ok (.iadd, 1) := by decide +kernel
theorem dX6_addMember_12 : decode cX6_addMember 12 = .ok (.putfield 32, 3) := by decide +kernel
theorem dX6_addMember_15 : decode cX6_addMember 15 = .ok (.aload_n 0, 1) := by decide +kernel
theorem dX6_addMember_16 : decode cX6_addMember 16 = .ok (.getfield 11, 3) := by decide +kernel
theorem dX6_addMember_19 : decode cX6_addMember 19 = .ok (.iload_n 1, 1) := by decide +kernel
theorem dX6_addMember_20 : decode cX6_addMember 20 = .ok (.aaload, 1) := by decide +kernel
theorem dX6_addMember_21 : decode cX6_addMember 21 = .ok (.getfield 49, 3) := by decide +kernel
theorem dX6_addMember_24 : decode cX6_addMember 24 = .ok (.iload_n 3, 1) := by decide +kernel
theorem dX6_addMember_25 : decode cX6_addMember 25 = .ok (.aload_n 0, 1) := by decide +kernel
theorem dX6_addMember_26 : decode cX6_addMember 26 = .ok (.getfield 29, 3) := by decide +kernel
theorem dX6_addMember_29 : decode cX6_addMember 29 = .ok (.iload_n 2, 1) := by decide +kernel
theorem dX6_addMember_30 : decode cX6_addMember 30 = .ok (.invokevirtual 53, 3) := by decide +kernel
theorem dX6_addMember_33 : decode cX6_addMember 33 = .ok (.aload_n 0, 1) := by decide +kernel
theorem dX6_addMember_34 : decode cX6_addMember 34 = .ok (.getfield 20, 3) := by decide +kernel
theorem dX6_addMember_37 : decode cX6_addMember 37 = .ok (.aload_n 0, 1) := by decide +kernel
theorem dX6_addMember_38 : decode cX6_addMember 38 = .ok (.getfield 29, 3) := by decide +kernel
theorem dX6_addMember_41 : decode cX6_addMember 41 = .ok (.iconst 0, 1) := by decide +kernel
theorem dX6_addMember_42 : decode cX6_addMember 42 = .ok (.iload_n 1, 1) := by decide +kernel
theorem dX6_addMember_43 : decode cX6_addMember 43 = .ok (.iload_n 3, 1) := by decide +kernel
theorem dX6_addMember_44 : decode cX6_addMember 44 = .ok (.invokevirtual 65, 3) := by decide +kernel
theorem dX6_addMember_47 : decode cX6_addMember 47 = .ok (.iload_n 3, 1) := by decide +kernel
theorem dX6_addMember_48 : decode cX6_addMember 48 = .ok (.ireturn, 1) := by decide +kernel
theorem dX6_removeMember_0 : decode cX6_removeMember 0 = .ok (.aload_n 0, 1) := by decide +kernel
theorem dX6_removeMember_1 : decode cX6_removeMember 1 = .ok (.getfield 11, 3) := by decide +kernel
theorem dX6_removeMember_4 : decode cX6_removeMember 4 = .ok (.iload_n 1, 1) := by decide +kernel
theorem dX6_removeMember_5 : decode cX6_removeMember 5 = .ok (.aaload, 1) := by decide +kernel
theorem dX6_removeMember_6 : decode cX6_removeMember 6 = .ok (.getfield 49, 3) := by decide +kernel
theorem dX6_removeMember_9 : decode cX6_removeMember 9 = .ok (.astore_n 3, 1) := by decide +kernel
theorem dX6_removeMember_10 : decode cX6_removeMember 10 = .ok (.aload_n 3, 1) := by decide +kernel
theorem dX6_removeMember_11 : decode cX6_removeMember 11 = .ok (.iload_n 2, 1) := by decide +kernel
theorem dX6_removeMember_12 : decode cX6_removeMember 12 = .ok (.invokevirtual 68, 3) := by decide +kernel
theorem dX6_removeMember_15 : decode cX6_removeMember 15 = .ok (.ifCond .eq 27, 3) := by decide +kernel
theorem dX6_removeMember_18 : decode cX6_removeMember 18 = .ok (.aload_n 0, 1) := by decide +kernel
theorem dX6_removeMember_19 : decode cX6_removeMember 19 = .ok (.getfield 20, 3) := by decide +kernel
theorem dX6_removeMember_22 : decode cX6_removeMember 22 = .ok (.aload_n 0, 1) := by decide +kernel
theorem dX6_removeMember_23 : decode cX6_removeMember 23 = .ok (.getfield 29, 3) := by decide +kernel
theorem dX6_removeMember_26 : decode cX6_removeMember 26 = .ok (.iconst 1, 1) := by decide +kernel
theorem dX6_removeMember_27 : decode cX6_removeMember 27 = .ok (.iload_n 1, 1) := by decide +kernel
theorem dX6_removeMember_28 : decode cX6_removeMember 28 = .ok (.aload_n 3, 1) := by decide +kernel
theorem dX6_removeMember_29 : decode cX6_removeMember 29 = .ok (.getfield 72, 3) := by decide +kernel
theorem dX6_removeMember_32 : decode cX6_removeMember 32 = .ok (.iload_n 2, 1) := by decide +kernel
theorem dX6_removeMember_33 : decode cX6_removeMember 33 = .ok (.iaload, 1) := by decide +kernel
theorem dX6_removeMember_34 : decode cX6_removeMember 34 = .ok (.invokevirtual 65, 3) := by decide +kernel
theorem dX6_removeMember_37 : decode cX6_removeMember 37 = .ok (.aload_n 3, 1) := by decide +kernel
theorem dX6_removeMember_38 : decode cX6_removeMember 38 = .ok (.iload_n 2, 1) := by decide +kernel
theorem dX6_removeMember_39 : decode cX6_removeMember 39 = .ok (.invokevirtual 76, 3) := by decide +kernel
theorem dX6_removeMember_42 : decode cX6_removeMember 42 = .ok (.return_, 1) := by decide +kernel
theorem dX6_tickAll_0 : decode cX6_tickAll 0 = .ok (.iconst 0, 1) := by decide +kernel
theorem dX6_tickAll_1 : decode cX6_tickAll 1 = .ok (.istore_n 1, 1) := by decide +kernel
theorem dX6_tickAll_2 : decode cX6_tickAll 2 = .ok (.iload_n 1, 1) := by decide +kernel
theorem dX6_tickAll_3 : decode cX6_tickAll 3 = .ok (.aload_n 0, 1) := by decide +kernel
theorem dX6_tickAll_4 : decode cX6_tickAll 4 = .ok (.getfield 25, 3) := by decide +kernel
theorem dX6_tickAll_7 : decode cX6_tickAll 7 = .ok (.if_icmp .ge 14, 3) := by decide +kernel
theorem dX6_tickAll_10 : decode cX6_tickAll 10 = .ok (.aload_n 0, 1) := by decide +kernel
theorem dX6_tickAll_11 : decode cX6_tickAll 11 = .ok (.iload_n 1, 1) := by decide +kernel
theorem dX6_tickAll_12 : decode cX6_tickAll 12 = .ok (.invokevirtual 80, 3) := by decide +kernel
theorem dX6_tickAll_15 : decode cX6_tickAll 15 = .ok (.iinc 1 1, 3) := by decide +kernel
theorem dX6_tickAll_18 : decode cX6_tickAll 18 = .ok (.goto (-16), 3) := by decide +kernel
theorem dX6_tickAll_21 : decode cX6_tickAll 21 = .ok (.aload_n 0, 1) := by decide +kernel
theorem dX6_tickAll_22 : decode cX6_tickAll 22 = .ok (.dup, 1) := by decide +kernel
theorem dX6_tickAll_23 : decode cX6_tickAll 23 = .ok (.getfield 29, 3) := by decide +kernel
theorem dX6_tickAll_26 : decode cX6_tickAll 26 = .ok (.iconst 1, 1) := by decide +kernel
theorem dX6_tickAll_27 : decode cX6_tickAll 27 = .ok (.iadd, 1) := by decide +kernel
theorem dX6_tickAll_28 : decode cX6_tickAll 28 = .ok (.putfield 29, 3) := by decide +kernel
theorem dX6_tickAll_31 : decode cX6_tickAll 31 = .ok (.return_, 1) := by decide +kernel
theorem dX6_passPhases_0 : decode cX6_passPhases 0 = .ok (.aload_n 0, 1) := by decide +kernel
theorem dX6_passPhases_1 : decode cX6_passPhases 1 = .ok (.getfield 11, 3) := by decide +kernel
theorem dX6_passPhases_4 : decode cX6_passPhases 4 = .ok (.iload_n 1, 1) := by decide +kernel
theorem dX6_passPhases_5 : decode cX6_passPhases 5 = .ok (.aaload, 1) := by decide +kernel
theorem dX6_passPhases_6 : decode cX6_passPhases 6 = .ok (.astore_n 2, 1) := by decide +kernel
theorem dX6_passPhases_7 : decode cX6_passPhases 7 = .ok (.aload_n 2, 1) := by decide +kernel
theorem dX6_passPhases_8 : decode cX6_passPhases 8 = .ok (.aload_n 0, 1) := by decide +kernel
theorem dX6_passPhases_9 : decode cX6_passPhases 9 = .ok (.getfield 29, 3) := by decide +kernel
theorem dX6_passPhases_12 : decode cX6_passPhases 12 = .ok (.invokevirtual 83, 3) := by decide +kernel
theorem dX6_passPhases_15 : decode cX6_passPhases 15 = .ok (.aload_n 2, 1) := by decide +kernel
theorem dX6_passPhases_16 : decode cX6_passPhases 16 = .ok (.aload_n 0, 1) := by decide +kernel
theorem dX6_passPhases_17 : decode cX6_passPhases 17 = .ok (.getfield 29, 3) := by decide +kernel
theorem dX6_passPhases_20 : decode cX6_passPhases 20 = .ok (.invokevirtual 86, 3) := by decide +kernel
theorem dX6_passPhases_23 : decode cX6_passPhases 23 = .ok (.aload_n 2, 1) := by decide +kernel
theorem dX6_passPhases_24 : decode cX6_passPhases 24 = .ok (.aload_n 0, 1) := by decide +kernel
theorem dX6_passPhases_25 : decode cX6_passPhases 25 = .ok (.getfield 29, 3) := by decide +kernel
theorem dX6_passPhases_28 : decode cX6_passPhases 28 = .ok (.invokevirtual 89, 3) := by decide +kernel
theorem dX6_passPhases_31 : decode cX6_passPhases 31 = .ok (.aload_n 2, 1) := by decide +kernel
theorem dX6_passPhases_32 : decode cX6_passPhases 32 = .ok (.getfield 92, 3) := by decide +kernel
theorem dX6_passPhases_35 : decode cX6_passPhases 35 = .ok (.ifCond .ne 11, 3) := by decide +kernel
theorem dX6_passPhases_38 : decode cX6_passPhases 38 = .ok (.aload_n 0, 1) := by decide +kernel
theorem dX6_passPhases_39 : decode cX6_passPhases 39 = .ok (.iload_n 1, 1) := by decide +kernel
theorem dX6_passPhases_40 : decode cX6_passPhases 40 = .ok (.invokevirtual 95, 3) := by decide +kernel
theorem dX6_passPhases_43 : decode cX6_passPhases 43 = .ok (.goto 16, 3) := by decide +kernel
theorem dX6_passPhases_46 : decode cX6_passPhases 46 = .ok (.aload_n 2, 1) := by decide +kernel
theorem dX6_passPhases_47 : decode cX6_passPhases 47 = .ok (.getfield 92, 3) := by decide +kernel
theorem dX6_passPhases_50 : decode cX6_passPhases 50 = .ok (.iconst 1, 1) := by decide +kernel
theorem dX6_passPhases_51 : decode cX6_passPhases 51 = .ok (.if_icmp .ne 8, 3) := by decide +kernel
theorem dX6_passPhases_54 : decode cX6_passPhases 54 = .ok (.aload_n 0, 1) := by decide +kernel
theorem dX6_passPhases_55 : decode cX6_passPhases 55 = .ok (.iload_n 1, 1) := by decide +kernel
theorem dX6_passPhases_56 : decode cX6_passPhases 56 = .ok (.invokevirtual 98, 3) := by decide +kernel
theorem dX6_passPhases_59 : decode cX6_passPhases 59 = .ok (.return_, 1) := by decide +kernel
theorem dX6_addLacking_0 : decode cX6_addLacking 0 = .ok (.aload_n 0, 1) := by decide +kernel
theorem dX6_addLacking_1 : decode cX6_addLacking 1 = .ok (.getfield 11, 3) := by decide +kernel
theorem dX6_addLacking_4 : decode cX6_addLacking 4 = .ok (.iload_n 1, 1) := by decide +kernel
theorem dX6_addLacking_5 : decode cX6_addLacking 5 = .ok (.aaload, 1) := by decide +kernel
theorem dX6_addLacking_6 : decode cX6_addLacking 6 = .ok (.astore_n 2, 1) := by decide +kernel
theorem dX6_addLacking_7 : decode cX6_addLacking 7 = .ok (.aload_n 2, 1) := by decide +kernel
theorem dX6_addLacking_8 : decode cX6_addLacking 8 = .ok (.getfield 101, 3) := by decide +kernel
theorem dX6_addLacking_11 : decode cX6_addLacking 11 = .ok (.getfield 105, 3) := by decide +kernel
theorem dX6_addLacking_14 : decode cX6_addLacking 14 = .ok (.aload_n 2, 1) := by decide +kernel
theorem dX6_addLacking_15 : decode cX6_addLacking 15 = .ok (.getfield 110, 3) := by decide +kernel
theorem dX6_addLacking_18 : decode cX6_addLacking 18 = .ok (.aload_n 2, 1) := by decide +kernel
theorem dX6_addLacking_19 : decode cX6_addLacking 19 = .ok (.getfield 49, 3) := by decide +kernel
theorem dX6_addLacking_22 : decode cX6_addLacking 22 = .ok (.getfield 58, 3) := by decide +kernel
theorem dX6_addLacking_25 : decode cX6_addLacking 25 = .ok (.isub, 1) := by decide +kernel
theorem dX6_addLacking_26 : decode cX6_addLacking 26 = .ok (.invokestatic 113, 3) := by decide +kernel
theorem dX6_addLacking_29 : decode cX6_addLacking 29 = .ok (.istore_n 3, 1) := by decide +kernel
theorem dX6_addLacking_30 : decode cX6_addLacking 30 = .ok (.iconst 0, 1) := by decide +kernel
theorem dX6_addLacking_31 : decode cX6_addLacking 31 = .ok (.istore 4, 2) := by decide +kernel
theorem dX6_addLacking_33 : decode cX6_addLacking 33 = .ok (.iload 4, 2) := by decide +kernel
theorem dX6_addLacking_35 : decode cX6_addLacking 35 = .ok (.iload_n 3, 1) := by decide +kernel
theorem dX6_addLacking_36 : decode cX6_addLacking 36 = .ok (.if_icmp .ge 29, 3) := by decide +kernel
theorem dX6_addLacking_39 : decode cX6_addLacking 39 = .ok (.aload_n 0, 1) := by decide +kernel
theorem dX6_addLacking_40 : decode cX6_addLacking 40 = .ok (.iload_n 1, 1) := by decide +kernel
theorem dX6_addLacking_41 : decode cX6_addLacking 41 = .ok (.aload_n 0, 1) := by decide +kernel
theorem dX6_addLacking_42 : decode cX6_addLacking 42 = .ok (.getfield 29, 3) := by decide +kernel
theorem dX6_addLacking_45 : decode cX6_addLacking 45 = .ok (.iconst 1, 1) := by decide +kernel
theorem dX6_addLacking_46 : decode cX6_addLacking 46 = .ok (.iadd, 1) := by decide +kernel
theorem dX6_addLacking_47 : decode cX6_addLacking 47 = .ok (.aload_n 2, 1) := by decide +kernel
theorem dX6_addLacking_48 : decode cX6_addLacking 48 = .ok (.getfield 101, 3) := by decide +kernel
theorem dX6_addLacking_51 : decode cX6_addLacking 51 = .ok (.getfield 119, 3) := by decide +kernel
theorem dX6_addLacking_54 : decode cX6_addLacking 54 = .ok (.iadd, 1) := by decide +kernel
theorem dX6_addLacking_55 : decode cX6_addLacking 55 = .ok (.invokevirtual 122, 3) := by decide +kernel
theorem dX6_addLacking_58 : decode cX6_addLacking 58 = .ok (.pop, 1) := by decide +kernel
theorem dX6_addLacking_59 : decode cX6_addLacking 59 = .ok (.iinc 4 1, 3) := by decide +kernel
theorem dX6_addLacking_62 : decode cX6_addLacking 62 = .ok (.goto (-29), 3) := by decide +kernel
theorem dX6_addLacking_65 : decode cX6_addLacking 65 = .ok (.return_, 1) := by decide +kernel
theorem dX6_removeTooMany_0 : decode cX6_removeTooMany 0 = .ok (.aload_n 0, 1) := by decide +kernel
theorem dX6_removeTooMany_1 : decode cX6_removeTooMany 1 = .ok (.getfield 11, 3) := by decide +kernel
theorem dX6_removeTooMany_4 : decode cX6_removeTooMany 4 = .ok (.iload_n 1, 1) := by decide +kernel
theorem dX6_removeTooMany_5 : decode cX6_removeTooMany 5 = .ok (.aaload, 1) := by decide +kernel
theorem dX6_removeTooMany_6 : decode cX6_removeTooMany 6 = .ok (.astore_n 2, 1) := by decide +kernel
theorem dX6_removeTooMany_7 : decode cX6_removeTooMany 7 = .ok (.aload_n 2, 1) := by decide +kernel
theorem dX6_removeTooMany_8 : decode cX6_removeTooMany 8 = .ok (.getfield 101, 3) := by decide +kernel
theorem dX6_removeTooMany_11 : decode cX6_removeTooMany 11 = .ok (.getfield 125, 3) := by decide +kernel
theorem dX6_removeTooMany_14 : decode cX6_removeTooMany 14 = .ok (.aload_n 2, 1) := by decide +kernel
theorem dX6_removeTooMany_15 : decode cX6_removeTooMany 15 = .ok (.getfield 49, 3) := by decide +kernel
theorem dX6_removeTooMany_18 : decode cX6_removeTooMany 18 = .ok (.getfield 58, 3) := by decide +kernel
theorem dX6_removeTooMany_21 : decode cX6_removeTooMany 21 = .ok (.aload_n 2, 1) := by decide +kernel
theorem dX6_removeTooMany_22 : decode cX6_removeTooMany 22 = .ok (.getfield 110, 3) := by decide +kernel
theorem dX6_removeTooMany_25 : decode cX6_removeTooMany 25 = .ok (.isub, 1) := by decide +kernel
theorem dX6_removeTooMany_26 : decode cX6_removeTooMany 26 = .ok (.invokestatic 113, 3) := by decide +kernel
theorem dX6_removeTooMany_29 : decode cX6_removeTooMany 29 = .ok (.istore_n 3, 1) := by decide +kernel
theorem dX6_removeTooMany_30 : decode cX6_removeTooMany 30 = .ok (.iconst 0, 1) := by decide +kernel
theorem dX6_removeTooMany_31 : decode cX6_removeTooMany 31 = .ok (.istore 4, 2) := by decide +kernel
theorem dX6_removeTooMany_33 : decode cX6_removeTooMany 33 = .ok (.iload 4, 2) := by decide +kernel
theorem dX6_removeTooMany_35 : decode cX6_removeTooMany 35 = .ok (.iload_n 3, 1) := by decide +kernel
theorem dX6_removeTooMany_36 : decode cX6_removeTooMany 36 = .ok (.if_icmp .ge 38, 3) := by decide +kernel
theorem dX6_removeTooMany_39 : decode cX6_removeTooMany 39 = .ok (.aload_n 2, 1) := by decide +kernel
theorem dX6_removeTooMany_40 : decode cX6_removeTooMany 40 = .ok (.getfield 49, 3) := by decide +kernel
theorem dX6_removeTooMany_43 : decode cX6_removeTooMany 43 = .ok (.aload_n 2, 1) := by decide +kernel
theorem dX6_removeTooMany_44 : decode cX6_removeTooMany 44 = .ok (.getfield 101, 3) := by decide +kernel
theorem dX6_removeTooMany_47 : decode cX6_removeTooMany 47 = .ok (.getfield 128, 3) := by decide +kernel
theorem dX6_removeTooMany_50 : decode cX6_removeTooMany 50 = .ok (.invokevirtual 131, 3) := by decide +kernel
theorem dX6_removeTooMany_53 : decode cX6_removeTooMany 53 = .ok (.istore 5, 2) := by decide +kernel
theorem dX6_removeTooMany_55 : decode cX6_removeTooMany 55 = .ok (.iload 5, 2) := by decide +kernel
theorem dX6_removeTooMany_57 : decode cX6_removeTooMany 57 = .ok (.ifCond .ge 4, 3) := by decide +kernel
theorem dX6_removeTooMany_60 : decode cX6_removeTooMany 60 = .ok (.return_, 1) := by decide +kernel
theorem dX6_removeTooMany_61 : decode cX6_removeTooMany 61 = .ok (.aload_n 0, 1) := by decide +kernel
theorem dX6_removeTooMany_62 : decode cX6_removeTooMany 62 = .ok (.iload_n 1, 1) := by decide +kernel
theorem dX6_removeTooMany_63 : decode cX6_removeTooMany 63 = .ok (.iload 5, 2) := by decide +kernel
theorem dX6_removeTooMany_65 : decode cX6_removeTooMany 65 = .ok (.invokevirtual 134, 3) := by decide +kernel
theorem dX6_removeTooMany_68 : decode cX6_removeTooMany 68 = .ok (.iinc 4 1, 3) := by decide +kernel
theorem dX6_removeTooMany_71 : decode cX6_removeTooMany 71 = .ok (.goto (-38), 3) := by decide +kernel
theorem dX6_removeTooMany_74 : decode cX6_removeTooMany 74 = .ok (.return_, 1) := by decide +kernel
theorem dX7_init_0 : decode cX7_init 0 = .ok (.aload_n 0, 1) := by decide +kernel
theorem dX7_init_1 : decode cX7_init 1 = .ok (.invokespecial 3, 3) := by decide +kernel
theorem dX7_init_4 : decode cX7_init 4 = .ok (.aload_n 0, 1) := by decide +kernel
theorem dX7_init_5 : decode cX7_init 5 = .ok (.bipush 6, 2) := by decide +kernel
theorem dX7_init_7 : decode cX7_init 7 = .ok (.newarray .int, 2) := by decide +kernel
theorem dX7_init_9 : decode cX7_init 9 = .ok (.putfield 9, 3) := by decide +kernel
theorem dX7_init_12 : decode cX7_init 12 = .ok (.return_, 1) := by decide +kernel
theorem dX7_begin_0 : decode cX7_begin 0 = .ok (.aload_n 0, 1) := by decide +kernel
theorem dX7_begin_1 : decode cX7_begin 1 = .ok (.lconst 0, 1) := by decide +kernel
theorem dX7_begin_2 : decode cX7_begin 2 = .ok (.putfield 15, 3) := by decide +kernel
theorem dX7_begin_5 : decode cX7_begin 5 = .ok (.aload_n 0, 1) := by decide +kernel
theorem dX7_begin_6 : decode cX7_begin 6 = .ok (.lconst 0, 1) := by decide +kernel
theorem dX7_begin_7 : decode cX7_begin 7 = .ok (.putfield 19, 3) := by decide +kernel
theorem dX7_begin_10 : decode cX7_begin 10 = .ok (.aload_n 0, 1) := by decide +kernel
theorem dX7_begin_11 : decode cX7_begin 11 = .ok (.lconst 0, 1) := by decide +kernel
theorem dX7_begin_12 : decode cX7_begin 12 = .ok (.putfield 22, 3) := by decide +kernel
theorem dX7_begin_15 : decode cX7_begin 15 = .ok (.aload_n 0, 1) := by decide +kernel
theorem dX7_begin_16 : decode cX7_begin 16 = .ok (.lconst 0, 1) := by decide +kernel
theorem dX7_begin_17 : decode cX7_begin 17 = .ok (.putfield 25, 3) := by decide +kernel
theorem dX7_begin_20 : decode cX7_begin 20 = .ok (.aload_n 0, 1) := by decide +kernel
theorem dX7_begin_21 : decode cX7_begin 21 = .ok (.lconst 0, 1) := by decide +kernel
theorem dX7_begin_22 : decode cX7_begin 22 = .ok (.putfield 28, 3) := by decide +kernel
theorem dX7_begin_25 : decode cX7_begin 25 = .ok (.aload_n 0, 1) := by decide +kernel
theorem dX7_begin_26 : decode cX7_begin 26 = .ok (.iconst 0, 1) := by decide +kernel
theorem dX7_begin_27 : decode cX7_begin 27 = .ok (.putfield 31, 3) := by decide +kernel
theorem dX7_begin_30 : decode cX7_begin 30 = .ok (.aload_n 0, 1) := by decide +kernel
theorem dX7_begin_31 : decode cX7_begin 31 = .ok (.iconst 0, 1) := by decide +kernel
theorem dX7_begin_32 : decode cX7_begin 32 = .ok (.putfield 35, 3) := by decide +kernel
theorem dX7_begin_35 : decode cX7_begin 35 = .ok (.aload_n 0, 1) := by decide +kernel
theorem dX7_begin_36 : decode cX7_begin 36 = .ok (.iconst 0, 1) := by decide +kernel
theorem dX7_begin_37 : decode cX7_begin 37 = .ok (.putfield 38, 3) := by decide +kernel
theorem dX7_begin_40 : decode cX7_begin 40 = .ok (.aload_n 0, 1) := by decide +kernel
theorem dX7_begin_41 : decode cX7_begin 41 = .ok (.iconst 0, 1) := by decide +kernel
theorem dX7_begin_42 : decode cX7_begin 42 = .ok (.putfield 41, 3) := by decide +kernel
theorem dX7_begin_45 : decode cX7_begin 45 = .ok (.aload_n 0, 1) := by decide +kernel
theorem dX7_begin_46 : decode cX7_begin 46 = .ok (.getfield 9, 3) := by decide +kernel
theorem dX7_begin_49 : decode cX7_begin 49 = .ok (.iconst 0, 1) := by decide +kernel
theorem dX7_begin_50 : decode cX7_begin 50 = .ok (.invokestatic 44, 3) := by decide +kernel
theorem dX7_begin_53 : decode cX7_begin 53 = .ok (.return_, 1) := by decide +kernel
theorem dX7_copyFrom_0 : decode cX7_copyFrom 0 = .ok (.aload_n 0, 1) := by decide +kernel
theorem dX7_copyFrom_1 : decode cX7_copyFrom 1 = .ok (.aload_n 1, 1) := by decide +kernel
theorem dX7_copyFrom_2 : decode cX7_copyFrom 2 = .ok (.getfield 15, 3) := by decide +kernel
theorem dX7_copyFrom_5 : decode cX7_copyFrom 5 = .ok (.putfield 15, 3) := by decide +kernel
theorem dX7_copyFrom_8 : decode cX7_copyFrom 8 = .ok (.aload_n 0, 1) := by decide +kernel
theorem dX7_copyFrom_9 : decode cX7_copyFrom 9 = .ok (.aload_n 1, 1) := by decide +kernel
theorem dX7_copyFrom_10 : decode cX7_copyFrom 10 = .ok (.getfield 19, 3) := by decide +kernel
theorem dX7_copyFrom_13 : decode cX7_copyFrom 13 = .ok (.putfield 19, 3) := by decide +kernel
theorem dX7_copyFrom_16 : decode cX7_copyFrom 16 = .ok (.aload_n 0, 1) := by decide +kernel
theorem dX7_copyFrom_17 : decode cX7_copyFrom 17 = .ok (.aload_n 1, 1) := by decide +kernel
theorem dX7_copyFrom_18 : decode cX7_copyFrom 18 = .ok (.getfield 22, 3) := by decide +kernel
theorem dX7_copyFrom_21 : decode cX7_copyFrom 21 = .ok (.putfield 22, 3) := by decide +kernel
theorem dX7_copyFrom_24 : decode cX7_copyFrom 24 = .ok (.aload_n 0, 1) := by decide +kernel
theorem dX7_copyFrom_25 : decode cX7_copyFrom 25 = .ok (.aload_n 1, 1) := by decide +kernel
theorem dX7_copyFrom_26 : decode cX7_copyFrom 26 = .ok (.getfield 25, 3) := by decide +kernel
theorem dX7_copyFrom_29 : decode cX7_copyFrom 29 = .ok (.putfield 25, 3) := by decide +kernel
theorem dX7_copyFrom_32 : decode cX7_copyFrom 32 = .ok (.aload_n 0, 1) := by decide +kernel
theorem dX7_copyFrom_33 : decode cX7_copyFrom 33 = .ok (.aload_n 1, 1) := by decide +kernel
theorem dX7_copyFrom_34 : decode cX7_copyFrom 34 = .ok (.getfield 28, 3) := by decide +kernel
theorem dX7_copyFrom_37 : decode cX7_copyFrom 37 = .ok (.putfield 28, 3) := by decide +kernel
theorem dX7_copyFrom_40 : decode cX7_copyFrom 40 = .ok (.aload_n 0, 1) := by decide +kernel
theorem dX7_copyFrom_41 : decode cX7_copyFrom 41 = .ok (.aload_n 1, 1) := by decide +kernel
theorem dX7_copyFrom_42 : decode cX7_copyFrom 42 = .ok (.getfield 31, 3) := by decide +kernel
theorem dX7_copyFrom_45 : decode cX7_copyFrom 45 = .ok (.putfield 31, 3) := by decide +kernel
theorem dX7_copyFrom_48 : decode cX7_copyFrom 48 = .ok (.aload_n 0, 1) := by decide +kernel
theorem dX7_copyFrom_49 : decode cX7_copyFrom 49 = .ok (.aload_n 1, 1) := by decide +kernel
theorem dX7_copyFrom_50 : decode cX7_copyFrom 50 = .ok (.getfield 35, 3) := by decide +kernel
theorem dX7_copyFrom_53 : decode cX7_copyFrom 53 = .ok (.putfield 35, 3) := by decide +kernel
theorem dX7_copyFrom_56 : decode cX7_copyFrom 56 = .ok (.aload_n 0, 1) := by decide +kernel
theorem dX7_copyFrom_57 : decode cX7_copyFrom 57 = .ok (.aload_n 1, 1) := by decide +kernel
theorem dX7_copyFrom_58 : decode cX7_copyFrom 58 = .ok (.getfield 38, 3) := by decide +kernel
theorem dX7_copyFrom_61 : decode cX7_copyFrom 61 = .ok (.putfield 38, 3) := by decide +kernel
theorem dX7_copyFrom_64 : decode cX7_copyFrom 64 = .ok (.aload_n 0, 1) := by decide +kernel
theorem dX7_copyFrom_65 : decode cX7_copyFrom 65 = .ok (.aload_n 1, 1) := by decide +kernel
theorem dX7_copyFrom_66 : decode cX7_copyFrom 66 = .ok (.getfield 41, 3) := by decide +kernel
theorem dX7_copyFrom_69 : decode cX7_copyFrom 69 = .ok (.putfield 41, 3) := by decide +kernel
theorem dX7_copyFrom_72 : decode cX7_copyFrom 72 = .ok (.aload_n 1, 1) := by decide +kernel
theorem dX7_copyFrom_73 : decode cX7_copyFrom 73 = .ok (.getfield 9, 3) := by decide +kernel
theorem dX7_copyFrom_76 : decode cX7_copyFrom 76 = .ok (.iconst 0, 1) := by decide +kernel
theorem dX7_copyFrom_77 : decode cX7_copyFrom 77 = .ok (.aload_n 0, 1) := by decide +kernel
theorem dX7_copyFrom_78 : decode cX7_copyFrom 78 = .ok (.getfield 9, 3) := by decide +kernel
theorem dX7_copyFrom_81 : decode cX7_copyFrom 81 = .ok (.iconst 0, 1) := by decide +kernel
theorem dX7_copyFrom_82 : decode cX7_copyFrom 82 = .ok (.bipush 6, 2) := by decide +kernel
theorem dX7_copyFrom_84 : decode cX7_copyFrom 84 = .ok (.invokestatic 50, 3) := by decide +kernel
theorem dX7_copyFrom_87 : decode cX7_copyFrom 87 = .ok (.return_, 1) := by decide +kernel
theorem dX7_addTick_0 : decode cX7_addTick 0 = .ok (.iconst 0, 1) := by decide +kernel
theorem dX7_addTick_1 : decode cX7_addTick 1 = .ok (.iload_n 1, 1) := by decide +kernel
theorem dX7_addTick_2 : decode cX7_addTick 2 = .ok (.iload_n 2, 1) := by decide +kernel
theorem dX7_addTick_3 : decode cX7_addTick 3 = .ok (.isub, 1) := by decide +kernel
theorem dX7_addTick_4 : decode cX7_addTick 4 = .ok (.invokestatic 56, 3) := by decide +kernel
theorem dX7_addTick_7 : decode cX7_addTick 7 = .ok (.istore 5, 2) := by decide +kernel
theorem dX7_addTick_9 : decode cX7_addTick 9 = .ok (.aload_n 0, 1) := by decide +kernel
theorem dX7_addTick_10 : decode cX7_addTick 10 = .ok (.dup, 1) := by decide +kernel
theorem dX7_addTick_11 : decode cX7_addTick 11 = .ok (.getfield 15, 3) := by decide +kernel
theorem dX7_addTick_14 : decode cX7_addTick 14 = .ok (.iload_n 1, 1) := by decide +kernel
theorem dX7_addTick_15 : decode cX7_addTick 15 = .ok (.iload 5, 2) := by decide +kernel
theorem dX7_addTick_17 : decode cX7_addTick 17 = .ok (.isub, 1) := by decide +kernel
theorem dX7_addTick_18 : decode cX7_addTick 18 = .ok (.i2l, 1) := by decide +kernel
theorem dX7_addTick_19 : decode cX7_addTick 19 = .ok (.ladd, 1) := by decide +kernel
theorem dX7_addTick_20 : decode cX7_addTick 20 = .ok (.putfield 15, 3) := by decide +kernel
theorem dX7_addTick_23 : decode cX7_addTick 23 = .ok (.aload_n 0, 1) := by decide +kernel
theorem dX7_addTick_24 : decode cX7_addTick 24 = .ok (.dup, 1) := by decide +kernel
theorem dX7_addTick_25 : decode cX7_addTick 25 = .ok (.getfield 19, 3) := by decide +kernel
theorem dX7_addTick_28 : decode cX7_addTick 28 = .ok (.iload 5, 2) := by decide +kernel
theorem dX7_addTick_30 : decode cX7_addTick 30 = .ok (.i2l, 1) := by decide +kernel
theorem dX7_addTick_31 : decode cX7_addTick 31 = .ok (.ladd, 1) := by decide +kernel
theorem dX7_addTick_32 : decode cX7_addTick 32 = .ok (.putfield 19, 3) := by decide +kernel
theorem dX7_addTick_35 : decode cX7_addTick 35 = .ok (.aload_n 0, 1) := by decide +kernel
theorem dX7_addTick_36 : decode cX7_addTick 36 = .ok (.dup, 1) := by decide +kernel
theorem dX7_addTick_37 : decode cX7_addTick 37 = .ok (.getfield 22, 3) := by decide +kernel
theorem dX7_addTick_40 : decode cX7_addTick 40 = .ok (.iload_n 3, 1) := by decide +kernel
theorem dX7_addTick_41 : decode cX7_addTick 41 = .ok (.iload 4, 2) := by decide +kernel
theorem dX7_addTick_43 : decode cX7_addTick 43 = .ok (.iload 5, 2) := by decide +kernel
theorem dX7_addTick_45 : decode cX7_addTick 45 = .ok (.imul, 1) := by decide +kernel
theorem dX7_addTick_46 : decode cX7_addTick 46 = .ok (.iadd, 1) := by decide +kernel
theorem dX7_addTick_47 : decode cX7_addTick 47 = .ok (.i2l, 1) := by decide +kernel
theorem dX7_addTick_48 : decode cX7_addTick 48 = .ok (.ladd, 1) := by decide +kernel
theorem dX7_addTick_49 : decode cX7_addTick 49 = .ok (.putfield 22, 3) := by decide +kernel
theorem dX7_addTick_52 : decode cX7_addTick 52 = .ok (.aload_n 0, 1) := by decide +kernel
theorem dX7_addTick_53 : decode cX7_addTick 53 = .ok (.dup, 1) := by decide +kernel
theorem dX7_addTick_54 : decode cX7_addTick 54 = .ok (.getfield 25, 3) := by decide +kernel
theorem dX7_addTick_57 : decode cX7_addTick 57 = .ok (.iload_n 2, 1) := by decide +kernel
theorem dX7_addTick_58 : decode cX7_addTick 58 = .ok (.i2l, 1) := by decide +kernel
theorem dX7_addTick_59 : decode cX7_addTick 59 = .ok (.ladd, 1) := by decide +kernel
theorem dX7_addTick_60 : decode cX7_addTick 60 = .ok (.putfield 25, 3) := by decide +kernel
theorem dX7_addTick_63 : decode cX7_addTick 63 = .ok (.aload_n 0, 1) := by decide +kernel
theorem dX7_addTick_64 : decode cX7_addTick 64 = .ok (.aload_n 0, 1) := by decide +kernel
theorem dX7_addTick_65 : decode cX7_addTick 65 = .ok (.getfield 35, 3) := by decide +kernel
theorem dX7_addTick_68 : decode cX7_addTick 68 = .ok (.iload_n 1, 1) := by decide +kernel
theorem dX7_addTick_69 : decode cX7_addTick 69 = .ok (.invokestatic 56, 3) := by decide +kernel
theorem dX7_addTick_72 : decode cX7_addTick 72 = .ok (.putfield 35, 3) := by decide +kernel
theorem dX7_addTick_75 : decode cX7_addTick 75 = .ok (.aload_n 0, 1) := by decide +kernel
theorem dX7_addTick_76 : decode cX7_addTick 76 = .ok (.iload 5, 2) := by decide +kernel
theorem dX7_addTick_78 : decode cX7_addTick 78 = .ok (.ifCond .le 12, 3) := by decide +kernel
theorem dX7_addTick_81 : decode cX7_addTick 81 = .ok (.aload_n 0, 1) := by decide +kernel
theorem dX7_addTick_82 : decode cX7_addTick 82 = .ok (.getfield 38, 3) := by decide +kernel
theorem dX7_addTick_85 : decode cX7_addTick 85 = .ok (.iconst 1, 1) := by decide +kernel
theorem dX7_addTick_86 : decode cX7_addTick 86 = .ok (.iadd, 1) := by decide +kernel
theorem dX7_addTick_87 : decode cX7_addTick 87 = .ok (.goto 4, 3) := by decide +kernel
theorem dX7_addTick_90 : decode cX7_addTick 90 = .ok (.iconst 0, 1) := by decide +kernel
theorem dX7_addTick_91 : decode cX7_addTick 91 = .ok (.putfield 38, 3) := by decide +kernel
theorem dX7_addTick_94 : decode cX7_addTick 94 = .ok (.aload_n 0, 1) := by decide +kernel
theorem dX7_addTick_95 : decode cX7_addTick 95 = .ok (.aload_n 0, 1) := by decide +kernel
theorem dX7_addTick_96 : decode cX7_addTick 96 = .ok (.getfield 41, 3) := by decide +kernel
theorem dX7_addTick_99 : decode cX7_addTick 99 = .ok (.aload_n 0, 1) := by decide +kernel
theorem dX7_addTick_100 : decode cX7_addTick 100 = .ok (.getfield 38, 3) := by decide +kernel
theorem dX7_addTick_103 : decode cX7_addTick 103 = .ok (.invokestatic 56, 3) := by decide +kernel
theorem dX7_addTick_106 : decode cX7_addTick 106 = .ok (.putfield 41, 3) := by decide +kernel
theorem dX7_addTick_109 : decode cX7_addTick 109 = .ok (.return_, 1) := by decide +kernel
theorem dX7_addError_0 : decode cX7_addError 0 = .ok (.aload_n 0, 1) := by decide +kernel
theorem dX7_addError_1 : decode cX7_addError 1 = .ok (.dup, 1) := by decide +kernel
theorem dX7_addError_2 : decode cX7_addError 2 = .ok (.getfield 28, 3) := by decide +kernel
theorem dX7_addError_5 : decode cX7_addError 5 = .ok (.iload_n 1, 1) := by decide +kernel
theorem dX7_addError_6 : decode cX7_addError 6 = .ok (.i2l, 1) := by decide +kernel
theorem dX7_addError_7 : decode cX7_addError 7 = .ok (.ladd, 1) := by decide +kernel
theorem dX7_addError_8 : decode cX7_addError 8 = .ok (.putfield 28, 3) := by decide +kernel
theorem dX7_addError_11 : decode cX7_addError 11 = .ok (.aload_n 0, 1) := by decide +kernel
theorem dX7_addError_12 : decode cX7_addError 12 = .ok (.dup, 1) := by decide +kernel
theorem dX7_addError_13 : decode cX7_addError 13 = .ok (.getfield 31, 3) := by decide +kernel
theorem dX7_addError_16 : decode cX7_addError 16 = .ok (.iconst 1, 1) := by decide +kernel
theorem dX7_addError_17 : decode cX7_addError 17 = .ok (.iadd, 1) := by decide +kernel
theorem dX7_addError_18 : decode cX7_addError 18 = .ok (.putfield 31, 3) := by decide +kernel
theorem dX7_addError_21 : decode cX7_addError 21 = .ok (.return_, 1) := by decide +kernel
theorem dX7_addDecision_0 : decode cX7_addDecision 0 = .ok (.iload_n 1, 1) := by decide +kernel
theorem dX7_addDecision_1 : decode cX7_addDecision 1 = .ok (.ifCond .lt 19, 3) := by decide +kernel
theorem dX7_addDecision_4 : decode cX7_addDecision 4 = .ok (.iload_n 1, 1) := by decide +kernel
theorem dX7_addDecision_5 : decode cX7_addDecision 5 = .ok (.bipush 6, 2) := by decide +kernel
theorem dX7_addDecision_7 : decode cX7_addDecision 7 = .ok (.if_icmp .ge 13, 3) := by decide +kernel
theorem dX7_addDecision_10 : decode cX7_addDecision 10 = .ok (.aload_n 0, 1) := by decide +kernel
theorem dX7_addDecision_11 : decode cX7_addDecision 11 = .ok (.getfield 9, 3) := by decide +kernel
theorem dX7_addDecision_14 : decode cX7_addDecision 14 = .ok (.iload_n 1, 1) := by decide +kernel
theorem dX7_addDecision_15 : decode cX7_addDecision 15 = .ok (.dup2, 1) := by decide +kernel
theorem dX7_addDecision_16 : decode cX7_addDecision 16 = .ok (.iaload, 1) := by decide +kernel
theorem dX7_addDecision_17 : decode cX7_addDecision 17 = .ok (.iconst 1, 1) := by decide +kernel
theorem dX7_addDecision_18 : decode cX7_addDecision 18 = .ok (.iadd, 1) := by decide +kernel
theorem dX7_addDecision_19 : decode cX7_addDecision 19 = .ok (.iastore, 1) := by decide +kernel
theorem dX7_addDecision_20 : decode cX7_addDecision 20 = .ok (.return_, 1) := by decide +kernel
theorem dX8_init_0 : decode cX8_init 0 = .ok (.aload_n 0, 1) := by decide +kernel
theorem dX8_init_1 : decode cX8_init 1 = .ok (.invokespecial 1, 3) := by decide +kernel
theorem dX8_init_4 : decode cX8_init 4 = .ok (.aload_n 0, 1) := by decide +kernel
theorem dX8_init_5 : decode cX8_init 5 = .ok (.sipush 700, 3) := by decide +kernel
theorem dX8_init_8 : decode cX8_init 8 = .ok (.newarray .byte, 2) := by decide +kernel
theorem dX8_init_10 : decode cX8_init 10 = .ok (.putfield 9, 3) := by decide +kernel
theorem dX8_init_13 : decode cX8_init 13 = .ok (.aload_n 0, 1) := by decide +kernel
theorem dX8_init_14 : decode cX8_init 14 = .ok (.iconst 0, 1) := by decide +kernel
theorem dX8_init_15 : decode cX8_init 15 = .ok (.putfield 13, 3) := by decide +kernel
theorem dX8_init_18 : decode cX8_init 18 = .ok (.aload_n 0, 1) := by decide +kernel
theorem dX8_init_19 : decode cX8_init 19 = .ok (.iconst (-1), 1) := by decide +kernel
theorem dX8_init_20 : decode cX8_init 20 = .ok (.putfield 17, 3) := by decide +kernel
theorem dX8_init_23 : decode cX8_init 23 = .ok (.aload_n 0, 1) := by decide +kernel
theorem dX8_init_24 : decode cX8_init 24 = .ok (.new 20, 3) := by decide +kernel
theorem dX8_init_27 : decode cX8_init 27 = .ok (.dup, 1) := by decide +kernel
theorem dX8_init_28 : decode cX8_init 28 = .ok (.invokespecial 22, 3) := by decide +kernel
theorem dX8_init_31 : decode cX8_init 31 = .ok (.putfield 23, 3) := by decide +kernel
theorem dX8_init_34 : decode cX8_init 34 = .ok (.aload_n 0, 1) := by decide +kernel
theorem dX8_init_35 : decode cX8_init 35 = .ok (.new 27, 3) := by decide +kernel
theorem dX8_init_38 : decode cX8_init 38 = .ok (.dup, 1) := by decide +kernel
theorem dX8_init_39 : decode cX8_init 39 = .ok (.invokespecial 29, 3) := by decide +kernel
theorem dX8_init_42 : decode cX8_init 42 = .ok (.putfield 30, 3) := by decide +kernel
theorem dX8_init_45 : decode cX8_init 45 = .ok (.aload_n 0, 1) := by decide +kernel
theorem dX8_init_46 : decode cX8_init 46 = .ok (.new 34, 3) := by decide +kernel
theorem dX8_init_49 : decode cX8_init 49 = .ok (.dup, 1) := by decide +kernel
theorem dX8_init_50 : decode cX8_init 50 = .ok (.invokespecial 36, 3) := by decide +kernel
theorem dX8_init_53 : decode cX8_init 53 = .ok (.putfield 37, 3) := by decide +kernel
theorem dX8_init_56 : decode cX8_init 56 = .ok (.aload_n 0, 1) := by decide +kernel
theorem dX8_init_57 : decode cX8_init 57 = .ok (.new 34, 3) := by decide +kernel
theorem dX8_init_60 : decode cX8_init 60 = .ok (.dup, 1) := by decide +kernel
theorem dX8_init_61 : decode cX8_init 61 = .ok (.invokespecial 36, 3) := by decide +kernel
theorem dX8_init_64 : decode cX8_init 64 = .ok (.putfield 41, 3) := by decide +kernel
theorem dX8_init_67 : decode cX8_init 67 = .ok (.aload_n 0, 1) := by decide +kernel
theorem dX8_init_68 : decode cX8_init 68 = .ok (.new 34, 3) := by decide +kernel
theorem dX8_init_71 : decode cX8_init 71 = .ok (.dup, 1) := by decide +kernel
theorem dX8_init_72 : decode cX8_init 72 = .ok (.invokespecial 36, 3) := by decide +kernel
theorem dX8_init_75 : decode cX8_init 75 = .ok (.putfield 44, 3) := by decide +kernel
theorem dX8_init_78 : decode cX8_init 78 = .ok (.aload_n 0, 1) := by decide +kernel
theorem dX8_init_79 : decode cX8_init 79 = .ok (.bipush 10, 2) := by decide +kernel
theorem dX8_init_81 : decode cX8_init 81 = .ok (.anewarray 34, 3) := by decide +kernel
theorem dX8_init_84 : decode cX8_init 84 = .ok (.putfield 47, 3) := by decide +kernel
theorem dX8_init_87 : decode cX8_init 87 = .ok (.iconst 0, 1) := by decide +kernel
theorem dX8_init_88 : decode cX8_init 88 = .ok (.istore_n 1, 1) := by decide +kernel
theorem dX8_init_89 : decode cX8_init 89 = .ok (.iload_n 1, 1) := by decide +kernel
theorem dX8_init_90 : decode cX8_init 90 = .ok (.bipush 10, 2) := by decide +kernel
theorem dX8_init_92 : decode cX8_init 92 = .ok (.if_icmp .ge 22, 3) := by decide +kernel
theorem dX8_init_95 : decode cX8_init 95 = .ok (.aload_n 0, 1) := by decide +kernel
theorem dX8_init_96 : decode cX8_init 96 = .ok (.getfield 47, 3) := by decide +kernel
theorem dX8_init_99 : decode cX8_init 99 = .ok (.iload_n 1, 1) := by decide +kernel
theorem dX8_init_100 : decode cX8_init 100 = .ok (.new 34, 3) := by decide +kernel
theorem dX8_init_103 : decode cX8_init 103 = .ok (.dup, 1) := by decide +kernel
theorem dX8_init_104 : decode cX8_init 104 = .ok (.invokespecial 36, 3) := by decide +kernel
theorem dX8_init_107 : decode cX8_init 107 = .ok (.aastore, 1) := by decide +kernel
theorem dX8_init_108 : decode cX8_init 108 = .ok (.iinc 1 1, 3) := by decide +kernel
theorem dX8_init_111 : decode cX8_init 111 = .ok (.goto (-22), 3) := by decide +kernel
theorem dX8_init_114 : decode cX8_init 114 = .ok (.aload_n 0, 1) := by decide +kernel
theorem dX8_init_115 : decode cX8_init 115 = .ok (.getfield 37, 3) := by decide +kernel
theorem dX8_init_118 : decode cX8_init 118 = .ok (.iconst 1, 1) := by decide +kernel
theorem dX8_init_119 : decode cX8_init 119 = .ok (.iconst 4, 1) := by decide +kernel
theorem dX8_init_120 : decode cX8_init 120 = .ok (.bipush 10, 2) := by decide +kernel
theorem dX8_init_122 : decode cX8_init 122 = .ok (.invokevirtual 51, 3) := by decide +kernel
theorem dX8_init_125 : decode cX8_init 125 = .ok (.return_, 1) := by decide +kernel
theorem dX8_appendInput_0 : decode cX8_appendInput 0 = .ok (.aload_n 0, 1) := by decide +kernel
theorem dX8_appendInput_1 : decode cX8_appendInput 1 = .ok (.getfield 55, 3) := by decide +kernel
theorem dX8_appendInput_4 : decode cX8_appendInput 4 = .ok (.bipush 20, 2) := by decide +kernel
theorem dX8_appendInput_6 : decode cX8_appendInput 6 = .ok (.iadd, 1) := by decide +kernel
theorem dX8_appendInput_7 : decode cX8_appendInput 7 = .ok (.sipush 700, 3) := by decide +kernel
theorem dX8_appendInput_10 : decode cX8_appendInput 10 = .ok (.if_icmp .le 5, 3) := by decide +kernel
theorem dX8_appendInput_13 : decode cX8_appendInput 13 = .ok (.iconst (-1), 1) := by decide +kernel
theorem dX8_appendInput_14 : decode cX8_appendInput 14 = .ok (.ireturn, 1) := by decide +kernel
theorem dX8_appendInput_15 : decode cX8_appendInput 15 = .ok (.aload_n 0, 1) := by decide +kernel
theorem dX8_appendInput_16 : decode cX8_appendInput 16 = .ok (.iload_n 1, 1) := by decide +kernel
theorem dX8_appendInput_17 : decode cX8_appendInput 17 = .ok (.invokevirtual 58, 3) := by decide +kernel
theorem dX8_appendInput_20 : decode cX8_appendInput 20 = .ok (.aload_n 0, 1) := by decide +kernel
theorem dX8_appendInput_21 : decode cX8_appendInput 21 = .ok (.iload_n 2, 1) := by decide +kernel
theorem dX8_appendInput_22 : decode cX8_appendInput 22 = .ok (.invokevirtual 58, 3) := by decide +kernel
theorem dX8_appendInput_25 : decode cX8_appendInput 25 = .ok (.aload_n 0, 1) := by decide +kernel
theorem dX8_appendInput_26 : decode cX8_appendInput 26 = .ok (.iload_n 3, 1) := by decide +kernel
theorem dX8_appendInput_27 : decode cX8_appendInput 27 = .ok (.invokevirtual 58, 3) := by decide +kernel
theorem dX8_appendInput_30 : decode cX8_appendInput 30 = .ok (.aload_n 0, 1) := by decide +kernel
theorem dX8_appendInput_31 : decode cX8_appendInput 31 = .ok (.iload 4, 2) := by decide +kernel
theorem dX8_appendInput_33 : decode cX8_appendInput 33 = .ok (.invokevirtual 58, 3) := by decide +kernel
theorem dX8_appendInput_36 : decode cX8_appendInput 36 = .ok (.aload_n 0, 1) := by decide +kernel
theorem dX8_appendInput_37 : decode cX8_appendInput 37 = .ok (.iload 5, 2) := by decide +kernel
theorem dX8_appendInput_39 : decode cX8_appendInput 39 = .ok (.invokevirtual 58, 3) := by decide +kernel
theorem dX8_appendInput_42 : decode cX8_appendInput 42 = .ok (.aload_n 0, 1) := by decide +kernel
theorem dX8_appendInput_43 : decode cX8_appendInput 43 = .ok (.getfield 55, 3) := by decide +kernel
theorem dX8_appendInput_46 : decode cX8_appendInput 46 = .ok (.ireturn, 1) := by decide +kernel
theorem dX8_appendWord_0 : decode cX8_appendWord 0 = .ok (.bipush 24, 2) := by decide +kernel
theorem dX8_appendWord_2 : decode cX8_appendWord 2 = .ok (.istore_n 2, 1) := by decide +kernel
theorem dX8_appendWord_3 : decode cX8_appendWord 3 = .ok (.iload_n 2, 1) := by decide +kernel
theorem dX8_appendWord_4 : decode cX8_appendWord 4 = .ok (.ifCond .lt 42, 3) := by decide +kernel
theorem dX8_appendWord_7 : decode cX8_appendWord 7 = .ok (.aload_n 0, 1) := by decide +kernel
theorem dX8_appendWord_8 : decode cX8_appendWord 8 = .ok (.getfield 55, 3) := by decide +kernel
theorem dX8_appendWord_11 : decode cX8_appendWord 11 = .ok (.sipush 700, 3) := by decide +kernel
theorem dX8_appendWord_14 : decode cX8_appendWord 14 = .ok (.if_icmp .ge 26, 3) := by decide +kernel
theorem dX8_appendWord_17 : decode cX8_appendWord 17 = .ok (.aload_n 0, 1) := by decide +kernel
theorem dX8_appendWord_18 : decode cX8_appendWord 18 = .ok (.getfield 9, 3) := by decide +kernel
theorem dX8_appendWord_21 : decode cX8_appendWord 21 = .ok (.aload_n 0, 1) := by decide +kernel
theorem dX8_appendWord_22 : decode cX8_appendWord 22 = .ok (.getfield 55, 3) := by decide +kernel
theorem dX8_appendWord_25 : decode cX8_appendWord 25 = .ok (.iload_n 1, 1) := by decide +kernel
theorem dX8_appendWord_26 : decode cX8_appendWord 26 = .ok (.iload_n 2, 1) := by decide +kernel
theorem dX8_appendWord_27 : decode cX8_appendWord 27 = .ok (.iushr, 1) := by decide +kernel
theorem dX8_appendWord_28 : decode cX8_appendWord 28 = .ok (.i2b, 1) := by decide +kernel
theorem dX8_appendWord_29 : decode cX8_appendWord 29 = .ok (.bastore, 1) := by decide +kernel
theorem dX8_appendWord_30 : decode cX8_appendWord 30 = .ok (.aload_n 0, 1) := by decide +kernel
theorem dX8_appendWord_31 : decode cX8_appendWord 31 = .ok (.dup, 1) := by decide +kernel
theorem dX8_appendWord_32 : decode cX8_appendWord 32 = .ok (.getfield 55, 3) := by decide +kernel
theorem dX8_appendWord_35 : decode cX8_appendWord 35 = .ok (.iconst 1, 1) := by decide +kernel
theorem dX8_appendWord_36 : decode cX8_appendWord 36 = .ok (.iadd, 1) := by decide +kernel
theorem dX8_appendWord_37 : decode cX8_appendWord 37 = .ok (.putfield 55, 3) := by decide +kernel
theorem dX8_appendWord_40 : decode cX8_appendWord 40 = .ok (.iinc 2 (-8), 3) := by decide +kernel
theorem dX8_appendWord_43 : decode cX8_appendWord 43 = .ok (.goto (-40), 3) := by decide +kernel
theorem dX8_appendWord_46 : decode cX8_appendWord 46 = .ok (.return_, 1) := by decide +kernel
theorem dX8_truncateInput_0 : decode cX8_truncateInput 0 = .ok (.iload_n 1, 1) := by decide +kernel
theorem dX8_truncateInput_1 : decode cX8_truncateInput 1 = .ok (.ifCond .lt 11, 3) := by decide +kernel
theorem dX8_truncateInput_4 : decode cX8_truncateInput 4 = .ok (.iload_n 1, 1) := by decide +kernel
theorem dX8_truncateInput_5 : decode cX8_truncateInput 5 = .ok (.aload_n 0, 1) := by decide +kernel
theorem dX8_truncateInput_6 : decode cX8_truncateInput 6 = .ok (.getfield 55, 3) := by decide +kernel
theorem dX8_truncateInput_9 : decode cX8_truncateInput 9 = .ok (.if_icmp .le 5, 3) := by decide +kernel
theorem dX8_truncateInput_12 : decode cX8_truncateInput 12 = .ok (.iconst 0, 1) := by decide +kernel
theorem dX8_truncateInput_13 : decode cX8_truncateInput 13 = .ok (.ireturn, 1) := by decide +kernel
theorem dX8_truncateInput_14 : decode cX8_truncateInput 14 = .ok (.aload_n 0, 1) := by decide +kernel
theorem dX8_truncateInput_15 : decode cX8_truncateInput 15 = .ok (.iload_n 1, 1) := by decide +kernel
theorem dX8_truncateInput_16 : decode cX8_truncateInput 16 = .ok (.putfield 55, 3) := by decide +kernel
theorem dX8_truncateInput_19 : decode cX8_truncateInput 19 = .ok (.iconst 1, 1) := by decide +kernel
theorem dX8_truncateInput_20 : decode cX8_truncateInput 20 = .ok (.ireturn, 1) := by decide +kernel
theorem dX8_loadPools_0 : decode cX8_loadPools 0 = .ok (.aload_n 0, 1) := by decide +kernel
theorem dX8_loadPools_1 : decode cX8_loadPools 1 = .ok (.getfield 23, 3) := by decide +kernel
theorem dX8_loadPools_4 : decode cX8_loadPools 4 = .ok (.aload_n 0, 1) := by decide +kernel
theorem dX8_loadPools_5 : decode cX8_loadPools 5 = .ok (.getfield 9, 3) := by decide +kernel
theorem dX8_loadPools_8 : decode cX8_loadPools 8 = .ok (.aload_n 0, 1) := by decide +kernel
theorem dX8_loadPools_9 : decode cX8_loadPools 9 = .ok (.getfield 55, 3) := by decide +kernel
theorem dX8_loadPools_12 : decode cX8_loadPools 12 = .ok (.aload_n 0, 1) := by decide +kernel
theorem dX8_loadPools_13 : decode cX8_loadPools 13 = .ok (.getfield 41, 3) := by decide +kernel
theorem dX8_loadPools_16 : decode cX8_loadPools 16 = .ok (.invokevirtual 62, 3) := by decide +kernel
theorem dX8_loadPools_19 : decode cX8_loadPools 19 = .ok (.aload_n 0, 1) := by decide +kernel
theorem dX8_loadPools_20 : decode cX8_loadPools 20 = .ok (.iconst 0, 1) := by decide +kernel
theorem dX8_loadPools_21 : decode cX8_loadPools 21 = .ok (.putfield 55, 3) := by decide +kernel
theorem dX8_loadPools_24 : decode cX8_loadPools 24 = .ok (.aload_n 0, 1) := by decide +kernel
theorem dX8_loadPools_25 : decode cX8_loadPools 25 = .ok (.aload_n 0, 1) := by decide +kernel
theorem dX8_loadPools_26 : decode cX8_loadPools 26 = .ok (.getfield 23, 3) := by decide +kernel
theorem dX8_loadPools_29 : decode cX8_loadPools 29 = .ok (.getfield 66, 3) := by decide +kernel
theorem dX8_loadPools_32 : decode cX8_loadPools 32 = .ok (.putfield 13, 3) := by decide +kernel
theorem dX8_loadPools_35 : decode cX8_loadPools 35 = .ok (.aload_n 0, 1) := by decide +kernel
theorem dX8_loadPools_36 : decode cX8_loadPools 36 = .ok (.aload_n 0, 1) := by decide +kernel
theorem dX8_loadPools_37 : decode cX8_loadPools 37 = .ok (.getfield 23, 3) := by decide +kernel
theorem dX8_loadPools_40 : decode cX8_loadPools 40 = .ok (.getfield 69, 3) := by decide +kernel
theorem dX8_loadPools_43 : decode cX8_loadPools 43 = .ok (.putfield 17, 3) := by decide +kernel
theorem dX8_loadPools_46 : decode cX8_loadPools 46 = .ok (.aload_n 0, 1) := by decide +kernel
theorem dX8_loadPools_47 : decode cX8_loadPools 47 = .ok (.getfield 13, 3) := by decide +kernel
theorem dX8_loadPools_50 : decode cX8_loadPools 50 = .ok (.ifCond .eq 5, 3) := by decide +kernel
theorem dX8_loadPools_53 : decode cX8_loadPools 53 = .ok (.iconst (-1), 1) := by decide +kernel
theorem dX8_loadPools_54 : decode cX8_loadPools 54 = .ok (.ireturn, 1) := by decide +kernel
theorem dX8_loadPools_55 : decode cX8_loadPools 55 = .ok (.aload_n 0, 1) := by decide +kernel
theorem dX8_loadPools_56 : decode cX8_loadPools 56 = .ok (.getfield 37, 3) := by decide +kernel
theorem dX8_loadPools_59 : decode cX8_loadPools 59 = .ok (.aload_n 0, 1) := by decide +kernel
theorem dX8_loadPools_60 : decode cX8_loadPools 60 = .ok (.getfield 41, 3) := by decide +kernel
theorem dX8_loadPools_63 : decode cX8_loadPools 63 = .ok (.invokevirtual 72, 3) := by decide +kernel
theorem dX8_loadPools_66 : decode cX8_loadPools 66 = .ok (.aload_n 0, 1) := by decide +kernel
theorem dX8_loadPools_67 : decode cX8_loadPools 67 = .ok (.iconst 0, 1) := by decide +kernel
theorem dX8_loadPools_68 : decode cX8_loadPools 68 = .ok (.putfield 76, 3) := by decide +kernel
theorem dX8_loadPools_71 : decode cX8_loadPools 71 = .ok (.aload_n 0, 1) := by decide +kernel
theorem dX8_loadPools_72 : decode cX8_loadPools 72 = .ok (.iconst 0, 1) := by decide +kernel
theorem dX8_loadPools_73 : decode cX8_loadPools 73 = .ok (.putfield 79, 3) := by decide +kernel
theorem dX8_loadPools_76 : decode cX8_loadPools 76 = .ok (.aload_n 0, 1) := by decide +kernel
theorem dX8_loadPools_77 : decode cX8_loadPools 77 = .ok (.getfield 37, 3) := by decide +kernel
theorem dX8_loadPools_80 : decode cX8_loadPools 80 = .ok (.getfield 83, 3) := by decide +kernel
theorem dX8_loadPools_83 : decode cX8_loadPools 83 = .ok (.ireturn, 1) := by decide +kernel
theorem dX8_errorCode_0 : decode cX8_errorCode 0 = .ok (.aload_n 0, 1) := by decide +kernel
theorem dX8_errorCode_1 : decode cX8_errorCode 1 = .ok (.getfield 13, 3) := by decide +kernel
theorem dX8_errorCode_4 : decode cX8_errorCode 4 = .ok (.ireturn, 1) := by decide +kernel
theorem dX8_errorOffset_0 : decode cX8_errorOffset 0 = .ok (.aload_n 0, 1) := by decide +kernel
theorem dX8_errorOffset_1 : decode cX8_errorOffset 1 = .ok (.getfield 17, 3) := by decide +kernel
theorem dX8_errorOffset_4 : decode cX8_errorOffset 4 = .ok (.ireturn, 1) := by decide +kernel
theorem dX8_count_0 : decode cX8_count 0 = .ok (.iload_n 1, 1) := by decide +kernel
theorem dX8_count_1 : decode cX8_count 1 = .ok (.tableswitch 87 0 5 #[39, 47, 55, 63, 71, 82], 39) := by decide +kernel
theorem dX8_count_40 : decode cX8_count 40 = .ok (.aload_n 0, 1) := by decide +kernel
theorem dX8_count_41 : decode cX8_count 41 = .ok (.getfield 37, 3) := by decide +kernel
theorem dX8_count_44 : decode cX8_count 44 = .ok (.getfield 83, 3) := by decide +kernel
theorem dX8_count_47 : decode cX8_count 47 = .ok (.ireturn, 1) := by decide +kernel
theorem dX8_count_48 : decode cX8_count 48 = .ok (.aload_n 0, 1) := by decide +kernel
theorem dX8_count_49 : decode cX8_count 49 = .ok (.getfield 37, 3) := by decide +kernel
theorem dX8_count_52 : decode cX8_count 52 = .ok (.getfield 86, 3) := by decide +kernel
theorem dX8_count_55 : decode cX8_count 55 = .ok (.ireturn, 1) := by decide +kernel
theorem dX8_count_56 : decode cX8_count 56 = .ok (.aload_n 0, 1) := by decide +kernel
theorem dX8_count_57 : decode cX8_count 57 = .ok (.getfield 37, 3) := by decide +kernel
theorem dX8_count_60 : decode cX8_count 60 = .ok (.invokevirtual 89, 3) := by decide +kernel
theorem dX8_count_63 : decode cX8_count 63 = .ok (.ireturn, 1) := by decide +kernel
theorem dX8_count_64 : decode cX8_count 64 = .ok (.aload_n 0, 1) := by decide +kernel
theorem dX8_count_65 : decode cX8_count 65 = .ok (.getfield 37, 3) := by decide +kernel
theorem dX8_count_68 : decode cX8_count 68 = .ok (.getfield 93, 3) := by decide +kernel
theorem dX8_count_71 : decode cX8_count 71 = .ok (.ireturn, 1) := by decide +kernel
theorem dX8_count_72 : decode cX8_count 72 = .ok (.aload_n 0, 1) := by decide +kernel
theorem dX8_count_73 : decode cX8_count 73 = .ok (.getfield 37, 3) := by decide +kernel
theorem dX8_count_76 : decode cX8_count 76 = .ok (.getfield 96, 3) := by decide +kernel
theorem dX8_count_79 : decode cX8_count 79 = .ok (.getfield 100, 3) := by decide +kernel
theorem dX8_count_82 : decode cX8_count 82 = .ok (.ireturn, 1) := by decide +kernel
theorem dX8_count_83 : decode cX8_count 83 = .ok (.aload_n 0, 1) := by decide +kernel
theorem dX8_count_84 : decode cX8_count 84 = .ok (.getfield 76, 3) := by decide +kernel
theorem dX8_count_87 : decode cX8_count 87 = .ok (.ireturn, 1) := by decide +kernel
theorem dX8_count_88 : decode cX8_count 88 = .ok (.new 105, 3) := by decide +kernel
theorem dX8_count_91 : decode cX8_count 91 = .ok (.dup, 1) := by decide +kernel
theorem dX8_count_92 : decode cX8_count 92 = .ok (.ldc 107, 2) := by decide +kernel
theorem dX8_count_94 : decode cX8_count 94 = .ok (.invokespecial 109, 3) := by decide +kernel
theorem dX8_count_97 : decode cX8_count 97 = .ok (.athrow, 1) := by decide +kernel
theorem dX8_pool_0 : decode cX8_pool 0 = .ok (.aload_n 0, 1) := by decide +kernel
theorem dX8_pool_1 : decode cX8_pool 1 = .ok (.iload_n 1, 1) := by decide +kernel
theorem dX8_pool_2 : decode cX8_pool 2 = .ok (.invokevirtual 112, 3) := by decide +kernel
theorem dX8_pool_5 : decode cX8_pool 5 = .ok (.astore_n 3, 1) := by decide +kernel
theorem dX8_pool_6 : decode cX8_pool 6 = .ok (.iload_n 2, 1) := by decide +kernel
theorem dX8_pool_7 : decode cX8_pool 7 = .ok (.iconst 0, 1) := by decide +kernel
theorem dX8_pool_8 : decode cX8_pool 8 = .ok (.bipush 20, 2) := by decide +kernel
theorem dX8_pool_10 : decode cX8_pool 10 = .ok (.invokestatic 116, 3) := by decide +kernel
theorem dX8_pool_13 : decode cX8_pool 13 = .ok (.iload_n 2, 1) := by decide +kernel
theorem dX8_pool_14 : decode cX8_pool 14 = .ok (.lookupswitch 99 #[(3, 50), (4, 58), (5, 73), (19, 81), (20, 94)], 50) := by decide +kernel
theorem dX8_pool_64 : decode cX8_pool 64 = .ok (.aload_n 3, 1) := by decide +kernel
theorem dX8_pool_65 : decode cX8_pool 65 = .ok (.getfield 119, 3) := by decide +kernel
theorem dX8_pool_68 : decode cX8_pool 68 = .ok (.getfield 125, 3) := by decide +kernel
theorem dX8_pool_71 : decode cX8_pool 71 = .ok (.ireturn, 1) := by decide +kernel
theorem dX8_pool_72 : decode cX8_pool 72 = .ok (.aload_n 3, 1) := by decide +kernel
theorem dX8_pool_73 : decode cX8_pool 73 = .ok (.getfield 119, 3) := by decide +kernel
theorem dX8_pool_76 : decode cX8_pool 76 = .ok (.aload_n 0, 1) := by decide +kernel
theorem dX8_pool_77 : decode cX8_pool 77 = .ok (.getfield 37, 3) := by decide +kernel
theorem dX8_pool_80 : decode cX8_pool 80 = .ok (.getfield 86, 3) := by decide +kernel
theorem dX8_pool_83 : decode cX8_pool 83 = .ok (.invokevirtual 130, 3) := by decide +kernel
theorem dX8_pool_86 : decode cX8_pool 86 = .ok (.ireturn, 1) := by decide +kernel
theorem dX8_pool_87 : decode cX8_pool 87 = .ok (.aload_n 3, 1) := by decide +kernel
theorem dX8_pool_88 : decode cX8_pool 88 = .ok (.getfield 119, 3) := by decide +kernel
theorem dX8_pool_91 : decode cX8_pool 91 = .ok (.invokevirtual 134, 3) := by decide +kernel
theorem dX8_pool_94 : decode cX8_pool 94 = .ok (.ireturn, 1) := by decide +kernel
theorem dX8_pool_95 : decode cX8_pool 95 = .ok (.aload_n 3, 1) := by decide +kernel
theorem dX8_pool_96 : decode cX8_pool 96 = .ok (.getfield 137, 3) := by decide +kernel
theorem dX8_pool_99 : decode cX8_pool 99 = .ok (.ifCond .eq 7, 3) := by decide +kernel
theorem dX8_pool_102 : decode cX8_pool 102 = .ok (.iconst 1, 1) := by decide +kernel
theorem dX8_pool_103 : decode cX8_pool 103 = .ok (.goto 4, 3) := by decide +kernel
theorem dX8_pool_106 : decode cX8_pool 106 = .ok (.iconst 0, 1) := by decide +kernel
theorem dX8_pool_107 : decode cX8_pool 107 = .ok (.ireturn, 1) := by decide +kernel
theorem dX8_pool_108 : decode cX8_pool 108 = .ok (.aload_n 3, 1) := by decide +kernel
theorem dX8_pool_109 : decode cX8_pool 109 = .ok (.getfield 140, 3) := by decide +kernel
theorem dX8_pool_112 : decode cX8_pool 112 = .ok (.ireturn, 1) := by decide +kernel
theorem dX8_pool_113 : decode cX8_pool 113 = .ok (.aload_n 3, 1) := by decide +kernel
theorem dX8_pool_114 : decode cX8_pool 114 = .ok (.getfield 143, 3) := by decide +kernel
theorem dX8_pool_117 : decode cX8_pool 117 = .ok (.iload_n 2, 1) := by decide +kernel
theorem dX8_pool_118 : decode cX8_pool 118 = .ok (.invokevirtual 147, 3) := by decide +kernel
theorem dX8_pool_121 : decode cX8_pool 121 = .ok (.ireturn, 1) := by decide +kernel
theorem dX8_member_0 : decode cX8_member 0 = .ok (.iload_n 2, 1) := by decide +kernel
theorem dX8_member_1 : decode cX8_member 1 = .ok (.iconst 0, 1) := by decide +kernel
theorem dX8_member_2 : decode cX8_member 2 = .ok (.iconst 4, 1) := by decide +kernel
theorem dX8_member_3 : decode cX8_member 3 = .ok (.invokestatic 116, 3) := by decide +kernel
theorem dX8_member_6 : decode cX8_member 6 = .ok (.aload_n 0, 1) := by decide +kernel
theorem dX8_member_7 : decode cX8_member 7 = .ok (.getfield 37, 3) := by decide +kernel
theorem dX8_member_10 : decode cX8_member 10 = .ok (.iload_n 1, 1) := by decide +kernel
theorem dX8_member_11 : decode cX8_member 11 = .ok (.invokevirtual 152, 3) := by decide +kernel
theorem dX8_member_14 : decode cX8_member 14 = .ok (.istore_n 3, 1) := by decide +kernel
theorem dX8_member_15 : decode cX8_member 15 = .ok (.aload_n 0, 1) := by decide +kernel
theorem dX8_member_16 : decode cX8_member 16 = .ok (.getfield 37, 3) := by decide +kernel
theorem dX8_member_19 : decode cX8_member 19 = .ok (.iload_n 3, 1) := by decide +kernel
theorem dX8_member_20 : decode cX8_member 20 = .ok (.iload_n 1, 1) := by decide +kernel
theorem dX8_member_21 : decode cX8_member 21 = .ok (.invokevirtual 155, 3) := by decide +kernel
theorem dX8_member_24 : decode cX8_member 24 = .ok (.istore 4, 2) := by decide +kernel
theorem dX8_member_26 : decode cX8_member 26 = .ok (.iload 4, 2) := by decide +kernel
theorem dX8_member_28 : decode cX8_member 28 = .ok (.ifCond .ge 13, 3) := by decide +kernel
theorem dX8_member_31 : decode cX8_member 31 = .ok (.new 159, 3) := by decide +kernel
theorem dX8_member_34 : decode cX8_member 34 = .ok (.dup, 1) := by decide +kernel
theorem dX8_member_35 : decode cX8_member 35 = .ok (.ldc 161, 2) := by decide +kernel
theorem dX8_member_37 : decode cX8_member 37 = .ok (.invokespecial 163, 3) := by decide +kernel
theorem dX8_member_40 : decode cX8_member 40 = .ok (.athrow, 1) := by decide +kernel
theorem dX8_member_41 : decode cX8_member 41 = .ok (.aload_n 0, 1) := by decide +kernel
theorem dX8_member_42 : decode cX8_member 42 = .ok (.getfield 37, 3) := by decide +kernel
theorem dX8_member_45 : decode cX8_member 45 = .ok (.getfield 164, 3) := by decide +kernel
theorem dX8_member_48 : decode cX8_member 48 = .ok (.iload_n 3, 1) := by decide +kernel
theorem dX8_member_49 : decode cX8_member 49 = .ok (.aaload, 1) := by decide +kernel
theorem dX8_member_50 : decode cX8_member 50 = .ok (.getfield 119, 3) := by decide +kernel
theorem dX8_member_53 : decode cX8_member 53 = .ok (.astore 5, 2) := by decide +kernel
theorem dX8_member_55 : decode cX8_member 55 = .ok (.iload_n 2, 1) := by decide +kernel
theorem dX8_member_56 : decode cX8_member 56 = .ok (.tableswitch 75 0 3 #[32, 34, 43, 52], 32) := by decide +kernel
theorem dX8_member_88 : decode cX8_member 88 = .ok (.iload_n 3, 1) := by decide +kernel
theorem dX8_member_89 : decode cX8_member 89 = .ok (.ireturn, 1) := by decide +kernel
theorem dX8_member_90 : decode cX8_member 90 = .ok (.aload 5, 2) := by decide +kernel
theorem dX8_member_92 : decode cX8_member 92 = .ok (.getfield 168, 3) := by decide +kernel
theorem dX8_member_95 : decode cX8_member 95 = .ok (.iload 4, 2) := by decide +kernel
theorem dX8_member_97 : decode cX8_member 97 = .ok (.iaload, 1) := by decide +kernel
theorem dX8_member_98 : decode cX8_member 98 = .ok (.ireturn, 1) := by decide +kernel
theorem dX8_member_99 : decode cX8_member 99 = .ok (.aload 5, 2) := by decide +kernel
theorem dX8_member_101 : decode cX8_member 101 = .ok (.getfield 172, 3) := by decide +kernel
theorem dX8_member_104 : decode cX8_member 104 = .ok (.iload 4, 2) := by decide +kernel
theorem dX8_member_106 : decode cX8_member 106 = .ok (.iaload, 1) := by decide +kernel
theorem dX8_member_107 : decode cX8_member 107 = .ok (.ireturn, 1) := by decide +kernel
theorem dX8_member_108 : decode cX8_member 108 = .ok (.aload 5, 2) := by decide +kernel
theorem dX8_member_110 : decode cX8_member 110 = .ok (.iload 4, 2) := by decide +kernel
theorem dX8_member_112 : decode cX8_member 112 = .ok (.aload_n 0, 1) := by decide +kernel
theorem dX8_member_113 : decode cX8_member 113 = .ok (.getfield 37, 3) := by decide +kernel
theorem dX8_member_116 : decode cX8_member 116 = .ok (.getfield 86, 3) := by decide +kernel
theorem dX8_member_119 : decode cX8_member 119 = .ok (.invokevirtual 175, 3) := by decide +kernel
theorem dX8_member_122 : decode cX8_member 122 = .ok (.ifCond .eq 7, 3) := by decide +kernel
theorem dX8_member_125 : decode cX8_member 125 = .ok (.iconst 1, 1) := by decide +kernel
theorem dX8_member_126 : decode cX8_member 126 = .ok (.goto 4, 3) := by decide +kernel
theorem dX8_member_129 : decode cX8_member 129 = .ok (.iconst 0, 1) := by decide +kernel
theorem dX8_member_130 : decode cX8_member 130 = .ok (.ireturn, 1) := by decide +kernel
theorem dX8_member_131 : decode cX8_member 131 = .ok (.aload 5, 2) := by decide +kernel
theorem dX8_member_133 : decode cX8_member 133 = .ok (.getfield 179, 3) := by decide +kernel
theorem dX8_member_136 : decode cX8_member 136 = .ok (.iload 4, 2) := by decide +kernel
theorem dX8_member_138 : decode cX8_member 138 = .ok (.baload, 1) := by decide +kernel
theorem dX8_member_139 : decode cX8_member 139 = .ok (.ifCond .eq 7, 3) := by decide +kernel
theorem dX8_member_142 : decode cX8_member 142 = .ok (.iconst 1, 1) := by decide +kernel
theorem dX8_member_143 : decode cX8_member 143 = .ok (.goto 4, 3) := by decide +kernel
theorem dX8_member_146 : decode cX8_member 146 = .ok (.iconst 0, 1) := by decide +kernel
theorem dX8_member_147 : decode cX8_member 147 = .ok (.ireturn, 1) := by decide +kernel
theorem dX8_memberAt_0 : decode cX8_memberAt 0 = .ok (.aload_n 0, 1) := by decide +kernel
theorem dX8_memberAt_1 : decode cX8_memberAt 1 = .ok (.iload_n 1, 1) := by decide +kernel
theorem dX8_memberAt_2 : decode cX8_memberAt 2 = .ok (.invokevirtual 112, 3) := by decide +kernel
theorem dX8_memberAt_5 : decode cX8_memberAt 5 = .ok (.getfield 119, 3) := by decide +kernel
theorem dX8_memberAt_8 : decode cX8_memberAt 8 = .ok (.astore_n 3, 1) := by decide +kernel
theorem dX8_memberAt_9 : decode cX8_memberAt 9 = .ok (.iload_n 2, 1) := by decide +kernel
theorem dX8_memberAt_10 : decode cX8_memberAt 10 = .ok (.ifCond .lt 11, 3) := by decide +kernel
theorem dX8_memberAt_13 : decode cX8_memberAt 13 = .ok (.iload_n 2, 1) := by decide +kernel
theorem dX8_memberAt_14 : decode cX8_memberAt 14 = .ok (.aload_n 3, 1) := by decide +kernel
theorem dX8_memberAt_15 : decode cX8_memberAt 15 = .ok (.getfield 125, 3) := by decide +kernel
theorem dX8_memberAt_18 : decode cX8_memberAt 18 = .ok (.if_icmp .lt 13, 3) := by decide +kernel
theorem dX8_memberAt_21 : decode cX8_memberAt 21 = .ok (.new 159, 3) := by decide +kernel
theorem dX8_memberAt_24 : decode cX8_memberAt 24 = .ok (.dup, 1) := by decide +kernel
theorem dX8_memberAt_25 : decode cX8_memberAt 25 = .ok (.ldc 183, 2) := by decide +kernel
theorem dX8_memberAt_27 : decode cX8_memberAt 27 = .ok (.invokespecial 163, 3) := by decide +kernel
theorem dX8_memberAt_30 : decode cX8_memberAt 30 = .ok (.athrow, 1) := by decide +kernel
theorem dX8_memberAt_31 : decode cX8_memberAt 31 = .ok (.aload_n 3, 1) := by decide +kernel
theorem dX8_memberAt_32 : decode cX8_memberAt 32 = .ok (.getfield 185, 3) := by decide +kernel
theorem dX8_memberAt_35 : decode cX8_memberAt 35 = .ok (.iload_n 2, 1) := by decide +kernel
theorem dX8_memberAt_36 : decode cX8_memberAt 36 = .ok (.iaload, 1) := by decide +kernel
theorem dX8_memberAt_37 : decode cX8_memberAt 37 = .ok (.ireturn, 1) := by decide +kernel
theorem dX8_demand_0 : decode cX8_demand 0 = .ok (.aload_n 0, 1) := by decide +kernel
theorem dX8_demand_1 : decode cX8_demand 1 = .ok (.iload_n 1, 1) := by decide +kernel
theorem dX8_demand_2 : decode cX8_demand 2 = .ok (.invokevirtual 112, 3) := by decide +kernel
theorem dX8_demand_5 : decode cX8_demand 5 = .ok (.astore_n 3, 1) := by decide +kernel
theorem dX8_demand_6 : decode cX8_demand 6 = .ok (.iload_n 2, 1) := by decide +kernel
theorem dX8_demand_7 : decode cX8_demand 7 = .ok (.ifCond .lt 11, 3) := by decide +kernel
theorem dX8_demand_10 : decode cX8_demand 10 = .ok (.iload_n 2, 1) := by decide +kernel
theorem dX8_demand_11 : decode cX8_demand 11 = .ok (.aload_n 3, 1) := by decide +kernel
theorem dX8_demand_12 : decode cX8_demand 12 = .ok (.invokevirtual 188, 3) := by decide +kernel
theorem dX8_demand_15 : decode cX8_demand 15 = .ok (.if_icmp .lt 13, 3) := by decide +kernel
theorem dX8_demand_18 : decode cX8_demand 18 = .ok (.new 159, 3) := by decide +kernel
theorem dX8_demand_21 : decode cX8_demand 21 = .ok (.dup, 1) := by decide +kernel
theorem dX8_demand_22 : decode cX8_demand 22 = .ok (.ldc 191, 2) := by decide +kernel
theorem dX8_demand_24 : decode cX8_demand 24 = .ok (.invokespecial 163, 3) := by decide +kernel
theorem dX8_demand_27 : decode cX8_demand 27 = .ok (.athrow, 1) := by decide +kernel
theorem dX8_demand_28 : decode cX8_demand 28 = .ok (.aload_n 3, 1) := by decide +kernel
theorem dX8_demand_29 : decode cX8_demand 29 = .ok (.iload_n 2, 1) := by decide +kernel
theorem dX8_demand_30 : decode cX8_demand 30 = .ok (.invokevirtual 193, 3) := by decide +kernel
theorem dX8_demand_33 : decode cX8_demand 33 = .ok (.ireturn, 1) := by decide +kernel
theorem dX8_planned_0 : decode cX8_planned 0 = .ok (.aload_n 0, 1) := by decide +kernel
theorem dX8_planned_1 : decode cX8_planned 1 = .ok (.iload_n 1, 1) := by decide +kernel
theorem dX8_planned_2 : decode cX8_planned 2 = .ok (.invokevirtual 112, 3) := by decide +kernel
theorem dX8_planned_5 : decode cX8_planned 5 = .ok (.astore_n 3, 1) := by decide +kernel
theorem dX8_planned_6 : decode cX8_planned 6 = .ok (.iload_n 2, 1) := by decide +kernel
theorem dX8_planned_7 : decode cX8_planned 7 = .ok (.iconst 0, 1) := by decide +kernel
theorem dX8_planned_8 : decode cX8_planned 8 = .ok (.sipush 999, 3) := by decide +kernel
theorem dX8_planned_11 : decode cX8_planned 11 = .ok (.invokestatic 116, 3) := by decide +kernel
theorem dX8_planned_14 : decode cX8_planned 14 = .ok (.aload_n 3, 1) := by decide +kernel
theorem dX8_planned_15 : decode cX8_planned 15 = .ok (.aload_n 0, 1) := by decide +kernel
theorem dX8_planned_16 : decode cX8_planned 16 = .ok (.getfield 37, 3) := by decide +kernel
theorem dX8_planned_19 : decode cX8_planned 19 = .ok (.getfield 86, 3) := by decide +kernel
theorem dX8_planned_22 : decode cX8_planned 22 = .ok (.iload_n 2, 1) := by decide +kernel
theorem dX8_planned_23 : decode cX8_planned 23 = .ok (.invokevirtual 196, 3) := by decide +kernel
theorem dX8_planned_26 : decode cX8_planned 26 = .ok (.ireturn, 1) := by decide +kernel
theorem dX8_measure_0 : decode cX8_measure 0 = .ok (.aload_n 0, 1) := by decide +kernel
theorem dX8_measure_1 : decode cX8_measure 1 = .ok (.iload_n 1, 1) := by decide +kernel
theorem dX8_measure_2 : decode cX8_measure 2 = .ok (.invokevirtual 112, 3) := by decide +kernel
theorem dX8_measure_5 : decode cX8_measure 5 = .ok (.aload_n 0, 1) := by decide +kernel
theorem dX8_measure_6 : decode cX8_measure 6 = .ok (.getfield 37, 3) := by decide +kernel
theorem dX8_measure_9 : decode cX8_measure 9 = .ok (.getfield 86, 3) := by decide +kernel
theorem dX8_measure_12 : decode cX8_measure 12 = .ok (.invokevirtual 199, 3) := by decide +kernel
theorem dX8_measure_15 : decode cX8_measure 15 = .ok (.ireturn, 1) := by decide +kernel
theorem dX8_forecast_0 : decode cX8_forecast 0 = .ok (.aload_n 0, 1) := by decide +kernel
theorem dX8_forecast_1 : decode cX8_forecast 1 = .ok (.iload_n 1, 1) := by decide +kernel
theorem dX8_forecast_2 : decode cX8_forecast 2 = .ok (.invokevirtual 112, 3) := by decide +kernel
theorem dX8_forecast_5 : decode cX8_forecast 5 = .ok (.getfield 202, 3) := by decide +kernel
theorem dX8_forecast_8 : decode cX8_forecast 8 = .ok (.ireturn, 1) := by decide +kernel
theorem dX8_wanted_0 : decode cX8_wanted 0 = .ok (.aload_n 0, 1) := by decide +kernel
theorem dX8_wanted_1 : decode cX8_wanted 1 = .ok (.iload_n 1, 1) := by decide +kernel
theorem dX8_wanted_2 : decode cX8_wanted 2 = .ok (.invokevirtual 112, 3) := by decide +kernel
theorem dX8_wanted_5 : decode cX8_wanted 5 = .ok (.getfield 205, 3) := by decide +kernel
theorem dX8_wanted_8 : decode cX8_wanted 8 = .ok (.ireturn, 1) := by decide +kernel
theorem dX8_meanError_0 : decode cX8_meanError 0 = .ok (.aload_n 0, 1) := by decide +kernel
theorem dX8_meanError_1 : decode cX8_meanError 1 = .ok (.iload_n 1, 1) := by decide +kernel
theorem dX8_meanError_2 : decode cX8_meanError 2 = .ok (.invokevirtual 112, 3) := by decide +kernel
theorem dX8_meanError_5 : decode cX8_meanError 5 = .ok (.getfield 208, 3) := by decide +kernel
theorem dX8_meanError_8 : decode cX8_meanError 8 = .ok (.astore_n 2, 1) := by decide +kernel
theorem dX8_meanError_9 : decode cX8_meanError 9 = .ok (.aload_n 2, 1) := by decide +kernel
theorem dX8_meanError_10 : decode cX8_meanError 10 = .ok (.getfield 212, 3) := by decide +kernel
theorem dX8_meanError_13 : decode cX8_meanError 13 = .ok (.ifCond .ne 5, 3) := by decide +kernel
theorem dX8_meanError_16 : decode cX8_meanError 16 = .ok (.dconst 0, 1) := by decide +kernel
theorem dX8_meanError_17 : decode cX8_meanError 17 = .ok (.dreturn, 1) := by decide +kernel
theorem dX8_meanError_18 : decode cX8_meanError 18 = .ok (.aload_n 2, 1) := by decide +kernel
theorem dX8_meanError_19 : decode cX8_meanError 19 = .ok (.getfield 217, 3) := by decide +kernel
theorem dX8_meanError_22 : decode cX8_meanError 22 = .ok (.l2d, 1) := by decide +kernel
theorem dX8_meanError_23 : decode cX8_meanError 23 = .ok (.aload_n 2, 1) := by decide +kernel
theorem dX8_meanError_24 : decode cX8_meanError 24 = .ok (.getfield 212, 3) := by decide +kernel
theorem dX8_meanError_27 : decode cX8_meanError 27 = .ok (.i2d, 1) := by decide +kernel
theorem dX8_meanError_28 : decode cX8_meanError 28 = .ok (.ddiv, 1) := by decide +kernel
theorem dX8_meanError_29 : decode cX8_meanError 29 = .ok (.dreturn, 1) := by decide +kernel
theorem dX8_nextDropped_0 : decode cX8_nextDropped 0 = .ok (.aload_n 0, 1) := by decide +kernel
theorem dX8_nextDropped_1 : decode cX8_nextDropped 1 = .ok (.iload_n 1, 1) := by decide +kernel
theorem dX8_nextDropped_2 : decode cX8_nextDropped 2 = .ok (.invokevirtual 112, 3) := by decide +kernel
theorem dX8_nextDropped_5 : decode cX8_nextDropped 5 = .ok (.astore_n 2, 1) := by decide +kernel
theorem dX8_nextDropped_6 : decode cX8_nextDropped 6 = .ok (.aload_n 2, 1) := by decide +kernel
theorem dX8_nextDropped_7 : decode cX8_nextDropped 7 = .ok (.getfield 119, 3) := by decide +kernel
theorem dX8_nextDropped_10 : decode cX8_nextDropped 10 = .ok (.aload_n 2, 1) := by decide +kernel
theorem dX8_nextDropped_11 : decode cX8_nextDropped 11 = .ok (.getfield 143, 3) := by decide +kernel
theorem dX8_nextDropped_14 : decode cX8_nextDropped 14 = .ok (.getfield 221, 3) := by decide +kernel
theorem dX8_nextDropped_17 : decode cX8_nextDropped 17 = .ok (.invokevirtual 224, 3) := by decide +kernel
theorem dX8_nextDropped_20 : decode cX8_nextDropped 20 = .ok (.istore_n 3, 1) := by decide +kernel
theorem dX8_nextDropped_21 : decode cX8_nextDropped 21 = .ok (.iload_n 3, 1) := by decide +kernel
theorem dX8_nextDropped_22 : decode cX8_nextDropped 22 = .ok (.ifCond .ge 7, 3) := by decide +kernel
theorem dX8_nextDropped_25 : decode cX8_nextDropped 25 = .ok (.iconst (-1), 1) := by decide +kernel
theorem dX8_nextDropped_26 : decode cX8_nextDropped 26 = .ok (.goto 12, 3) := by decide +kernel
theorem dX8_nextDropped_29 : decode cX8_nextDropped 29 = .ok (.aload_n 2, 1) := by decide +kernel
theorem dX8_nextDropped_30 : decode cX8_nextDropped 30 = .ok (.getfield 119, 3) := by decide +kernel
theorem dX8_nextDropped_33 : decode cX8_nextDropped 33 = .ok (.getfield 185, 3) := by decide +kernel
theorem dX8_nextDropped_36 : decode cX8_nextDropped 36 = .ok (.iload_n 3, 1) := by decide +kernel
theorem dX8_nextDropped_37 : decode cX8_nextDropped 37 = .ok (.iaload, 1) := by decide +kernel
theorem dX8_nextDropped_38 : decode cX8_nextDropped 38 = .ok (.ireturn, 1) := by decide +kernel
theorem dX8_coolLeft_0 : decode cX8_coolLeft 0 = .ok (.aload_n 0, 1) := by decide +kernel
theorem dX8_coolLeft_1 : decode cX8_coolLeft 1 = .ok (.iload_n 1, 1) := by decide +kernel
theorem dX8_coolLeft_2 : decode cX8_coolLeft 2 = .ok (.invokevirtual 112, 3) := by decide +kernel
theorem dX8_coolLeft_5 : decode cX8_coolLeft 5 = .ok (.astore_n 3, 1) := by decide +kernel
theorem dX8_coolLeft_6 : decode cX8_coolLeft 6 = .ok (.iload_n 2, 1) := by decide +kernel
theorem dX8_coolLeft_7 : decode cX8_coolLeft 7 = .ok (.ifCond .eq 18, 3) := by decide +kernel
theorem dX8_coolLeft_10 : decode cX8_coolLeft 10 = .ok (.aload_n 3, 1) := by decide +kernel
theorem dX8_coolLeft_11 : decode cX8_coolLeft 11 = .ok (.getfield 227, 3) := by decide +kernel
theorem dX8_coolLeft_14 : decode cX8_coolLeft 14 = .ok (.aload_n 3, 1) := by decide +kernel
theorem dX8_coolLeft_15 : decode cX8_coolLeft 15 = .ok (.getfield 143, 3) := by decide +kernel
theorem dX8_coolLeft_18 : decode cX8_coolLeft 18 = .ok (.getfield 230, 3) := by decide +kernel
theorem dX8_coolLeft_21 : decode cX8_coolLeft 21 = .ok (.iadd, 1) := by decide +kernel
theorem dX8_coolLeft_22 : decode cX8_coolLeft 22 = .ok (.goto 15, 3) := by decide +kernel
theorem dX8_coolLeft_25 : decode cX8_coolLeft 25 = .ok (.aload_n 3, 1) := by decide +kernel
theorem dX8_coolLeft_26 : decode cX8_coolLeft 26 = .ok (.getfield 233, 3) := by decide +kernel
theorem dX8_coolLeft_29 : decode cX8_coolLeft 29 = .ok (.aload_n 3, 1) := by decide +kernel
theorem dX8_coolLeft_30 : decode cX8_coolLeft 30 = .ok (.getfield 143, 3) := by decide +kernel
theorem dX8_coolLeft_33 : decode cX8_coolLeft 33 = .ok (.getfield 236, 3) := by decide +kernel
theorem dX8_coolLeft_36 : decode cX8_coolLeft 36 = .ok (.iadd, 1) := by decide +kernel
theorem dX8_coolLeft_37 : decode cX8_coolLeft 37 = .ok (.istore 4, 2) := by decide +kernel
theorem dX8_coolLeft_39 : decode cX8_coolLeft 39 = .ok (.iconst 0, 1) := by decide +kernel
theorem dX8_coolLeft_40 : decode cX8_coolLeft 40 = .ok (.iload 4, 2) := by decide +kernel
theorem dX8_coolLeft_42 : decode cX8_coolLeft 42 = .ok (.aload_n 0, 1) := by decide +kernel
theorem dX8_coolLeft_43 : decode cX8_coolLeft 43 = .ok (.getfield 37, 3) := by decide +kernel
theorem dX8_coolLeft_46 : decode cX8_coolLeft 46 = .ok (.getfield 86, 3) := by decide +kernel
theorem dX8_coolLeft_49 : decode cX8_coolLeft 49 = .ok (.isub, 1) := by decide +kernel
theorem dX8_coolLeft_50 : decode cX8_coolLeft 50 = .ok (.invokestatic 239, 3) := by decide +kernel
theorem dX8_coolLeft_53 : decode cX8_coolLeft 53 = .ok (.ireturn, 1) := by decide +kernel
theorem dX8_served_0 : decode cX8_served 0 = .ok (.aload_n 0, 1) := by decide +kernel
theorem dX8_served_1 : decode cX8_served 1 = .ok (.iload_n 1, 1) := by decide +kernel
theorem dX8_served_2 : decode cX8_served 2 = .ok (.invokevirtual 112, 3) := by decide +kernel
theorem dX8_served_5 : decode cX8_served 5 = .ok (.getfield 208, 3) := by decide +kernel
theorem dX8_served_8 : decode cX8_served 8 = .ok (.getfield 244, 3) := by decide +kernel
theorem dX8_served_11 : decode cX8_served 11 = .ok (.lreturn, 1) := by decide +kernel
theorem dX8_missed_0 : decode cX8_missed 0 = .ok (.aload_n 0, 1) := by decide +kernel
theorem dX8_missed_1 : decode cX8_missed 1 = .ok (.iload_n 1, 1) := by decide +kernel
theorem dX8_missed_2 : decode cX8_missed 2 = .ok (.invokevirtual 112, 3) := by decide +kernel
theorem dX8_missed_5 : decode cX8_missed 5 = .ok (.getfield 208, 3) := by decide +kernel
theorem dX8_missed_8 : decode cX8_missed 8 = .ok (.getfield 247, 3) := by decide +kernel
theorem dX8_missed_11 : decode cX8_missed 11 = .ok (.lreturn, 1) := by decide +kernel
theorem dX8_cost_0 : decode cX8_cost 0 = .ok (.aload_n 0, 1) := by decide +kernel
theorem dX8_cost_1 : decode cX8_cost 1 = .ok (.iload_n 1, 1) := by decide +kernel
theorem dX8_cost_2 : decode cX8_cost 2 = .ok (.invokevirtual 112, 3) := by decide +kernel
theorem dX8_cost_5 : decode cX8_cost 5 = .ok (.getfield 208, 3) := by decide +kernel
theorem dX8_cost_8 : decode cX8_cost 8 = .ok (.getfield 250, 3) := by decide +kernel
theorem dX8_cost_11 : decode cX8_cost 11 = .ok (.lreturn, 1) := by decide +kernel
theorem dX8_missedShare_0 : decode cX8_missedShare 0 = .ok (.aload_n 0, 1) := by decide +kernel
theorem dX8_missedShare_1 : decode cX8_missedShare 1 = .ok (.iload_n 1, 1) := by decide +kernel
theorem dX8_missedShare_2 : decode cX8_missedShare 2 = .ok (.invokevirtual 112, 3) := by decide +kernel
theorem dX8_missedShare_5 : decode cX8_missedShare 5 = .ok (.getfield 208, 3) := by decide +kernel
theorem dX8_missedShare_8 : decode cX8_missedShare 8 = .ok (.astore_n 2, 1) := by decide +kernel
theorem dX8_missedShare_9 : decode cX8_missedShare 9 = .ok (.aload_n 2, 1) := by decide +kernel
theorem dX8_missedShare_10 : decode cX8_missedShare 10 = .ok (.getfield 244, 3) := by decide +kernel
theorem dX8_missedShare_13 : decode cX8_missedShare 13 = .ok (.aload_n 2, 1) := by decide +kernel
theorem dX8_missedShare_14 : decode cX8_missedShare 14 = .ok (.getfield 247, 3) := by decide +kernel
theorem dX8_missedShare_17 : decode cX8_missedShare 17 = .ok (.ladd, 1) := by decide +kernel
theorem dX8_missedShare_18 : decode cX8_missedShare 18 = .ok (.lstore_n 3, 1) := by decide +kernel
theorem dX8_missedShare_19 : decode cX8_missedShare 19 = .ok (.lload_n 3, 1) := by decide +kernel
theorem dX8_missedShare_20 : decode cX8_missedShare 20 = .ok (.lconst 0, 1) := by decide +kernel
theorem dX8_missedShare_21 : decode cX8_missedShare 21 = .ok (.lcmp, 1) := by decide +kernel
theorem dX8_missedShare_22 : decode cX8_missedShare 22 = .ok (.ifCond .ne 5, 3) := by decide +kernel
theorem dX8_missedShare_25 : decode cX8_missedShare 25 = .ok (.fconst 0, 1) := by decide +kernel
theorem dX8_missedShare_26 : decode cX8_missedShare 26 = .ok (.freturn, 1) := by decide +kernel
theorem dX8_missedShare_27 : decode cX8_missedShare 27 = .ok (.aload_n 2, 1) := by decide +kernel
theorem dX8_missedShare_28 : decode cX8_missedShare 28 = .ok (.getfield 247, 3) := by decide +kernel
theorem dX8_missedShare_31 : decode cX8_missedShare 31 = .ok (.l2f, 1) := by decide +kernel
theorem dX8_missedShare_32 : decode cX8_missedShare 32 = .ok (.lload_n 3, 1) := by decide +kernel
theorem dX8_missedShare_33 : decode cX8_missedShare 33 = .ok (.l2f, 1) := by decide +kernel
theorem dX8_missedShare_34 : decode cX8_missedShare 34 = .ok (.fdiv, 1) := by decide +kernel
theorem dX8_missedShare_35 : decode cX8_missedShare 35 = .ok (.freturn, 1) := by decide +kernel
theorem dX8_used_0 : decode cX8_used 0 = .ok (.aload_n 0, 1) := by decide +kernel
theorem dX8_used_1 : decode cX8_used 1 = .ok (.iload_n 1, 1) := by decide +kernel
theorem dX8_used_2 : decode cX8_used 2 = .ok (.invokevirtual 112, 3) := by decide +kernel
theorem dX8_used_5 : decode cX8_used 5 = .ok (.getfield 208, 3) := by decide +kernel
theorem dX8_used_8 : decode cX8_used 8 = .ok (.astore_n 2, 1) := by decide +kernel
theorem dX8_used_9 : decode cX8_used 9 = .ok (.aload_n 2, 1) := by decide +kernel
theorem dX8_used_10 : decode cX8_used 10 = .ok (.getfield 253, 3) := by decide +kernel
theorem dX8_used_13 : decode cX8_used 13 = .ok (.lconst 0, 1) := by decide +kernel
theorem dX8_used_14 : decode cX8_used 14 = .ok (.lcmp, 1) := by decide +kernel
theorem dX8_used_15 : decode cX8_used 15 = .ok (.ifCond .ne 5, 3) := by decide +kernel
theorem dX8_used_18 : decode cX8_used 18 = .ok (.dconst 0, 1) := by decide +kernel
theorem dX8_used_19 : decode cX8_used 19 = .ok (.dreturn, 1) := by decide +kernel
theorem dX8_used_20 : decode cX8_used 20 = .ok (.aload_n 2, 1) := by decide +kernel
theorem dX8_used_21 : decode cX8_used 21 = .ok (.getfield 244, 3) := by decide +kernel
theorem dX8_used_24 : decode cX8_used 24 = .ok (.l2d, 1) := by decide +kernel
theorem dX8_used_25 : decode cX8_used 25 = .ok (.aload_n 2, 1) := by decide +kernel
theorem dX8_used_26 : decode cX8_used 26 = .ok (.getfield 253, 3) := by decide +kernel
theorem dX8_used_29 : decode cX8_used 29 = .ok (.l2d, 1) := by decide +kernel
theorem dX8_used_30 : decode cX8_used 30 = .ok (.ddiv, 1) := by decide +kernel
theorem dX8_used_31 : decode cX8_used 31 = .ok (.dreturn, 1) := by decide +kernel
theorem dX8_peak_0 : decode cX8_peak 0 = .ok (.aload_n 0, 1) := by decide +kernel
theorem dX8_peak_1 : decode cX8_peak 1 = .ok (.iload_n 1, 1) := by decide +kernel
theorem dX8_peak_2 : decode cX8_peak 2 = .ok (.invokevirtual 112, 3) := by decide +kernel
theorem dX8_peak_5 : decode cX8_peak 5 = .ok (.getfield 208, 3) := by decide +kernel
theorem dX8_peak_8 : decode cX8_peak 8 = .ok (.getfield 256, 3) := by decide +kernel
theorem dX8_peak_11 : decode cX8_peak 11 = .ok (.ireturn, 1) := by decide +kernel
theorem dX8_decisions_0 : decode cX8_decisions 0 = .ok (.aload_n 0, 1) := by decide +kernel
theorem dX8_decisions_1 : decode cX8_decisions 1 = .ok (.iload_n 1, 1) := by decide +kernel
theorem dX8_decisions_2 : decode cX8_decisions 2 = .ok (.invokevirtual 112, 3) := by decide +kernel
theorem dX8_decisions_5 : decode cX8_decisions 5 = .ok (.astore_n 3, 1) := by decide +kernel
theorem dX8_decisions_6 : decode cX8_decisions 6 = .ok (.iload_n 2, 1) := by decide +kernel
theorem dX8_decisions_7 : decode cX8_decisions 7 = .ok (.iconst 0, 1) := by decide +kernel
theorem dX8_decisions_8 : decode cX8_decisions 8 = .ok (.iconst 5, 1) := by decide +kernel
theorem dX8_decisions_9 : decode cX8_decisions 9 = .ok (.invokestatic 116, 3) := by decide +kernel
theorem dX8_decisions_12 : decode cX8_decisions 12 = .ok (.aload_n 3, 1) := by decide +kernel
theorem dX8_decisions_13 : decode cX8_decisions 13 = .ok (.getfield 208, 3) := by decide +kernel
theorem dX8_decisions_16 : decode cX8_decisions 16 = .ok (.getfield 259, 3) := by decide +kernel
theorem dX8_decisions_19 : decode cX8_decisions 19 = .ok (.iload_n 2, 1) := by decide +kernel
theorem dX8_decisions_20 : decode cX8_decisions 20 = .ok (.iaload, 1) := by decide +kernel
theorem dX8_decisions_21 : decode cX8_decisions 21 = .ok (.ireturn, 1) := by decide +kernel
theorem dX8_event_0 : decode cX8_event 0 = .ok (.iload_n 2, 1) := by decide +kernel
theorem dX8_event_1 : decode cX8_event 1 = .ok (.iconst 0, 1) := by decide +kernel
theorem dX8_event_2 : decode cX8_event 2 = .ok (.iconst 3, 1) := by decide +kernel
theorem dX8_event_3 : decode cX8_event 3 = .ok (.invokestatic 116, 3) := by decide +kernel
theorem dX8_event_6 : decode cX8_event 6 = .ok (.iload_n 1, 1) := by decide +kernel
theorem dX8_event_7 : decode cX8_event 7 = .ok (.ifCond .lt 17, 3) := by decide +kernel
theorem dX8_event_10 : decode cX8_event 10 = .ok (.iload_n 1, 1) := by decide +kernel
theorem dX8_event_11 : decode cX8_event 11 = .ok (.aload_n 0, 1) := by decide +kernel
theorem dX8_event_12 : decode cX8_event 12 = .ok (.getfield 37, 3) := by decide +kernel
theorem dX8_event_15 : decode cX8_event 15 = .ok (.getfield 96, 3) := by decide +kernel
theorem dX8_event_18 : decode cX8_event 18 = .ok (.invokevirtual 262, 3) := by decide +kernel
theorem dX8_event_21 : decode cX8_event 21 = .ok (.if_icmp .lt 14, 3) := by decide +kernel
theorem dX8_event_24 : decode cX8_event 24 = .ok (.new 159, 3) := by decide +kernel
theorem dX8_event_27 : decode cX8_event 27 = .ok (.dup, 1) := by decide +kernel
theorem dX8_event_28 : decode cX8_event 28 = .ok (.ldc_w 265, 3) := by decide +kernel
theorem dX8_event_31 : decode cX8_event 31 = .ok (.invokespecial 163, 3) := by decide +kernel
theorem dX8_event_34 : decode cX8_event 34 = .ok (.athrow, 1) := by decide +kernel
theorem dX8_event_35 : decode cX8_event 35 = .ok (.aload_n 0, 1) := by decide +kernel
theorem dX8_event_36 : decode cX8_event 36 = .ok (.getfield 37, 3) := by decide +kernel
theorem dX8_event_39 : decode cX8_event 39 = .ok (.getfield 96, 3) := by decide +kernel
theorem dX8_event_42 : decode cX8_event 42 = .ok (.iload_n 1, 1) := by decide +kernel
theorem dX8_event_43 : decode cX8_event 43 = .ok (.iload_n 2, 1) := by decide +kernel
theorem dX8_event_44 : decode cX8_event 44 = .ok (.invokevirtual 267, 3) := by decide +kernel
theorem dX8_event_47 : decode cX8_event 47 = .ok (.ireturn, 1) := by decide +kernel
theorem dX8_longestMiss_0 : decode cX8_longestMiss 0 = .ok (.aload_n 0, 1) := by decide +kernel
theorem dX8_longestMiss_1 : decode cX8_longestMiss 1 = .ok (.iload_n 1, 1) := by decide +kernel
theorem dX8_longestMiss_2 : decode cX8_longestMiss 2 = .ok (.invokevirtual 112, 3) := by decide +kernel
theorem dX8_longestMiss_5 : decode cX8_longestMiss 5 = .ok (.getfield 208, 3) := by decide +kernel
theorem dX8_longestMiss_8 : decode cX8_longestMiss 8 = .ok (.getfield 270, 3) := by decide +kernel
theorem dX8_longestMiss_11 : decode cX8_longestMiss 11 = .ok (.ireturn, 1) := by decide +kernel
theorem dX8_headroom_0 : decode cX8_headroom 0 = .ok (.aload_n 0, 1) := by decide +kernel
theorem dX8_headroom_1 : decode cX8_headroom 1 = .ok (.iload_n 1, 1) := by decide +kernel
theorem dX8_headroom_2 : decode cX8_headroom 2 = .ok (.invokevirtual 112, 3) := by decide +kernel
theorem dX8_headroom_5 : decode cX8_headroom 5 = .ok (.astore_n 2, 1) := by decide +kernel
theorem dX8_headroom_6 : decode cX8_headroom 6 = .ok (.aload_n 2, 1) := by decide +kernel
theorem dX8_headroom_7 : decode cX8_headroom 7 = .ok (.aload_n 0, 1) := by decide +kernel
theorem dX8_headroom_8 : decode cX8_headroom 8 = .ok (.getfield 37, 3) := by decide +kernel
theorem dX8_headroom_11 : decode cX8_headroom 11 = .ok (.getfield 86, 3) := by decide +kernel
theorem dX8_headroom_14 : decode cX8_headroom 14 = .ok (.invokevirtual 273, 3) := by decide +kernel
theorem dX8_headroom_17 : decode cX8_headroom 17 = .ok (.aload_n 2, 1) := by decide +kernel
theorem dX8_headroom_18 : decode cX8_headroom 18 = .ok (.iconst 0, 1) := by decide +kernel
theorem dX8_headroom_19 : decode cX8_headroom 19 = .ok (.invokevirtual 193, 3) := by decide +kernel
theorem dX8_headroom_22 : decode cX8_headroom 22 = .ok (.isub, 1) := by decide +kernel
theorem dX8_headroom_23 : decode cX8_headroom 23 = .ok (.ireturn, 1) := by decide +kernel
theorem dX8_busiest_0 : decode cX8_busiest 0 = .ok (.iconst 0, 1) := by decide +kernel
theorem dX8_busiest_1 : decode cX8_busiest 1 = .ok (.istore_n 1, 1) := by decide +kernel
theorem dX8_busiest_2 : decode cX8_busiest 2 = .ok (.iconst 1, 1) := by decide +kernel
theorem dX8_busiest_3 : decode cX8_busiest 3 = .ok (.istore_n 2, 1) := by decide +kernel
theorem dX8_busiest_4 : decode cX8_busiest 4 = .ok (.iload_n 2, 1) := by decide +kernel
theorem dX8_busiest_5 : decode cX8_busiest 5 = .ok (.aload_n 0, 1) := by decide +kernel
theorem dX8_busiest_6 : decode cX8_busiest 6 = .ok (.getfield 37, 3) := by decide +kernel
theorem dX8_busiest_9 : decode cX8_busiest 9 = .ok (.getfield 83, 3) := by decide +kernel
theorem dX8_busiest_12 : decode cX8_busiest 12 = .ok (.if_icmp .ge 52, 3) := by decide +kernel
theorem dX8_busiest_15 : decode cX8_busiest 15 = .ok (.aload_n 0, 1) := by decide +kernel
theorem dX8_busiest_16 : decode cX8_busiest 16 = .ok (.getfield 37, 3) := by decide +kernel
theorem dX8_busiest_19 : decode cX8_busiest 19 = .ok (.getfield 164, 3) := by decide +kernel
theorem dX8_busiest_22 : decode cX8_busiest 22 = .ok (.iload_n 2, 1) := by decide +kernel
theorem dX8_busiest_23 : decode cX8_busiest 23 = .ok (.aaload, 1) := by decide +kernel
theorem dX8_busiest_24 : decode cX8_busiest 24 = .ok (.aload_n 0, 1) := by decide +kernel
theorem dX8_busiest_25 : decode cX8_busiest 25 = .ok (.getfield 37, 3) := by decide +kernel
theorem dX8_busiest_28 : decode cX8_busiest 28 = .ok (.getfield 86, 3) := by decide +kernel
theorem dX8_busiest_31 : decode cX8_busiest 31 = .ok (.invokevirtual 199, 3) := by decide +kernel
theorem dX8_busiest_34 : decode cX8_busiest 34 = .ok (.aload_n 0, 1) := by decide +kernel
theorem dX8_busiest_35 : decode cX8_busiest 35 = .ok (.getfield 37, 3) := by decide +kernel
theorem dX8_busiest_38 : decode cX8_busiest 38 = .ok (.getfield 164, 3) := by decide +kernel
theorem dX8_busiest_41 : decode cX8_busiest 41 = .ok (.iload_n 1, 1) := by decide +kernel
theorem dX8_busiest_42 : decode cX8_busiest 42 = .ok (.aaload, 1) := by decide +kernel
theorem dX8_busiest_43 : decode cX8_busiest 43 = .ok (.aload_n 0, 1) := by decide +kernel
theorem dX8_busiest_44 : decode cX8_busiest 44 = .ok (.getfield 37, 3) := by decide +kernel
theorem dX8_busiest_47 : decode cX8_busiest 47 = .ok (.getfield 86, 3) := by decide +kernel
theorem dX8_busiest_50 : decode cX8_busiest 50 = .ok (.invokevirtual 199, 3) := by decide +kernel
theorem dX8_busiest_53 : decode cX8_busiest 53 = .ok (.if_icmp .le 5, 3) := by decide +kernel
theorem dX8_busiest_56 : decode cX8_busiest 56 = .ok (.iload_n 2, 1) := by decide +kernel
theorem dX8_busiest_57 : decode cX8_busiest 57 = .ok (.istore_n 1, 1) := by decide +kernel
theorem dX8_busiest_58 : decode cX8_busiest 58 = .ok (.iinc 2 1, 3) := by decide +kernel
theorem dX8_busiest_61 : decode cX8_busiest 61 = .ok (.goto (-57), 3) := by decide +kernel
theorem dX8_busiest_64 : decode cX8_busiest 64 = .ok (.iload_n 1, 1) := by decide +kernel
theorem dX8_busiest_65 : decode cX8_busiest 65 = .ok (.ireturn, 1) := by decide +kernel
theorem dX8_bestPeriod_0 : decode cX8_bestPeriod 0 = .ok (.aload_n 0, 1) := by decide +kernel
theorem dX8_bestPeriod_1 : decode cX8_bestPeriod 1 = .ok (.iload_n 1, 1) := by decide +kernel
theorem dX8_bestPeriod_2 : decode cX8_bestPeriod 2 = .ok (.invokevirtual 112, 3) := by decide +kernel
theorem dX8_bestPeriod_5 : decode cX8_bestPeriod 5 = .ok (.invokevirtual 276, 3) := by decide +kernel
theorem dX8_bestPeriod_8 : decode cX8_bestPeriod 8 = .ok (.ireturn, 1) := by decide +kernel
theorem dX8_meanAge_0 : decode cX8_meanAge 0 = .ok (.aload_n 0, 1) := by decide +kernel
theorem dX8_meanAge_1 : decode cX8_meanAge 1 = .ok (.iload_n 1, 1) := by decide +kernel
theorem dX8_meanAge_2 : decode cX8_meanAge 2 = .ok (.invokevirtual 112, 3) := by decide +kernel
theorem dX8_meanAge_5 : decode cX8_meanAge 5 = .ok (.getfield 119, 3) := by decide +kernel
theorem dX8_meanAge_8 : decode cX8_meanAge 8 = .ok (.astore_n 2, 1) := by decide +kernel
theorem dX8_meanAge_9 : decode cX8_meanAge 9 = .ok (.aload_n 2, 1) := by decide +kernel
theorem dX8_meanAge_10 : decode cX8_meanAge 10 = .ok (.getfield 125, 3) := by decide +kernel
theorem dX8_meanAge_13 : decode cX8_meanAge 13 = .ok (.ifCond .ne 5, 3) := by decide +kernel
theorem dX8_meanAge_16 : decode cX8_meanAge 16 = .ok (.dconst 0, 1) := by decide +kernel
theorem dX8_meanAge_17 : decode cX8_meanAge 17 = .ok (.dreturn, 1) := by decide +kernel
theorem dX8_meanAge_18 : decode cX8_meanAge 18 = .ok (.aload_n 2, 1) := by decide +kernel
theorem dX8_meanAge_19 : decode cX8_meanAge 19 = .ok (.aload_n 0, 1) := by decide +kernel
theorem dX8_meanAge_20 : decode cX8_meanAge 20 = .ok (.getfield 37, 3) := by decide +kernel
theorem dX8_meanAge_23 : decode cX8_meanAge 23 = .ok (.getfield 86, 3) := by decide +kernel
theorem dX8_meanAge_26 : decode cX8_meanAge 26 = .ok (.invokevirtual 279, 3) := by decide +kernel
theorem dX8_meanAge_29 : decode cX8_meanAge 29 = .ok (.l2d, 1) := by decide +kernel
theorem dX8_meanAge_30 : decode cX8_meanAge 30 = .ok (.aload_n 2, 1) := by decide +kernel
theorem dX8_meanAge_31 : decode cX8_meanAge 31 = .ok (.getfield 125, 3) := by decide +kernel
theorem dX8_meanAge_34 : decode cX8_meanAge 34 = .ok (.i2d, 1) := by decide +kernel
theorem dX8_meanAge_35 : decode cX8_meanAge 35 = .ok (.ddiv, 1) := by decide +kernel
theorem dX8_meanAge_36 : decode cX8_meanAge 36 = .ok (.dreturn, 1) := by decide +kernel
theorem dX8_median_0 : decode cX8_median 0 = .ok (.aload_n 0, 1) := by decide +kernel
theorem dX8_median_1 : decode cX8_median 1 = .ok (.iload_n 1, 1) := by decide +kernel
theorem dX8_median_2 : decode cX8_median 2 = .ok (.invokevirtual 112, 3) := by decide +kernel
theorem dX8_median_5 : decode cX8_median 5 = .ok (.invokevirtual 283, 3) := by decide +kernel
theorem dX8_median_8 : decode cX8_median 8 = .ok (.ireturn, 1) := by decide +kernel
theorem dX8_demandsWithin_0 : decode cX8_demandsWithin 0 = .ok (.aload_n 0, 1) := by decide +kernel
theorem dX8_demandsWithin_1 : decode cX8_demandsWithin 1 = .ok (.iload_n 1, 1) := by decide +kernel
theorem dX8_demandsWithin_2 : decode cX8_demandsWithin 2 = .ok (.invokevirtual 112, 3) := by decide +kernel
theorem dX8_demandsWithin_5 : decode cX8_demandsWithin 5 = .ok (.iload_n 2, 1) := by decide +kernel
theorem dX8_demandsWithin_6 : decode cX8_demandsWithin 6 = .ok (.iload_n 3, 1) := by decide +kernel
theorem dX8_demandsWithin_7 : decode cX8_demandsWithin 7 = .ok (.invokevirtual 286, 3) := by decide +kernel
theorem dX8_demandsWithin_10 : decode cX8_demandsWithin 10 = .ok (.ireturn, 1) := by decide +kernel
theorem dX8_eldest_0 : decode cX8_eldest 0 = .ok (.iconst (-1), 1) := by decide +kernel
theorem dX8_eldest_1 : decode cX8_eldest 1 = .ok (.istore_n 1, 1) := by decide +kernel
theorem dX8_eldest_2 : decode cX8_eldest 2 = .ok (.iconst 0, 1) := by decide +kernel
theorem dX8_eldest_3 : decode cX8_eldest 3 = .ok (.istore_n 2, 1) := by decide +kernel
theorem dX8_eldest_4 : decode cX8_eldest 4 = .ok (.iconst 0, 1) := by decide +kernel
theorem dX8_eldest_5 : decode cX8_eldest 5 = .ok (.istore_n 3, 1) := by decide +kernel
theorem dX8_eldest_6 : decode cX8_eldest 6 = .ok (.iload_n 3, 1) := by decide +kernel
theorem dX8_eldest_7 : decode cX8_eldest 7 = .ok (.aload_n 0, 1) := by decide +kernel
theorem dX8_eldest_8 : decode cX8_eldest 8 = .ok (.getfield 37, 3) := by decide +kernel
theorem dX8_eldest_11 : decode cX8_eldest 11 = .ok (.getfield 83, 3) := by decide +kernel
theorem dX8_eldest_14 : decode cX8_eldest 14 = .ok (.if_icmp .ge 91, 3) := by decide +kernel
theorem dX8_eldest_17 : decode cX8_eldest 17 = .ok (.aload_n 0, 1) := by decide +kernel
theorem dX8_eldest_18 : decode cX8_eldest 18 = .ok (.getfield 37, 3) := by decide +kernel
theorem dX8_eldest_21 : decode cX8_eldest 21 = .ok (.getfield 164, 3) := by decide +kernel
theorem dX8_eldest_24 : decode cX8_eldest 24 = .ok (.iload_n 3, 1) := by decide +kernel
theorem dX8_eldest_25 : decode cX8_eldest 25 = .ok (.aaload, 1) := by decide +kernel
theorem dX8_eldest_26 : decode cX8_eldest 26 = .ok (.getfield 119, 3) := by decide +kernel
theorem dX8_eldest_29 : decode cX8_eldest 29 = .ok (.astore 4, 2) := by decide +kernel
theorem dX8_eldest_31 : decode cX8_eldest 31 = .ok (.iconst 0, 1) := by decide +kernel
theorem dX8_eldest_32 : decode cX8_eldest 32 = .ok (.istore 5, 2) := by decide +kernel
theorem dX8_eldest_34 : decode cX8_eldest 34 = .ok (.iload 5, 2) := by decide +kernel
theorem dX8_eldest_36 : decode cX8_eldest 36 = .ok (.aload 4, 2) := by decide +kernel
theorem dX8_eldest_38 : decode cX8_eldest 38 = .ok (.getfield 125, 3) := by decide +kernel
theorem dX8_eldest_41 : decode cX8_eldest 41 = .ok (.if_icmp .ge 58, 3) := by decide +kernel
theorem dX8_eldest_44 : decode cX8_eldest 44 = .ok (.aload 4, 2) := by decide +kernel
theorem dX8_eldest_46 : decode cX8_eldest 46 = .ok (.getfield 185, 3) := by decide +kernel
theorem dX8_eldest_49 : decode cX8_eldest 49 = .ok (.iload 5, 2) := by decide +kernel
theorem dX8_eldest_51 : decode cX8_eldest 51 = .ok (.iaload, 1) := by decide +kernel
theorem dX8_eldest_52 : decode cX8_eldest 52 = .ok (.istore 6, 2) := by decide +kernel
theorem dX8_eldest_54 : decode cX8_eldest 54 = .ok (.aload 4, 2) := by decide +kernel
theorem dX8_eldest_56 : decode cX8_eldest 56 = .ok (.getfield 168, 3) := by decide +kernel
theorem dX8_eldest_59 : decode cX8_eldest 59 = .ok (.iload 5, 2) := by decide +kernel
theorem dX8_eldest_61 : decode cX8_eldest 61 = .ok (.iaload, 1) := by decide +kernel
theorem dX8_eldest_62 : decode cX8_eldest 62 = .ok (.istore 7, 2) := by decide +kernel
theorem dX8_eldest_64 : decode cX8_eldest 64 = .ok (.iload_n 1, 1) := by decide +kernel
theorem dX8_eldest_65 : decode cX8_eldest 65 = .ok (.iconst (-1), 1) := by decide +kernel
theorem dX8_eldest_66 : decode cX8_eldest 66 = .ok (.if_icmp .eq 21, 3) := by decide +kernel
theorem dX8_eldest_69 : decode cX8_eldest 69 = .ok (.iload 7, 2) := by decide +kernel
theorem dX8_eldest_71 : decode cX8_eldest 71 = .ok (.iload_n 2, 1) := by decide +kernel
theorem dX8_eldest_72 : decode cX8_eldest 72 = .ok (.if_icmp .lt 15, 3) := by decide +kernel
theorem dX8_eldest_75 : decode cX8_eldest 75 = .ok (.iload 7, 2) := by decide +kernel
theorem dX8_eldest_77 : decode cX8_eldest 77 = .ok (.iload_n 2, 1) := by decide +kernel
theorem dX8_eldest_78 : decode cX8_eldest 78 = .ok (.if_icmp .ne 15, 3) := by decide +kernel
theorem dX8_eldest_81 : decode cX8_eldest 81 = .ok (.iload 6, 2) := by decide +kernel
theorem dX8_eldest_83 : decode cX8_eldest 83 = .ok (.iload_n 1, 1) := by decide +kernel
theorem dX8_eldest_84 : decode cX8_eldest 84 = .ok (.if_icmp .ge 9, 3) := by decide +kernel
theorem dX8_eldest_87 : decode cX8_eldest 87 = .ok (.iload 6, 2) := by decide +kernel
theorem dX8_eldest_89 : decode cX8_eldest 89 = .ok (.istore_n 1, 1) := by decide +kernel
theorem dX8_eldest_90 : decode cX8_eldest 90 = .ok (.iload 7, 2) := by decide +kernel
theorem dX8_eldest_92 : decode cX8_eldest 92 = .ok (.istore_n 2, 1) := by decide +kernel
theorem dX8_eldest_93 : decode cX8_eldest 93 = .ok (.iinc 5 1, 3) := by decide +kernel
theorem dX8_eldest_96 : decode cX8_eldest 96 = .ok (.goto (-62), 3) := by decide +kernel
theorem dX8_eldest_99 : decode cX8_eldest 99 = .ok (.iinc 3 1, 3) := by decide +kernel
theorem dX8_eldest_102 : decode cX8_eldest 102 = .ok (.goto (-96), 3) := by decide +kernel
theorem dX8_eldest_105 : decode cX8_eldest 105 = .ok (.iload_n 1, 1) := by decide +kernel
theorem dX8_eldest_106 : decode cX8_eldest 106 = .ok (.ireturn, 1) := by decide +kernel
theorem dX8_run_0 : decode cX8_run 0 = .ok (.iload_n 1, 1) := by decide +kernel
theorem dX8_run_1 : decode cX8_run 1 = .ok (.iconst 1, 1) := by decide +kernel
theorem dX8_run_2 : decode cX8_run 2 = .ok (.sipush 300, 3) := by decide +kernel
theorem dX8_run_5 : decode cX8_run 5 = .ok (.invokestatic 116, 3) := by decide +kernel
theorem dX8_run_8 : decode cX8_run 8 = .ok (.aload_n 0, 1) := by decide +kernel
theorem dX8_run_9 : decode cX8_run 9 = .ok (.invokevirtual 289, 3) := by decide +kernel
theorem dX8_run_12 : decode cX8_run 12 = .ok (.aload_n 0, 1) := by decide +kernel
theorem dX8_run_13 : decode cX8_run 13 = .ok (.getfield 37, 3) := by decide +kernel
theorem dX8_run_16 : decode cX8_run 16 = .ok (.getfield 96, 3) := by decide +kernel
theorem dX8_run_19 : decode cX8_run 19 = .ok (.getfield 100, 3) := by decide +kernel
theorem dX8_run_22 : decode cX8_run 22 = .ok (.istore_n 2, 1) := by decide +kernel
theorem dX8_run_23 : decode cX8_run 23 = .ok (.iconst 0, 1) := by decide +kernel
theorem dX8_run_24 : decode cX8_run 24 = .ok (.istore_n 3, 1) := by decide +kernel
theorem dX8_run_25 : decode cX8_run 25 = .ok (.iload_n 3, 1) := by decide +kernel
theorem dX8_run_26 : decode cX8_run 26 = .ok (.iload_n 1, 1) := by decide +kernel
theorem dX8_run_27 : decode cX8_run 27 = .ok (.if_icmp .ge 16, 3) := by decide +kernel
theorem dX8_run_30 : decode cX8_run 30 = .ok (.aload_n 0, 1) := by decide +kernel
theorem dX8_run_31 : decode cX8_run 31 = .ok (.getfield 37, 3) := by decide +kernel
theorem dX8_run_34 : decode cX8_run 34 = .ok (.invokevirtual 292, 3) := by decide +kernel
theorem dX8_run_37 : decode cX8_run 37 = .ok (.iinc 3 1, 3) := by decide +kernel
theorem dX8_run_40 : decode cX8_run 40 = .ok (.goto (-15), 3) := by decide +kernel
theorem dX8_run_43 : decode cX8_run 43 = .ok (.aload_n 0, 1) := by decide +kernel
theorem dX8_run_44 : decode cX8_run 44 = .ok (.getfield 37, 3) := by decide +kernel
theorem dX8_run_47 : decode cX8_run 47 = .ok (.getfield 96, 3) := by decide +kernel
theorem dX8_run_50 : decode cX8_run 50 = .ok (.getfield 100, 3) := by decide +kernel
theorem dX8_run_53 : decode cX8_run 53 = .ok (.iload_n 2, 1) := by decide +kernel
theorem dX8_run_54 : decode cX8_run 54 = .ok (.isub, 1) := by decide +kernel
theorem dX8_run_55 : decode cX8_run 55 = .ok (.ireturn, 1) := by decide +kernel
theorem dX8_push_0 : decode cX8_push 0 = .ok (.aload_n 0, 1) := by decide +kernel
theorem dX8_push_1 : decode cX8_push 1 = .ok (.iload_n 1, 1) := by decide +kernel
theorem dX8_push_2 : decode cX8_push 2 = .ok (.invokevirtual 112, 3) := by decide +kernel
theorem dX8_push_5 : decode cX8_push 5 = .ok (.astore_n 3, 1) := by decide +kernel
theorem dX8_push_6 : decode cX8_push 6 = .ok (.iload_n 2, 1) := by decide +kernel
theorem dX8_push_7 : decode cX8_push 7 = .ok (.iconst 0, 1) := by decide +kernel
theorem dX8_push_8 : decode cX8_push 8 = .ok (.sipush 999, 3) := by decide +kernel
theorem dX8_push_11 : decode cX8_push 11 = .ok (.invokestatic 116, 3) := by decide +kernel
theorem dX8_push_14 : decode cX8_push 14 = .ok (.aload_n 0, 1) := by decide +kernel
theorem dX8_push_15 : decode cX8_push 15 = .ok (.invokevirtual 289, 3) := by decide +kernel
theorem dX8_push_18 : decode cX8_push 18 = .ok (.aload_n 3, 1) := by decide +kernel
theorem dX8_push_19 : decode cX8_push 19 = .ok (.sipush 999, 3) := by decide +kernel
theorem dX8_push_22 : decode cX8_push 22 = .ok (.aload_n 3, 1) := by decide +kernel
theorem dX8_push_23 : decode cX8_push 23 = .ok (.getfield 295, 3) := by decide +kernel
theorem dX8_push_26 : decode cX8_push 26 = .ok (.iload_n 2, 1) := by decide +kernel
theorem dX8_push_27 : decode cX8_push 27 = .ok (.iadd, 1) := by decide +kernel
theorem dX8_push_28 : decode cX8_push 28 = .ok (.invokestatic 298, 3) := by decide +kernel
theorem dX8_push_31 : decode cX8_push 31 = .ok (.putfield 295, 3) := by decide +kernel
theorem dX8_push_34 : decode cX8_push 34 = .ok (.aload_n 3, 1) := by decide +kernel
theorem dX8_push_35 : decode cX8_push 35 = .ok (.getfield 295, 3) := by decide +kernel
theorem dX8_push_38 : decode cX8_push 38 = .ok (.ireturn, 1) := by decide +kernel
theorem dX8_protect_0 : decode cX8_protect 0 = .ok (.aload_n 0, 1) := by decide +kernel
theorem dX8_protect_1 : decode cX8_protect 1 = .ok (.getfield 37, 3) := by decide +kernel
theorem dX8_protect_4 : decode cX8_protect 4 = .ok (.iload_n 1, 1) := by decide +kernel
theorem dX8_protect_5 : decode cX8_protect 5 = .ok (.invokevirtual 152, 3) := by decide +kernel
theorem dX8_protect_8 : decode cX8_protect 8 = .ok (.istore_n 3, 1) := by decide +kernel
theorem dX8_protect_9 : decode cX8_protect 9 = .ok (.aload_n 0, 1) := by decide +kernel
theorem dX8_protect_10 : decode cX8_protect 10 = .ok (.getfield 37, 3) := by decide +kernel
theorem dX8_protect_13 : decode cX8_protect 13 = .ok (.iload_n 3, 1) := by decide +kernel
theorem dX8_protect_14 : decode cX8_protect 14 = .ok (.iload_n 1, 1) := by decide +kernel
theorem dX8_protect_15 : decode cX8_protect 15 = .ok (.invokevirtual 155, 3) := by decide +kernel
theorem dX8_protect_18 : decode cX8_protect 18 = .ok (.istore 4, 2) := by decide +kernel
theorem dX8_protect_20 : decode cX8_protect 20 = .ok (.iload 4, 2) := by decide +kernel
theorem dX8_protect_22 : decode cX8_protect 22 = .ok (.ifCond .ge 13, 3) := by decide +kernel
theorem dX8_protect_25 : decode cX8_protect 25 = .ok (.new 159, 3) := by decide +kernel
theorem dX8_protect_28 : decode cX8_protect 28 = .ok (.dup, 1) := by decide +kernel
theorem dX8_protect_29 : decode cX8_protect 29 = .ok (.ldc 161, 2) := by decide +kernel
theorem dX8_protect_31 : decode cX8_protect 31 = .ok (.invokespecial 163, 3) := by decide +kernel
theorem dX8_protect_34 : decode cX8_protect 34 = .ok (.athrow, 1) := by decide +kernel
theorem dX8_protect_35 : decode cX8_protect 35 = .ok (.aload_n 0, 1) := by decide +kernel
theorem dX8_protect_36 : decode cX8_protect 36 = .ok (.invokevirtual 289, 3) := by decide +kernel
theorem dX8_protect_39 : decode cX8_protect 39 = .ok (.aload_n 0, 1) := by decide +kernel
theorem dX8_protect_40 : decode cX8_protect 40 = .ok (.getfield 37, 3) := by decide +kernel
theorem dX8_protect_43 : decode cX8_protect 43 = .ok (.getfield 164, 3) := by decide +kernel
theorem dX8_protect_46 : decode cX8_protect 46 = .ok (.iload_n 3, 1) := by decide +kernel
theorem dX8_protect_47 : decode cX8_protect 47 = .ok (.aaload, 1) := by decide +kernel
theorem dX8_protect_48 : decode cX8_protect 48 = .ok (.getfield 119, 3) := by decide +kernel
theorem dX8_protect_51 : decode cX8_protect 51 = .ok (.astore 5, 2) := by decide +kernel
theorem dX8_protect_53 : decode cX8_protect 53 = .ok (.aload 5, 2) := by decide +kernel
theorem dX8_protect_55 : decode cX8_protect 55 = .ok (.getfield 179, 3) := by decide +kernel
theorem dX8_protect_58 : decode cX8_protect 58 = .ok (.iload 4, 2) := by decide +kernel
theorem dX8_protect_60 : decode cX8_protect 60 = .ok (.baload, 1) := by decide +kernel
theorem dX8_protect_61 : decode cX8_protect 61 = .ok (.istore 6, 2) := by decide +kernel
theorem dX8_protect_63 : decode cX8_protect 63 = .ok (.aload 5, 2) := by decide +kernel
theorem dX8_protect_65 : decode cX8_protect 65 = .ok (.getfield 179, 3) := by decide +kernel
theorem dX8_protect_68 : decode cX8_protect 68 = .ok (.iload 4, 2) := by decide +kernel
theorem dX8_protect_70 : decode cX8_protect 70 = .ok (.iload_n 2, 1) := by decide +kernel
theorem dX8_protect_71 : decode cX8_protect 71 = .ok (.bastore, 1) := by decide +kernel
theorem dX8_protect_72 : decode cX8_protect 72 = .ok (.iload 6, 2) := by decide +kernel
theorem dX8_protect_74 : decode cX8_protect 74 = .ok (.ireturn, 1) := by decide +kernel
theorem dX8_grow_0 : decode cX8_grow 0 = .ok (.aload_n 0, 1) := by decide +kernel
theorem dX8_grow_1 : decode cX8_grow 1 = .ok (.iload_n 1, 1) := by decide +kernel
theorem dX8_grow_2 : decode cX8_grow 2 = .ok (.invokevirtual 112, 3) := by decide +kernel
theorem dX8_grow_5 : decode cX8_grow 5 = .ok (.astore_n 3, 1) := by decide +kernel
theorem dX8_grow_6 : decode cX8_grow 6 = .ok (.iload_n 2, 1) := by decide +kernel
theorem dX8_grow_7 : decode cX8_grow 7 = .ok (.iconst 1, 1) := by decide +kernel
theorem dX8_grow_8 : decode cX8_grow 8 = .ok (.iconst 5, 1) := by decide +kernel
theorem dX8_grow_9 : decode cX8_grow 9 = .ok (.invokestatic 116, 3) := by decide +kernel
theorem dX8_grow_12 : decode cX8_grow 12 = .ok (.aload_n 3, 1) := by decide +kernel
theorem dX8_grow_13 : decode cX8_grow 13 = .ok (.getfield 119, 3) := by decide +kernel
theorem dX8_grow_16 : decode cX8_grow 16 = .ok (.getfield 125, 3) := by decide +kernel
theorem dX8_grow_19 : decode cX8_grow 19 = .ok (.iload_n 2, 1) := by decide +kernel
theorem dX8_grow_20 : decode cX8_grow 20 = .ok (.iadd, 1) := by decide +kernel
theorem dX8_grow_21 : decode cX8_grow 21 = .ok (.aload_n 3, 1) := by decide +kernel
theorem dX8_grow_22 : decode cX8_grow 22 = .ok (.getfield 143, 3) := by decide +kernel
theorem dX8_grow_25 : decode cX8_grow 25 = .ok (.getfield 301, 3) := by decide +kernel
theorem dX8_grow_28 : decode cX8_grow 28 = .ok (.if_icmp .le 14, 3) := by decide +kernel
theorem dX8_grow_31 : decode cX8_grow 31 = .ok (.new 303, 3) := by decide +kernel
theorem dX8_grow_34 : decode cX8_grow 34 = .ok (.dup, 1) := by decide +kernel
theorem dX8_grow_35 : decode cX8_grow 35 = .ok (.ldc_w 305, 3) := by decide +kernel
theorem dX8_grow_38 : decode cX8_grow 38 = .ok (.invokespecial 307, 3) := by decide +kernel
theorem dX8_grow_41 : decode cX8_grow 41 = .ok (.athrow, 1) := by decide +kernel
theorem dX8_grow_42 : decode cX8_grow 42 = .ok (.aload_n 0, 1) := by decide +kernel
theorem dX8_grow_43 : decode cX8_grow 43 = .ok (.invokevirtual 289, 3) := by decide +kernel
theorem dX8_grow_46 : decode cX8_grow 46 = .ok (.iconst 0, 1) := by decide +kernel
theorem dX8_grow_47 : decode cX8_grow 47 = .ok (.istore 4, 2) := by decide +kernel
theorem dX8_grow_49 : decode cX8_grow 49 = .ok (.iload 4, 2) := by decide +kernel
theorem dX8_grow_51 : decode cX8_grow 51 = .ok (.iload_n 2, 1) := by decide +kernel
theorem dX8_grow_52 : decode cX8_grow 52 = .ok (.if_icmp .ge 33, 3) := by decide +kernel
theorem dX8_grow_55 : decode cX8_grow 55 = .ok (.aload_n 0, 1) := by decide +kernel
theorem dX8_grow_56 : decode cX8_grow 56 = .ok (.getfield 37, 3) := by decide +kernel
theorem dX8_grow_59 : decode cX8_grow 59 = .ok (.iload_n 1, 1) := by decide +kernel
theorem dX8_grow_60 : decode cX8_grow 60 = .ok (.aload_n 0, 1) := by decide +kernel
theorem dX8_grow_61 : decode cX8_grow 61 = .ok (.getfield 37, 3) := by decide +kernel
theorem dX8_grow_64 : decode cX8_grow 64 = .ok (.getfield 86, 3) := by decide +kernel
theorem dX8_grow_67 : decode cX8_grow 67 = .ok (.aload_n 3, 1) := by decide +kernel
theorem dX8_grow_68 : decode cX8_grow 68 = .ok (.getfield 143, 3) := by decide +kernel
theorem dX8_grow_71 : decode cX8_grow 71 = .ok (.getfield 308, 3) := by decide +kernel
theorem dX8_grow_74 : decode cX8_grow 74 = .ok (.iadd, 1) := by decide +kernel
theorem dX8_grow_75 : decode cX8_grow 75 = .ok (.invokevirtual 311, 3) := by decide +kernel
theorem dX8_grow_78 : decode cX8_grow 78 = .ok (.pop, 1) := by decide +kernel
theorem dX8_grow_79 : decode cX8_grow 79 = .ok (.iinc 4 1, 3) := by decide +kernel
theorem dX8_grow_82 : decode cX8_grow 82 = .ok (.goto (-33), 3) := by decide +kernel
theorem dX8_grow_85 : decode cX8_grow 85 = .ok (.aload_n 3, 1) := by decide +kernel
theorem dX8_grow_86 : decode cX8_grow 86 = .ok (.getfield 119, 3) := by decide +kernel
theorem dX8_grow_89 : decode cX8_grow 89 = .ok (.getfield 125, 3) := by decide +kernel
theorem dX8_grow_92 : decode cX8_grow 92 = .ok (.ireturn, 1) := by decide +kernel
theorem dX8_drop_0 : decode cX8_drop 0 = .ok (.aload_n 0, 1) := by decide +kernel
theorem dX8_drop_1 : decode cX8_drop 1 = .ok (.getfield 37, 3) := by decide +kernel
theorem dX8_drop_4 : decode cX8_drop 4 = .ok (.iload_n 1, 1) := by decide +kernel
theorem dX8_drop_5 : decode cX8_drop 5 = .ok (.invokevirtual 152, 3) := by decide +kernel
theorem dX8_drop_8 : decode cX8_drop 8 = .ok (.istore_n 2, 1) := by decide +kernel
theorem dX8_drop_9 : decode cX8_drop 9 = .ok (.aload_n 0, 1) := by decide +kernel
theorem dX8_drop_10 : decode cX8_drop 10 = .ok (.getfield 37, 3) := by decide +kernel
theorem dX8_drop_13 : decode cX8_drop 13 = .ok (.iload_n 2, 1) := by decide +kernel
theorem dX8_drop_14 : decode cX8_drop 14 = .ok (.iload_n 1, 1) := by decide +kernel
theorem dX8_drop_15 : decode cX8_drop 15 = .ok (.invokevirtual 155, 3) := by decide +kernel
theorem dX8_drop_18 : decode cX8_drop 18 = .ok (.istore_n 3, 1) := by decide +kernel
theorem dX8_drop_19 : decode cX8_drop 19 = .ok (.iload_n 3, 1) := by decide +kernel
theorem dX8_drop_20 : decode cX8_drop 20 = .ok (.ifCond .ge 13, 3) := by decide +kernel
theorem dX8_drop_23 : decode cX8_drop 23 = .ok (.new 159, 3) := by decide +kernel
theorem dX8_drop_26 : decode cX8_drop 26 = .ok (.dup, 1) := by decide +kernel
theorem dX8_drop_27 : decode cX8_drop 27 = .ok (.ldc 161, 2) := by decide +kernel
theorem dX8_drop_29 : decode cX8_drop 29 = .ok (.invokespecial 163, 3) := by decide +kernel
theorem dX8_drop_32 : decode cX8_drop 32 = .ok (.athrow, 1) := by decide +kernel
theorem dX8_drop_33 : decode cX8_drop 33 = .ok (.aload_n 0, 1) := by decide +kernel
theorem dX8_drop_34 : decode cX8_drop 34 = .ok (.getfield 37, 3) := by decide +kernel
theorem dX8_drop_37 : decode cX8_drop 37 = .ok (.getfield 164, 3) := by decide +kernel
theorem dX8_drop_40 : decode cX8_drop 40 = .ok (.iload_n 2, 1) := by decide +kernel
theorem dX8_drop_41 : decode cX8_drop 41 = .ok (.aaload, 1) := by decide +kernel
theorem dX8_drop_42 : decode cX8_drop 42 = .ok (.astore 4, 2) := by decide +kernel
theorem dX8_drop_44 : decode cX8_drop 44 = .ok (.aload 4, 2) := by decide +kernel
theorem dX8_drop_46 : decode cX8_drop 46 = .ok (.iload_n 3, 1) := by decide +kernel
theorem dX8_drop_47 : decode cX8_drop 47 = .ok (.invokevirtual 314, 3) := by decide +kernel
theorem dX8_drop_50 : decode cX8_drop 50 = .ok (.ifCond .ne 14, 3) := by decide +kernel
theorem dX8_drop_53 : decode cX8_drop 53 = .ok (.new 303, 3) := by decide +kernel
theorem dX8_drop_56 : decode cX8_drop 56 = .ok (.dup, 1) := by decide +kernel
theorem dX8_drop_57 : decode cX8_drop 57 = .ok (.ldc_w 318, 3) := by decide +kernel
theorem dX8_drop_60 : decode cX8_drop 60 = .ok (.invokespecial 307, 3) := by decide +kernel
theorem dX8_drop_63 : decode cX8_drop 63 = .ok (.athrow, 1) := by decide +kernel
theorem dX8_drop_64 : decode cX8_drop 64 = .ok (.aload_n 0, 1) := by decide +kernel
theorem dX8_drop_65 : decode cX8_drop 65 = .ok (.invokevirtual 289, 3) := by decide +kernel
theorem dX8_drop_68 : decode cX8_drop 68 = .ok (.aload_n 0, 1) := by decide +kernel
theorem dX8_drop_69 : decode cX8_drop 69 = .ok (.getfield 37, 3) := by decide +kernel
theorem dX8_drop_72 : decode cX8_drop 72 = .ok (.iload_n 2, 1) := by decide +kernel
theorem dX8_drop_73 : decode cX8_drop 73 = .ok (.iload_n 3, 1) := by decide +kernel
theorem dX8_drop_74 : decode cX8_drop 74 = .ok (.invokevirtual 320, 3) := by decide +kernel
theorem dX8_drop_77 : decode cX8_drop 77 = .ok (.aload 4, 2) := by decide +kernel
theorem dX8_drop_79 : decode cX8_drop 79 = .ok (.getfield 119, 3) := by decide +kernel
theorem dX8_drop_82 : decode cX8_drop 82 = .ok (.getfield 125, 3) := by decide +kernel
theorem dX8_drop_85 : decode cX8_drop 85 = .ok (.ireturn, 1) := by decide +kernel
theorem dX8_dropCold_0 : decode cX8_dropCold 0 = .ok (.aload_n 0, 1) := by decide +kernel
theorem dX8_dropCold_1 : decode cX8_dropCold 1 = .ok (.iload_n 1, 1) := by decide +kernel
theorem dX8_dropCold_2 : decode cX8_dropCold 2 = .ok (.invokevirtual 112, 3) := by decide +kernel
theorem dX8_dropCold_5 : decode cX8_dropCold 5 = .ok (.astore_n 2, 1) := by decide +kernel
theorem dX8_dropCold_6 : decode cX8_dropCold 6 = .ok (.aload_n 0, 1) := by decide +kernel
theorem dX8_dropCold_7 : decode cX8_dropCold 7 = .ok (.invokevirtual 289, 3) := by decide +kernel
theorem dX8_dropCold_10 : decode cX8_dropCold 10 = .ok (.aload_n 2, 1) := by decide +kernel
theorem dX8_dropCold_11 : decode cX8_dropCold 11 = .ok (.getfield 119, 3) := by decide +kernel
theorem dX8_dropCold_14 : decode cX8_dropCold 14 = .ok (.getfield 125, 3) := by decide +kernel
theorem dX8_dropCold_17 : decode cX8_dropCold 17 = .ok (.istore_n 3, 1) := by decide +kernel
theorem dX8_dropCold_18 : decode cX8_dropCold 18 = .ok (.iload_n 3, 1) := by decide +kernel
theorem dX8_dropCold_19 : decode cX8_dropCold 19 = .ok (.iconst 1, 1) := by decide +kernel
theorem dX8_dropCold_20 : decode cX8_dropCold 20 = .ok (.isub, 1) := by decide +kernel
theorem dX8_dropCold_21 : decode cX8_dropCold 21 = .ok (.istore 4, 2) := by decide +kernel
theorem dX8_dropCold_23 : decode cX8_dropCold 23 = .ok (.iload 4, 2) := by decide +kernel
theorem dX8_dropCold_25 : decode cX8_dropCold 25 = .ok (.ifCond .lt 47, 3) := by decide +kernel
theorem dX8_dropCold_28 : decode cX8_dropCold 28 = .ok (.aload_n 2, 1) := by decide +kernel
theorem dX8_dropCold_29 : decode cX8_dropCold 29 = .ok (.iload 4, 2) := by decide +kernel
theorem dX8_dropCold_31 : decode cX8_dropCold 31 = .ok (.invokevirtual 314, 3) := by decide +kernel
theorem dX8_dropCold_34 : decode cX8_dropCold 34 = .ok (.ifCond .eq 32, 3) := by decide +kernel
theorem dX8_dropCold_37 : decode cX8_dropCold 37 = .ok (.aload_n 2, 1) := by decide +kernel
theorem dX8_dropCold_38 : decode cX8_dropCold 38 = .ok (.getfield 119, 3) := by decide +kernel
theorem dX8_dropCold_41 : decode cX8_dropCold 41 = .ok (.iload 4, 2) := by decide +kernel
theorem dX8_dropCold_43 : decode cX8_dropCold 43 = .ok (.aload_n 0, 1) := by decide +kernel
theorem dX8_dropCold_44 : decode cX8_dropCold 44 = .ok (.getfield 37, 3) := by decide +kernel
theorem dX8_dropCold_47 : decode cX8_dropCold 47 = .ok (.getfield 86, 3) := by decide +kernel
theorem dX8_dropCold_50 : decode cX8_dropCold 50 = .ok (.invokevirtual 175, 3) := by decide +kernel
theorem dX8_dropCold_53 : decode cX8_dropCold 53 = .ok (.ifCond .ne 13, 3) := by decide +kernel
theorem dX8_dropCold_56 : decode cX8_dropCold 56 = .ok (.aload_n 0, 1) := by decide +kernel
theorem dX8_dropCold_57 : decode cX8_dropCold 57 = .ok (.getfield 37, 3) := by decide +kernel
theorem dX8_dropCold_60 : decode cX8_dropCold 60 = .ok (.iload_n 1, 1) := by decide +kernel
theorem dX8_dropCold_61 : decode cX8_dropCold 61 = .ok (.iload 4, 2) := by decide +kernel
theorem dX8_dropCold_63 : decode cX8_dropCold 63 = .ok (.invokevirtual 320, 3) := by decide +kernel
theorem dX8_dropCold_66 : decode cX8_dropCold 66 = .ok (.iinc 4 (-1), 3) := by decide +kernel
theorem dX8_dropCold_69 : decode cX8_dropCold 69 = .ok (.goto (-46), 3) := by decide +kernel
theorem dX8_dropCold_72 : decode cX8_dropCold 72 = .ok (.iload_n 3, 1) := by decide +kernel
theorem dX8_dropCold_73 : decode cX8_dropCold 73 = .ok (.aload_n 2, 1) := by decide +kernel
theorem dX8_dropCold_74 : decode cX8_dropCold 74 = .ok (.getfield 119, 3) := by decide +kernel
theorem dX8_dropCold_77 : decode cX8_dropCold 77 = .ok (.getfield 125, 3) := by decide +kernel
theorem dX8_dropCold_80 : decode cX8_dropCold 80 = .ok (.isub, 1) := by decide +kernel
theorem dX8_dropCold_81 : decode cX8_dropCold 81 = .ok (.ireturn, 1) := by decide +kernel
theorem dX8_transfer_0 : decode cX8_transfer 0 = .ok (.aload_n 0, 1) := by decide +kernel
theorem dX8_transfer_1 : decode cX8_transfer 1 = .ok (.iload_n 2, 1) := by decide +kernel
theorem dX8_transfer_2 : decode cX8_transfer 2 = .ok (.invokevirtual 112, 3) := by decide +kernel
theorem dX8_transfer_5 : decode cX8_transfer 5 = .ok (.astore_n 3, 1) := by decide +kernel
theorem dX8_transfer_6 : decode cX8_transfer 6 = .ok (.aload_n 0, 1) := by decide +kernel
theorem dX8_transfer_7 : decode cX8_transfer 7 = .ok (.getfield 37, 3) := by decide +kernel
theorem dX8_transfer_10 : decode cX8_transfer 10 = .ok (.iload_n 1, 1) := by decide +kernel
theorem dX8_transfer_11 : decode cX8_transfer 11 = .ok (.invokevirtual 152, 3) := by decide +kernel
theorem dX8_transfer_14 : decode cX8_transfer 14 = .ok (.istore 4, 2) := by decide +kernel
theorem dX8_transfer_16 : decode cX8_transfer 16 = .ok (.aload_n 0, 1) := by decide +kernel
theorem dX8_transfer_17 : decode cX8_transfer 17 = .ok (.getfield 37, 3) := by decide +kernel
theorem dX8_transfer_20 : decode cX8_transfer 20 = .ok (.iload 4, 2) := by decide +kernel
theorem dX8_transfer_22 : decode cX8_transfer 22 = .ok (.iload_n 1, 1) := by decide +kernel
theorem dX8_transfer_23 : decode cX8_transfer 23 = .ok (.invokevirtual 155, 3) := by decide +kernel
theorem dX8_transfer_26 : decode cX8_transfer 26 = .ok (.istore 5, 2) := by decide +kernel
theorem dX8_transfer_28 : decode cX8_transfer 28 = .ok (.iload 4, 2) := by decide +kernel
theorem dX8_transfer_30 : decode cX8_transfer 30 = .ok (.iload_n 2, 1) := by decide +kernel
theorem dX8_transfer_31 : decode cX8_transfer 31 = .ok (.if_icmp .ne 14, 3) := by decide +kernel
theorem dX8_transfer_34 : decode cX8_transfer 34 = .ok (.new 105, 3) := by decide +kernel
theorem dX8_transfer_37 : decode cX8_transfer 37 = .ok (.dup, 1) := by decide +kernel
theorem dX8_transfer_38 : decode cX8_transfer 38 = .ok (.ldc_w 324, 3) := by decide +kernel
theorem dX8_transfer_41 : decode cX8_transfer 41 = .ok (.invokespecial 109, 3) := by decide +kernel
theorem dX8_transfer_44 : decode cX8_transfer 44 = .ok (.athrow, 1) := by decide +kernel
theorem dX8_transfer_45 : decode cX8_transfer 45 = .ok (.aload_n 3, 1) := by decide +kernel
theorem dX8_transfer_46 : decode cX8_transfer 46 = .ok (.getfield 119, 3) := by decide +kernel
theorem dX8_transfer_49 : decode cX8_transfer 49 = .ok (.getfield 125, 3) := by decide +kernel
theorem dX8_transfer_52 : decode cX8_transfer 52 = .ok (.aload_n 3, 1) := by decide +kernel
theorem dX8_transfer_53 : decode cX8_transfer 53 = .ok (.getfield 143, 3) := by decide +kernel
theorem dX8_transfer_56 : decode cX8_transfer 56 = .ok (.getfield 301, 3) := by decide +kernel
theorem dX8_transfer_59 : decode cX8_transfer 59 = .ok (.if_icmp .lt 14, 3) := by decide +kernel
theorem dX8_transfer_62 : decode cX8_transfer 62 = .ok (.new 303, 3) := by decide +kernel
theorem dX8_transfer_65 : decode cX8_transfer 65 = .ok (.dup, 1) := by decide +kernel
theorem dX8_transfer_66 : decode cX8_transfer 66 = .ok (.ldc_w 326, 3) := by decide +kernel
theorem dX8_transfer_69 : decode cX8_transfer 69 = .ok (.invokespecial 307, 3) := by decide +kernel
theorem dX8_transfer_72 : decode cX8_transfer 72 = .ok (.athrow, 1) := by decide +kernel
theorem dX8_transfer_73 : decode cX8_transfer 73 = .ok (.iload 5, 2) := by decide +kernel
theorem dX8_transfer_75 : decode cX8_transfer 75 = .ok (.ifCond .ge 13, 3) := by decide +kernel
theorem dX8_transfer_78 : decode cX8_transfer 78 = .ok (.new 159, 3) := by decide +kernel
theorem dX8_transfer_81 : decode cX8_transfer 81 = .ok (.dup, 1) := by decide +kernel
theorem dX8_transfer_82 : decode cX8_transfer 82 = .ok (.ldc 161, 2) := by decide +kernel
theorem dX8_transfer_84 : decode cX8_transfer 84 = .ok (.invokespecial 163, 3) := by decide +kernel
theorem dX8_transfer_87 : decode cX8_transfer 87 = .ok (.athrow, 1) := by decide +kernel
theorem dX8_transfer_88 : decode cX8_transfer 88 = .ok (.aload_n 0, 1) := by decide +kernel
theorem dX8_transfer_89 : decode cX8_transfer 89 = .ok (.getfield 37, 3) := by decide +kernel
theorem dX8_transfer_92 : decode cX8_transfer 92 = .ok (.getfield 164, 3) := by decide +kernel
theorem dX8_transfer_95 : decode cX8_transfer 95 = .ok (.iload 4, 2) := by decide +kernel
theorem dX8_transfer_97 : decode cX8_transfer 97 = .ok (.aaload, 1) := by decide +kernel
theorem dX8_transfer_98 : decode cX8_transfer 98 = .ok (.iload 5, 2) := by decide +kernel
theorem dX8_transfer_100 : decode cX8_transfer 100 = .ok (.invokevirtual 314, 3) := by decide +kernel
theorem dX8_transfer_103 : decode cX8_transfer 103 = .ok (.ifCond .ne 14, 3) := by decide +kernel
theorem dX8_transfer_106 : decode cX8_transfer 106 = .ok (.new 303, 3) := by decide +kernel
theorem dX8_transfer_109 : decode cX8_transfer 109 = .ok (.dup, 1) := by decide +kernel
theorem dX8_transfer_110 : decode cX8_transfer 110 = .ok (.ldc_w 318, 3) := by decide +kernel
theorem dX8_transfer_113 : decode cX8_transfer 113 = .ok (.invokespecial 307, 3) := by decide +kernel
theorem dX8_transfer_116 : decode cX8_transfer 116 = .ok (.athrow, 1) := by decide +kernel
theorem dX8_transfer_117 : decode cX8_transfer 117 = .ok (.aload_n 0, 1) := by decide +kernel
theorem dX8_transfer_118 : decode cX8_transfer 118 = .ok (.invokevirtual 289, 3) := by decide +kernel
theorem dX8_transfer_121 : decode cX8_transfer 121 = .ok (.aload_n 0, 1) := by decide +kernel
theorem dX8_transfer_122 : decode cX8_transfer 122 = .ok (.getfield 37, 3) := by decide +kernel
theorem dX8_transfer_125 : decode cX8_transfer 125 = .ok (.iload 4, 2) := by decide +kernel
theorem dX8_transfer_127 : decode cX8_transfer 127 = .ok (.iload 5, 2) := by decide +kernel
theorem dX8_transfer_129 : decode cX8_transfer 129 = .ok (.invokevirtual 320, 3) := by decide +kernel
theorem dX8_transfer_132 : decode cX8_transfer 132 = .ok (.aload_n 0, 1) := by decide +kernel
theorem dX8_transfer_133 : decode cX8_transfer 133 = .ok (.getfield 37, 3) := by decide +kernel
theorem dX8_transfer_136 : decode cX8_transfer 136 = .ok (.iload_n 2, 1) := by decide +kernel
theorem dX8_transfer_137 : decode cX8_transfer 137 = .ok (.aload_n 0, 1) := by decide +kernel
theorem dX8_transfer_138 : decode cX8_transfer 138 = .ok (.getfield 37, 3) := by decide +kernel
theorem dX8_transfer_141 : decode cX8_transfer 141 = .ok (.getfield 86, 3) := by decide +kernel
theorem dX8_transfer_144 : decode cX8_transfer 144 = .ok (.aload_n 3, 1) := by decide +kernel
theorem dX8_transfer_145 : decode cX8_transfer 145 = .ok (.getfield 143, 3) := by decide +kernel
theorem dX8_transfer_148 : decode cX8_transfer 148 = .ok (.getfield 308, 3) := by decide +kernel
theorem dX8_transfer_151 : decode cX8_transfer 151 = .ok (.iadd, 1) := by decide +kernel
theorem dX8_transfer_152 : decode cX8_transfer 152 = .ok (.invokevirtual 311, 3) := by decide +kernel
theorem dX8_transfer_155 : decode cX8_transfer 155 = .ok (.ireturn, 1) := by decide +kernel
theorem dX8_pause_0 : decode cX8_pause 0 = .ok (.aload_n 0, 1) := by decide +kernel
theorem dX8_pause_1 : decode cX8_pause 1 = .ok (.iload_n 1, 1) := by decide +kernel
theorem dX8_pause_2 : decode cX8_pause 2 = .ok (.invokevirtual 112, 3) := by decide +kernel
theorem dX8_pause_5 : decode cX8_pause 5 = .ok (.astore_n 3, 1) := by decide +kernel
theorem dX8_pause_6 : decode cX8_pause 6 = .ok (.aload_n 0, 1) := by decide +kernel
theorem dX8_pause_7 : decode cX8_pause 7 = .ok (.invokevirtual 289, 3) := by decide +kernel
theorem dX8_pause_10 : decode cX8_pause 10 = .ok (.aload_n 3, 1) := by decide +kernel
theorem dX8_pause_11 : decode cX8_pause 11 = .ok (.getfield 137, 3) := by decide +kernel
theorem dX8_pause_14 : decode cX8_pause 14 = .ok (.istore 4, 2) := by decide +kernel
theorem dX8_pause_16 : decode cX8_pause 16 = .ok (.aload_n 3, 1) := by decide +kernel
theorem dX8_pause_17 : decode cX8_pause 17 = .ok (.iload_n 2, 1) := by decide +kernel
theorem dX8_pause_18 : decode cX8_pause 18 = .ok (.putfield 137, 3) := by decide +kernel
theorem dX8_pause_21 : decode cX8_pause 21 = .ok (.iload 4, 2) := by decide +kernel
theorem dX8_pause_23 : decode cX8_pause 23 = .ok (.ireturn, 1) := by decide +kernel
theorem dX8_setPolicy_0 : decode cX8_setPolicy 0 = .ok (.aload_n 0, 1) := by decide +kernel
theorem dX8_setPolicy_1 : decode cX8_setPolicy 1 = .ok (.iload_n 1, 1) := by decide +kernel
theorem dX8_setPolicy_2 : decode cX8_setPolicy 2 = .ok (.invokevirtual 112, 3) := by decide +kernel
theorem dX8_setPolicy_5 : decode cX8_setPolicy 5 = .ok (.getfield 143, 3) := by decide +kernel
theorem dX8_setPolicy_8 : decode cX8_setPolicy 8 = .ok (.astore 4, 2) := by decide +kernel
theorem dX8_setPolicy_10 : decode cX8_setPolicy 10 = .ok (.iload_n 2, 1) := by decide +kernel
theorem dX8_setPolicy_11 : decode cX8_setPolicy 11 = .ok (.iconst 0, 1) := by decide +kernel
theorem dX8_setPolicy_12 : decode cX8_setPolicy 12 = .ok (.iconst 2, 1) := by decide +kernel
theorem dX8_setPolicy_13 : decode cX8_setPolicy 13 = .ok (.invokestatic 116, 3) := by decide +kernel
theorem dX8_setPolicy_16 : decode cX8_setPolicy 16 = .ok (.iload_n 3, 1) := by decide +kernel
theorem dX8_setPolicy_17 : decode cX8_setPolicy 17 = .ok (.iload_n 2, 1) := by decide +kernel
theorem dX8_setPolicy_18 : decode cX8_setPolicy 18 = .ok (.iconst 2, 1) := by decide +kernel
theorem dX8_setPolicy_19 : decode cX8_setPolicy 19 = .ok (.if_icmp .ne 7, 3) := by decide +kernel
theorem dX8_setPolicy_22 : decode cX8_setPolicy 22 = .ok (.iconst 2, 1) := by decide +kernel
theorem dX8_setPolicy_23 : decode cX8_setPolicy 23 = .ok (.goto 4, 3) := by decide +kernel
theorem dX8_setPolicy_26 : decode cX8_setPolicy 26 = .ok (.iconst 0, 1) := by decide +kernel
theorem dX8_setPolicy_27 : decode cX8_setPolicy 27 = .ok (.iload_n 2, 1) := by decide +kernel
theorem dX8_setPolicy_28 : decode cX8_setPolicy 28 = .ok (.iconst 2, 1) := by decide +kernel
theorem dX8_setPolicy_29 : decode cX8_setPolicy 29 = .ok (.if_icmp .ne 8, 3) := by decide +kernel
theorem dX8_setPolicy_32 : decode cX8_setPolicy 32 = .ok (.bipush 24, 2) := by decide +kernel
theorem dX8_setPolicy_34 : decode cX8_setPolicy 34 = .ok (.goto 4, 3) := by decide +kernel
theorem dX8_setPolicy_37 : decode cX8_setPolicy 37 = .ok (.iconst 0, 1) := by decide +kernel
theorem dX8_setPolicy_38 : decode cX8_setPolicy 38 = .ok (.invokestatic 116, 3) := by decide +kernel
theorem dX8_setPolicy_41 : decode cX8_setPolicy 41 = .ok (.aload_n 0, 1) := by decide +kernel
theorem dX8_setPolicy_42 : decode cX8_setPolicy 42 = .ok (.invokevirtual 289, 3) := by decide +kernel
theorem dX8_setPolicy_45 : decode cX8_setPolicy 45 = .ok (.aload 4, 2) := by decide +kernel
theorem dX8_setPolicy_47 : decode cX8_setPolicy 47 = .ok (.getfield 328, 3) := by decide +kernel
theorem dX8_setPolicy_50 : decode cX8_setPolicy 50 = .ok (.istore 5, 2) := by decide +kernel
theorem dX8_setPolicy_52 : decode cX8_setPolicy 52 = .ok (.aload 4, 2) := by decide +kernel
theorem dX8_setPolicy_54 : decode cX8_setPolicy 54 = .ok (.iload_n 2, 1) := by decide +kernel
theorem dX8_setPolicy_55 : decode cX8_setPolicy 55 = .ok (.putfield 328, 3) := by decide +kernel
theorem dX8_setPolicy_58 : decode cX8_setPolicy 58 = .ok (.aload 4, 2) := by decide +kernel
theorem dX8_setPolicy_60 : decode cX8_setPolicy 60 = .ok (.iload_n 3, 1) := by decide +kernel
theorem dX8_setPolicy_61 : decode cX8_setPolicy 61 = .ok (.putfield 331, 3) := by decide +kernel
theorem dX8_setPolicy_64 : decode cX8_setPolicy 64 = .ok (.iload 5, 2) := by decide +kernel
theorem dX8_setPolicy_66 : decode cX8_setPolicy 66 = .ok (.ireturn, 1) := by decide +kernel
theorem dX8_setTarget_0 : decode cX8_setTarget 0 = .ok (.aload_n 0, 1) := by decide +kernel
theorem dX8_setTarget_1 : decode cX8_setTarget 1 = .ok (.iload_n 1, 1) := by decide +kernel
theorem dX8_setTarget_2 : decode cX8_setTarget 2 = .ok (.invokevirtual 112, 3) := by decide +kernel
theorem dX8_setTarget_5 : decode cX8_setTarget 5 = .ok (.getfield 143, 3) := by decide +kernel
theorem dX8_setTarget_8 : decode cX8_setTarget 8 = .ok (.astore_n 3, 1) := by decide +kernel
theorem dX8_setTarget_9 : decode cX8_setTarget 9 = .ok (.iload_n 2, 1) := by decide +kernel
theorem dX8_setTarget_10 : decode cX8_setTarget 10 = .ok (.bipush 10, 2) := by decide +kernel
theorem dX8_setTarget_12 : decode cX8_setTarget 12 = .ok (.bipush 100, 2) := by decide +kernel
theorem dX8_setTarget_14 : decode cX8_setTarget 14 = .ok (.invokestatic 116, 3) := by decide +kernel
theorem dX8_setTarget_17 : decode cX8_setTarget 17 = .ok (.aload_n 0, 1) := by decide +kernel
theorem dX8_setTarget_18 : decode cX8_setTarget 18 = .ok (.invokevirtual 289, 3) := by decide +kernel
theorem dX8_setTarget_21 : decode cX8_setTarget 21 = .ok (.aload_n 3, 1) := by decide +kernel
theorem dX8_setTarget_22 : decode cX8_setTarget 22 = .ok (.getfield 334, 3) := by decide +kernel
theorem dX8_setTarget_25 : decode cX8_setTarget 25 = .ok (.istore 4, 2) := by decide +kernel
theorem dX8_setTarget_27 : decode cX8_setTarget 27 = .ok (.aload_n 3, 1) := by decide +kernel
theorem dX8_setTarget_28 : decode cX8_setTarget 28 = .ok (.iload_n 2, 1) := by decide +kernel
theorem dX8_setTarget_29 : decode cX8_setTarget 29 = .ok (.putfield 334, 3) := by decide +kernel
theorem dX8_setTarget_32 : decode cX8_setTarget 32 = .ok (.iload 4, 2) := by decide +kernel
theorem dX8_setTarget_34 : decode cX8_setTarget 34 = .ok (.ireturn, 1) := by decide +kernel
theorem dX8_setCool_0 : decode cX8_setCool 0 = .ok (.aload_n 0, 1) := by decide +kernel
theorem dX8_setCool_1 : decode cX8_setCool 1 = .ok (.iload_n 1, 1) := by decide +kernel
theorem dX8_setCool_2 : decode cX8_setCool 2 = .ok (.invokevirtual 112, 3) := by decide +kernel
theorem dX8_setCool_5 : decode cX8_setCool 5 = .ok (.getfield 143, 3) := by decide +kernel
theorem dX8_setCool_8 : decode cX8_setCool 8 = .ok (.astore 4, 2) := by decide +kernel
theorem dX8_setCool_10 : decode cX8_setCool 10 = .ok (.iload_n 2, 1) := by decide +kernel
theorem dX8_setCool_11 : decode cX8_setCool 11 = .ok (.iconst 0, 1) := by decide +kernel
theorem dX8_setCool_12 : decode cX8_setCool 12 = .ok (.bipush 30, 2) := by decide +kernel
theorem dX8_setCool_14 : decode cX8_setCool 14 = .ok (.invokestatic 116, 3) := by decide +kernel
theorem dX8_setCool_17 : decode cX8_setCool 17 = .ok (.iload_n 3, 1) := by decide +kernel
theorem dX8_setCool_18 : decode cX8_setCool 18 = .ok (.iconst 0, 1) := by decide +kernel
theorem dX8_setCool_19 : decode cX8_setCool 19 = .ok (.bipush 30, 2) := by decide +kernel
theorem dX8_setCool_21 : decode cX8_setCool 21 = .ok (.invokestatic 116, 3) := by decide +kernel
theorem dX8_setCool_24 : decode cX8_setCool 24 = .ok (.aload_n 0, 1) := by decide +kernel
theorem dX8_setCool_25 : decode cX8_setCool 25 = .ok (.invokevirtual 289, 3) := by decide +kernel
theorem dX8_setCool_28 : decode cX8_setCool 28 = .ok (.bipush 100, 2) := by decide +kernel
theorem dX8_setCool_30 : decode cX8_setCool 30 = .ok (.aload 4, 2) := by decide +kernel
theorem dX8_setCool_32 : decode cX8_setCool 32 = .ok (.getfield 230, 3) := by decide +kernel
theorem dX8_setCool_35 : decode cX8_setCool 35 = .ok (.imul, 1) := by decide +kernel
theorem dX8_setCool_36 : decode cX8_setCool 36 = .ok (.aload 4, 2) := by decide +kernel
theorem dX8_setCool_38 : decode cX8_setCool 38 = .ok (.getfield 236, 3) := by decide +kernel
theorem dX8_setCool_41 : decode cX8_setCool 41 = .ok (.iadd, 1) := by decide +kernel
theorem dX8_setCool_42 : decode cX8_setCool 42 = .ok (.istore 5, 2) := by decide +kernel
theorem dX8_setCool_44 : decode cX8_setCool 44 = .ok (.aload 4, 2) := by decide +kernel
theorem dX8_setCool_46 : decode cX8_setCool 46 = .ok (.iload_n 2, 1) := by decide +kernel
theorem dX8_setCool_47 : decode cX8_setCool 47 = .ok (.putfield 230, 3) := by decide +kernel
theorem dX8_setCool_50 : decode cX8_setCool 50 = .ok (.aload 4, 2) := by decide +kernel
theorem dX8_setCool_52 : decode cX8_setCool 52 = .ok (.iload_n 3, 1) := by decide +kernel
theorem dX8_setCool_53 : decode cX8_setCool 53 = .ok (.putfield 236, 3) := by decide +kernel
theorem dX8_setCool_56 : decode cX8_setCool 56 = .ok (.iload 5, 2) := by decide +kernel
theorem dX8_setCool_58 : decode cX8_setCool 58 = .ok (.ireturn, 1) := by decide +kernel
theorem dX8_setBounds_0 : decode cX8_setBounds 0 = .ok (.aload_n 0, 1) := by decide +kernel
theorem dX8_setBounds_1 : decode cX8_setBounds 1 = .ok (.iload_n 1, 1) := by decide +kernel
theorem dX8_setBounds_2 : decode cX8_setBounds 2 = .ok (.invokevirtual 112, 3) := by decide +kernel
theorem dX8_setBounds_5 : decode cX8_setBounds 5 = .ok (.getfield 143, 3) := by decide +kernel
theorem dX8_setBounds_8 : decode cX8_setBounds 8 = .ok (.astore 4, 2) := by decide +kernel
theorem dX8_setBounds_10 : decode cX8_setBounds 10 = .ok (.iload_n 2, 1) := by decide +kernel
theorem dX8_setBounds_11 : decode cX8_setBounds 11 = .ok (.iconst 0, 1) := by decide +kernel
theorem dX8_setBounds_12 : decode cX8_setBounds 12 = .ok (.bipush 20, 2) := by decide +kernel
theorem dX8_setBounds_14 : decode cX8_setBounds 14 = .ok (.invokestatic 116, 3) := by decide +kernel
theorem dX8_setBounds_17 : decode cX8_setBounds 17 = .ok (.iload_n 3, 1) := by decide +kernel
theorem dX8_setBounds_18 : decode cX8_setBounds 18 = .ok (.iconst 1, 1) := by decide +kernel
theorem dX8_setBounds_19 : decode cX8_setBounds 19 = .ok (.iload_n 2, 1) := by decide +kernel
theorem dX8_setBounds_20 : decode cX8_setBounds 20 = .ok (.invokestatic 239, 3) := by decide +kernel
theorem dX8_setBounds_23 : decode cX8_setBounds 23 = .ok (.bipush 20, 2) := by decide +kernel
theorem dX8_setBounds_25 : decode cX8_setBounds 25 = .ok (.invokestatic 116, 3) := by decide +kernel
theorem dX8_setBounds_28 : decode cX8_setBounds 28 = .ok (.aload_n 0, 1) := by decide +kernel
theorem dX8_setBounds_29 : decode cX8_setBounds 29 = .ok (.invokevirtual 289, 3) := by decide +kernel
theorem dX8_setBounds_32 : decode cX8_setBounds 32 = .ok (.bipush 100, 2) := by decide +kernel
theorem dX8_setBounds_34 : decode cX8_setBounds 34 = .ok (.aload 4, 2) := by decide +kernel
theorem dX8_setBounds_36 : decode cX8_setBounds 36 = .ok (.getfield 337, 3) := by decide +kernel
theorem dX8_setBounds_39 : decode cX8_setBounds 39 = .ok (.imul, 1) := by decide +kernel
theorem dX8_setBounds_40 : decode cX8_setBounds 40 = .ok (.aload 4, 2) := by decide +kernel
theorem dX8_setBounds_42 : decode cX8_setBounds 42 = .ok (.getfield 301, 3) := by decide +kernel
theorem dX8_setBounds_45 : decode cX8_setBounds 45 = .ok (.iadd, 1) := by decide +kernel
theorem dX8_setBounds_46 : decode cX8_setBounds 46 = .ok (.istore 5, 2) := by decide +kernel
theorem dX8_setBounds_48 : decode cX8_setBounds 48 = .ok (.aload 4, 2) := by decide +kernel
theorem dX8_setBounds_50 : decode cX8_setBounds 50 = .ok (.iload_n 2, 1) := by decide +kernel
theorem dX8_setBounds_51 : decode cX8_setBounds 51 = .ok (.putfield 337, 3) := by decide +kernel
theorem dX8_setBounds_54 : decode cX8_setBounds 54 = .ok (.aload 4, 2) := by decide +kernel
theorem dX8_setBounds_56 : decode cX8_setBounds 56 = .ok (.iload_n 3, 1) := by decide +kernel
theorem dX8_setBounds_57 : decode cX8_setBounds 57 = .ok (.putfield 301, 3) := by decide +kernel
theorem dX8_setBounds_60 : decode cX8_setBounds 60 = .ok (.iload 5, 2) := by decide +kernel
theorem dX8_setBounds_62 : decode cX8_setBounds 62 = .ok (.ireturn, 1) := by decide +kernel
theorem dX8_setLoad_0 : decode cX8_setLoad 0 = .ok (.aload_n 0, 1) := by decide +kernel
theorem dX8_setLoad_1 : decode cX8_setLoad 1 = .ok (.iload_n 1, 1) := by decide +kernel
theorem dX8_setLoad_2 : decode cX8_setLoad 2 = .ok (.invokevirtual 112, 3) := by decide +kernel
theorem dX8_setLoad_5 : decode cX8_setLoad 5 = .ok (.getfield 143, 3) := by decide +kernel
theorem dX8_setLoad_8 : decode cX8_setLoad 8 = .ok (.astore 4, 2) := by decide +kernel
theorem dX8_setLoad_10 : decode cX8_setLoad 10 = .ok (.iload_n 3, 1) := by decide +kernel
theorem dX8_setLoad_11 : decode cX8_setLoad 11 = .ok (.iconst 0, 1) := by decide +kernel
theorem dX8_setLoad_12 : decode cX8_setLoad 12 = .ok (.sipush 999, 3) := by decide +kernel
theorem dX8_setLoad_15 : decode cX8_setLoad 15 = .ok (.invokestatic 116, 3) := by decide +kernel
theorem dX8_setLoad_18 : decode cX8_setLoad 18 = .ok (.iload_n 2, 1) := by decide +kernel
theorem dX8_setLoad_19 : decode cX8_setLoad 19 = .ok (.ifCond .lt 12, 3) := by decide +kernel
theorem dX8_setLoad_22 : decode cX8_setLoad 22 = .ok (.iload_n 2, 1) := by decide +kernel
theorem dX8_setLoad_23 : decode cX8_setLoad 23 = .ok (.aload 4, 2) := by decide +kernel
theorem dX8_setLoad_25 : decode cX8_setLoad 25 = .ok (.getfield 339, 3) := by decide +kernel
theorem dX8_setLoad_28 : decode cX8_setLoad 28 = .ok (.if_icmp .lt 13, 3) := by decide +kernel
theorem dX8_setLoad_31 : decode cX8_setLoad 31 = .ok (.new 159, 3) := by decide +kernel
theorem dX8_setLoad_34 : decode cX8_setLoad 34 = .ok (.dup, 1) := by decide +kernel
theorem dX8_setLoad_35 : decode cX8_setLoad 35 = .ok (.ldc 183, 2) := by decide +kernel
theorem dX8_setLoad_37 : decode cX8_setLoad 37 = .ok (.invokespecial 163, 3) := by decide +kernel
theorem dX8_setLoad_40 : decode cX8_setLoad 40 = .ok (.athrow, 1) := by decide +kernel
theorem dX8_setLoad_41 : decode cX8_setLoad 41 = .ok (.aload_n 0, 1) := by decide +kernel
theorem dX8_setLoad_42 : decode cX8_setLoad 42 = .ok (.invokevirtual 289, 3) := by decide +kernel
theorem dX8_setLoad_45 : decode cX8_setLoad 45 = .ok (.aload 4, 2) := by decide +kernel
theorem dX8_setLoad_47 : decode cX8_setLoad 47 = .ok (.getfield 342, 3) := by decide +kernel
theorem dX8_setLoad_50 : decode cX8_setLoad 50 = .ok (.iload_n 2, 1) := by decide +kernel
theorem dX8_setLoad_51 : decode cX8_setLoad 51 = .ok (.iaload, 1) := by decide +kernel
theorem dX8_setLoad_52 : decode cX8_setLoad 52 = .ok (.istore 5, 2) := by decide +kernel
theorem dX8_setLoad_54 : decode cX8_setLoad 54 = .ok (.aload 4, 2) := by decide +kernel
theorem dX8_setLoad_56 : decode cX8_setLoad 56 = .ok (.getfield 342, 3) := by decide +kernel
theorem dX8_setLoad_59 : decode cX8_setLoad 59 = .ok (.iload_n 2, 1) := by decide +kernel
theorem dX8_setLoad_60 : decode cX8_setLoad 60 = .ok (.iload_n 3, 1) := by decide +kernel
theorem dX8_setLoad_61 : decode cX8_setLoad 61 = .ok (.iastore, 1) := by decide +kernel
theorem dX8_setLoad_62 : decode cX8_setLoad 62 = .ok (.iload 5, 2) := by decide +kernel
theorem dX8_setLoad_64 : decode cX8_setLoad 64 = .ok (.ireturn, 1) := by decide +kernel
theorem dX8_hurry_0 : decode cX8_hurry 0 = .ok (.aload_n 0, 1) := by decide +kernel
theorem dX8_hurry_1 : decode cX8_hurry 1 = .ok (.iload_n 1, 1) := by decide +kernel
theorem dX8_hurry_2 : decode cX8_hurry 2 = .ok (.invokevirtual 112, 3) := by decide +kernel
theorem dX8_hurry_5 : decode cX8_hurry 5 = .ok (.astore_n 2, 1) := by decide +kernel
theorem dX8_hurry_6 : decode cX8_hurry 6 = .ok (.aload_n 0, 1) := by decide +kernel
theorem dX8_hurry_7 : decode cX8_hurry 7 = .ok (.invokevirtual 289, 3) := by decide +kernel
theorem dX8_hurry_10 : decode cX8_hurry 10 = .ok (.aload_n 2, 1) := by decide +kernel
theorem dX8_hurry_11 : decode cX8_hurry 11 = .ok (.getfield 143, 3) := by decide +kernel
theorem dX8_hurry_14 : decode cX8_hurry 14 = .ok (.getfield 230, 3) := by decide +kernel
theorem dX8_hurry_17 : decode cX8_hurry 17 = .ok (.istore_n 3, 1) := by decide +kernel
theorem dX8_hurry_18 : decode cX8_hurry 18 = .ok (.aload_n 2, 1) := by decide +kernel
theorem dX8_hurry_19 : decode cX8_hurry 19 = .ok (.getfield 143, 3) := by decide +kernel
theorem dX8_hurry_22 : decode cX8_hurry 22 = .ok (.getfield 236, 3) := by decide +kernel
theorem dX8_hurry_25 : decode cX8_hurry 25 = .ok (.istore 4, 2) := by decide +kernel
theorem dX8_hurry_27 : decode cX8_hurry 27 = .ok (.aload_n 2, 1) := by decide +kernel
theorem dX8_hurry_28 : decode cX8_hurry 28 = .ok (.getfield 143, 3) := by decide +kernel
theorem dX8_hurry_31 : decode cX8_hurry 31 = .ok (.iconst 0, 1) := by decide +kernel
theorem dX8_hurry_32 : decode cX8_hurry 32 = .ok (.putfield 230, 3) := by decide +kernel
theorem dX8_hurry_35 : decode cX8_hurry 35 = .ok (.aload_n 2, 1) := by decide +kernel
theorem dX8_hurry_36 : decode cX8_hurry 36 = .ok (.getfield 143, 3) := by decide +kernel
theorem dX8_hurry_39 : decode cX8_hurry 39 = .ok (.iconst 0, 1) := by decide +kernel
theorem dX8_hurry_40 : decode cX8_hurry 40 = .ok (.putfield 236, 3) := by decide +kernel
theorem dX8_hurry_43 : decode cX8_hurry 43 = .ok (.aload_n 0, 1) := by decide +kernel
theorem dX8_hurry_44 : decode cX8_hurry 44 = .ok (.getfield 37, 3) := by decide +kernel
theorem dX8_hurry_47 : decode cX8_hurry 47 = .ok (.invokevirtual 292, 3) := by decide +kernel
theorem dX8_hurry_50 : decode cX8_hurry 50 = .ok (.aload_n 2, 1) := by decide +kernel
theorem dX8_hurry_51 : decode cX8_hurry 51 = .ok (.getfield 143, 3) := by decide +kernel
theorem dX8_hurry_54 : decode cX8_hurry 54 = .ok (.iload_n 3, 1) := by decide +kernel
theorem dX8_hurry_55 : decode cX8_hurry 55 = .ok (.putfield 230, 3) := by decide +kernel
theorem dX8_hurry_58 : decode cX8_hurry 58 = .ok (.aload_n 2, 1) := by decide +kernel
theorem dX8_hurry_59 : decode cX8_hurry 59 = .ok (.getfield 143, 3) := by decide +kernel
theorem dX8_hurry_62 : decode cX8_hurry 62 = .ok (.iload 4, 2) := by decide +kernel
theorem dX8_hurry_64 : decode cX8_hurry 64 = .ok (.putfield 236, 3) := by decide +kernel
theorem dX8_hurry_67 : decode cX8_hurry 67 = .ok (.aload_n 2, 1) := by decide +kernel
theorem dX8_hurry_68 : decode cX8_hurry 68 = .ok (.getfield 140, 3) := by decide +kernel
theorem dX8_hurry_71 : decode cX8_hurry 71 = .ok (.ireturn, 1) := by decide +kernel
theorem dX8_sizeIn_0 : decode cX8_sizeIn 0 = .ok (.aload_n 0, 1) := by decide +kernel
theorem dX8_sizeIn_1 : decode cX8_sizeIn 1 = .ok (.iload_n 1, 1) := by decide +kernel
theorem dX8_sizeIn_2 : decode cX8_sizeIn 2 = .ok (.iload_n 2, 1) := by decide +kernel
theorem dX8_sizeIn_3 : decode cX8_sizeIn 3 = .ok (.invokevirtual 345, 3) := by decide +kernel
theorem dX8_sizeIn_6 : decode cX8_sizeIn 6 = .ok (.astore_n 3, 1) := by decide +kernel
theorem dX8_sizeIn_7 : decode cX8_sizeIn 7 = .ok (.aload_n 0, 1) := by decide +kernel
theorem dX8_sizeIn_8 : decode cX8_sizeIn 8 = .ok (.iload_n 1, 1) := by decide +kernel
theorem dX8_sizeIn_9 : decode cX8_sizeIn 9 = .ok (.iload_n 2, 1) := by decide +kernel
theorem dX8_sizeIn_10 : decode cX8_sizeIn 10 = .ok (.invokevirtual 349, 3) := by decide +kernel
theorem dX8_sizeIn_13 : decode cX8_sizeIn 13 = .ok (.aload_n 3, 1) := by decide +kernel
theorem dX8_sizeIn_14 : decode cX8_sizeIn 14 = .ok (.getfield 119, 3) := by decide +kernel
theorem dX8_sizeIn_17 : decode cX8_sizeIn 17 = .ok (.getfield 125, 3) := by decide +kernel
theorem dX8_sizeIn_20 : decode cX8_sizeIn 20 = .ok (.ireturn, 1) := by decide +kernel
theorem dX8_missedIn_0 : decode cX8_missedIn 0 = .ok (.aload_n 0, 1) := by decide +kernel
theorem dX8_missedIn_1 : decode cX8_missedIn 1 = .ok (.iload_n 1, 1) := by decide +kernel
theorem dX8_missedIn_2 : decode cX8_missedIn 2 = .ok (.iload_n 2, 1) := by decide +kernel
theorem dX8_missedIn_3 : decode cX8_missedIn 3 = .ok (.invokevirtual 345, 3) := by decide +kernel
theorem dX8_missedIn_6 : decode cX8_missedIn 6 = .ok (.astore_n 3, 1) := by decide +kernel
theorem dX8_missedIn_7 : decode cX8_missedIn 7 = .ok (.aload_n 3, 1) := by decide +kernel
theorem dX8_missedIn_8 : decode cX8_missedIn 8 = .ok (.getfield 208, 3) := by decide +kernel
theorem dX8_missedIn_11 : decode cX8_missedIn 11 = .ok (.getfield 247, 3) := by decide +kernel
theorem dX8_missedIn_14 : decode cX8_missedIn 14 = .ok (.lstore 4, 2) := by decide +kernel
theorem dX8_missedIn_16 : decode cX8_missedIn 16 = .ok (.aload_n 0, 1) := by decide +kernel
theorem dX8_missedIn_17 : decode cX8_missedIn 17 = .ok (.iload_n 1, 1) := by decide +kernel
theorem dX8_missedIn_18 : decode cX8_missedIn 18 = .ok (.iload_n 2, 1) := by decide +kernel
theorem dX8_missedIn_19 : decode cX8_missedIn 19 = .ok (.invokevirtual 349, 3) := by decide +kernel
theorem dX8_missedIn_22 : decode cX8_missedIn 22 = .ok (.aload_n 3, 1) := by decide +kernel
theorem dX8_missedIn_23 : decode cX8_missedIn 23 = .ok (.getfield 208, 3) := by decide +kernel
theorem dX8_missedIn_26 : decode cX8_missedIn 26 = .ok (.getfield 247, 3) := by decide +kernel
theorem dX8_missedIn_29 : decode cX8_missedIn 29 = .ok (.lload 4, 2) := by decide +kernel
theorem dX8_missedIn_31 : decode cX8_missedIn 31 = .ok (.lsub, 1) := by decide +kernel
theorem dX8_missedIn_32 : decode cX8_missedIn 32 = .ok (.lreturn, 1) := by decide +kernel
theorem dX8_costIn_0 : decode cX8_costIn 0 = .ok (.aload_n 0, 1) := by decide +kernel
theorem dX8_costIn_1 : decode cX8_costIn 1 = .ok (.aload_n 0, 1) := by decide +kernel
theorem dX8_costIn_2 : decode cX8_costIn 2 = .ok (.iload_n 1, 1) := by decide +kernel
theorem dX8_costIn_3 : decode cX8_costIn 3 = .ok (.iload_n 2, 1) := by decide +kernel
theorem dX8_costIn_4 : decode cX8_costIn 4 = .ok (.invokevirtual 345, 3) := by decide +kernel
theorem dX8_costIn_7 : decode cX8_costIn 7 = .ok (.iload_n 1, 1) := by decide +kernel
theorem dX8_costIn_8 : decode cX8_costIn 8 = .ok (.iload_n 2, 1) := by decide +kernel
theorem dX8_costIn_9 : decode cX8_costIn 9 = .ok (.invokevirtual 352, 3) := by decide +kernel
theorem dX8_costIn_12 : decode cX8_costIn 12 = .ok (.lreturn, 1) := by decide +kernel
theorem dX8_missesIn_0 : decode cX8_missesIn 0 = .ok (.aload_n 0, 1) := by decide +kernel
theorem dX8_missesIn_1 : decode cX8_missesIn 1 = .ok (.iload_n 1, 1) := by decide +kernel
theorem dX8_missesIn_2 : decode cX8_missesIn 2 = .ok (.iload_n 2, 1) := by decide +kernel
theorem dX8_missesIn_3 : decode cX8_missesIn 3 = .ok (.invokevirtual 345, 3) := by decide +kernel
theorem dX8_missesIn_6 : decode cX8_missesIn 6 = .ok (.astore_n 3, 1) := by decide +kernel
theorem dX8_missesIn_7 : decode cX8_missesIn 7 = .ok (.aload_n 3, 1) := by decide +kernel
theorem dX8_missesIn_8 : decode cX8_missesIn 8 = .ok (.getfield 208, 3) := by decide +kernel
theorem dX8_missesIn_11 : decode cX8_missesIn 11 = .ok (.getfield 247, 3) := by decide +kernel
theorem dX8_missesIn_14 : decode cX8_missesIn 14 = .ok (.lstore 4, 2) := by decide +kernel
theorem dX8_missesIn_16 : decode cX8_missesIn 16 = .ok (.iconst 1, 1) := by decide +kernel
theorem dX8_missesIn_17 : decode cX8_missesIn 17 = .ok (.istore 6, 2) := by decide +kernel
theorem dX8_missesIn_19 : decode cX8_missesIn 19 = .ok (.iload 6, 2) := by decide +kernel
theorem dX8_missesIn_21 : decode cX8_missesIn 21 = .ok (.iload_n 2, 1) := by decide +kernel
theorem dX8_missesIn_22 : decode cX8_missesIn 22 = .ok (.if_icmp .gt 30, 3) := by decide +kernel
theorem dX8_missesIn_25 : decode cX8_missesIn 25 = .ok (.aload_n 0, 1) := by decide +kernel
theorem dX8_missesIn_26 : decode cX8_missesIn 26 = .ok (.iload_n 1, 1) := by decide +kernel
theorem dX8_missesIn_27 : decode cX8_missesIn 27 = .ok (.invokevirtual 356, 3) := by decide +kernel
theorem dX8_missesIn_30 : decode cX8_missesIn 30 = .ok (.aload_n 3, 1) := by decide +kernel
theorem dX8_missesIn_31 : decode cX8_missesIn 31 = .ok (.getfield 208, 3) := by decide +kernel
theorem dX8_missesIn_34 : decode cX8_missesIn 34 = .ok (.getfield 247, 3) := by decide +kernel
theorem dX8_missesIn_37 : decode cX8_missesIn 37 = .ok (.lload 4, 2) := by decide +kernel
theorem dX8_missesIn_39 : decode cX8_missesIn 39 = .ok (.lcmp, 1) := by decide +kernel
theorem dX8_missesIn_40 : decode cX8_missesIn 40 = .ok (.ifCond .le 6, 3) := by decide +kernel
theorem dX8_missesIn_43 : decode cX8_missesIn 43 = .ok (.iload 6, 2) := by decide +kernel
theorem dX8_missesIn_45 : decode cX8_missesIn 45 = .ok (.ireturn, 1) := by decide +kernel
theorem dX8_missesIn_46 : decode cX8_missesIn 46 = .ok (.iinc 6 1, 3) := by decide +kernel
theorem dX8_missesIn_49 : decode cX8_missesIn 49 = .ok (.goto (-30), 3) := by decide +kernel
theorem dX8_missesIn_52 : decode cX8_missesIn 52 = .ok (.iconst (-1), 1) := by decide +kernel
theorem dX8_missesIn_53 : decode cX8_missesIn 53 = .ok (.ireturn, 1) := by decide +kernel
theorem dX8_changesIn_0 : decode cX8_changesIn 0 = .ok (.aload_n 0, 1) := by decide +kernel
theorem dX8_changesIn_1 : decode cX8_changesIn 1 = .ok (.iload_n 1, 1) := by decide +kernel
theorem dX8_changesIn_2 : decode cX8_changesIn 2 = .ok (.iload_n 2, 1) := by decide +kernel
theorem dX8_changesIn_3 : decode cX8_changesIn 3 = .ok (.invokevirtual 345, 3) := by decide +kernel
theorem dX8_changesIn_6 : decode cX8_changesIn 6 = .ok (.pop, 1) := by decide +kernel
theorem dX8_changesIn_7 : decode cX8_changesIn 7 = .ok (.aload_n 0, 1) := by decide +kernel
theorem dX8_changesIn_8 : decode cX8_changesIn 8 = .ok (.getfield 41, 3) := by decide +kernel
theorem dX8_changesIn_11 : decode cX8_changesIn 11 = .ok (.getfield 96, 3) := by decide +kernel
theorem dX8_changesIn_14 : decode cX8_changesIn 14 = .ok (.getfield 100, 3) := by decide +kernel
theorem dX8_changesIn_17 : decode cX8_changesIn 17 = .ok (.istore_n 3, 1) := by decide +kernel
theorem dX8_changesIn_18 : decode cX8_changesIn 18 = .ok (.aload_n 0, 1) := by decide +kernel
theorem dX8_changesIn_19 : decode cX8_changesIn 19 = .ok (.iload_n 1, 1) := by decide +kernel
theorem dX8_changesIn_20 : decode cX8_changesIn 20 = .ok (.iload_n 2, 1) := by decide +kernel
theorem dX8_changesIn_21 : decode cX8_changesIn 21 = .ok (.invokevirtual 349, 3) := by decide +kernel
theorem dX8_changesIn_24 : decode cX8_changesIn 24 = .ok (.aload_n 0, 1) := by decide +kernel
theorem dX8_changesIn_25 : decode cX8_changesIn 25 = .ok (.getfield 41, 3) := by decide +kernel
theorem dX8_changesIn_28 : decode cX8_changesIn 28 = .ok (.getfield 96, 3) := by decide +kernel
theorem dX8_changesIn_31 : decode cX8_changesIn 31 = .ok (.getfield 100, 3) := by decide +kernel
theorem dX8_changesIn_34 : decode cX8_changesIn 34 = .ok (.iload_n 3, 1) := by decide +kernel
theorem dX8_changesIn_35 : decode cX8_changesIn 35 = .ok (.isub, 1) := by decide +kernel
theorem dX8_changesIn_36 : decode cX8_changesIn 36 = .ok (.ireturn, 1) := by decide +kernel
theorem dX8_settlesIn_0 : decode cX8_settlesIn 0 = .ok (.aload_n 0, 1) := by decide +kernel
theorem dX8_settlesIn_1 : decode cX8_settlesIn 1 = .ok (.iload_n 1, 1) := by decide +kernel
theorem dX8_settlesIn_2 : decode cX8_settlesIn 2 = .ok (.iload_n 2, 1) := by decide +kernel
theorem dX8_settlesIn_3 : decode cX8_settlesIn 3 = .ok (.invokevirtual 345, 3) := by decide +kernel
theorem dX8_settlesIn_6 : decode cX8_settlesIn 6 = .ok (.astore_n 3, 1) := by decide +kernel
theorem dX8_settlesIn_7 : decode cX8_settlesIn 7 = .ok (.iconst 1, 1) := by decide +kernel
theorem dX8_settlesIn_8 : decode cX8_settlesIn 8 = .ok (.istore 4, 2) := by decide +kernel
theorem dX8_settlesIn_10 : decode cX8_settlesIn 10 = .ok (.iload 4, 2) := by decide +kernel
theorem dX8_settlesIn_12 : decode cX8_settlesIn 12 = .ok (.iload_n 2, 1) := by decide +kernel
theorem dX8_settlesIn_13 : decode cX8_settlesIn 13 = .ok (.if_icmp .gt 25, 3) := by decide +kernel
theorem dX8_settlesIn_16 : decode cX8_settlesIn 16 = .ok (.aload_n 0, 1) := by decide +kernel
theorem dX8_settlesIn_17 : decode cX8_settlesIn 17 = .ok (.iload_n 1, 1) := by decide +kernel
theorem dX8_settlesIn_18 : decode cX8_settlesIn 18 = .ok (.invokevirtual 356, 3) := by decide +kernel
theorem dX8_settlesIn_21 : decode cX8_settlesIn 21 = .ok (.aload_n 3, 1) := by decide +kernel
theorem dX8_settlesIn_22 : decode cX8_settlesIn 22 = .ok (.getfield 140, 3) := by decide +kernel
theorem dX8_settlesIn_25 : decode cX8_settlesIn 25 = .ok (.iconst 2, 1) := by decide +kernel
theorem dX8_settlesIn_26 : decode cX8_settlesIn 26 = .ok (.if_icmp .ne 6, 3) := by decide +kernel
theorem dX8_settlesIn_29 : decode cX8_settlesIn 29 = .ok (.iload 4, 2) := by decide +kernel
theorem dX8_settlesIn_31 : decode cX8_settlesIn 31 = .ok (.ireturn, 1) := by decide +kernel
theorem dX8_settlesIn_32 : decode cX8_settlesIn 32 = .ok (.iinc 4 1, 3) := by decide +kernel
theorem dX8_settlesIn_35 : decode cX8_settlesIn 35 = .ok (.goto (-25), 3) := by decide +kernel
theorem dX8_settlesIn_38 : decode cX8_settlesIn 38 = .ok (.iconst (-1), 1) := by decide +kernel
theorem dX8_settlesIn_39 : decode cX8_settlesIn 39 = .ok (.ireturn, 1) := by decide +kernel
theorem dX8_greatestIn_0 : decode cX8_greatestIn 0 = .ok (.aload_n 0, 1) := by decide +kernel
theorem dX8_greatestIn_1 : decode cX8_greatestIn 1 = .ok (.iload_n 1, 1) := by decide +kernel
theorem dX8_greatestIn_2 : decode cX8_greatestIn 2 = .ok (.iload_n 2, 1) := by decide +kernel
theorem dX8_greatestIn_3 : decode cX8_greatestIn 3 = .ok (.invokevirtual 345, 3) := by decide +kernel
theorem dX8_greatestIn_6 : decode cX8_greatestIn 6 = .ok (.astore_n 3, 1) := by decide +kernel
theorem dX8_greatestIn_7 : decode cX8_greatestIn 7 = .ok (.iconst 0, 1) := by decide +kernel
theorem dX8_greatestIn_8 : decode cX8_greatestIn 8 = .ok (.istore 4, 2) := by decide +kernel
theorem dX8_greatestIn_10 : decode cX8_greatestIn 10 = .ok (.iconst 1, 1) := by decide +kernel
theorem dX8_greatestIn_11 : decode cX8_greatestIn 11 = .ok (.istore 5, 2) := by decide +kernel
theorem dX8_greatestIn_13 : decode cX8_greatestIn 13 = .ok (.iload 5, 2) := by decide +kernel
theorem dX8_greatestIn_15 : decode cX8_greatestIn 15 = .ok (.iload_n 2, 1) := by decide +kernel
theorem dX8_greatestIn_16 : decode cX8_greatestIn 16 = .ok (.if_icmp .gt 28, 3) := by decide +kernel
theorem dX8_greatestIn_19 : decode cX8_greatestIn 19 = .ok (.aload_n 0, 1) := by decide +kernel
theorem dX8_greatestIn_20 : decode cX8_greatestIn 20 = .ok (.iload_n 1, 1) := by decide +kernel
theorem dX8_greatestIn_21 : decode cX8_greatestIn 21 = .ok (.invokevirtual 356, 3) := by decide +kernel
theorem dX8_greatestIn_24 : decode cX8_greatestIn 24 = .ok (.iload 4, 2) := by decide +kernel
theorem dX8_greatestIn_26 : decode cX8_greatestIn 26 = .ok (.aload_n 3, 1) := by decide +kernel
theorem dX8_greatestIn_27 : decode cX8_greatestIn 27 = .ok (.getfield 119, 3) := by decide +kernel
theorem dX8_greatestIn_30 : decode cX8_greatestIn 30 = .ok (.getfield 125, 3) := by decide +kernel
theorem dX8_greatestIn_33 : decode cX8_greatestIn 33 = .ok (.invokestatic 239, 3) := by decide +kernel
theorem dX8_greatestIn_36 : decode cX8_greatestIn 36 = .ok (.istore 4, 2) := by decide +kernel
theorem dX8_greatestIn_38 : decode cX8_greatestIn 38 = .ok (.iinc 5 1, 3) := by decide +kernel
theorem dX8_greatestIn_41 : decode cX8_greatestIn 41 = .ok (.goto (-28), 3) := by decide +kernel
theorem dX8_greatestIn_44 : decode cX8_greatestIn 44 = .ok (.iload 4, 2) := by decide +kernel
theorem dX8_greatestIn_46 : decode cX8_greatestIn 46 = .ok (.ireturn, 1) := by decide +kernel
theorem dX8_needed_0 : decode cX8_needed 0 = .ok (.aload_n 0, 1) := by decide +kernel
theorem dX8_needed_1 : decode cX8_needed 1 = .ok (.iload_n 1, 1) := by decide +kernel
theorem dX8_needed_2 : decode cX8_needed 2 = .ok (.invokevirtual 112, 3) := by decide +kernel
theorem dX8_needed_5 : decode cX8_needed 5 = .ok (.astore_n 3, 1) := by decide +kernel
theorem dX8_needed_6 : decode cX8_needed 6 = .ok (.iload_n 2, 1) := by decide +kernel
theorem dX8_needed_7 : decode cX8_needed 7 = .ok (.iconst 1, 1) := by decide +kernel
theorem dX8_needed_8 : decode cX8_needed 8 = .ok (.sipush 300, 3) := by decide +kernel
theorem dX8_needed_11 : decode cX8_needed 11 = .ok (.invokestatic 116, 3) := by decide +kernel
theorem dX8_needed_14 : decode cX8_needed 14 = .ok (.iconst 0, 1) := by decide +kernel
theorem dX8_needed_15 : decode cX8_needed 15 = .ok (.istore 4, 2) := by decide +kernel
theorem dX8_needed_17 : decode cX8_needed 17 = .ok (.iconst 0, 1) := by decide +kernel
theorem dX8_needed_18 : decode cX8_needed 18 = .ok (.istore 5, 2) := by decide +kernel
theorem dX8_needed_20 : decode cX8_needed 20 = .ok (.iload 5, 2) := by decide +kernel
theorem dX8_needed_22 : decode cX8_needed 22 = .ok (.iload_n 2, 1) := by decide +kernel
theorem dX8_needed_23 : decode cX8_needed 23 = .ok (.if_icmp .ge 43, 3) := by decide +kernel
theorem dX8_needed_26 : decode cX8_needed 26 = .ok (.aload_n 3, 1) := by decide +kernel
theorem dX8_needed_27 : decode cX8_needed 27 = .ok (.aload_n 0, 1) := by decide +kernel
theorem dX8_needed_28 : decode cX8_needed 28 = .ok (.getfield 37, 3) := by decide +kernel
theorem dX8_needed_31 : decode cX8_needed 31 = .ok (.getfield 86, 3) := by decide +kernel
theorem dX8_needed_34 : decode cX8_needed 34 = .ok (.iload 5, 2) := by decide +kernel
theorem dX8_needed_36 : decode cX8_needed 36 = .ok (.invokevirtual 196, 3) := by decide +kernel
theorem dX8_needed_39 : decode cX8_needed 39 = .ok (.istore 6, 2) := by decide +kernel
theorem dX8_needed_41 : decode cX8_needed 41 = .ok (.iload 4, 2) := by decide +kernel
theorem dX8_needed_43 : decode cX8_needed 43 = .ok (.iload 6, 2) := by decide +kernel
theorem dX8_needed_45 : decode cX8_needed 45 = .ok (.aload_n 3, 1) := by decide +kernel
theorem dX8_needed_46 : decode cX8_needed 46 = .ok (.getfield 143, 3) := by decide +kernel
theorem dX8_needed_49 : decode cX8_needed 49 = .ok (.getfield 359, 3) := by decide +kernel
theorem dX8_needed_52 : decode cX8_needed 52 = .ok (.invokestatic 362, 3) := by decide +kernel
theorem dX8_needed_55 : decode cX8_needed 55 = .ok (.invokestatic 239, 3) := by decide +kernel
theorem dX8_needed_58 : decode cX8_needed 58 = .ok (.istore 4, 2) := by decide +kernel
theorem dX8_needed_60 : decode cX8_needed 60 = .ok (.iinc 5 1, 3) := by decide +kernel
theorem dX8_needed_63 : decode cX8_needed 63 = .ok (.goto (-43), 3) := by decide +kernel
theorem dX8_needed_66 : decode cX8_needed 66 = .ok (.iload 4, 2) := by decide +kernel
theorem dX8_needed_68 : decode cX8_needed 68 = .ok (.ireturn, 1) := by decide +kernel
theorem dX8_errorsWith_0 : decode cX8_errorsWith 0 = .ok (.aload_n 0, 1) := by decide +kernel
theorem dX8_errorsWith_1 : decode cX8_errorsWith 1 = .ok (.iload_n 1, 1) := by decide +kernel
theorem dX8_errorsWith_2 : decode cX8_errorsWith 2 = .ok (.invokevirtual 112, 3) := by decide +kernel
theorem dX8_errorsWith_5 : decode cX8_errorsWith 5 = .ok (.pop, 1) := by decide +kernel
theorem dX8_errorsWith_6 : decode cX8_errorsWith 6 = .ok (.iload_n 2, 1) := by decide +kernel
theorem dX8_errorsWith_7 : decode cX8_errorsWith 7 = .ok (.iconst 0, 1) := by decide +kernel
theorem dX8_errorsWith_8 : decode cX8_errorsWith 8 = .ok (.iconst 2, 1) := by decide +kernel
theorem dX8_errorsWith_9 : decode cX8_errorsWith 9 = .ok (.invokestatic 116, 3) := by decide +kernel
theorem dX8_errorsWith_12 : decode cX8_errorsWith 12 = .ok (.aload_n 0, 1) := by decide +kernel
theorem dX8_errorsWith_13 : decode cX8_errorsWith 13 = .ok (.iload_n 1, 1) := by decide +kernel
theorem dX8_errorsWith_14 : decode cX8_errorsWith 14 = .ok (.iload_n 3, 1) := by decide +kernel
theorem dX8_errorsWith_15 : decode cX8_errorsWith 15 = .ok (.invokevirtual 345, 3) := by decide +kernel
theorem dX8_errorsWith_18 : decode cX8_errorsWith 18 = .ok (.astore 4, 2) := by decide +kernel
theorem dX8_errorsWith_20 : decode cX8_errorsWith 20 = .ok (.aload 4, 2) := by decide +kernel
theorem dX8_errorsWith_22 : decode cX8_errorsWith 22 = .ok (.getfield 143, 3) := by decide +kernel
theorem dX8_errorsWith_25 : decode cX8_errorsWith 25 = .ok (.iload_n 2, 1) := by decide +kernel
theorem dX8_errorsWith_26 : decode cX8_errorsWith 26 = .ok (.invokevirtual 365, 3) := by decide +kernel
theorem dX8_errorsWith_29 : decode cX8_errorsWith 29 = .ok (.aload 4, 2) := by decide +kernel
theorem dX8_errorsWith_31 : decode cX8_errorsWith 31 = .ok (.getfield 208, 3) := by decide +kernel
theorem dX8_errorsWith_34 : decode cX8_errorsWith 34 = .ok (.getfield 217, 3) := by decide +kernel
theorem dX8_errorsWith_37 : decode cX8_errorsWith 37 = .ok (.lstore 5, 2) := by decide +kernel
theorem dX8_errorsWith_39 : decode cX8_errorsWith 39 = .ok (.aload_n 0, 1) := by decide +kernel
theorem dX8_errorsWith_40 : decode cX8_errorsWith 40 = .ok (.iload_n 1, 1) := by decide +kernel
theorem dX8_errorsWith_41 : decode cX8_errorsWith 41 = .ok (.iload_n 3, 1) := by decide +kernel
theorem dX8_errorsWith_42 : decode cX8_errorsWith 42 = .ok (.invokevirtual 349, 3) := by decide +kernel
theorem dX8_errorsWith_45 : decode cX8_errorsWith 45 = .ok (.aload 4, 2) := by decide +kernel
theorem dX8_errorsWith_47 : decode cX8_errorsWith 47 = .ok (.getfield 208, 3) := by decide +kernel
theorem dX8_errorsWith_50 : decode cX8_errorsWith 50 = .ok (.getfield 217, 3) := by decide +kernel
theorem dX8_errorsWith_53 : decode cX8_errorsWith 53 = .ok (.lload 5, 2) := by decide +kernel
theorem dX8_errorsWith_55 : decode cX8_errorsWith 55 = .ok (.lsub, 1) := by decide +kernel
theorem dX8_errorsWith_56 : decode cX8_errorsWith 56 = .ok (.lreturn, 1) := by decide +kernel
theorem dX8_bestPolicy_0 : decode cX8_bestPolicy 0 = .ok (.iconst (-1), 1) := by decide +kernel
theorem dX8_bestPolicy_1 : decode cX8_bestPolicy 1 = .ok (.istore_n 3, 1) := by decide +kernel
theorem dX8_bestPolicy_2 : decode cX8_bestPolicy 2 = .ok (.lconst 0, 1) := by decide +kernel
theorem dX8_bestPolicy_3 : decode cX8_bestPolicy 3 = .ok (.lstore 4, 2) := by decide +kernel
theorem dX8_bestPolicy_5 : decode cX8_bestPolicy 5 = .ok (.iconst 0, 1) := by decide +kernel
theorem dX8_bestPolicy_6 : decode cX8_bestPolicy 6 = .ok (.istore 6, 2) := by decide +kernel
theorem dX8_bestPolicy_8 : decode cX8_bestPolicy 8 = .ok (.iload 6, 2) := by decide +kernel
theorem dX8_bestPolicy_10 : decode cX8_bestPolicy 10 = .ok (.iconst 2, 1) := by decide +kernel
theorem dX8_bestPolicy_11 : decode cX8_bestPolicy 11 = .ok (.if_icmp .gt 57, 3) := by decide +kernel
theorem dX8_bestPolicy_14 : decode cX8_bestPolicy 14 = .ok (.aload_n 0, 1) := by decide +kernel
theorem dX8_bestPolicy_15 : decode cX8_bestPolicy 15 = .ok (.iload_n 1, 1) := by decide +kernel
theorem dX8_bestPolicy_16 : decode cX8_bestPolicy 16 = .ok (.iload_n 2, 1) := by decide +kernel
theorem dX8_bestPolicy_17 : decode cX8_bestPolicy 17 = .ok (.invokevirtual 345, 3) := by decide +kernel
theorem dX8_bestPolicy_20 : decode cX8_bestPolicy 20 = .ok (.astore 7, 2) := by decide +kernel
theorem dX8_bestPolicy_22 : decode cX8_bestPolicy 22 = .ok (.aload 7, 2) := by decide +kernel
theorem dX8_bestPolicy_24 : decode cX8_bestPolicy 24 = .ok (.getfield 143, 3) := by decide +kernel
theorem dX8_bestPolicy_27 : decode cX8_bestPolicy 27 = .ok (.iload 6, 2) := by decide +kernel
theorem dX8_bestPolicy_29 : decode cX8_bestPolicy 29 = .ok (.invokevirtual 365, 3) := by decide +kernel
theorem dX8_bestPolicy_32 : decode cX8_bestPolicy 32 = .ok (.aload_n 0, 1) := by decide +kernel
theorem dX8_bestPolicy_33 : decode cX8_bestPolicy 33 = .ok (.aload 7, 2) := by decide +kernel
theorem dX8_bestPolicy_35 : decode cX8_bestPolicy 35 = .ok (.iload_n 1, 1) := by decide +kernel
theorem dX8_bestPolicy_36 : decode cX8_bestPolicy 36 = .ok (.iload_n 2, 1) := by decide +kernel
theorem dX8_bestPolicy_37 : decode cX8_bestPolicy 37 = .ok (.invokevirtual 352, 3) := by decide +kernel
theorem dX8_bestPolicy_40 : decode cX8_bestPolicy 40 = .ok (.lstore 8, 2) := by decide +kernel
theorem dX8_bestPolicy_42 : decode cX8_bestPolicy 42 = .ok (.iload_n 3, 1) := by decide +kernel
theorem dX8_bestPolicy_43 : decode cX8_bestPolicy 43 = .ok (.iconst (-1), 1) := by decide +kernel
theorem dX8_bestPolicy_44 : decode cX8_bestPolicy 44 = .ok (.if_icmp .eq 11, 3) := by decide +kernel
theorem dX8_bestPolicy_47 : decode cX8_bestPolicy 47 = .ok (.lload 8, 2) := by decide +kernel
theorem dX8_bestPolicy_49 : decode cX8_bestPolicy 49 = .ok (.lload 4, 2) := by decide +kernel
theorem dX8_bestPolicy_51 : decode cX8_bestPolicy 51 = .ok (.lcmp, 1) := by decide +kernel
theorem dX8_bestPolicy_52 : decode cX8_bestPolicy 52 = .ok (.ifCond .ge 10, 3) := by decide +kernel
theorem dX8_bestPolicy_55 : decode cX8_bestPolicy 55 = .ok (.iload 6, 2) := by decide +kernel
theorem dX8_bestPolicy_57 : decode cX8_bestPolicy 57 = .ok (.istore_n 3, 1) := by decide +kernel
theorem dX8_bestPolicy_58 : decode cX8_bestPolicy 58 = .ok (.lload 8, 2) := by decide +kernel
theorem dX8_bestPolicy_60 : decode cX8_bestPolicy 60 = .ok (.lstore 4, 2) := by decide +kernel
theorem dX8_bestPolicy_62 : decode cX8_bestPolicy 62 = .ok (.iinc 6 1, 3) := by decide +kernel
theorem dX8_bestPolicy_65 : decode cX8_bestPolicy 65 = .ok (.goto (-57), 3) := by decide +kernel
theorem dX8_bestPolicy_68 : decode cX8_bestPolicy 68 = .ok (.iload_n 3, 1) := by decide +kernel
theorem dX8_bestPolicy_69 : decode cX8_bestPolicy 69 = .ok (.ireturn, 1) := by decide +kernel
theorem dX8_bestTarget_0 : decode cX8_bestTarget 0 = .ok (.iconst (-1), 1) := by decide +kernel
theorem dX8_bestTarget_1 : decode cX8_bestTarget 1 = .ok (.istore_n 3, 1) := by decide +kernel
theorem dX8_bestTarget_2 : decode cX8_bestTarget 2 = .ok (.lconst 0, 1) := by decide +kernel
theorem dX8_bestTarget_3 : decode cX8_bestTarget 3 = .ok (.lstore 4, 2) := by decide +kernel
theorem dX8_bestTarget_5 : decode cX8_bestTarget 5 = .ok (.bipush 10, 2) := by decide +kernel
theorem dX8_bestTarget_7 : decode cX8_bestTarget 7 = .ok (.istore 6, 2) := by decide +kernel
theorem dX8_bestTarget_9 : decode cX8_bestTarget 9 = .ok (.iload 6, 2) := by decide +kernel
theorem dX8_bestTarget_11 : decode cX8_bestTarget 11 = .ok (.bipush 100, 2) := by decide +kernel
theorem dX8_bestTarget_13 : decode cX8_bestTarget 13 = .ok (.if_icmp .gt 57, 3) := by decide +kernel
theorem dX8_bestTarget_16 : decode cX8_bestTarget 16 = .ok (.aload_n 0, 1) := by decide +kernel
theorem dX8_bestTarget_17 : decode cX8_bestTarget 17 = .ok (.iload_n 1, 1) := by decide +kernel
theorem dX8_bestTarget_18 : decode cX8_bestTarget 18 = .ok (.iload_n 2, 1) := by decide +kernel
theorem dX8_bestTarget_19 : decode cX8_bestTarget 19 = .ok (.invokevirtual 345, 3) := by decide +kernel
theorem dX8_bestTarget_22 : decode cX8_bestTarget 22 = .ok (.astore 7, 2) := by decide +kernel
theorem dX8_bestTarget_24 : decode cX8_bestTarget 24 = .ok (.aload 7, 2) := by decide +kernel
theorem dX8_bestTarget_26 : decode cX8_bestTarget 26 = .ok (.getfield 143, 3) := by decide +kernel
theorem dX8_bestTarget_29 : decode cX8_bestTarget 29 = .ok (.iload 6, 2) := by decide +kernel
theorem dX8_bestTarget_31 : decode cX8_bestTarget 31 = .ok (.putfield 334, 3) := by decide +kernel
theorem dX8_bestTarget_34 : decode cX8_bestTarget 34 = .ok (.aload_n 0, 1) := by decide +kernel
theorem dX8_bestTarget_35 : decode cX8_bestTarget 35 = .ok (.aload 7, 2) := by decide +kernel
theorem dX8_bestTarget_37 : decode cX8_bestTarget 37 = .ok (.iload_n 1, 1) := by decide +kernel
theorem dX8_bestTarget_38 : decode cX8_bestTarget 38 = .ok (.iload_n 2, 1) := by decide +kernel
theorem dX8_bestTarget_39 : decode cX8_bestTarget 39 = .ok (.invokevirtual 352, 3) := by decide +kernel
theorem dX8_bestTarget_42 : decode cX8_bestTarget 42 = .ok (.lstore 8, 2) := by decide +kernel
theorem dX8_bestTarget_44 : decode cX8_bestTarget 44 = .ok (.iload_n 3, 1) := by decide +kernel
theorem dX8_bestTarget_45 : decode cX8_bestTarget 45 = .ok (.iconst (-1), 1) := by decide +kernel
theorem dX8_bestTarget_46 : decode cX8_bestTarget 46 = .ok (.if_icmp .eq 11, 3) := by decide +kernel
theorem dX8_bestTarget_49 : decode cX8_bestTarget 49 = .ok (.lload 8, 2) := by decide +kernel
theorem dX8_bestTarget_51 : decode cX8_bestTarget 51 = .ok (.lload 4, 2) := by decide +kernel
theorem dX8_bestTarget_53 : decode cX8_bestTarget 53 = .ok (.lcmp, 1) := by decide +kernel
theorem dX8_bestTarget_54 : decode cX8_bestTarget 54 = .ok (.ifCond .ge 10, 3) := by decide +kernel
theorem dX8_bestTarget_57 : decode cX8_bestTarget 57 = .ok (.iload 6, 2) := by decide +kernel
theorem dX8_bestTarget_59 : decode cX8_bestTarget 59 = .ok (.istore_n 3, 1) := by decide +kernel
theorem dX8_bestTarget_60 : decode cX8_bestTarget 60 = .ok (.lload 8, 2) := by decide +kernel
theorem dX8_bestTarget_62 : decode cX8_bestTarget 62 = .ok (.lstore 4, 2) := by decide +kernel
theorem dX8_bestTarget_64 : decode cX8_bestTarget 64 = .ok (.iinc 6 10, 3) := by decide +kernel
theorem dX8_bestTarget_67 : decode cX8_bestTarget 67 = .ok (.goto (-58), 3) := by decide +kernel
theorem dX8_bestTarget_70 : decode cX8_bestTarget 70 = .ok (.iload_n 3, 1) := by decide +kernel
theorem dX8_bestTarget_71 : decode cX8_bestTarget 71 = .ok (.ireturn, 1) := by decide +kernel
theorem dX8_bestCool_0 : decode cX8_bestCool 0 = .ok (.iconst (-1), 1) := by decide +kernel
theorem dX8_bestCool_1 : decode cX8_bestCool 1 = .ok (.istore_n 3, 1) := by decide +kernel
theorem dX8_bestCool_2 : decode cX8_bestCool 2 = .ok (.lconst 0, 1) := by decide +kernel
theorem dX8_bestCool_3 : decode cX8_bestCool 3 = .ok (.lstore 4, 2) := by decide +kernel
theorem dX8_bestCool_5 : decode cX8_bestCool 5 = .ok (.iconst 0, 1) := by decide +kernel
theorem dX8_bestCool_6 : decode cX8_bestCool 6 = .ok (.istore 6, 2) := by decide +kernel
theorem dX8_bestCool_8 : decode cX8_bestCool 8 = .ok (.iload 6, 2) := by decide +kernel
theorem dX8_bestCool_10 : decode cX8_bestCool 10 = .ok (.bipush 30, 2) := by decide +kernel
theorem dX8_bestCool_12 : decode cX8_bestCool 12 = .ok (.if_icmp .gt 57, 3) := by decide +kernel
theorem dX8_bestCool_15 : decode cX8_bestCool 15 = .ok (.aload_n 0, 1) := by decide +kernel
theorem dX8_bestCool_16 : decode cX8_bestCool 16 = .ok (.iload_n 1, 1) := by decide +kernel
theorem dX8_bestCool_17 : decode cX8_bestCool 17 = .ok (.iload_n 2, 1) := by decide +kernel
theorem dX8_bestCool_18 : decode cX8_bestCool 18 = .ok (.invokevirtual 345, 3) := by decide +kernel
theorem dX8_bestCool_21 : decode cX8_bestCool 21 = .ok (.astore 7, 2) := by decide +kernel
theorem dX8_bestCool_23 : decode cX8_bestCool 23 = .ok (.aload 7, 2) := by decide +kernel
theorem dX8_bestCool_25 : decode cX8_bestCool 25 = .ok (.getfield 143, 3) := by decide +kernel
theorem dX8_bestCool_28 : decode cX8_bestCool 28 = .ok (.iload 6, 2) := by decide +kernel
theorem dX8_bestCool_30 : decode cX8_bestCool 30 = .ok (.putfield 236, 3) := by decide +kernel
theorem dX8_bestCool_33 : decode cX8_bestCool 33 = .ok (.aload_n 0, 1) := by decide +kernel
theorem dX8_bestCool_34 : decode cX8_bestCool 34 = .ok (.aload 7, 2) := by decide +kernel
theorem dX8_bestCool_36 : decode cX8_bestCool 36 = .ok (.iload_n 1, 1) := by decide +kernel
theorem dX8_bestCool_37 : decode cX8_bestCool 37 = .ok (.iload_n 2, 1) := by decide +kernel
theorem dX8_bestCool_38 : decode cX8_bestCool 38 = .ok (.invokevirtual 352, 3) := by decide +kernel
theorem dX8_bestCool_41 : decode cX8_bestCool 41 = .ok (.lstore 8, 2) := by decide +kernel
theorem dX8_bestCool_43 : decode cX8_bestCool 43 = .ok (.iload_n 3, 1) := by decide +kernel
theorem dX8_bestCool_44 : decode cX8_bestCool 44 = .ok (.iconst (-1), 1) := by decide +kernel
theorem dX8_bestCool_45 : decode cX8_bestCool 45 = .ok (.if_icmp .eq 11, 3) := by decide +kernel
theorem dX8_bestCool_48 : decode cX8_bestCool 48 = .ok (.lload 8, 2) := by decide +kernel
theorem dX8_bestCool_50 : decode cX8_bestCool 50 = .ok (.lload 4, 2) := by decide +kernel
theorem dX8_bestCool_52 : decode cX8_bestCool 52 = .ok (.lcmp, 1) := by decide +kernel
theorem dX8_bestCool_53 : decode cX8_bestCool 53 = .ok (.ifCond .ge 10, 3) := by decide +kernel
theorem dX8_bestCool_56 : decode cX8_bestCool 56 = .ok (.iload 6, 2) := by decide +kernel
theorem dX8_bestCool_58 : decode cX8_bestCool 58 = .ok (.istore_n 3, 1) := by decide +kernel
theorem dX8_bestCool_59 : decode cX8_bestCool 59 = .ok (.lload 8, 2) := by decide +kernel
theorem dX8_bestCool_61 : decode cX8_bestCool 61 = .ok (.lstore 4, 2) := by decide +kernel
theorem dX8_bestCool_63 : decode cX8_bestCool 63 = .ok (.iinc 6 5, 3) := by decide +kernel
theorem dX8_bestCool_66 : decode cX8_bestCool 66 = .ok (.goto (-58), 3) := by decide +kernel
theorem dX8_bestCool_69 : decode cX8_bestCool 69 = .ok (.iload_n 3, 1) := by decide +kernel
theorem dX8_bestCool_70 : decode cX8_bestCool 70 = .ok (.ireturn, 1) := by decide +kernel
theorem dX8_startTrial_0 : decode cX8_startTrial 0 = .ok (.aload_n 0, 1) := by decide +kernel
theorem dX8_startTrial_1 : decode cX8_startTrial 1 = .ok (.iload_n 1, 1) := by decide +kernel
theorem dX8_startTrial_2 : decode cX8_startTrial 2 = .ok (.invokevirtual 112, 3) := by decide +kernel
theorem dX8_startTrial_5 : decode cX8_startTrial 5 = .ok (.pop, 1) := by decide +kernel
theorem dX8_startTrial_6 : decode cX8_startTrial 6 = .ok (.iload_n 2, 1) := by decide +kernel
theorem dX8_startTrial_7 : decode cX8_startTrial 7 = .ok (.iconst 1, 1) := by decide +kernel
theorem dX8_startTrial_8 : decode cX8_startTrial 8 = .ok (.sipush 300, 3) := by decide +kernel
theorem dX8_startTrial_11 : decode cX8_startTrial 11 = .ok (.invokestatic 116, 3) := by decide +kernel
theorem dX8_startTrial_14 : decode cX8_startTrial 14 = .ok (.aload_n 0, 1) := by decide +kernel
theorem dX8_startTrial_15 : decode cX8_startTrial 15 = .ok (.getfield 41, 3) := by decide +kernel
theorem dX8_startTrial_18 : decode cX8_startTrial 18 = .ok (.aload_n 0, 1) := by decide +kernel
theorem dX8_startTrial_19 : decode cX8_startTrial 19 = .ok (.getfield 37, 3) := by decide +kernel
theorem dX8_startTrial_22 : decode cX8_startTrial 22 = .ok (.invokevirtual 72, 3) := by decide +kernel
theorem dX8_startTrial_25 : decode cX8_startTrial 25 = .ok (.aload_n 0, 1) := by decide +kernel
theorem dX8_startTrial_26 : decode cX8_startTrial 26 = .ok (.getfield 41, 3) := by decide +kernel
theorem dX8_startTrial_29 : decode cX8_startTrial 29 = .ok (.getfield 164, 3) := by decide +kernel
theorem dX8_startTrial_32 : decode cX8_startTrial 32 = .ok (.iload_n 1, 1) := by decide +kernel
theorem dX8_startTrial_33 : decode cX8_startTrial 33 = .ok (.aaload, 1) := by decide +kernel
theorem dX8_startTrial_34 : decode cX8_startTrial 34 = .ok (.areturn, 1) := by decide +kernel
theorem dX8_tryTick_0 : decode cX8_tryTick 0 = .ok (.aload_n 0, 1) := by decide +kernel
theorem dX8_tryTick_1 : decode cX8_tryTick 1 = .ok (.getfield 41, 3) := by decide +kernel
theorem dX8_tryTick_4 : decode cX8_tryTick 4 = .ok (.iload_n 1, 1) := by decide +kernel
theorem dX8_tryTick_5 : decode cX8_tryTick 5 = .ok (.invokevirtual 368, 3) := by decide +kernel
theorem dX8_tryTick_8 : decode cX8_tryTick 8 = .ok (.aload_n 0, 1) := by decide +kernel
theorem dX8_tryTick_9 : decode cX8_tryTick 9 = .ok (.getfield 41, 3) := by decide +kernel
theorem dX8_tryTick_12 : decode cX8_tryTick 12 = .ok (.dup, 1) := by decide +kernel
theorem dX8_tryTick_13 : decode cX8_tryTick 13 = .ok (.getfield 86, 3) := by decide +kernel
theorem dX8_tryTick_16 : decode cX8_tryTick 16 = .ok (.iconst 1, 1) := by decide +kernel
theorem dX8_tryTick_17 : decode cX8_tryTick 17 = .ok (.iadd, 1) := by decide +kernel
theorem dX8_tryTick_18 : decode cX8_tryTick 18 = .ok (.putfield 86, 3) := by decide +kernel
theorem dX8_tryTick_21 : decode cX8_tryTick 21 = .ok (.return_, 1) := by decide +kernel
theorem dX8_tryTicks_0 : decode cX8_tryTicks 0 = .ok (.iconst 0, 1) := by decide +kernel
theorem dX8_tryTicks_1 : decode cX8_tryTicks 1 = .ok (.istore_n 3, 1) := by decide +kernel
theorem dX8_tryTicks_2 : decode cX8_tryTicks 2 = .ok (.iload_n 3, 1) := by decide +kernel
theorem dX8_tryTicks_3 : decode cX8_tryTicks 3 = .ok (.iload_n 2, 1) := by decide +kernel
theorem dX8_tryTicks_4 : decode cX8_tryTicks 4 = .ok (.if_icmp .ge 14, 3) := by decide +kernel
theorem dX8_tryTicks_7 : decode cX8_tryTicks 7 = .ok (.aload_n 0, 1) := by decide +kernel
theorem dX8_tryTicks_8 : decode cX8_tryTicks 8 = .ok (.iload_n 1, 1) := by decide +kernel
theorem dX8_tryTicks_9 : decode cX8_tryTicks 9 = .ok (.invokevirtual 356, 3) := by decide +kernel
theorem dX8_tryTicks_12 : decode cX8_tryTicks 12 = .ok (.iinc 3 1, 3) := by decide +kernel
theorem dX8_tryTicks_15 : decode cX8_tryTicks 15 = .ok (.goto (-13), 3) := by decide +kernel
theorem dX8_tryTicks_18 : decode cX8_tryTicks 18 = .ok (.return_, 1) := by decide +kernel
theorem dX8_tryCost_0 : decode cX8_tryCost 0 = .ok (.aload_n 1, 1) := by decide +kernel
theorem dX8_tryCost_1 : decode cX8_tryCost 1 = .ok (.getfield 208, 3) := by decide +kernel
theorem dX8_tryCost_4 : decode cX8_tryCost 4 = .ok (.getfield 250, 3) := by decide +kernel
theorem dX8_tryCost_7 : decode cX8_tryCost 7 = .ok (.lstore 4, 2) := by decide +kernel
theorem dX8_tryCost_9 : decode cX8_tryCost 9 = .ok (.iconst 0, 1) := by decide +kernel
theorem dX8_tryCost_10 : decode cX8_tryCost 10 = .ok (.istore 6, 2) := by decide +kernel
theorem dX8_tryCost_12 : decode cX8_tryCost 12 = .ok (.iload 6, 2) := by decide +kernel
theorem dX8_tryCost_14 : decode cX8_tryCost 14 = .ok (.iload_n 3, 1) := by decide +kernel
theorem dX8_tryCost_15 : decode cX8_tryCost 15 = .ok (.if_icmp .ge 14, 3) := by decide +kernel
theorem dX8_tryCost_18 : decode cX8_tryCost 18 = .ok (.aload_n 0, 1) := by decide +kernel
theorem dX8_tryCost_19 : decode cX8_tryCost 19 = .ok (.iload_n 2, 1) := by decide +kernel
theorem dX8_tryCost_20 : decode cX8_tryCost 20 = .ok (.invokevirtual 356, 3) := by decide +kernel
theorem dX8_tryCost_23 : decode cX8_tryCost 23 = .ok (.iinc 6 1, 3) := by decide +kernel
theorem dX8_tryCost_26 : decode cX8_tryCost 26 = .ok (.goto (-14), 3) := by decide +kernel
theorem dX8_tryCost_29 : decode cX8_tryCost 29 = .ok (.aload_n 1, 1) := by decide +kernel
theorem dX8_tryCost_30 : decode cX8_tryCost 30 = .ok (.getfield 208, 3) := by decide +kernel
theorem dX8_tryCost_33 : decode cX8_tryCost 33 = .ok (.getfield 250, 3) := by decide +kernel
theorem dX8_tryCost_36 : decode cX8_tryCost 36 = .ok (.lload 4, 2) := by decide +kernel
theorem dX8_tryCost_38 : decode cX8_tryCost 38 = .ok (.lsub, 1) := by decide +kernel
theorem dX8_tryCost_39 : decode cX8_tryCost 39 = .ok (.lreturn, 1) := by decide +kernel
theorem dX8_printPool_0 : decode cX8_printPool 0 = .ok (.aload_n 0, 1) := by decide +kernel
theorem dX8_printPool_1 : decode cX8_printPool 1 = .ok (.iload_n 1, 1) := by decide +kernel
theorem dX8_printPool_2 : decode cX8_printPool 2 = .ok (.invokevirtual 112, 3) := by decide +kernel
theorem dX8_printPool_5 : decode cX8_printPool 5 = .ok (.astore_n 2, 1) := by decide +kernel
theorem dX8_printPool_6 : decode cX8_printPool 6 = .ok (.aload_n 2, 1) := by decide +kernel
theorem dX8_printPool_7 : decode cX8_printPool 7 = .ok (.getfield 119, 3) := by decide +kernel
theorem dX8_printPool_10 : decode cX8_printPool 10 = .ok (.astore_n 3, 1) := by decide +kernel
theorem dX8_printPool_11 : decode cX8_printPool 11 = .ok (.aload_n 0, 1) := by decide +kernel
theorem dX8_printPool_12 : decode cX8_printPool 12 = .ok (.getfield 30, 3) := by decide +kernel
theorem dX8_printPool_15 : decode cX8_printPool 15 = .ok (.iconst 0, 1) := by decide +kernel
theorem dX8_printPool_16 : decode cX8_printPool 16 = .ok (.putfield 371, 3) := by decide +kernel
theorem dX8_printPool_19 : decode cX8_printPool 19 = .ok (.iconst 0, 1) := by decide +kernel
theorem dX8_printPool_20 : decode cX8_printPool 20 = .ok (.istore 4, 2) := by decide +kernel
theorem dX8_printPool_22 : decode cX8_printPool 22 = .ok (.iload 4, 2) := by decide +kernel
theorem dX8_printPool_24 : decode cX8_printPool 24 = .ok (.aload_n 3, 1) := by decide +kernel
theorem dX8_printPool_25 : decode cX8_printPool 25 = .ok (.getfield 125, 3) := by decide +kernel
theorem dX8_printPool_28 : decode cX8_printPool 28 = .ok (.if_icmp .ge 76, 3) := by decide +kernel
theorem dX8_printPool_31 : decode cX8_printPool 31 = .ok (.aload_n 0, 1) := by decide +kernel
theorem dX8_printPool_32 : decode cX8_printPool 32 = .ok (.getfield 30, 3) := by decide +kernel
theorem dX8_printPool_35 : decode cX8_printPool 35 = .ok (.aload_n 3, 1) := by decide +kernel
theorem dX8_printPool_36 : decode cX8_printPool 36 = .ok (.getfield 185, 3) := by decide +kernel
theorem dX8_printPool_39 : decode cX8_printPool 39 = .ok (.iload 4, 2) := by decide +kernel
theorem dX8_printPool_41 : decode cX8_printPool 41 = .ok (.iaload, 1) := by decide +kernel
theorem dX8_printPool_42 : decode cX8_printPool 42 = .ok (.invokevirtual 374, 3) := by decide +kernel
theorem dX8_printPool_45 : decode cX8_printPool 45 = .ok (.aload_n 3, 1) := by decide +kernel
theorem dX8_printPool_46 : decode cX8_printPool 46 = .ok (.getfield 179, 3) := by decide +kernel
theorem dX8_printPool_49 : decode cX8_printPool 49 = .ok (.iload 4, 2) := by decide +kernel
theorem dX8_printPool_51 : decode cX8_printPool 51 = .ok (.baload, 1) := by decide +kernel
theorem dX8_printPool_52 : decode cX8_printPool 52 = .ok (.ifCond .eq 12, 3) := by decide +kernel
theorem dX8_printPool_55 : decode cX8_printPool 55 = .ok (.aload_n 0, 1) := by decide +kernel
theorem dX8_printPool_56 : decode cX8_printPool 56 = .ok (.getfield 30, 3) := by decide +kernel
theorem dX8_printPool_59 : decode cX8_printPool 59 = .ok (.bipush 42, 2) := by decide +kernel
theorem dX8_printPool_61 : decode cX8_printPool 61 = .ok (.invokevirtual 377, 3) := by decide +kernel
theorem dX8_printPool_64 : decode cX8_printPool 64 = .ok (.aload_n 3, 1) := by decide +kernel
theorem dX8_printPool_65 : decode cX8_printPool 65 = .ok (.iload 4, 2) := by decide +kernel
theorem dX8_printPool_67 : decode cX8_printPool 67 = .ok (.aload_n 0, 1) := by decide +kernel
theorem dX8_printPool_68 : decode cX8_printPool 68 = .ok (.getfield 37, 3) := by decide +kernel
theorem dX8_printPool_71 : decode cX8_printPool 71 = .ok (.getfield 86, 3) := by decide +kernel
theorem dX8_printPool_74 : decode cX8_printPool 74 = .ok (.invokevirtual 175, 3) := by decide +kernel
theorem dX8_printPool_77 : decode cX8_printPool 77 = .ok (.ifCond .ne 12, 3) := by decide +kernel
theorem dX8_printPool_80 : decode cX8_printPool 80 = .ok (.aload_n 0, 1) := by decide +kernel
theorem dX8_printPool_81 : decode cX8_printPool 81 = .ok (.getfield 30, 3) := by decide +kernel
theorem dX8_printPool_84 : decode cX8_printPool 84 = .ok (.bipush 45, 2) := by decide +kernel
theorem dX8_printPool_86 : decode cX8_printPool 86 = .ok (.invokevirtual 377, 3) := by decide +kernel
theorem dX8_printPool_89 : decode cX8_printPool 89 = .ok (.aload_n 0, 1) := by decide +kernel
theorem dX8_printPool_90 : decode cX8_printPool 90 = .ok (.getfield 30, 3) := by decide +kernel
theorem dX8_printPool_93 : decode cX8_printPool 93 = .ok (.bipush 32, 2) := by decide +kernel
theorem dX8_printPool_95 : decode cX8_printPool 95 = .ok (.invokevirtual 377, 3) := by decide +kernel
theorem dX8_printPool_98 : decode cX8_printPool 98 = .ok (.iinc 4 1, 3) := by decide +kernel
theorem dX8_printPool_101 : decode cX8_printPool 101 = .ok (.goto (-79), 3) := by decide +kernel
theorem dX8_printPool_104 : decode cX8_printPool 104 = .ok (.aload_n 0, 1) := by decide +kernel
theorem dX8_printPool_105 : decode cX8_printPool 105 = .ok (.getfield 30, 3) := by decide +kernel
theorem dX8_printPool_108 : decode cX8_printPool 108 = .ok (.bipush 61, 2) := by decide +kernel
theorem dX8_printPool_110 : decode cX8_printPool 110 = .ok (.invokevirtual 377, 3) := by decide +kernel
theorem dX8_printPool_113 : decode cX8_printPool 113 = .ok (.aload_n 0, 1) := by decide +kernel
theorem dX8_printPool_114 : decode cX8_printPool 114 = .ok (.getfield 30, 3) := by decide +kernel
theorem dX8_printPool_117 : decode cX8_printPool 117 = .ok (.aload_n 2, 1) := by decide +kernel
theorem dX8_printPool_118 : decode cX8_printPool 118 = .ok (.aload_n 0, 1) := by decide +kernel
theorem dX8_printPool_119 : decode cX8_printPool 119 = .ok (.getfield 37, 3) := by decide +kernel
theorem dX8_printPool_122 : decode cX8_printPool 122 = .ok (.getfield 86, 3) := by decide +kernel
theorem dX8_printPool_125 : decode cX8_printPool 125 = .ok (.invokevirtual 273, 3) := by decide +kernel
theorem dX8_printPool_128 : decode cX8_printPool 128 = .ok (.invokevirtual 374, 3) := by decide +kernel
theorem dX8_printPool_131 : decode cX8_printPool 131 = .ok (.aload_n 0, 1) := by decide +kernel
theorem dX8_printPool_132 : decode cX8_printPool 132 = .ok (.getfield 30, 3) := by decide +kernel
theorem dX8_printPool_135 : decode cX8_printPool 135 = .ok (.getfield 371, 3) := by decide +kernel
theorem dX8_printPool_138 : decode cX8_printPool 138 = .ok (.ireturn, 1) := by decide +kernel
theorem dX8_outputByte_0 : decode cX8_outputByte 0 = .ok (.iload_n 1, 1) := by decide +kernel
theorem dX8_outputByte_1 : decode cX8_outputByte 1 = .ok (.ifCond .lt 14, 3) := by decide +kernel
theorem dX8_outputByte_4 : decode cX8_outputByte 4 = .ok (.iload_n 1, 1) := by decide +kernel
theorem dX8_outputByte_5 : decode cX8_outputByte 5 = .ok (.aload_n 0, 1) := by decide +kernel
theorem dX8_outputByte_6 : decode cX8_outputByte 6 = .ok (.getfield 30, 3) := by decide +kernel
theorem dX8_outputByte_9 : decode cX8_outputByte 9 = .ok (.getfield 371, 3) := by decide +kernel
theorem dX8_outputByte_12 : decode cX8_outputByte 12 = .ok (.if_icmp .lt 5, 3) := by decide +kernel
theorem dX8_outputByte_15 : decode cX8_outputByte 15 = .ok (.iconst (-1), 1) := by decide +kernel
theorem dX8_outputByte_16 : decode cX8_outputByte 16 = .ok (.ireturn, 1) := by decide +kernel
theorem dX8_outputByte_17 : decode cX8_outputByte 17 = .ok (.aload_n 0, 1) := by decide +kernel
theorem dX8_outputByte_18 : decode cX8_outputByte 18 = .ok (.getfield 30, 3) := by decide +kernel
theorem dX8_outputByte_21 : decode cX8_outputByte 21 = .ok (.getfield 380, 3) := by decide +kernel
theorem dX8_outputByte_24 : decode cX8_outputByte 24 = .ok (.iload_n 1, 1) := by decide +kernel
theorem dX8_outputByte_25 : decode cX8_outputByte 25 = .ok (.baload, 1) := by decide +kernel
theorem dX8_outputByte_26 : decode cX8_outputByte 26 = .ok (.ireturn, 1) := by decide +kernel
theorem dX8_undo_0 : decode cX8_undo 0 = .ok (.aload_n 0, 1) := by decide +kernel
theorem dX8_undo_1 : decode cX8_undo 1 = .ok (.getfield 76, 3) := by decide +kernel
theorem dX8_undo_4 : decode cX8_undo 4 = .ok (.ifCond .gt 5, 3) := by decide +kernel
theorem dX8_undo_7 : decode cX8_undo 7 = .ok (.iconst (-1), 1) := by decide +kernel
theorem dX8_undo_8 : decode cX8_undo 8 = .ok (.ireturn, 1) := by decide +kernel
theorem dX8_undo_9 : decode cX8_undo 9 = .ok (.aload_n 0, 1) := by decide +kernel
theorem dX8_undo_10 : decode cX8_undo 10 = .ok (.dup, 1) := by decide +kernel
theorem dX8_undo_11 : decode cX8_undo 11 = .ok (.getfield 76, 3) := by decide +kernel
theorem dX8_undo_14 : decode cX8_undo 14 = .ok (.iconst 1, 1) := by decide +kernel
theorem dX8_undo_15 : decode cX8_undo 15 = .ok (.isub, 1) := by decide +kernel
theorem dX8_undo_16 : decode cX8_undo 16 = .ok (.putfield 76, 3) := by decide +kernel
theorem dX8_undo_19 : decode cX8_undo 19 = .ok (.aload_n 0, 1) := by decide +kernel
theorem dX8_undo_20 : decode cX8_undo 20 = .ok (.getfield 37, 3) := by decide +kernel
theorem dX8_undo_23 : decode cX8_undo 23 = .ok (.aload_n 0, 1) := by decide +kernel
theorem dX8_undo_24 : decode cX8_undo 24 = .ok (.getfield 47, 3) := by decide +kernel
theorem dX8_undo_27 : decode cX8_undo 27 = .ok (.aload_n 0, 1) := by decide +kernel
theorem dX8_undo_28 : decode cX8_undo 28 = .ok (.getfield 76, 3) := by decide +kernel
theorem dX8_undo_31 : decode cX8_undo 31 = .ok (.aaload, 1) := by decide +kernel
theorem dX8_undo_32 : decode cX8_undo 32 = .ok (.invokevirtual 72, 3) := by decide +kernel
theorem dX8_undo_35 : decode cX8_undo 35 = .ok (.aload_n 0, 1) := by decide +kernel
theorem dX8_undo_36 : decode cX8_undo 36 = .ok (.getfield 76, 3) := by decide +kernel
theorem dX8_undo_39 : decode cX8_undo 39 = .ok (.ireturn, 1) := by decide +kernel
theorem dX8_saveState_0 : decode cX8_saveState 0 = .ok (.aload_n 0, 1) := by decide +kernel
theorem dX8_saveState_1 : decode cX8_saveState 1 = .ok (.getfield 44, 3) := by decide +kernel
theorem dX8_saveState_4 : decode cX8_saveState 4 = .ok (.aload_n 0, 1) := by decide +kernel
theorem dX8_saveState_5 : decode cX8_saveState 5 = .ok (.getfield 37, 3) := by decide +kernel
theorem dX8_saveState_8 : decode cX8_saveState 8 = .ok (.invokevirtual 72, 3) := by decide +kernel
theorem dX8_saveState_11 : decode cX8_saveState 11 = .ok (.aload_n 0, 1) := by decide +kernel
theorem dX8_saveState_12 : decode cX8_saveState 12 = .ok (.iconst 1, 1) := by decide +kernel
theorem dX8_saveState_13 : decode cX8_saveState 13 = .ok (.putfield 79, 3) := by decide +kernel
theorem dX8_saveState_16 : decode cX8_saveState 16 = .ok (.aload_n 0, 1) := by decide +kernel
theorem dX8_saveState_17 : decode cX8_saveState 17 = .ok (.getfield 37, 3) := by decide +kernel
theorem dX8_saveState_20 : decode cX8_saveState 20 = .ok (.getfield 86, 3) := by decide +kernel
theorem dX8_saveState_23 : decode cX8_saveState 23 = .ok (.ireturn, 1) := by decide +kernel
theorem dX8_restoreState_0 : decode cX8_restoreState 0 = .ok (.aload_n 0, 1) := by decide +kernel
theorem dX8_restoreState_1 : decode cX8_restoreState 1 = .ok (.getfield 79, 3) := by decide +kernel
theorem dX8_restoreState_4 : decode cX8_restoreState 4 = .ok (.ifCond .ne 14, 3) := by decide +kernel
theorem dX8_restoreState_7 : decode cX8_restoreState 7 = .ok (.new 303, 3) := by decide +kernel
theorem dX8_restoreState_10 : decode cX8_restoreState 10 = .ok (.dup, 1) := by decide +kernel
theorem dX8_restoreState_11 : decode cX8_restoreState 11 = .ok (.ldc_w 383, 3) := by decide +kernel
theorem dX8_restoreState_14 : decode cX8_restoreState 14 = .ok (.invokespecial 307, 3) := by decide +kernel
theorem dX8_restoreState_17 : decode cX8_restoreState 17 = .ok (.athrow, 1) := by decide +kernel
theorem dX8_restoreState_18 : decode cX8_restoreState 18 = .ok (.aload_n 0, 1) := by decide +kernel
theorem dX8_restoreState_19 : decode cX8_restoreState 19 = .ok (.getfield 37, 3) := by decide +kernel
theorem dX8_restoreState_22 : decode cX8_restoreState 22 = .ok (.aload_n 0, 1) := by decide +kernel
theorem dX8_restoreState_23 : decode cX8_restoreState 23 = .ok (.getfield 44, 3) := by decide +kernel
theorem dX8_restoreState_26 : decode cX8_restoreState 26 = .ok (.invokevirtual 72, 3) := by decide +kernel
theorem dX8_restoreState_29 : decode cX8_restoreState 29 = .ok (.aload_n 0, 1) := by decide +kernel
theorem dX8_restoreState_30 : decode cX8_restoreState 30 = .ok (.iconst 0, 1) := by decide +kernel
theorem dX8_restoreState_31 : decode cX8_restoreState 31 = .ok (.putfield 76, 3) := by decide +kernel
theorem dX8_restoreState_34 : decode cX8_restoreState 34 = .ok (.aload_n 0, 1) := by decide +kernel
theorem dX8_restoreState_35 : decode cX8_restoreState 35 = .ok (.getfield 37, 3) := by decide +kernel
theorem dX8_restoreState_38 : decode cX8_restoreState 38 = .ok (.getfield 86, 3) := by decide +kernel
theorem dX8_restoreState_41 : decode cX8_restoreState 41 = .ok (.ireturn, 1) := by decide +kernel
theorem dX8_remember_0 : decode cX8_remember 0 = .ok (.aload_n 0, 1) := by decide +kernel
theorem dX8_remember_1 : decode cX8_remember 1 = .ok (.getfield 76, 3) := by decide +kernel
theorem dX8_remember_4 : decode cX8_remember 4 = .ok (.bipush 10, 2) := by decide +kernel
theorem dX8_remember_6 : decode cX8_remember 6 = .ok (.if_icmp .lt 52, 3) := by decide +kernel
theorem dX8_remember_9 : decode cX8_remember 9 = .ok (.aload_n 0, 1) := by decide +kernel
theorem dX8_remember_10 : decode cX8_remember 10 = .ok (.getfield 47, 3) := by decide +kernel
theorem dX8_remember_13 : decode cX8_remember 13 = .ok (.iconst 0, 1) := by decide +kernel
theorem dX8_remember_14 : decode cX8_remember 14 = .ok (.aaload, 1) := by decide +kernel
theorem dX8_remember_15 : decode cX8_remember 15 = .ok (.astore_n 1, 1) := by decide +kernel
theorem dX8_remember_16 : decode cX8_remember 16 = .ok (.iconst 1, 1) := by decide +kernel
theorem dX8_remember_17 : decode cX8_remember 17 = .ok (.istore_n 2, 1) := by decide +kernel
theorem dX8_remember_18 : decode cX8_remember 18 = .ok (.iload_n 2, 1) := by decide +kernel
theorem dX8_remember_19 : decode cX8_remember 19 = .ok (.bipush 10, 2) := by decide +kernel
theorem dX8_remember_21 : decode cX8_remember 21 = .ok (.if_icmp .ge 23, 3) := by decide +kernel
theorem dX8_remember_24 : decode cX8_remember 24 = .ok (.aload_n 0, 1) := by decide +kernel
theorem dX8_remember_25 : decode cX8_remember 25 = .ok (.getfield 47, 3) := by decide +kernel
theorem dX8_remember_28 : decode cX8_remember 28 = .ok (.iload_n 2, 1) := by decide +kernel
theorem dX8_remember_29 : decode cX8_remember 29 = .ok (.iconst 1, 1) := by decide +kernel
theorem dX8_remember_30 : decode cX8_remember 30 = .ok (.isub, 1) := by decide +kernel
theorem dX8_remember_31 : decode cX8_remember 31 = .ok (.aload_n 0, 1) := by decide +kernel
theorem dX8_remember_32 : decode cX8_remember 32 = .ok (.getfield 47, 3) := by decide +kernel
theorem dX8_remember_35 : decode cX8_remember 35 = .ok (.iload_n 2, 1) := by decide +kernel
theorem dX8_remember_36 : decode cX8_remember 36 = .ok (.aaload, 1) := by decide +kernel
theorem dX8_remember_37 : decode cX8_remember 37 = .ok (.aastore, 1) := by decide +kernel
theorem dX8_remember_38 : decode cX8_remember 38 = .ok (.iinc 2 1, 3) := by decide +kernel
theorem dX8_remember_41 : decode cX8_remember 41 = .ok (.goto (-23), 3) := by decide +kernel
theorem dX8_remember_44 : decode cX8_remember 44 = .ok (.aload_n 0, 1) := by decide +kernel
theorem dX8_remember_45 : decode cX8_remember 45 = .ok (.getfield 47, 3) := by decide +kernel
theorem dX8_remember_48 : decode cX8_remember 48 = .ok (.bipush 9, 2) := by decide +kernel
theorem dX8_remember_50 : decode cX8_remember 50 = .ok (.aload_n 1, 1) := by decide +kernel
theorem dX8_remember_51 : decode cX8_remember 51 = .ok (.aastore, 1) := by decide +kernel
theorem dX8_remember_52 : decode cX8_remember 52 = .ok (.aload_n 0, 1) := by decide +kernel
theorem dX8_remember_53 : decode cX8_remember 53 = .ok (.bipush 9, 2) := by decide +kernel
theorem dX8_remember_55 : decode cX8_remember 55 = .ok (.putfield 76, 3) := by decide +kernel
theorem dX8_remember_58 : decode cX8_remember 58 = .ok (.aload_n 0, 1) := by decide +kernel
theorem dX8_remember_59 : decode cX8_remember 59 = .ok (.getfield 47, 3) := by decide +kernel
theorem dX8_remember_62 : decode cX8_remember 62 = .ok (.aload_n 0, 1) := by decide +kernel
theorem dX8_remember_63 : decode cX8_remember 63 = .ok (.getfield 76, 3) := by decide +kernel
theorem dX8_remember_66 : decode cX8_remember 66 = .ok (.aaload, 1) := by decide +kernel
theorem dX8_remember_67 : decode cX8_remember 67 = .ok (.aload_n 0, 1) := by decide +kernel
theorem dX8_remember_68 : decode cX8_remember 68 = .ok (.getfield 37, 3) := by decide +kernel
theorem dX8_remember_71 : decode cX8_remember 71 = .ok (.invokevirtual 72, 3) := by decide +kernel
theorem dX8_remember_74 : decode cX8_remember 74 = .ok (.aload_n 0, 1) := by decide +kernel
theorem dX8_remember_75 : decode cX8_remember 75 = .ok (.dup, 1) := by decide +kernel
theorem dX8_remember_76 : decode cX8_remember 76 = .ok (.getfield 76, 3) := by decide +kernel
theorem dX8_remember_79 : decode cX8_remember 79 = .ok (.iconst 1, 1) := by decide +kernel
theorem dX8_remember_80 : decode cX8_remember 80 = .ok (.iadd, 1) := by decide +kernel
theorem dX8_remember_81 : decode cX8_remember 81 = .ok (.putfield 76, 3) := by decide +kernel
theorem dX8_remember_84 : decode cX8_remember 84 = .ok (.return_, 1) := by decide +kernel
theorem dX8_existingPool_0 : decode cX8_existingPool 0 = .ok (.iload_n 1, 1) := by decide +kernel
theorem dX8_existingPool_1 : decode cX8_existingPool 1 = .ok (.ifCond .lt 14, 3) := by decide +kernel
theorem dX8_existingPool_4 : decode cX8_existingPool 4 = .ok (.iload_n 1, 1) := by decide +kernel
theorem dX8_existingPool_5 : decode cX8_existingPool 5 = .ok (.aload_n 0, 1) := by decide +kernel
theorem dX8_existingPool_6 : decode cX8_existingPool 6 = .ok (.getfield 37, 3) := by decide +kernel
theorem dX8_existingPool_9 : decode cX8_existingPool 9 = .ok (.getfield 83, 3) := by decide +kernel
theorem dX8_existingPool_12 : decode cX8_existingPool 12 = .ok (.if_icmp .lt 14, 3) := by decide +kernel
theorem dX8_existingPool_15 : decode cX8_existingPool 15 = .ok (.new 385, 3) := by decide +kernel
theorem dX8_existingPool_18 : decode cX8_existingPool 18 = .ok (.dup, 1) := by decide +kernel
theorem dX8_existingPool_19 : decode cX8_existingPool 19 = .ok (.ldc_w 387, 3) := by decide +kernel
theorem dX8_existingPool_22 : decode cX8_existingPool 22 = .ok (.invokespecial 389, 3) := by decide +kernel
theorem dX8_existingPool_25 : decode cX8_existingPool 25 = .ok (.athrow, 1) := by decide +kernel
theorem dX8_existingPool_26 : decode cX8_existingPool 26 = .ok (.aload_n 0, 1) := by decide +kernel
theorem dX8_existingPool_27 : decode cX8_existingPool 27 = .ok (.getfield 37, 3) := by decide +kernel
theorem dX8_existingPool_30 : decode cX8_existingPool 30 = .ok (.getfield 164, 3) := by decide +kernel
theorem dX8_existingPool_33 : decode cX8_existingPool 33 = .ok (.iload_n 1, 1) := by decide +kernel
theorem dX8_existingPool_34 : decode cX8_existingPool 34 = .ok (.aaload, 1) := by decide +kernel
theorem dX8_existingPool_35 : decode cX8_existingPool 35 = .ok (.areturn, 1) := by decide +kernel
theorem dX8_requireRange_0 : decode cX8_requireRange 0 = .ok (.iload_n 0, 1) := by decide +kernel
theorem dX8_requireRange_1 : decode cX8_requireRange 1 = .ok (.iload_n 1, 1) := by decide +kernel
theorem dX8_requireRange_2 : decode cX8_requireRange 2 = .ok (.if_icmp .lt 8, 3) := by decide +kernel
theorem dX8_requireRange_5 : decode cX8_requireRange 5 = .ok (.iload_n 0, 1) := by decide +kernel
theorem dX8_requireRange_6 : decode cX8_requireRange 6 = .ok (.iload_n 2, 1) := by decide +kernel
theorem dX8_requireRange_7 : decode cX8_requireRange 7 = .ok (.if_icmp .le 14, 3) := by decide +kernel
theorem dX8_requireRange_10 : decode cX8_requireRange 10 = .ok (.new 105, 3) := by decide +kernel
theorem dX8_requireRange_13 : decode cX8_requireRange 13 = .ok (.dup, 1) := by decide +kernel
theorem dX8_requireRange_14 : decode cX8_requireRange 14 = .ok (.ldc_w 390, 3) := by decide +kernel
theorem dX8_requireRange_17 : decode cX8_requireRange 17 = .ok (.invokespecial 109, 3) := by decide +kernel
theorem dX8_requireRange_20 : decode cX8_requireRange 20 = .ok (.athrow, 1) := by decide +kernel
theorem dX8_requireRange_21 : decode cX8_requireRange 21 = .ok (.return_, 1) := by decide +kernel
theorem dX8_dividedUp_0 : decode cX8_dividedUp 0 = .ok (.iload_n 1, 1) := by decide +kernel
theorem dX8_dividedUp_1 : decode cX8_dividedUp 1 = .ok (.ifCond .gt 7, 3) := by decide +kernel
theorem dX8_dividedUp_4 : decode cX8_dividedUp 4 = .ok (.iconst 0, 1) := by decide +kernel
theorem dX8_dividedUp_5 : decode cX8_dividedUp 5 = .ok (.goto 10, 3) := by decide +kernel
theorem dX8_dividedUp_8 : decode cX8_dividedUp 8 = .ok (.iload_n 0, 1) := by decide +kernel
theorem dX8_dividedUp_9 : decode cX8_dividedUp 9 = .ok (.iload_n 1, 1) := by decide +kernel
theorem dX8_dividedUp_10 : decode cX8_dividedUp 10 = .ok (.iadd, 1) := by decide +kernel
theorem dX8_dividedUp_11 : decode cX8_dividedUp 11 = .ok (.iconst 1, 1) := by decide +kernel
theorem dX8_dividedUp_12 : decode cX8_dividedUp 12 = .ok (.isub, 1) := by decide +kernel
theorem dX8_dividedUp_13 : decode cX8_dividedUp 13 = .ok (.iload_n 1, 1) := by decide +kernel
theorem dX8_dividedUp_14 : decode cX8_dividedUp 14 = .ok (.idiv, 1) := by decide +kernel
theorem dX8_dividedUp_15 : decode cX8_dividedUp 15 = .ok (.ireturn, 1) := by decide +kernel
