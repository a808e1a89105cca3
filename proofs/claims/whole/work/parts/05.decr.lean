theorem dX9_init_0 : decode cX9_init 0 = .ok (.aload_n 0, 1) := by decide +kernel
theorem dX9_init_1 : decode cX9_init 1 = .ok (.invokespecial 1, 3) := by decide +kernel
theorem dX9_init_4 : decode cX9_init 4 = .ok (.aload_n 0, 1) := by decide +kernel
theorem dX9_init_5 : decode cX9_init 5 = .ok (.sipush 964, 3) := by decide +kernel
theorem dX9_init_8 : decode cX9_init 8 = .ok (.newarray .int, 2) := by decide +kernel
theorem dX9_init_10 : decode cX9_init 10 = .ok (.putfield 7, 3) := by decide +kernel
theorem dX9_init_13 : decode cX9_init 13 = .ok (.aload_n 0, 1) := by decide +kernel
theorem dX9_init_14 : decode cX9_init 14 = .ok (.sipush 964, 3) := by decide +kernel
theorem dX9_init_17 : decode cX9_init 17 = .ok (.newarray .int, 2) := by decide +kernel
theorem dX9_init_19 : decode cX9_init 19 = .ok (.putfield 13, 3) := by decide +kernel
theorem dX9_init_22 : decode cX9_init 22 = .ok (.aload_n 0, 1) := by decide +kernel
theorem dX9_init_23 : decode cX9_init 23 = .ok (.sipush 964, 3) := by decide +kernel
theorem dX9_init_26 : decode cX9_init 26 = .ok (.newarray .int, 2) := by decide +kernel
theorem dX9_init_28 : decode cX9_init 28 = .ok (.putfield 16, 3) := by decide +kernel
theorem dX9_init_31 : decode cX9_init 31 = .ok (.aload_n 0, 1) := by decide +kernel
theorem dX9_init_32 : decode cX9_init 32 = .ok (.sipush 964, 3) := by decide +kernel
theorem dX9_init_35 : decode cX9_init 35 = .ok (.newarray .int, 2) := by decide +kernel
theorem dX9_init_37 : decode cX9_init 37 = .ok (.putfield 19, 3) := by decide +kernel
theorem dX9_init_40 : decode cX9_init 40 = .ok (.aload_n 0, 1) := by decide +kernel
theorem dX9_init_41 : decode cX9_init 41 = .ok (.sipush 9640, 3) := by decide +kernel
theorem dX9_init_44 : decode cX9_init 44 = .ok (.newarray .int, 2) := by decide +kernel
theorem dX9_init_46 : decode cX9_init 46 = .ok (.putfield 22, 3) := by decide +kernel
theorem dX9_init_49 : decode cX9_init 49 = .ok (.aload_n 0, 1) := by decide +kernel
theorem dX9_init_50 : decode cX9_init 50 = .ok (.bipush 24, 2) := by decide +kernel
theorem dX9_init_52 : decode cX9_init 52 = .ok (.newarray .long, 2) := by decide +kernel
theorem dX9_init_54 : decode cX9_init 54 = .ok (.putfield 25, 3) := by decide +kernel
theorem dX9_init_57 : decode cX9_init 57 = .ok (.aload_n 0, 1) := by decide +kernel
theorem dX9_init_58 : decode cX9_init 58 = .ok (.bipush 24, 2) := by decide +kernel
theorem dX9_init_60 : decode cX9_init 60 = .ok (.newarray .long, 2) := by decide +kernel
theorem dX9_init_62 : decode cX9_init 62 = .ok (.putfield 29, 3) := by decide +kernel
theorem dX9_init_65 : decode cX9_init 65 = .ok (.aload_n 0, 1) := by decide +kernel
theorem dX9_init_66 : decode cX9_init 66 = .ok (.bipush 24, 2) := by decide +kernel
theorem dX9_init_68 : decode cX9_init 68 = .ok (.newarray .long, 2) := by decide +kernel
theorem dX9_init_70 : decode cX9_init 70 = .ok (.putfield 32, 3) := by decide +kernel
theorem dX9_init_73 : decode cX9_init 73 = .ok (.aload_n 0, 1) := by decide +kernel
theorem dX9_init_74 : decode cX9_init 74 = .ok (.bipush 24, 2) := by decide +kernel
theorem dX9_init_76 : decode cX9_init 76 = .ok (.newarray .long, 2) := by decide +kernel
theorem dX9_init_78 : decode cX9_init 78 = .ok (.putfield 35, 3) := by decide +kernel
theorem dX9_init_81 : decode cX9_init 81 = .ok (.aload_n 0, 1) := by decide +kernel
theorem dX9_init_82 : decode cX9_init 82 = .ok (.sipush 240, 3) := by decide +kernel
theorem dX9_init_85 : decode cX9_init 85 = .ok (.newarray .long, 2) := by decide +kernel
theorem dX9_init_87 : decode cX9_init 87 = .ok (.putfield 38, 3) := by decide +kernel
theorem dX9_init_90 : decode cX9_init 90 = .ok (.aload_n 0, 1) := by decide +kernel
theorem dX9_init_91 : decode cX9_init 91 = .ok (.sipush 700, 3) := by decide +kernel
theorem dX9_init_94 : decode cX9_init 94 = .ok (.newarray .int, 2) := by decide +kernel
theorem dX9_init_96 : decode cX9_init 96 = .ok (.putfield 41, 3) := by decide +kernel
theorem dX9_init_99 : decode cX9_init 99 = .ok (.aload_n 0, 1) := by decide +kernel
theorem dX9_init_100 : decode cX9_init 100 = .ok (.iconst (-1), 1) := by decide +kernel
theorem dX9_init_101 : decode cX9_init 101 = .ok (.putfield 44, 3) := by decide +kernel
theorem dX9_init_104 : decode cX9_init 104 = .ok (.aload_n 0, 1) := by decide +kernel
theorem dX9_init_105 : decode cX9_init 105 = .ok (.iconst 3, 1) := by decide +kernel
theorem dX9_init_106 : decode cX9_init 106 = .ok (.newarray .int, 2) := by decide +kernel
theorem dX9_init_108 : decode cX9_init 108 = .ok (.putfield 48, 3) := by decide +kernel
theorem dX9_init_111 : decode cX9_init 111 = .ok (.aload_n 0, 1) := by decide +kernel
theorem dX9_init_112 : decode cX9_init 112 = .ok (.sipush 300, 3) := by decide +kernel
theorem dX9_init_115 : decode cX9_init 115 = .ok (.newarray .int, 2) := by decide +kernel
theorem dX9_init_117 : decode cX9_init 117 = .ok (.putfield 51, 3) := by decide +kernel
theorem dX9_init_120 : decode cX9_init 120 = .ok (.aload_n 0, 1) := by decide +kernel
theorem dX9_init_121 : decode cX9_init 121 = .ok (.invokevirtual 54, 3) := by decide +kernel
theorem dX9_init_124 : decode cX9_init 124 = .ok (.aload_n 0, 1) := by decide +kernel
theorem dX9_init_125 : decode cX9_init 125 = .ok (.iconst 1, 1) := by decide +kernel
theorem dX9_init_126 : decode cX9_init 126 = .ok (.iconst 4, 1) := by decide +kernel
theorem dX9_init_127 : decode cX9_init 127 = .ok (.bipush 10, 2) := by decide +kernel
theorem dX9_init_129 : decode cX9_init 129 = .ok (.invokevirtual 57, 3) := by decide +kernel
theorem dX9_init_132 : decode cX9_init 132 = .ok (.return_, 1) := by decide +kernel
theorem dX9_thrown_0 : decode cX9_thrown 0 = .ok (.aload_n 0, 1) := by decide +kernel
theorem dX9_thrown_1 : decode cX9_thrown 1 = .ok (.getfield 61, 3) := by decide +kernel
theorem dX9_thrown_4 : decode cX9_thrown 4 = .ok (.ireturn, 1) := by decide +kernel
theorem dX9_inRange_0 : decode cX9_inRange 0 = .ok (.iload_n 0, 1) := by decide +kernel
theorem dX9_inRange_1 : decode cX9_inRange 1 = .ok (.iload_n 1, 1) := by decide +kernel
theorem dX9_inRange_2 : decode cX9_inRange 2 = .ok (.if_icmp .lt 12, 3) := by decide +kernel
theorem dX9_inRange_5 : decode cX9_inRange 5 = .ok (.iload_n 0, 1) := by decide +kernel
theorem dX9_inRange_6 : decode cX9_inRange 6 = .ok (.iload_n 2, 1) := by decide +kernel
theorem dX9_inRange_7 : decode cX9_inRange 7 = .ok (.if_icmp .gt 7, 3) := by decide +kernel
theorem dX9_inRange_10 : decode cX9_inRange 10 = .ok (.iconst 1, 1) := by decide +kernel
theorem dX9_inRange_11 : decode cX9_inRange 11 = .ok (.goto 4, 3) := by decide +kernel
theorem dX9_inRange_14 : decode cX9_inRange 14 = .ok (.iconst 0, 1) := by decide +kernel
theorem dX9_inRange_15 : decode cX9_inRange 15 = .ok (.ireturn, 1) := by decide +kernel
theorem dX9_fails_0 : decode cX9_fails 0 = .ok (.iload_n 1, 1) := by decide +kernel
theorem dX9_fails_1 : decode cX9_fails 1 = .ok (.ifCond .eq 8, 3) := by decide +kernel
theorem dX9_fails_4 : decode cX9_fails 4 = .ok (.aload_n 0, 1) := by decide +kernel
theorem dX9_fails_5 : decode cX9_fails 5 = .ok (.iload_n 2, 1) := by decide +kernel
theorem dX9_fails_6 : decode cX9_fails 6 = .ok (.putfield 61, 3) := by decide +kernel
theorem dX9_fails_9 : decode cX9_fails 9 = .ok (.iload_n 1, 1) := by decide +kernel
theorem dX9_fails_10 : decode cX9_fails 10 = .ok (.ireturn, 1) := by decide +kernel
theorem dX9_copies_0 : decode cX9_copies 0 = .ok (.iconst 0, 1) := by decide +kernel
theorem dX9_copies_1 : decode cX9_copies 1 = .ok (.istore 4, 2) := by decide +kernel
theorem dX9_copies_3 : decode cX9_copies 3 = .ok (.iload 4, 2) := by decide +kernel
theorem dX9_copies_5 : decode cX9_copies 5 = .ok (.sipush 964, 3) := by decide +kernel
theorem dX9_copies_8 : decode cX9_copies 8 = .ok (.if_icmp .ge 21, 3) := by decide +kernel
theorem dX9_copies_11 : decode cX9_copies 11 = .ok (.aload_n 2, 1) := by decide +kernel
theorem dX9_copies_12 : decode cX9_copies 12 = .ok (.iload_n 3, 1) := by decide +kernel
theorem dX9_copies_13 : decode cX9_copies 13 = .ok (.iload 4, 2) := by decide +kernel
theorem dX9_copies_15 : decode cX9_copies 15 = .ok (.iadd, 1) := by decide +kernel
theorem dX9_copies_16 : decode cX9_copies 16 = .ok (.aload_n 0, 1) := by decide +kernel
theorem dX9_copies_17 : decode cX9_copies 17 = .ok (.iload_n 1, 1) := by decide +kernel
theorem dX9_copies_18 : decode cX9_copies 18 = .ok (.iload 4, 2) := by decide +kernel
theorem dX9_copies_20 : decode cX9_copies 20 = .ok (.iadd, 1) := by decide +kernel
theorem dX9_copies_21 : decode cX9_copies 21 = .ok (.iaload, 1) := by decide +kernel
theorem dX9_copies_22 : decode cX9_copies 22 = .ok (.iastore, 1) := by decide +kernel
theorem dX9_copies_23 : decode cX9_copies 23 = .ok (.iinc 4 1, 3) := by decide +kernel
theorem dX9_copies_26 : decode cX9_copies 26 = .ok (.goto (-23), 3) := by decide +kernel
theorem dX9_copies_29 : decode cX9_copies 29 = .ok (.return_, 1) := by decide +kernel
theorem dX9_copies__0 : decode cX9_copies_ 0 = .ok (.iconst 0, 1) := by decide +kernel
theorem dX9_copies__1 : decode cX9_copies_ 1 = .ok (.istore 4, 2) := by decide +kernel
theorem dX9_copies__3 : decode cX9_copies_ 3 = .ok (.iload 4, 2) := by decide +kernel
theorem dX9_copies__5 : decode cX9_copies_ 5 = .ok (.bipush 24, 2) := by decide +kernel
theorem dX9_copies__7 : decode cX9_copies_ 7 = .ok (.if_icmp .ge 21, 3) := by decide +kernel
theorem dX9_copies__10 : decode cX9_copies_ 10 = .ok (.aload_n 2, 1) := by decide +kernel
theorem dX9_copies__11 : decode cX9_copies_ 11 = .ok (.iload_n 3, 1) := by decide +kernel
theorem dX9_copies__12 : decode cX9_copies_ 12 = .ok (.iload 4, 2) := by decide +kernel
theorem dX9_copies__14 : decode cX9_copies_ 14 = .ok (.iadd, 1) := by decide +kernel
theorem dX9_copies__15 : decode cX9_copies_ 15 = .ok (.aload_n 0, 1) := by decide +kernel
theorem dX9_copies__16 : decode cX9_copies_ 16 = .ok (.iload_n 1, 1) := by decide +kernel
theorem dX9_copies__17 : decode cX9_copies_ 17 = .ok (.iload 4, 2) := by decide +kernel
theorem dX9_copies__19 : decode cX9_copies_ 19 = .ok (.iadd, 1) := by decide +kernel
theorem dX9_copies__20 : decode cX9_copies_ 20 = .ok (.laload, 1) := by decide +kernel
theorem dX9_copies__21 : decode cX9_copies_ 21 = .ok (.lastore, 1) := by decide +kernel
theorem dX9_copies__22 : decode cX9_copies_ 22 = .ok (.iinc 4 1, 3) := by decide +kernel
theorem dX9_copies__25 : decode cX9_copies_ 25 = .ok (.goto (-22), 3) := by decide +kernel
theorem dX9_copies__28 : decode cX9_copies_ 28 = .ok (.return_, 1) := by decide +kernel
theorem dX9_clear_0 : decode cX9_clear 0 = .ok (.iconst 0, 1) := by decide +kernel
theorem dX9_clear_1 : decode cX9_clear 1 = .ok (.istore_n 1, 1) := by decide +kernel
theorem dX9_clear_2 : decode cX9_clear 2 = .ok (.iload_n 1, 1) := by decide +kernel
theorem dX9_clear_3 : decode cX9_clear 3 = .ok (.sipush 964, 3) := by decide +kernel
theorem dX9_clear_6 : decode cX9_clear 6 = .ok (.if_icmp .ge 16, 3) := by decide +kernel
theorem dX9_clear_9 : decode cX9_clear 9 = .ok (.aload_n 0, 1) := by decide +kernel
theorem dX9_clear_10 : decode cX9_clear 10 = .ok (.getfield 7, 3) := by decide +kernel
theorem dX9_clear_13 : decode cX9_clear 13 = .ok (.iload_n 1, 1) := by decide +kernel
theorem dX9_clear_14 : decode cX9_clear 14 = .ok (.iconst 0, 1) := by decide +kernel
theorem dX9_clear_15 : decode cX9_clear 15 = .ok (.iastore, 1) := by decide +kernel
theorem dX9_clear_16 : decode cX9_clear 16 = .ok (.iinc 1 1, 3) := by decide +kernel
theorem dX9_clear_19 : decode cX9_clear 19 = .ok (.goto (-17), 3) := by decide +kernel
theorem dX9_clear_22 : decode cX9_clear 22 = .ok (.iconst 0, 1) := by decide +kernel
theorem dX9_clear_23 : decode cX9_clear 23 = .ok (.istore_n 1, 1) := by decide +kernel
theorem dX9_clear_24 : decode cX9_clear 24 = .ok (.iload_n 1, 1) := by decide +kernel
theorem dX9_clear_25 : decode cX9_clear 25 = .ok (.bipush 24, 2) := by decide +kernel
theorem dX9_clear_27 : decode cX9_clear 27 = .ok (.if_icmp .ge 16, 3) := by decide +kernel
theorem dX9_clear_30 : decode cX9_clear 30 = .ok (.aload_n 0, 1) := by decide +kernel
theorem dX9_clear_31 : decode cX9_clear 31 = .ok (.getfield 25, 3) := by decide +kernel
theorem dX9_clear_34 : decode cX9_clear 34 = .ok (.iload_n 1, 1) := by decide +kernel
theorem dX9_clear_35 : decode cX9_clear 35 = .ok (.lconst 0, 1) := by decide +kernel
theorem dX9_clear_36 : decode cX9_clear 36 = .ok (.lastore, 1) := by decide +kernel
theorem dX9_clear_37 : decode cX9_clear 37 = .ok (.iinc 1 1, 3) := by decide +kernel
theorem dX9_clear_40 : decode cX9_clear 40 = .ok (.goto (-16), 3) := by decide +kernel
theorem dX9_clear_43 : decode cX9_clear 43 = .ok (.return_, 1) := by decide +kernel
theorem dX9_up_0 : decode cX9_up 0 = .ok (.iload_n 0, 1) := by decide +kernel
theorem dX9_up_1 : decode cX9_up 1 = .ok (.iload_n 1, 1) := by decide +kernel
theorem dX9_up_2 : decode cX9_up 2 = .ok (.iadd, 1) := by decide +kernel
theorem dX9_up_3 : decode cX9_up 3 = .ok (.iconst 1, 1) := by decide +kernel
theorem dX9_up_4 : decode cX9_up 4 = .ok (.isub, 1) := by decide +kernel
theorem dX9_up_5 : decode cX9_up 5 = .ok (.iload_n 1, 1) := by decide +kernel
theorem dX9_up_6 : decode cX9_up 6 = .ok (.idiv, 1) := by decide +kernel
theorem dX9_up_7 : decode cX9_up 7 = .ok (.ireturn, 1) := by decide +kernel
theorem dX9_of_0 : decode cX9_of 0 = .ok (.aload_n 0, 1) := by decide +kernel
theorem dX9_of_1 : decode cX9_of 1 = .ok (.getfield 7, 3) := by decide +kernel
theorem dX9_of_4 : decode cX9_of 4 = .ok (.sipush 244, 3) := by decide +kernel
theorem dX9_of_7 : decode cX9_of 7 = .ok (.sipush 180, 3) := by decide +kernel
theorem dX9_of_10 : decode cX9_of 10 = .ok (.iload_n 1, 1) := by decide +kernel
theorem dX9_of_11 : decode cX9_of 11 = .ok (.imul, 1) := by decide +kernel
theorem dX9_of_12 : decode cX9_of 12 = .ok (.iadd, 1) := by decide +kernel
theorem dX9_of_13 : decode cX9_of 13 = .ok (.iload_n 2, 1) := by decide +kernel
theorem dX9_of_14 : decode cX9_of 14 = .ok (.iadd, 1) := by decide +kernel
theorem dX9_of_15 : decode cX9_of 15 = .ok (.iaload, 1) := by decide +kernel
theorem dX9_of_16 : decode cX9_of 16 = .ok (.ireturn, 1) := by decide +kernel
theorem dX9_put_0 : decode cX9_put 0 = .ok (.aload_n 0, 1) := by decide +kernel
theorem dX9_put_1 : decode cX9_put 1 = .ok (.getfield 7, 3) := by decide +kernel
theorem dX9_put_4 : decode cX9_put 4 = .ok (.sipush 244, 3) := by decide +kernel
theorem dX9_put_7 : decode cX9_put 7 = .ok (.sipush 180, 3) := by decide +kernel
theorem dX9_put_10 : decode cX9_put 10 = .ok (.iload_n 1, 1) := by decide +kernel
theorem dX9_put_11 : decode cX9_put 11 = .ok (.imul, 1) := by decide +kernel
theorem dX9_put_12 : decode cX9_put 12 = .ok (.iadd, 1) := by decide +kernel
theorem dX9_put_13 : decode cX9_put 13 = .ok (.iload_n 2, 1) := by decide +kernel
theorem dX9_put_14 : decode cX9_put 14 = .ok (.iadd, 1) := by decide +kernel
theorem dX9_put_15 : decode cX9_put 15 = .ok (.iload_n 3, 1) := by decide +kernel
theorem dX9_put_16 : decode cX9_put 16 = .ok (.iastore, 1) := by decide +kernel
theorem dX9_put_17 : decode cX9_put 17 = .ok (.return_, 1) := by decide +kernel
theorem dX9_adds_0 : decode cX9_adds 0 = .ok (.aload_n 0, 1) := by decide +kernel
theorem dX9_adds_1 : decode cX9_adds 1 = .ok (.getfield 7, 3) := by decide +kernel
theorem dX9_adds_4 : decode cX9_adds 4 = .ok (.sipush 244, 3) := by decide +kernel
theorem dX9_adds_7 : decode cX9_adds 7 = .ok (.sipush 180, 3) := by decide +kernel
theorem dX9_adds_10 : decode cX9_adds 10 = .ok (.iload_n 1, 1) := by decide +kernel
theorem dX9_adds_11 : decode cX9_adds 11 = .ok (.imul, 1) := by decide +kernel
theorem dX9_adds_12 : decode cX9_adds 12 = .ok (.iadd, 1) := by decide +kernel
theorem dX9_adds_13 : decode cX9_adds 13 = .ok (.iload_n 2, 1) := by decide +kernel
theorem dX9_adds_14 : decode cX9_adds 14 = .ok (.iadd, 1) := by decide +kernel
theorem dX9_adds_15 : decode cX9_adds 15 = .ok (.dup2, 1) := by decide +kernel
theorem dX9_adds_16 : decode cX9_adds 16 = .ok (.iaload, 1) := by decide +kernel
theorem dX9_adds_17 : decode cX9_adds 17 = .ok (.iload_n 3, 1) := by decide +kernel
theorem dX9_adds_18 : decode cX9_adds 18 = .ok (.iadd, 1) := by decide +kernel
theorem dX9_adds_19 : decode cX9_adds 19 = .ok (.iastore, 1) := by decide +kernel
theorem dX9_adds_20 : decode cX9_adds 20 = .ok (.return_, 1) := by decide +kernel
theorem dX9_sumOf_0 : decode cX9_sumOf 0 = .ok (.aload_n 0, 1) := by decide +kernel
theorem dX9_sumOf_1 : decode cX9_sumOf 1 = .ok (.getfield 25, 3) := by decide +kernel
theorem dX9_sumOf_4 : decode cX9_sumOf 4 = .ok (.bipush 6, 2) := by decide +kernel
theorem dX9_sumOf_6 : decode cX9_sumOf 6 = .ok (.iload_n 1, 1) := by decide +kernel
theorem dX9_sumOf_7 : decode cX9_sumOf 7 = .ok (.imul, 1) := by decide +kernel
theorem dX9_sumOf_8 : decode cX9_sumOf 8 = .ok (.iload_n 2, 1) := by decide +kernel
theorem dX9_sumOf_9 : decode cX9_sumOf 9 = .ok (.iadd, 1) := by decide +kernel
theorem dX9_sumOf_10 : decode cX9_sumOf 10 = .ok (.laload, 1) := by decide +kernel
theorem dX9_sumOf_11 : decode cX9_sumOf 11 = .ok (.lreturn, 1) := by decide +kernel
theorem dX9_comesPool_0 : decode cX9_comesPool 0 = .ok (.aload_n 0, 1) := by decide +kernel
theorem dX9_comesPool_1 : decode cX9_comesPool 1 = .ok (.getfield 7, 3) := by decide +kernel
theorem dX9_comesPool_4 : decode cX9_comesPool 4 = .ok (.iconst 0, 1) := by decide +kernel
theorem dX9_comesPool_5 : decode cX9_comesPool 5 = .ok (.iaload, 1) := by decide +kernel
theorem dX9_comesPool_6 : decode cX9_comesPool 6 = .ok (.istore 4, 2) := by decide +kernel
theorem dX9_comesPool_8 : decode cX9_comesPool 8 = .ok (.aload_n 0, 1) := by decide +kernel
theorem dX9_comesPool_9 : decode cX9_comesPool 9 = .ok (.getfield 7, 3) := by decide +kernel
theorem dX9_comesPool_12 : decode cX9_comesPool 12 = .ok (.iconst 0, 1) := by decide +kernel
theorem dX9_comesPool_13 : decode cX9_comesPool 13 = .ok (.dup2, 1) := by decide +kernel
theorem dX9_comesPool_14 : decode cX9_comesPool 14 = .ok (.iaload, 1) := by decide +kernel
theorem dX9_comesPool_15 : decode cX9_comesPool 15 = .ok (.iconst 1, 1) := by decide +kernel
theorem dX9_comesPool_16 : decode cX9_comesPool 16 = .ok (.iadd, 1) := by decide +kernel
theorem dX9_comesPool_17 : decode cX9_comesPool 17 = .ok (.iastore, 1) := by decide +kernel
theorem dX9_comesPool_18 : decode cX9_comesPool 18 = .ok (.aload_n 0, 1) := by decide +kernel
theorem dX9_comesPool_19 : decode cX9_comesPool 19 = .ok (.iload 4, 2) := by decide +kernel
theorem dX9_comesPool_21 : decode cX9_comesPool 21 = .ok (.iconst 0, 1) := by decide +kernel
theorem dX9_comesPool_22 : decode cX9_comesPool 22 = .ok (.iload_n 1, 1) := by decide +kernel
theorem dX9_comesPool_23 : decode cX9_comesPool 23 = .ok (.invokevirtual 64, 3) := by decide +kernel
theorem dX9_comesPool_26 : decode cX9_comesPool 26 = .ok (.aload_n 0, 1) := by decide +kernel
theorem dX9_comesPool_27 : decode cX9_comesPool 27 = .ok (.iload 4, 2) := by decide +kernel
theorem dX9_comesPool_29 : decode cX9_comesPool 29 = .ok (.iconst 1, 1) := by decide +kernel
theorem dX9_comesPool_30 : decode cX9_comesPool 30 = .ok (.iload_n 2, 1) := by decide +kernel
theorem dX9_comesPool_31 : decode cX9_comesPool 31 = .ok (.invokevirtual 64, 3) := by decide +kernel
theorem dX9_comesPool_34 : decode cX9_comesPool 34 = .ok (.aload_n 0, 1) := by decide +kernel
theorem dX9_comesPool_35 : decode cX9_comesPool 35 = .ok (.iload 4, 2) := by decide +kernel
theorem dX9_comesPool_37 : decode cX9_comesPool 37 = .ok (.iconst 2, 1) := by decide +kernel
theorem dX9_comesPool_38 : decode cX9_comesPool 38 = .ok (.iload_n 3, 1) := by decide +kernel
theorem dX9_comesPool_39 : decode cX9_comesPool 39 = .ok (.invokevirtual 64, 3) := by decide +kernel
theorem dX9_comesPool_42 : decode cX9_comesPool 42 = .ok (.aload_n 0, 1) := by decide +kernel
theorem dX9_comesPool_43 : decode cX9_comesPool 43 = .ok (.iload 4, 2) := by decide +kernel
theorem dX9_comesPool_45 : decode cX9_comesPool 45 = .ok (.iconst 3, 1) := by decide +kernel
theorem dX9_comesPool_46 : decode cX9_comesPool 46 = .ok (.bipush 70, 2) := by decide +kernel
theorem dX9_comesPool_48 : decode cX9_comesPool 48 = .ok (.invokevirtual 64, 3) := by decide +kernel
theorem dX9_comesPool_51 : decode cX9_comesPool 51 = .ok (.aload_n 0, 1) := by decide +kernel
theorem dX9_comesPool_52 : decode cX9_comesPool 52 = .ok (.iload 4, 2) := by decide +kernel
theorem dX9_comesPool_54 : decode cX9_comesPool 54 = .ok (.iconst 4, 1) := by decide +kernel
theorem dX9_comesPool_55 : decode cX9_comesPool 55 = .ok (.iconst 2, 1) := by decide +kernel
theorem dX9_comesPool_56 : decode cX9_comesPool 56 = .ok (.invokevirtual 64, 3) := by decide +kernel
theorem dX9_comesPool_59 : decode cX9_comesPool 59 = .ok (.aload_n 0, 1) := by decide +kernel
theorem dX9_comesPool_60 : decode cX9_comesPool 60 = .ok (.iload 4, 2) := by decide +kernel
theorem dX9_comesPool_62 : decode cX9_comesPool 62 = .ok (.iconst 5, 1) := by decide +kernel
theorem dX9_comesPool_63 : decode cX9_comesPool 63 = .ok (.iconst 4, 1) := by decide +kernel
theorem dX9_comesPool_64 : decode cX9_comesPool 64 = .ok (.invokevirtual 64, 3) := by decide +kernel
theorem dX9_comesPool_67 : decode cX9_comesPool 67 = .ok (.aload_n 0, 1) := by decide +kernel
theorem dX9_comesPool_68 : decode cX9_comesPool 68 = .ok (.iload 4, 2) := by decide +kernel
theorem dX9_comesPool_70 : decode cX9_comesPool 70 = .ok (.bipush 6, 2) := by decide +kernel
theorem dX9_comesPool_72 : decode cX9_comesPool 72 = .ok (.iconst 2, 1) := by decide +kernel
theorem dX9_comesPool_73 : decode cX9_comesPool 73 = .ok (.invokevirtual 64, 3) := by decide +kernel
theorem dX9_comesPool_76 : decode cX9_comesPool 76 = .ok (.aload_n 0, 1) := by decide +kernel
theorem dX9_comesPool_77 : decode cX9_comesPool 77 = .ok (.iload 4, 2) := by decide +kernel
theorem dX9_comesPool_79 : decode cX9_comesPool 79 = .ok (.bipush 10, 2) := by decide +kernel
theorem dX9_comesPool_81 : decode cX9_comesPool 81 = .ok (.iconst 1, 1) := by decide +kernel
theorem dX9_comesPool_82 : decode cX9_comesPool 82 = .ok (.invokevirtual 64, 3) := by decide +kernel
theorem dX9_comesPool_85 : decode cX9_comesPool 85 = .ok (.aload_n 0, 1) := by decide +kernel
theorem dX9_comesPool_86 : decode cX9_comesPool 86 = .ok (.iload 4, 2) := by decide +kernel
theorem dX9_comesPool_88 : decode cX9_comesPool 88 = .ok (.bipush 11, 2) := by decide +kernel
theorem dX9_comesPool_90 : decode cX9_comesPool 90 = .ok (.iconst 1, 1) := by decide +kernel
theorem dX9_comesPool_91 : decode cX9_comesPool 91 = .ok (.invokevirtual 64, 3) := by decide +kernel
theorem dX9_comesPool_94 : decode cX9_comesPool 94 = .ok (.aload_n 0, 1) := by decide +kernel
theorem dX9_comesPool_95 : decode cX9_comesPool 95 = .ok (.iload 4, 2) := by decide +kernel
theorem dX9_comesPool_97 : decode cX9_comesPool 97 = .ok (.bipush 12, 2) := by decide +kernel
theorem dX9_comesPool_99 : decode cX9_comesPool 99 = .ok (.iconst 3, 1) := by decide +kernel
theorem dX9_comesPool_100 : decode cX9_comesPool 100 = .ok (.invokevirtual 64, 3) := by decide +kernel
theorem dX9_comesPool_103 : decode cX9_comesPool 103 = .ok (.aload_n 0, 1) := by decide +kernel
theorem dX9_comesPool_104 : decode cX9_comesPool 104 = .ok (.iload 4, 2) := by decide +kernel
theorem dX9_comesPool_106 : decode cX9_comesPool 106 = .ok (.bipush 13, 2) := by decide +kernel
theorem dX9_comesPool_108 : decode cX9_comesPool 108 = .ok (.iconst 5, 1) := by decide +kernel
theorem dX9_comesPool_109 : decode cX9_comesPool 109 = .ok (.invokevirtual 64, 3) := by decide +kernel
theorem dX9_comesPool_112 : decode cX9_comesPool 112 = .ok (.aload_n 0, 1) := by decide +kernel
theorem dX9_comesPool_113 : decode cX9_comesPool 113 = .ok (.iload 4, 2) := by decide +kernel
theorem dX9_comesPool_115 : decode cX9_comesPool 115 = .ok (.bipush 14, 2) := by decide +kernel
theorem dX9_comesPool_117 : decode cX9_comesPool 117 = .ok (.iconst 1, 1) := by decide +kernel
theorem dX9_comesPool_118 : decode cX9_comesPool 118 = .ok (.invokevirtual 64, 3) := by decide +kernel
theorem dX9_comesPool_121 : decode cX9_comesPool 121 = .ok (.aload_n 0, 1) := by decide +kernel
theorem dX9_comesPool_122 : decode cX9_comesPool 122 = .ok (.iload 4, 2) := by decide +kernel
theorem dX9_comesPool_124 : decode cX9_comesPool 124 = .ok (.bipush 15, 2) := by decide +kernel
theorem dX9_comesPool_126 : decode cX9_comesPool 126 = .ok (.iconst 1, 1) := by decide +kernel
theorem dX9_comesPool_127 : decode cX9_comesPool 127 = .ok (.invokevirtual 64, 3) := by decide +kernel
theorem dX9_comesPool_130 : decode cX9_comesPool 130 = .ok (.aload_n 0, 1) := by decide +kernel
theorem dX9_comesPool_131 : decode cX9_comesPool 131 = .ok (.iload 4, 2) := by decide +kernel
theorem dX9_comesPool_133 : decode cX9_comesPool 133 = .ok (.bipush 17, 2) := by decide +kernel
theorem dX9_comesPool_135 : decode cX9_comesPool 135 = .ok (.iconst (-1), 1) := by decide +kernel
theorem dX9_comesPool_136 : decode cX9_comesPool 136 = .ok (.invokevirtual 64, 3) := by decide +kernel
theorem dX9_comesPool_139 : decode cX9_comesPool 139 = .ok (.aload_n 0, 1) := by decide +kernel
theorem dX9_comesPool_140 : decode cX9_comesPool 140 = .ok (.iload 4, 2) := by decide +kernel
theorem dX9_comesPool_142 : decode cX9_comesPool 142 = .ok (.bipush 18, 2) := by decide +kernel
theorem dX9_comesPool_144 : decode cX9_comesPool 144 = .ok (.iconst (-1), 1) := by decide +kernel
theorem dX9_comesPool_145 : decode cX9_comesPool 145 = .ok (.invokevirtual 64, 3) := by decide +kernel
theorem dX9_comesPool_148 : decode cX9_comesPool 148 = .ok (.aload_n 0, 1) := by decide +kernel
theorem dX9_comesPool_149 : decode cX9_comesPool 149 = .ok (.iload 4, 2) := by decide +kernel
theorem dX9_comesPool_151 : decode cX9_comesPool 151 = .ok (.bipush 19, 2) := by decide +kernel
theorem dX9_comesPool_153 : decode cX9_comesPool 153 = .ok (.iconst (-1), 1) := by decide +kernel
theorem dX9_comesPool_154 : decode cX9_comesPool 154 = .ok (.invokevirtual 64, 3) := by decide +kernel
theorem dX9_comesPool_157 : decode cX9_comesPool 157 = .ok (.aload_n 0, 1) := by decide +kernel
theorem dX9_comesPool_158 : decode cX9_comesPool 158 = .ok (.iload 4, 2) := by decide +kernel
theorem dX9_comesPool_160 : decode cX9_comesPool 160 = .ok (.bipush 21, 2) := by decide +kernel
theorem dX9_comesPool_162 : decode cX9_comesPool 162 = .ok (.sipush (-1000), 3) := by decide +kernel
theorem dX9_comesPool_165 : decode cX9_comesPool 165 = .ok (.invokevirtual 64, 3) := by decide +kernel
theorem dX9_comesPool_168 : decode cX9_comesPool 168 = .ok (.aload_n 0, 1) := by decide +kernel
theorem dX9_comesPool_169 : decode cX9_comesPool 169 = .ok (.iload 4, 2) := by decide +kernel
theorem dX9_comesPool_171 : decode cX9_comesPool 171 = .ok (.bipush 22, 2) := by decide +kernel
theorem dX9_comesPool_173 : decode cX9_comesPool 173 = .ok (.sipush (-1000), 3) := by decide +kernel
theorem dX9_comesPool_176 : decode cX9_comesPool 176 = .ok (.invokevirtual 64, 3) := by decide +kernel
theorem dX9_comesPool_179 : decode cX9_comesPool 179 = .ok (.iconst 0, 1) := by decide +kernel
theorem dX9_comesPool_180 : decode cX9_comesPool 180 = .ok (.istore 5, 2) := by decide +kernel
theorem dX9_comesPool_182 : decode cX9_comesPool 182 = .ok (.iload 5, 2) := by decide +kernel
theorem dX9_comesPool_184 : decode cX9_comesPool 184 = .ok (.iload_n 1, 1) := by decide +kernel
theorem dX9_comesPool_185 : decode cX9_comesPool 185 = .ok (.if_icmp .ge 18, 3) := by decide +kernel
theorem dX9_comesPool_188 : decode cX9_comesPool 188 = .ok (.aload_n 0, 1) := by decide +kernel
theorem dX9_comesPool_189 : decode cX9_comesPool 189 = .ok (.iload 4, 2) := by decide +kernel
theorem dX9_comesPool_191 : decode cX9_comesPool 191 = .ok (.iconst 0, 1) := by decide +kernel
theorem dX9_comesPool_192 : decode cX9_comesPool 192 = .ok (.iconst 0, 1) := by decide +kernel
theorem dX9_comesPool_193 : decode cX9_comesPool 193 = .ok (.invokevirtual 67, 3) := by decide +kernel
theorem dX9_comesPool_196 : decode cX9_comesPool 196 = .ok (.pop, 1) := by decide +kernel
theorem dX9_comesPool_197 : decode cX9_comesPool 197 = .ok (.iinc 5 1, 3) := by decide +kernel
theorem dX9_comesPool_200 : decode cX9_comesPool 200 = .ok (.goto (-18), 3) := by decide +kernel
theorem dX9_comesPool_203 : decode cX9_comesPool 203 = .ok (.return_, 1) := by decide +kernel
theorem dX9_remembers_0 : decode cX9_remembers 0 = .ok (.aload_n 0, 1) := by decide +kernel
theorem dX9_remembers_1 : decode cX9_remembers 1 = .ok (.getfield 71, 3) := by decide +kernel
theorem dX9_remembers_4 : decode cX9_remembers 4 = .ok (.bipush 10, 2) := by decide +kernel
theorem dX9_remembers_6 : decode cX9_remembers 6 = .ok (.if_icmp .ne 71, 3) := by decide +kernel
theorem dX9_remembers_9 : decode cX9_remembers 9 = .ok (.iconst 1, 1) := by decide +kernel
theorem dX9_remembers_10 : decode cX9_remembers 10 = .ok (.istore_n 1, 1) := by decide +kernel
theorem dX9_remembers_11 : decode cX9_remembers 11 = .ok (.iload_n 1, 1) := by decide +kernel
theorem dX9_remembers_12 : decode cX9_remembers 12 = .ok (.bipush 10, 2) := by decide +kernel
theorem dX9_remembers_14 : decode cX9_remembers 14 = .ok (.if_icmp .ge 53, 3) := by decide +kernel
theorem dX9_remembers_17 : decode cX9_remembers 17 = .ok (.aload_n 0, 1) := by decide +kernel
theorem dX9_remembers_18 : decode cX9_remembers 18 = .ok (.getfield 22, 3) := by decide +kernel
theorem dX9_remembers_21 : decode cX9_remembers 21 = .ok (.sipush 964, 3) := by decide +kernel
theorem dX9_remembers_24 : decode cX9_remembers 24 = .ok (.iload_n 1, 1) := by decide +kernel
theorem dX9_remembers_25 : decode cX9_remembers 25 = .ok (.imul, 1) := by decide +kernel
theorem dX9_remembers_26 : decode cX9_remembers 26 = .ok (.aload_n 0, 1) := by decide +kernel
theorem dX9_remembers_27 : decode cX9_remembers 27 = .ok (.getfield 22, 3) := by decide +kernel
theorem dX9_remembers_30 : decode cX9_remembers 30 = .ok (.sipush 964, 3) := by decide +kernel
theorem dX9_remembers_33 : decode cX9_remembers 33 = .ok (.iload_n 1, 1) := by decide +kernel
theorem dX9_remembers_34 : decode cX9_remembers 34 = .ok (.iconst 1, 1) := by decide +kernel
theorem dX9_remembers_35 : decode cX9_remembers 35 = .ok (.isub, 1) := by decide +kernel
theorem dX9_remembers_36 : decode cX9_remembers 36 = .ok (.imul, 1) := by decide +kernel
theorem dX9_remembers_37 : decode cX9_remembers 37 = .ok (.invokestatic 74, 3) := by decide +kernel
theorem dX9_remembers_40 : decode cX9_remembers 40 = .ok (.aload_n 0, 1) := by decide +kernel
theorem dX9_remembers_41 : decode cX9_remembers 41 = .ok (.getfield 38, 3) := by decide +kernel
theorem dX9_remembers_44 : decode cX9_remembers 44 = .ok (.bipush 24, 2) := by decide +kernel
theorem dX9_remembers_46 : decode cX9_remembers 46 = .ok (.iload_n 1, 1) := by decide +kernel
theorem dX9_remembers_47 : decode cX9_remembers 47 = .ok (.imul, 1) := by decide +kernel
theorem dX9_remembers_48 : decode cX9_remembers 48 = .ok (.aload_n 0, 1) := by decide +kernel
theorem dX9_remembers_49 : decode cX9_remembers 49 = .ok (.getfield 38, 3) := by decide +kernel
theorem dX9_remembers_52 : decode cX9_remembers 52 = .ok (.bipush 24, 2) := by decide +kernel
theorem dX9_remembers_54 : decode cX9_remembers 54 = .ok (.iload_n 1, 1) := by decide +kernel
theorem dX9_remembers_55 : decode cX9_remembers 55 = .ok (.iconst 1, 1) := by decide +kernel
theorem dX9_remembers_56 : decode cX9_remembers 56 = .ok (.isub, 1) := by decide +kernel
theorem dX9_remembers_57 : decode cX9_remembers 57 = .ok (.imul, 1) := by decide +kernel
theorem dX9_remembers_58 : decode cX9_remembers 58 = .ok (.invokestatic 78, 3) := by decide +kernel
theorem dX9_remembers_61 : decode cX9_remembers 61 = .ok (.iinc 1 1, 3) := by decide +kernel
theorem dX9_remembers_64 : decode cX9_remembers 64 = .ok (.goto (-53), 3) := by decide +kernel
theorem dX9_remembers_67 : decode cX9_remembers 67 = .ok (.aload_n 0, 1) := by decide +kernel
theorem dX9_remembers_68 : decode cX9_remembers 68 = .ok (.dup, 1) := by decide +kernel
theorem dX9_remembers_69 : decode cX9_remembers 69 = .ok (.getfield 71, 3) := by decide +kernel
theorem dX9_remembers_72 : decode cX9_remembers 72 = .ok (.iconst 1, 1) := by decide +kernel
theorem dX9_remembers_73 : decode cX9_remembers 73 = .ok (.isub, 1) := by decide +kernel
theorem dX9_remembers_74 : decode cX9_remembers 74 = .ok (.putfield 71, 3) := by decide +kernel
theorem dX9_remembers_77 : decode cX9_remembers 77 = .ok (.aload_n 0, 1) := by decide +kernel
theorem dX9_remembers_78 : decode cX9_remembers 78 = .ok (.getfield 7, 3) := by decide +kernel
theorem dX9_remembers_81 : decode cX9_remembers 81 = .ok (.iconst 0, 1) := by decide +kernel
theorem dX9_remembers_82 : decode cX9_remembers 82 = .ok (.aload_n 0, 1) := by decide +kernel
theorem dX9_remembers_83 : decode cX9_remembers 83 = .ok (.getfield 22, 3) := by decide +kernel
theorem dX9_remembers_86 : decode cX9_remembers 86 = .ok (.sipush 964, 3) := by decide +kernel
theorem dX9_remembers_89 : decode cX9_remembers 89 = .ok (.aload_n 0, 1) := by decide +kernel
theorem dX9_remembers_90 : decode cX9_remembers 90 = .ok (.getfield 71, 3) := by decide +kernel
theorem dX9_remembers_93 : decode cX9_remembers 93 = .ok (.imul, 1) := by decide +kernel
theorem dX9_remembers_94 : decode cX9_remembers 94 = .ok (.invokestatic 74, 3) := by decide +kernel
theorem dX9_remembers_97 : decode cX9_remembers 97 = .ok (.aload_n 0, 1) := by decide +kernel
theorem dX9_remembers_98 : decode cX9_remembers 98 = .ok (.getfield 25, 3) := by decide +kernel
theorem dX9_remembers_101 : decode cX9_remembers 101 = .ok (.iconst 0, 1) := by decide +kernel
theorem dX9_remembers_102 : decode cX9_remembers 102 = .ok (.aload_n 0, 1) := by decide +kernel
theorem dX9_remembers_103 : decode cX9_remembers 103 = .ok (.getfield 38, 3) := by decide +kernel
theorem dX9_remembers_106 : decode cX9_remembers 106 = .ok (.bipush 24, 2) := by decide +kernel
theorem dX9_remembers_108 : decode cX9_remembers 108 = .ok (.aload_n 0, 1) := by decide +kernel
theorem dX9_remembers_109 : decode cX9_remembers 109 = .ok (.getfield 71, 3) := by decide +kernel
theorem dX9_remembers_112 : decode cX9_remembers 112 = .ok (.imul, 1) := by decide +kernel
theorem dX9_remembers_113 : decode cX9_remembers 113 = .ok (.invokestatic 78, 3) := by decide +kernel
theorem dX9_remembers_116 : decode cX9_remembers 116 = .ok (.aload_n 0, 1) := by decide +kernel
theorem dX9_remembers_117 : decode cX9_remembers 117 = .ok (.dup, 1) := by decide +kernel
theorem dX9_remembers_118 : decode cX9_remembers 118 = .ok (.getfield 71, 3) := by decide +kernel
theorem dX9_remembers_121 : decode cX9_remembers 121 = .ok (.iconst 1, 1) := by decide +kernel
theorem dX9_remembers_122 : decode cX9_remembers 122 = .ok (.iadd, 1) := by decide +kernel
theorem dX9_remembers_123 : decode cX9_remembers 123 = .ok (.putfield 71, 3) := by decide +kernel
theorem dX9_remembers_126 : decode cX9_remembers 126 = .ok (.return_, 1) := by decide +kernel
theorem dX9_begins_0 : decode cX9_begins 0 = .ok (.aload_n 0, 1) := by decide +kernel
theorem dX9_begins_1 : decode cX9_begins 1 = .ok (.getfield 7, 3) := by decide +kernel
theorem dX9_begins_4 : decode cX9_begins 4 = .ok (.iconst 0, 1) := by decide +kernel
theorem dX9_begins_5 : decode cX9_begins 5 = .ok (.aload_n 0, 1) := by decide +kernel
theorem dX9_begins_6 : decode cX9_begins 6 = .ok (.getfield 16, 3) := by decide +kernel
theorem dX9_begins_9 : decode cX9_begins 9 = .ok (.iconst 0, 1) := by decide +kernel
theorem dX9_begins_10 : decode cX9_begins 10 = .ok (.invokestatic 74, 3) := by decide +kernel
theorem dX9_begins_13 : decode cX9_begins 13 = .ok (.aload_n 0, 1) := by decide +kernel
theorem dX9_begins_14 : decode cX9_begins 14 = .ok (.getfield 25, 3) := by decide +kernel
theorem dX9_begins_17 : decode cX9_begins 17 = .ok (.iconst 0, 1) := by decide +kernel
theorem dX9_begins_18 : decode cX9_begins 18 = .ok (.aload_n 0, 1) := by decide +kernel
theorem dX9_begins_19 : decode cX9_begins 19 = .ok (.getfield 32, 3) := by decide +kernel
theorem dX9_begins_22 : decode cX9_begins 22 = .ok (.iconst 0, 1) := by decide +kernel
theorem dX9_begins_23 : decode cX9_begins 23 = .ok (.invokestatic 78, 3) := by decide +kernel
theorem dX9_begins_26 : decode cX9_begins 26 = .ok (.return_, 1) := by decide +kernel
theorem dX9_ends_0 : decode cX9_ends 0 = .ok (.aload_n 0, 1) := by decide +kernel
theorem dX9_ends_1 : decode cX9_ends 1 = .ok (.getfield 16, 3) := by decide +kernel
theorem dX9_ends_4 : decode cX9_ends 4 = .ok (.iconst 0, 1) := by decide +kernel
theorem dX9_ends_5 : decode cX9_ends 5 = .ok (.aload_n 0, 1) := by decide +kernel
theorem dX9_ends_6 : decode cX9_ends 6 = .ok (.getfield 7, 3) := by decide +kernel
theorem dX9_ends_9 : decode cX9_ends 9 = .ok (.iconst 0, 1) := by decide +kernel
theorem dX9_ends_10 : decode cX9_ends 10 = .ok (.invokestatic 74, 3) := by decide +kernel
theorem dX9_ends_13 : decode cX9_ends 13 = .ok (.aload_n 0, 1) := by decide +kernel
theorem dX9_ends_14 : decode cX9_ends 14 = .ok (.getfield 32, 3) := by decide +kernel
theorem dX9_ends_17 : decode cX9_ends 17 = .ok (.iconst 0, 1) := by decide +kernel
theorem dX9_ends_18 : decode cX9_ends 18 = .ok (.aload_n 0, 1) := by decide +kernel
theorem dX9_ends_19 : decode cX9_ends 19 = .ok (.getfield 25, 3) := by decide +kernel
theorem dX9_ends_22 : decode cX9_ends 22 = .ok (.iconst 0, 1) := by decide +kernel
theorem dX9_ends_23 : decode cX9_ends 23 = .ok (.invokestatic 78, 3) := by decide +kernel
theorem dX9_ends_26 : decode cX9_ends 26 = .ok (.return_, 1) := by decide +kernel
theorem dX9_joins_0 : decode cX9_joins 0 = .ok (.bipush 100, 2) := by decide +kernel
theorem dX9_joins_2 : decode cX9_joins 2 = .ok (.iconst 4, 1) := by decide +kernel
theorem dX9_joins_3 : decode cX9_joins 3 = .ok (.aload_n 0, 1) := by decide +kernel
theorem dX9_joins_4 : decode cX9_joins 4 = .ok (.iload_n 1, 1) := by decide +kernel
theorem dX9_joins_5 : decode cX9_joins 5 = .ok (.bipush 23, 2) := by decide +kernel
theorem dX9_joins_7 : decode cX9_joins 7 = .ok (.invokevirtual 81, 3) := by decide +kernel
theorem dX9_joins_10 : decode cX9_joins 10 = .ok (.imul, 1) := by decide +kernel
theorem dX9_joins_11 : decode cX9_joins 11 = .ok (.iadd, 1) := by decide +kernel
theorem dX9_joins_12 : decode cX9_joins 12 = .ok (.istore 4, 2) := by decide +kernel
theorem dX9_joins_14 : decode cX9_joins 14 = .ok (.aload_n 0, 1) := by decide +kernel
theorem dX9_joins_15 : decode cX9_joins 15 = .ok (.getfield 7, 3) := by decide +kernel
theorem dX9_joins_18 : decode cX9_joins 18 = .ok (.iconst 2, 1) := by decide +kernel
theorem dX9_joins_19 : decode cX9_joins 19 = .ok (.iaload, 1) := by decide +kernel
theorem dX9_joins_20 : decode cX9_joins 20 = .ok (.istore 5, 2) := by decide +kernel
theorem dX9_joins_22 : decode cX9_joins 22 = .ok (.aload_n 0, 1) := by decide +kernel
theorem dX9_joins_23 : decode cX9_joins 23 = .ok (.iload_n 1, 1) := by decide +kernel
theorem dX9_joins_24 : decode cX9_joins 24 = .ok (.iload 4, 2) := by decide +kernel
theorem dX9_joins_26 : decode cX9_joins 26 = .ok (.iconst 0, 1) := by decide +kernel
theorem dX9_joins_27 : decode cX9_joins 27 = .ok (.iadd, 1) := by decide +kernel
theorem dX9_joins_28 : decode cX9_joins 28 = .ok (.iload 5, 2) := by decide +kernel
theorem dX9_joins_30 : decode cX9_joins 30 = .ok (.invokevirtual 64, 3) := by decide +kernel
theorem dX9_joins_33 : decode cX9_joins 33 = .ok (.aload_n 0, 1) := by decide +kernel
theorem dX9_joins_34 : decode cX9_joins 34 = .ok (.iload_n 1, 1) := by decide +kernel
theorem dX9_joins_35 : decode cX9_joins 35 = .ok (.iload 4, 2) := by decide +kernel
theorem dX9_joins_37 : decode cX9_joins 37 = .ok (.iconst 1, 1) := by decide +kernel
theorem dX9_joins_38 : decode cX9_joins 38 = .ok (.iadd, 1) := by decide +kernel
theorem dX9_joins_39 : decode cX9_joins 39 = .ok (.iload_n 2, 1) := by decide +kernel
theorem dX9_joins_40 : decode cX9_joins 40 = .ok (.invokevirtual 64, 3) := by decide +kernel
theorem dX9_joins_43 : decode cX9_joins 43 = .ok (.aload_n 0, 1) := by decide +kernel
theorem dX9_joins_44 : decode cX9_joins 44 = .ok (.iload_n 1, 1) := by decide +kernel
theorem dX9_joins_45 : decode cX9_joins 45 = .ok (.iload 4, 2) := by decide +kernel
theorem dX9_joins_47 : decode cX9_joins 47 = .ok (.iconst 2, 1) := by decide +kernel
theorem dX9_joins_48 : decode cX9_joins 48 = .ok (.iadd, 1) := by decide +kernel
theorem dX9_joins_49 : decode cX9_joins 49 = .ok (.iload_n 3, 1) := by decide +kernel
theorem dX9_joins_50 : decode cX9_joins 50 = .ok (.invokevirtual 64, 3) := by decide +kernel
theorem dX9_joins_53 : decode cX9_joins 53 = .ok (.aload_n 0, 1) := by decide +kernel
theorem dX9_joins_54 : decode cX9_joins 54 = .ok (.iload_n 1, 1) := by decide +kernel
theorem dX9_joins_55 : decode cX9_joins 55 = .ok (.iload 4, 2) := by decide +kernel
theorem dX9_joins_57 : decode cX9_joins 57 = .ok (.iconst 3, 1) := by decide +kernel
theorem dX9_joins_58 : decode cX9_joins 58 = .ok (.iadd, 1) := by decide +kernel
theorem dX9_joins_59 : decode cX9_joins 59 = .ok (.iconst 0, 1) := by decide +kernel
theorem dX9_joins_60 : decode cX9_joins 60 = .ok (.invokevirtual 64, 3) := by decide +kernel
theorem dX9_joins_63 : decode cX9_joins 63 = .ok (.aload_n 0, 1) := by decide +kernel
theorem dX9_joins_64 : decode cX9_joins 64 = .ok (.iload_n 1, 1) := by decide +kernel
theorem dX9_joins_65 : decode cX9_joins 65 = .ok (.bipush 23, 2) := by decide +kernel
theorem dX9_joins_67 : decode cX9_joins 67 = .ok (.iconst 1, 1) := by decide +kernel
theorem dX9_joins_68 : decode cX9_joins 68 = .ok (.invokevirtual 85, 3) := by decide +kernel
theorem dX9_joins_71 : decode cX9_joins 71 = .ok (.aload_n 0, 1) := by decide +kernel
theorem dX9_joins_72 : decode cX9_joins 72 = .ok (.getfield 7, 3) := by decide +kernel
theorem dX9_joins_75 : decode cX9_joins 75 = .ok (.iconst 2, 1) := by decide +kernel
theorem dX9_joins_76 : decode cX9_joins 76 = .ok (.dup2, 1) := by decide +kernel
theorem dX9_joins_77 : decode cX9_joins 77 = .ok (.iaload, 1) := by decide +kernel
theorem dX9_joins_78 : decode cX9_joins 78 = .ok (.iconst 1, 1) := by decide +kernel
theorem dX9_joins_79 : decode cX9_joins 79 = .ok (.iadd, 1) := by decide +kernel
theorem dX9_joins_80 : decode cX9_joins 80 = .ok (.iastore, 1) := by decide +kernel
theorem dX9_joins_81 : decode cX9_joins 81 = .ok (.iload 5, 2) := by decide +kernel
theorem dX9_joins_83 : decode cX9_joins 83 = .ok (.ireturn, 1) := by decide +kernel
theorem dX9_tells_0 : decode cX9_tells 0 = .ok (.iconst 4, 1) := by decide +kernel
theorem dX9_tells_1 : decode cX9_tells 1 = .ok (.iconst 4, 1) := by decide +kernel
theorem dX9_tells_2 : decode cX9_tells 2 = .ok (.aload_n 0, 1) := by decide +kernel
theorem dX9_tells_3 : decode cX9_tells 3 = .ok (.getfield 7, 3) := by decide +kernel
theorem dX9_tells_6 : decode cX9_tells 6 = .ok (.iconst 3, 1) := by decide +kernel
theorem dX9_tells_7 : decode cX9_tells 7 = .ok (.iaload, 1) := by decide +kernel
theorem dX9_tells_8 : decode cX9_tells 8 = .ok (.bipush 60, 2) := by decide +kernel
theorem dX9_tells_10 : decode cX9_tells 10 = .ok (.irem, 1) := by decide +kernel
theorem dX9_tells_11 : decode cX9_tells 11 = .ok (.imul, 1) := by decide +kernel
theorem dX9_tells_12 : decode cX9_tells 12 = .ok (.iadd, 1) := by decide +kernel
theorem dX9_tells_13 : decode cX9_tells 13 = .ok (.istore 4, 2) := by decide +kernel
theorem dX9_tells_15 : decode cX9_tells 15 = .ok (.aload_n 0, 1) := by decide +kernel
theorem dX9_tells_16 : decode cX9_tells 16 = .ok (.getfield 7, 3) := by decide +kernel
theorem dX9_tells_19 : decode cX9_tells 19 = .ok (.iload 4, 2) := by decide +kernel
theorem dX9_tells_21 : decode cX9_tells 21 = .ok (.aload_n 0, 1) := by decide +kernel
theorem dX9_tells_22 : decode cX9_tells 22 = .ok (.getfield 7, 3) := by decide +kernel
theorem dX9_tells_25 : decode cX9_tells 25 = .ok (.iconst 1, 1) := by decide +kernel
theorem dX9_tells_26 : decode cX9_tells 26 = .ok (.iaload, 1) := by decide +kernel
theorem dX9_tells_27 : decode cX9_tells 27 = .ok (.iastore, 1) := by decide +kernel
theorem dX9_tells_28 : decode cX9_tells 28 = .ok (.aload_n 0, 1) := by decide +kernel
theorem dX9_tells_29 : decode cX9_tells 29 = .ok (.getfield 7, 3) := by decide +kernel
theorem dX9_tells_32 : decode cX9_tells 32 = .ok (.iload 4, 2) := by decide +kernel
theorem dX9_tells_34 : decode cX9_tells 34 = .ok (.iconst 1, 1) := by decide +kernel
theorem dX9_tells_35 : decode cX9_tells 35 = .ok (.iadd, 1) := by decide +kernel
theorem dX9_tells_36 : decode cX9_tells 36 = .ok (.iload_n 1, 1) := by decide +kernel
theorem dX9_tells_37 : decode cX9_tells 37 = .ok (.iastore, 1) := by decide +kernel
theorem dX9_tells_38 : decode cX9_tells 38 = .ok (.aload_n 0, 1) := by decide +kernel
theorem dX9_tells_39 : decode cX9_tells 39 = .ok (.getfield 7, 3) := by decide +kernel
theorem dX9_tells_42 : decode cX9_tells 42 = .ok (.iload 4, 2) := by decide +kernel
theorem dX9_tells_44 : decode cX9_tells 44 = .ok (.iconst 2, 1) := by decide +kernel
theorem dX9_tells_45 : decode cX9_tells 45 = .ok (.iadd, 1) := by decide +kernel
theorem dX9_tells_46 : decode cX9_tells 46 = .ok (.iload_n 2, 1) := by decide +kernel
theorem dX9_tells_47 : decode cX9_tells 47 = .ok (.iastore, 1) := by decide +kernel
theorem dX9_tells_48 : decode cX9_tells 48 = .ok (.aload_n 0, 1) := by decide +kernel
theorem dX9_tells_49 : decode cX9_tells 49 = .ok (.getfield 7, 3) := by decide +kernel
theorem dX9_tells_52 : decode cX9_tells 52 = .ok (.iload 4, 2) := by decide +kernel
theorem dX9_tells_54 : decode cX9_tells 54 = .ok (.iconst 3, 1) := by decide +kernel
theorem dX9_tells_55 : decode cX9_tells 55 = .ok (.iadd, 1) := by decide +kernel
theorem dX9_tells_56 : decode cX9_tells 56 = .ok (.iload_n 3, 1) := by decide +kernel
theorem dX9_tells_57 : decode cX9_tells 57 = .ok (.iastore, 1) := by decide +kernel
theorem dX9_tells_58 : decode cX9_tells 58 = .ok (.aload_n 0, 1) := by decide +kernel
theorem dX9_tells_59 : decode cX9_tells 59 = .ok (.getfield 7, 3) := by decide +kernel
theorem dX9_tells_62 : decode cX9_tells 62 = .ok (.iconst 3, 1) := by decide +kernel
theorem dX9_tells_63 : decode cX9_tells 63 = .ok (.dup2, 1) := by decide +kernel
theorem dX9_tells_64 : decode cX9_tells 64 = .ok (.iaload, 1) := by decide +kernel
theorem dX9_tells_65 : decode cX9_tells 65 = .ok (.iconst 1, 1) := by decide +kernel
theorem dX9_tells_66 : decode cX9_tells 66 = .ok (.iadd, 1) := by decide +kernel
theorem dX9_tells_67 : decode cX9_tells 67 = .ok (.iastore, 1) := by decide +kernel
theorem dX9_tells_68 : decode cX9_tells 68 = .ok (.return_, 1) := by decide +kernel
theorem dX9_comes_0 : decode cX9_comes 0 = .ok (.aload_n 0, 1) := by decide +kernel
theorem dX9_comes_1 : decode cX9_comes 1 = .ok (.iload_n 1, 1) := by decide +kernel
theorem dX9_comes_2 : decode cX9_comes 2 = .ok (.aload_n 0, 1) := by decide +kernel
theorem dX9_comes_3 : decode cX9_comes 3 = .ok (.getfield 7, 3) := by decide +kernel
theorem dX9_comes_6 : decode cX9_comes 6 = .ok (.iconst 1, 1) := by decide +kernel
theorem dX9_comes_7 : decode cX9_comes 7 = .ok (.iaload, 1) := by decide +kernel
theorem dX9_comes_8 : decode cX9_comes 8 = .ok (.iload_n 2, 1) := by decide +kernel
theorem dX9_comes_9 : decode cX9_comes 9 = .ok (.invokevirtual 67, 3) := by decide +kernel
theorem dX9_comes_12 : decode cX9_comes 12 = .ok (.istore_n 3, 1) := by decide +kernel
theorem dX9_comes_13 : decode cX9_comes 13 = .ok (.aload_n 0, 1) := by decide +kernel
theorem dX9_comes_14 : decode cX9_comes 14 = .ok (.iconst 0, 1) := by decide +kernel
theorem dX9_comes_15 : decode cX9_comes 15 = .ok (.iload_n 1, 1) := by decide +kernel
theorem dX9_comes_16 : decode cX9_comes 16 = .ok (.iload_n 3, 1) := by decide +kernel
theorem dX9_comes_17 : decode cX9_comes 17 = .ok (.invokevirtual 88, 3) := by decide +kernel
theorem dX9_comes_20 : decode cX9_comes 20 = .ok (.iload_n 3, 1) := by decide +kernel
theorem dX9_comes_21 : decode cX9_comes 21 = .ok (.ireturn, 1) := by decide +kernel
theorem dX9_goes_0 : decode cX9_goes 0 = .ok (.aload_n 0, 1) := by decide +kernel
theorem dX9_goes_1 : decode cX9_goes 1 = .ok (.iconst 1, 1) := by decide +kernel
theorem dX9_goes_2 : decode cX9_goes 2 = .ok (.iload_n 1, 1) := by decide +kernel
theorem dX9_goes_3 : decode cX9_goes 3 = .ok (.aload_n 0, 1) := by decide +kernel
theorem dX9_goes_4 : decode cX9_goes 4 = .ok (.iload_n 1, 1) := by decide +kernel
theorem dX9_goes_5 : decode cX9_goes 5 = .ok (.bipush 100, 2) := by decide +kernel
theorem dX9_goes_7 : decode cX9_goes 7 = .ok (.iconst 4, 1) := by decide +kernel
theorem dX9_goes_8 : decode cX9_goes 8 = .ok (.iload_n 2, 1) := by decide +kernel
theorem dX9_goes_9 : decode cX9_goes 9 = .ok (.imul, 1) := by decide +kernel
theorem dX9_goes_10 : decode cX9_goes 10 = .ok (.iadd, 1) := by decide +kernel
theorem dX9_goes_11 : decode cX9_goes 11 = .ok (.invokevirtual 81, 3) := by decide +kernel
theorem dX9_goes_14 : decode cX9_goes 14 = .ok (.invokevirtual 88, 3) := by decide +kernel
theorem dX9_goes_17 : decode cX9_goes 17 = .ok (.iconst 4, 1) := by decide +kernel
theorem dX9_goes_18 : decode cX9_goes 18 = .ok (.iload_n 2, 1) := by decide +kernel
theorem dX9_goes_19 : decode cX9_goes 19 = .ok (.imul, 1) := by decide +kernel
theorem dX9_goes_20 : decode cX9_goes 20 = .ok (.istore_n 3, 1) := by decide +kernel
theorem dX9_goes_21 : decode cX9_goes 21 = .ok (.iload_n 3, 1) := by decide +kernel
theorem dX9_goes_22 : decode cX9_goes 22 = .ok (.iconst 4, 1) := by decide +kernel
theorem dX9_goes_23 : decode cX9_goes 23 = .ok (.aload_n 0, 1) := by decide +kernel
theorem dX9_goes_24 : decode cX9_goes 24 = .ok (.iload_n 1, 1) := by decide +kernel
theorem dX9_goes_25 : decode cX9_goes 25 = .ok (.bipush 23, 2) := by decide +kernel
theorem dX9_goes_27 : decode cX9_goes 27 = .ok (.invokevirtual 81, 3) := by decide +kernel
theorem dX9_goes_30 : decode cX9_goes 30 = .ok (.iconst 1, 1) := by decide +kernel
theorem dX9_goes_31 : decode cX9_goes 31 = .ok (.isub, 1) := by decide +kernel
theorem dX9_goes_32 : decode cX9_goes 32 = .ok (.imul, 1) := by decide +kernel
theorem dX9_goes_33 : decode cX9_goes 33 = .ok (.if_icmp .ge 29, 3) := by decide +kernel
theorem dX9_goes_36 : decode cX9_goes 36 = .ok (.aload_n 0, 1) := by decide +kernel
theorem dX9_goes_37 : decode cX9_goes 37 = .ok (.iload_n 1, 1) := by decide +kernel
theorem dX9_goes_38 : decode cX9_goes 38 = .ok (.bipush 100, 2) := by decide +kernel
theorem dX9_goes_40 : decode cX9_goes 40 = .ok (.iload_n 3, 1) := by decide +kernel
theorem dX9_goes_41 : decode cX9_goes 41 = .ok (.iadd, 1) := by decide +kernel
theorem dX9_goes_42 : decode cX9_goes 42 = .ok (.aload_n 0, 1) := by decide +kernel
theorem dX9_goes_43 : decode cX9_goes 43 = .ok (.iload_n 1, 1) := by decide +kernel
theorem dX9_goes_44 : decode cX9_goes 44 = .ok (.bipush 100, 2) := by decide +kernel
theorem dX9_goes_46 : decode cX9_goes 46 = .ok (.iload_n 3, 1) := by decide +kernel
theorem dX9_goes_47 : decode cX9_goes 47 = .ok (.iadd, 1) := by decide +kernel
theorem dX9_goes_48 : decode cX9_goes 48 = .ok (.iconst 4, 1) := by decide +kernel
theorem dX9_goes_49 : decode cX9_goes 49 = .ok (.iadd, 1) := by decide +kernel
theorem dX9_goes_50 : decode cX9_goes 50 = .ok (.invokevirtual 81, 3) := by decide +kernel
theorem dX9_goes_53 : decode cX9_goes 53 = .ok (.invokevirtual 64, 3) := by decide +kernel
theorem dX9_goes_56 : decode cX9_goes 56 = .ok (.iinc 3 1, 3) := by decide +kernel
theorem dX9_goes_59 : decode cX9_goes 59 = .ok (.goto (-38), 3) := by decide +kernel
theorem dX9_goes_62 : decode cX9_goes 62 = .ok (.aload_n 0, 1) := by decide +kernel
theorem dX9_goes_63 : decode cX9_goes 63 = .ok (.iload_n 1, 1) := by decide +kernel
theorem dX9_goes_64 : decode cX9_goes 64 = .ok (.bipush 23, 2) := by decide +kernel
theorem dX9_goes_66 : decode cX9_goes 66 = .ok (.iconst (-1), 1) := by decide +kernel
theorem dX9_goes_67 : decode cX9_goes 67 = .ok (.invokevirtual 85, 3) := by decide +kernel
theorem dX9_goes_70 : decode cX9_goes 70 = .ok (.return_, 1) := by decide +kernel
theorem dX9_isReady_0 : decode cX9_isReady 0 = .ok (.aload_n 0, 1) := by decide +kernel
theorem dX9_isReady_1 : decode cX9_isReady 1 = .ok (.iload_n 1, 1) := by decide +kernel
theorem dX9_isReady_2 : decode cX9_isReady 2 = .ok (.bipush 100, 2) := by decide +kernel
theorem dX9_isReady_4 : decode cX9_isReady 4 = .ok (.iconst 4, 1) := by decide +kernel
theorem dX9_isReady_5 : decode cX9_isReady 5 = .ok (.iload_n 2, 1) := by decide +kernel
theorem dX9_isReady_6 : decode cX9_isReady 6 = .ok (.imul, 1) := by decide +kernel
theorem dX9_isReady_7 : decode cX9_isReady 7 = .ok (.iadd, 1) := by decide +kernel
theorem dX9_isReady_8 : decode cX9_isReady 8 = .ok (.iconst 2, 1) := by decide +kernel
theorem dX9_isReady_9 : decode cX9_isReady 9 = .ok (.iadd, 1) := by decide +kernel
theorem dX9_isReady_10 : decode cX9_isReady 10 = .ok (.invokevirtual 81, 3) := by decide +kernel
theorem dX9_isReady_13 : decode cX9_isReady 13 = .ok (.aload_n 0, 1) := by decide +kernel
theorem dX9_isReady_14 : decode cX9_isReady 14 = .ok (.getfield 7, 3) := by decide +kernel
theorem dX9_isReady_17 : decode cX9_isReady 17 = .ok (.iconst 1, 1) := by decide +kernel
theorem dX9_isReady_18 : decode cX9_isReady 18 = .ok (.iaload, 1) := by decide +kernel
theorem dX9_isReady_19 : decode cX9_isReady 19 = .ok (.if_icmp .gt 7, 3) := by decide +kernel
theorem dX9_isReady_22 : decode cX9_isReady 22 = .ok (.iconst 1, 1) := by decide +kernel
theorem dX9_isReady_23 : decode cX9_isReady 23 = .ok (.goto 4, 3) := by decide +kernel
theorem dX9_isReady_26 : decode cX9_isReady 26 = .ok (.iconst 0, 1) := by decide +kernel
theorem dX9_isReady_27 : decode cX9_isReady 27 = .ok (.ireturn, 1) := by decide +kernel
theorem dX9_isGuarded_0 : decode cX9_isGuarded 0 = .ok (.aload_n 0, 1) := by decide +kernel
theorem dX9_isGuarded_1 : decode cX9_isGuarded 1 = .ok (.iload_n 1, 1) := by decide +kernel
theorem dX9_isGuarded_2 : decode cX9_isGuarded 2 = .ok (.bipush 100, 2) := by decide +kernel
theorem dX9_isGuarded_4 : decode cX9_isGuarded 4 = .ok (.iconst 4, 1) := by decide +kernel
theorem dX9_isGuarded_5 : decode cX9_isGuarded 5 = .ok (.iload_n 2, 1) := by decide +kernel
theorem dX9_isGuarded_6 : decode cX9_isGuarded 6 = .ok (.imul, 1) := by decide +kernel
theorem dX9_isGuarded_7 : decode cX9_isGuarded 7 = .ok (.iadd, 1) := by decide +kernel
theorem dX9_isGuarded_8 : decode cX9_isGuarded 8 = .ok (.iconst 3, 1) := by decide +kernel
theorem dX9_isGuarded_9 : decode cX9_isGuarded 9 = .ok (.iadd, 1) := by decide +kernel
theorem dX9_isGuarded_10 : decode cX9_isGuarded 10 = .ok (.invokevirtual 81, 3) := by decide +kernel
theorem dX9_isGuarded_13 : decode cX9_isGuarded 13 = .ok (.iconst 1, 1) := by decide +kernel
theorem dX9_isGuarded_14 : decode cX9_isGuarded 14 = .ok (.if_icmp .ne 7, 3) := by decide +kernel
theorem dX9_isGuarded_17 : decode cX9_isGuarded 17 = .ok (.iconst 1, 1) := by decide +kernel
theorem dX9_isGuarded_18 : decode cX9_isGuarded 18 = .ok (.goto 4, 3) := by decide +kernel
theorem dX9_isGuarded_21 : decode cX9_isGuarded 21 = .ok (.iconst 0, 1) := by decide +kernel
theorem dX9_isGuarded_22 : decode cX9_isGuarded 22 = .ok (.ireturn, 1) := by decide +kernel
theorem dX9_readyMany_0 : decode cX9_readyMany 0 = .ok (.iconst 0, 1) := by decide +kernel
theorem dX9_readyMany_1 : decode cX9_readyMany 1 = .ok (.istore_n 2, 1) := by decide +kernel
theorem dX9_readyMany_2 : decode cX9_readyMany 2 = .ok (.iconst 0, 1) := by decide +kernel
theorem dX9_readyMany_3 : decode cX9_readyMany 3 = .ok (.istore_n 3, 1) := by decide +kernel
theorem dX9_readyMany_4 : decode cX9_readyMany 4 = .ok (.iload_n 3, 1) := by decide +kernel
theorem dX9_readyMany_5 : decode cX9_readyMany 5 = .ok (.aload_n 0, 1) := by decide +kernel
theorem dX9_readyMany_6 : decode cX9_readyMany 6 = .ok (.iload_n 1, 1) := by decide +kernel
theorem dX9_readyMany_7 : decode cX9_readyMany 7 = .ok (.bipush 23, 2) := by decide +kernel
theorem dX9_readyMany_9 : decode cX9_readyMany 9 = .ok (.invokevirtual 81, 3) := by decide +kernel
theorem dX9_readyMany_12 : decode cX9_readyMany 12 = .ok (.if_icmp .ge 26, 3) := by decide +kernel
theorem dX9_readyMany_15 : decode cX9_readyMany 15 = .ok (.iload_n 2, 1) := by decide +kernel
theorem dX9_readyMany_16 : decode cX9_readyMany 16 = .ok (.aload_n 0, 1) := by decide +kernel
theorem dX9_readyMany_17 : decode cX9_readyMany 17 = .ok (.iload_n 1, 1) := by decide +kernel
theorem dX9_readyMany_18 : decode cX9_readyMany 18 = .ok (.iload_n 3, 1) := by decide +kernel
theorem dX9_readyMany_19 : decode cX9_readyMany 19 = .ok (.invokevirtual 91, 3) := by decide +kernel
theorem dX9_readyMany_22 : decode cX9_readyMany 22 = .ok (.ifCond .eq 7, 3) := by decide +kernel
theorem dX9_readyMany_25 : decode cX9_readyMany 25 = .ok (.iconst 1, 1) := by decide +kernel
theorem dX9_readyMany_26 : decode cX9_readyMany 26 = .ok (.goto 4, 3) := by decide +kernel
theorem dX9_readyMany_29 : decode cX9_readyMany 29 = .ok (.iconst 0, 1) := by decide +kernel
theorem dX9_readyMany_30 : decode cX9_readyMany 30 = .ok (.iadd, 1) := by decide +kernel
theorem dX9_readyMany_31 : decode cX9_readyMany 31 = .ok (.istore_n 2, 1) := by decide +kernel
theorem dX9_readyMany_32 : decode cX9_readyMany 32 = .ok (.iinc 3 1, 3) := by decide +kernel
theorem dX9_readyMany_35 : decode cX9_readyMany 35 = .ok (.goto (-31), 3) := by decide +kernel
theorem dX9_readyMany_38 : decode cX9_readyMany 38 = .ok (.iload_n 2, 1) := by decide +kernel
theorem dX9_readyMany_39 : decode cX9_readyMany 39 = .ok (.ireturn, 1) := by decide +kernel
theorem dX9_guardedMany_0 : decode cX9_guardedMany 0 = .ok (.iconst 0, 1) := by decide +kernel
theorem dX9_guardedMany_1 : decode cX9_guardedMany 1 = .ok (.istore_n 2, 1) := by decide +kernel
theorem dX9_guardedMany_2 : decode cX9_guardedMany 2 = .ok (.iconst 0, 1) := by decide +kernel
theorem dX9_guardedMany_3 : decode cX9_guardedMany 3 = .ok (.istore_n 3, 1) := by decide +kernel
theorem dX9_guardedMany_4 : decode cX9_guardedMany 4 = .ok (.iload_n 3, 1) := by decide +kernel
theorem dX9_guardedMany_5 : decode cX9_guardedMany 5 = .ok (.aload_n 0, 1) := by decide +kernel
theorem dX9_guardedMany_6 : decode cX9_guardedMany 6 = .ok (.iload_n 1, 1) := by decide +kernel
theorem dX9_guardedMany_7 : decode cX9_guardedMany 7 = .ok (.bipush 23, 2) := by decide +kernel
theorem dX9_guardedMany_9 : decode cX9_guardedMany 9 = .ok (.invokevirtual 81, 3) := by decide +kernel
theorem dX9_guardedMany_12 : decode cX9_guardedMany 12 = .ok (.if_icmp .ge 26, 3) := by decide +kernel
theorem dX9_guardedMany_15 : decode cX9_guardedMany 15 = .ok (.iload_n 2, 1) := by decide +kernel
theorem dX9_guardedMany_16 : decode cX9_guardedMany 16 = .ok (.aload_n 0, 1) := by decide +kernel
theorem dX9_guardedMany_17 : decode cX9_guardedMany 17 = .ok (.iload_n 1, 1) := by decide +kernel
theorem dX9_guardedMany_18 : decode cX9_guardedMany 18 = .ok (.iload_n 3, 1) := by decide +kernel
theorem dX9_guardedMany_19 : decode cX9_guardedMany 19 = .ok (.invokevirtual 95, 3) := by decide +kernel
theorem dX9_guardedMany_22 : decode cX9_guardedMany 22 = .ok (.ifCond .eq 7, 3) := by decide +kernel
theorem dX9_guardedMany_25 : decode cX9_guardedMany 25 = .ok (.iconst 1, 1) := by decide +kernel
theorem dX9_guardedMany_26 : decode cX9_guardedMany 26 = .ok (.goto 4, 3) := by decide +kernel
theorem dX9_guardedMany_29 : decode cX9_guardedMany 29 = .ok (.iconst 0, 1) := by decide +kernel
theorem dX9_guardedMany_30 : decode cX9_guardedMany 30 = .ok (.iadd, 1) := by decide +kernel
theorem dX9_guardedMany_31 : decode cX9_guardedMany 31 = .ok (.istore_n 2, 1) := by decide +kernel
theorem dX9_guardedMany_32 : decode cX9_guardedMany 32 = .ok (.iinc 3 1, 3) := by decide +kernel
theorem dX9_guardedMany_35 : decode cX9_guardedMany 35 = .ok (.goto (-31), 3) := by decide +kernel
theorem dX9_guardedMany_38 : decode cX9_guardedMany 38 = .ok (.iload_n 2, 1) := by decide +kernel
theorem dX9_guardedMany_39 : decode cX9_guardedMany 39 = .ok (.ireturn, 1) := by decide +kernel
theorem dX9_power_0 : decode cX9_power 0 = .ok (.aload_n 0, 1) := by decide +kernel
theorem dX9_power_1 : decode cX9_power 1 = .ok (.iload_n 1, 1) := by decide +kernel
theorem dX9_power_2 : decode cX9_power 2 = .ok (.iconst 2, 1) := by decide +kernel
theorem dX9_power_3 : decode cX9_power 3 = .ok (.invokevirtual 81, 3) := by decide +kernel
theorem dX9_power_6 : decode cX9_power 6 = .ok (.aload_n 0, 1) := by decide +kernel
theorem dX9_power_7 : decode cX9_power 7 = .ok (.iload_n 1, 1) := by decide +kernel
theorem dX9_power_8 : decode cX9_power 8 = .ok (.invokevirtual 98, 3) := by decide +kernel
theorem dX9_power_11 : decode cX9_power 11 = .ok (.imul, 1) := by decide +kernel
theorem dX9_power_12 : decode cX9_power 12 = .ok (.ireturn, 1) := by decide +kernel
theorem dX9_isAhead_0 : decode cX9_isAhead 0 = .ok (.aload_n 0, 1) := by decide +kernel
theorem dX9_isAhead_1 : decode cX9_isAhead 1 = .ok (.iload_n 1, 1) := by decide +kernel
theorem dX9_isAhead_2 : decode cX9_isAhead 2 = .ok (.bipush 9, 2) := by decide +kernel
theorem dX9_isAhead_4 : decode cX9_isAhead 4 = .ok (.invokevirtual 81, 3) := by decide +kernel
theorem dX9_isAhead_7 : decode cX9_isAhead 7 = .ok (.istore 4, 2) := by decide +kernel
theorem dX9_isAhead_9 : decode cX9_isAhead 9 = .ok (.iload 4, 2) := by decide +kernel
theorem dX9_isAhead_11 : decode cX9_isAhead 11 = .ok (.ifCond .ne 5, 3) := by decide +kernel
theorem dX9_isAhead_14 : decode cX9_isAhead 14 = .ok (.iconst 1, 1) := by decide +kernel
theorem dX9_isAhead_15 : decode cX9_isAhead 15 = .ok (.ireturn, 1) := by decide +kernel
theorem dX9_isAhead_16 : decode cX9_isAhead 16 = .ok (.iload 4, 2) := by decide +kernel
theorem dX9_isAhead_18 : decode cX9_isAhead 18 = .ok (.iconst 1, 1) := by decide +kernel
theorem dX9_isAhead_19 : decode cX9_isAhead 19 = .ok (.if_icmp .eq 36, 3) := by decide +kernel
theorem dX9_isAhead_22 : decode cX9_isAhead 22 = .ok (.aload_n 0, 1) := by decide +kernel
theorem dX9_isAhead_23 : decode cX9_isAhead 23 = .ok (.iload_n 1, 1) := by decide +kernel
theorem dX9_isAhead_24 : decode cX9_isAhead 24 = .ok (.bipush 100, 2) := by decide +kernel
theorem dX9_isAhead_26 : decode cX9_isAhead 26 = .ok (.iconst 4, 1) := by decide +kernel
theorem dX9_isAhead_27 : decode cX9_isAhead 27 = .ok (.iload_n 2, 1) := by decide +kernel
theorem dX9_isAhead_28 : decode cX9_isAhead 28 = .ok (.imul, 1) := by decide +kernel
theorem dX9_isAhead_29 : decode cX9_isAhead 29 = .ok (.iadd, 1) := by decide +kernel
theorem dX9_isAhead_30 : decode cX9_isAhead 30 = .ok (.iconst 2, 1) := by decide +kernel
theorem dX9_isAhead_31 : decode cX9_isAhead 31 = .ok (.iadd, 1) := by decide +kernel
theorem dX9_isAhead_32 : decode cX9_isAhead 32 = .ok (.invokevirtual 81, 3) := by decide +kernel
theorem dX9_isAhead_35 : decode cX9_isAhead 35 = .ok (.aload_n 0, 1) := by decide +kernel
theorem dX9_isAhead_36 : decode cX9_isAhead 36 = .ok (.iload_n 1, 1) := by decide +kernel
theorem dX9_isAhead_37 : decode cX9_isAhead 37 = .ok (.bipush 100, 2) := by decide +kernel
theorem dX9_isAhead_39 : decode cX9_isAhead 39 = .ok (.iconst 4, 1) := by decide +kernel
theorem dX9_isAhead_40 : decode cX9_isAhead 40 = .ok (.iload_n 3, 1) := by decide +kernel
theorem dX9_isAhead_41 : decode cX9_isAhead 41 = .ok (.imul, 1) := by decide +kernel
theorem dX9_isAhead_42 : decode cX9_isAhead 42 = .ok (.iadd, 1) := by decide +kernel
theorem dX9_isAhead_43 : decode cX9_isAhead 43 = .ok (.iconst 2, 1) := by decide +kernel
theorem dX9_isAhead_44 : decode cX9_isAhead 44 = .ok (.iadd, 1) := by decide +kernel
theorem dX9_isAhead_45 : decode cX9_isAhead 45 = .ok (.invokevirtual 81, 3) := by decide +kernel
theorem dX9_isAhead_48 : decode cX9_isAhead 48 = .ok (.if_icmp .lt 7, 3) := by decide +kernel
theorem dX9_isAhead_51 : decode cX9_isAhead 51 = .ok (.iconst 1, 1) := by decide +kernel
theorem dX9_isAhead_52 : decode cX9_isAhead 52 = .ok (.goto 4, 3) := by decide +kernel
theorem dX9_isAhead_55 : decode cX9_isAhead 55 = .ok (.iconst 0, 1) := by decide +kernel
theorem dX9_isAhead_56 : decode cX9_isAhead 56 = .ok (.ireturn, 1) := by decide +kernel
theorem dX9_dropped_0 : decode cX9_dropped 0 = .ok (.iconst (-1), 1) := by decide +kernel
theorem dX9_dropped_1 : decode cX9_dropped 1 = .ok (.istore_n 2, 1) := by decide +kernel
theorem dX9_dropped_2 : decode cX9_dropped 2 = .ok (.iconst 0, 1) := by decide +kernel
theorem dX9_dropped_3 : decode cX9_dropped 3 = .ok (.istore_n 3, 1) := by decide +kernel
theorem dX9_dropped_4 : decode cX9_dropped 4 = .ok (.iload_n 3, 1) := by decide +kernel
theorem dX9_dropped_5 : decode cX9_dropped 5 = .ok (.aload_n 0, 1) := by decide +kernel
theorem dX9_dropped_6 : decode cX9_dropped 6 = .ok (.iload_n 1, 1) := by decide +kernel
theorem dX9_dropped_7 : decode cX9_dropped 7 = .ok (.bipush 23, 2) := by decide +kernel
theorem dX9_dropped_9 : decode cX9_dropped 9 = .ok (.invokevirtual 81, 3) := by decide +kernel
theorem dX9_dropped_12 : decode cX9_dropped 12 = .ok (.if_icmp .ge 35, 3) := by decide +kernel
theorem dX9_dropped_15 : decode cX9_dropped 15 = .ok (.aload_n 0, 1) := by decide +kernel
theorem dX9_dropped_16 : decode cX9_dropped 16 = .ok (.iload_n 1, 1) := by decide +kernel
theorem dX9_dropped_17 : decode cX9_dropped 17 = .ok (.iload_n 3, 1) := by decide +kernel
theorem dX9_dropped_18 : decode cX9_dropped 18 = .ok (.invokevirtual 95, 3) := by decide +kernel
theorem dX9_dropped_21 : decode cX9_dropped 21 = .ok (.ifCond .ne 20, 3) := by decide +kernel
theorem dX9_dropped_24 : decode cX9_dropped 24 = .ok (.iload_n 2, 1) := by decide +kernel
theorem dX9_dropped_25 : decode cX9_dropped 25 = .ok (.iconst (-1), 1) := by decide +kernel
theorem dX9_dropped_26 : decode cX9_dropped 26 = .ok (.if_icmp .eq 13, 3) := by decide +kernel
theorem dX9_dropped_29 : decode cX9_dropped 29 = .ok (.aload_n 0, 1) := by decide +kernel
theorem dX9_dropped_30 : decode cX9_dropped 30 = .ok (.iload_n 1, 1) := by decide +kernel
theorem dX9_dropped_31 : decode cX9_dropped 31 = .ok (.iload_n 3, 1) := by decide +kernel
theorem dX9_dropped_32 : decode cX9_dropped 32 = .ok (.iload_n 2, 1) := by decide +kernel
theorem dX9_dropped_33 : decode cX9_dropped 33 = .ok (.invokevirtual 102, 3) := by decide +kernel
theorem dX9_dropped_36 : decode cX9_dropped 36 = .ok (.ifCond .eq 5, 3) := by decide +kernel
theorem dX9_dropped_39 : decode cX9_dropped 39 = .ok (.iload_n 3, 1) := by decide +kernel
theorem dX9_dropped_40 : decode cX9_dropped 40 = .ok (.istore_n 2, 1) := by decide +kernel
theorem dX9_dropped_41 : decode cX9_dropped 41 = .ok (.iinc 3 1, 3) := by decide +kernel
theorem dX9_dropped_44 : decode cX9_dropped 44 = .ok (.goto (-40), 3) := by decide +kernel
theorem dX9_dropped_47 : decode cX9_dropped 47 = .ok (.iload_n 2, 1) := by decide +kernel
theorem dX9_dropped_48 : decode cX9_dropped 48 = .ok (.ireturn, 1) := by decide +kernel
theorem dX9_told_0 : decode cX9_told 0 = .ok (.aload_n 0, 1) := by decide +kernel
theorem dX9_told_1 : decode cX9_told 1 = .ok (.iload_n 1, 1) := by decide +kernel
theorem dX9_told_2 : decode cX9_told 2 = .ok (.bipush 24, 2) := by decide +kernel
theorem dX9_told_4 : decode cX9_told 4 = .ok (.invokevirtual 81, 3) := by decide +kernel
theorem dX9_told_7 : decode cX9_told 7 = .ok (.ifCond .ne 7, 3) := by decide +kernel
theorem dX9_told_10 : decode cX9_told 10 = .ok (.iconst 0, 1) := by decide +kernel
theorem dX9_told_11 : decode cX9_told 11 = .ok (.goto 20, 3) := by decide +kernel
theorem dX9_told_14 : decode cX9_told 14 = .ok (.aload_n 0, 1) := by decide +kernel
theorem dX9_told_15 : decode cX9_told 15 = .ok (.iload_n 1, 1) := by decide +kernel
theorem dX9_told_16 : decode cX9_told 16 = .ok (.bipush 36, 2) := by decide +kernel
theorem dX9_told_18 : decode cX9_told 18 = .ok (.iload_n 2, 1) := by decide +kernel
theorem dX9_told_19 : decode cX9_told 19 = .ok (.aload_n 0, 1) := by decide +kernel
theorem dX9_told_20 : decode cX9_told 20 = .ok (.iload_n 1, 1) := by decide +kernel
theorem dX9_told_21 : decode cX9_told 21 = .ok (.bipush 24, 2) := by decide +kernel
theorem dX9_told_23 : decode cX9_told 23 = .ok (.invokevirtual 81, 3) := by decide +kernel
theorem dX9_told_26 : decode cX9_told 26 = .ok (.irem, 1) := by decide +kernel
theorem dX9_told_27 : decode cX9_told 27 = .ok (.iadd, 1) := by decide +kernel
theorem dX9_told_28 : decode cX9_told 28 = .ok (.invokevirtual 81, 3) := by decide +kernel
theorem dX9_told_31 : decode cX9_told 31 = .ok (.ireturn, 1) := by decide +kernel
theorem dX9_back_0 : decode cX9_back 0 = .ok (.aload_n 0, 1) := by decide +kernel
theorem dX9_back_1 : decode cX9_back 1 = .ok (.iload_n 1, 1) := by decide +kernel
theorem dX9_back_2 : decode cX9_back 2 = .ok (.bipush 60, 2) := by decide +kernel
theorem dX9_back_4 : decode cX9_back 4 = .ok (.aload_n 0, 1) := by decide +kernel
theorem dX9_back_5 : decode cX9_back 5 = .ok (.iload_n 1, 1) := by decide +kernel
theorem dX9_back_6 : decode cX9_back 6 = .ok (.bipush 29, 2) := by decide +kernel
theorem dX9_back_8 : decode cX9_back 8 = .ok (.invokevirtual 81, 3) := by decide +kernel
theorem dX9_back_11 : decode cX9_back 11 = .ok (.iconst 1, 1) := by decide +kernel
theorem dX9_back_12 : decode cX9_back 12 = .ok (.isub, 1) := by decide +kernel
theorem dX9_back_13 : decode cX9_back 13 = .ok (.iload_n 2, 1) := by decide +kernel
theorem dX9_back_14 : decode cX9_back 14 = .ok (.isub, 1) := by decide +kernel
theorem dX9_back_15 : decode cX9_back 15 = .ok (.bipush 24, 2) := by decide +kernel
theorem dX9_back_17 : decode cX9_back 17 = .ok (.irem, 1) := by decide +kernel
theorem dX9_back_18 : decode cX9_back 18 = .ok (.iadd, 1) := by decide +kernel
theorem dX9_back_19 : decode cX9_back 19 = .ok (.invokevirtual 81, 3) := by decide +kernel
theorem dX9_back_22 : decode cX9_back 22 = .ok (.ireturn, 1) := by decide +kernel
theorem dX9_windowOf_0 : decode cX9_windowOf 0 = .ok (.aload_n 0, 1) := by decide +kernel
theorem dX9_windowOf_1 : decode cX9_windowOf 1 = .ok (.iload_n 1, 1) := by decide +kernel
theorem dX9_windowOf_2 : decode cX9_windowOf 2 = .ok (.iconst 5, 1) := by decide +kernel
theorem dX9_windowOf_3 : decode cX9_windowOf 3 = .ok (.invokevirtual 81, 3) := by decide +kernel
theorem dX9_windowOf_6 : decode cX9_windowOf 6 = .ok (.aload_n 0, 1) := by decide +kernel
theorem dX9_windowOf_7 : decode cX9_windowOf 7 = .ok (.iload_n 1, 1) := by decide +kernel
theorem dX9_windowOf_8 : decode cX9_windowOf 8 = .ok (.bipush 29, 2) := by decide +kernel
theorem dX9_windowOf_10 : decode cX9_windowOf 10 = .ok (.invokevirtual 81, 3) := by decide +kernel
theorem dX9_windowOf_13 : decode cX9_windowOf 13 = .ok (.invokestatic 106, 3) := by decide +kernel
theorem dX9_windowOf_16 : decode cX9_windowOf 16 = .ok (.ireturn, 1) := by decide +kernel
theorem dX9_windowSum_0 : decode cX9_windowSum 0 = .ok (.iconst 0, 1) := by decide +kernel
theorem dX9_windowSum_1 : decode cX9_windowSum 1 = .ok (.istore_n 2, 1) := by decide +kernel
theorem dX9_windowSum_2 : decode cX9_windowSum 2 = .ok (.iconst 0, 1) := by decide +kernel
theorem dX9_windowSum_3 : decode cX9_windowSum 3 = .ok (.istore_n 3, 1) := by decide +kernel
theorem dX9_windowSum_4 : decode cX9_windowSum 4 = .ok (.iload_n 3, 1) := by decide +kernel
theorem dX9_windowSum_5 : decode cX9_windowSum 5 = .ok (.aload_n 0, 1) := by decide +kernel
theorem dX9_windowSum_6 : decode cX9_windowSum 6 = .ok (.iload_n 1, 1) := by decide +kernel
theorem dX9_windowSum_7 : decode cX9_windowSum 7 = .ok (.invokevirtual 111, 3) := by decide +kernel
theorem dX9_windowSum_10 : decode cX9_windowSum 10 = .ok (.if_icmp .ge 18, 3) := by decide +kernel
theorem dX9_windowSum_13 : decode cX9_windowSum 13 = .ok (.iload_n 2, 1) := by decide +kernel
theorem dX9_windowSum_14 : decode cX9_windowSum 14 = .ok (.aload_n 0, 1) := by decide +kernel
theorem dX9_windowSum_15 : decode cX9_windowSum 15 = .ok (.iload_n 1, 1) := by decide +kernel
theorem dX9_windowSum_16 : decode cX9_windowSum 16 = .ok (.iload_n 3, 1) := by decide +kernel
theorem dX9_windowSum_17 : decode cX9_windowSum 17 = .ok (.invokevirtual 114, 3) := by decide +kernel
theorem dX9_windowSum_20 : decode cX9_windowSum 20 = .ok (.iadd, 1) := by decide +kernel
theorem dX9_windowSum_21 : decode cX9_windowSum 21 = .ok (.istore_n 2, 1) := by decide +kernel
theorem dX9_windowSum_22 : decode cX9_windowSum 22 = .ok (.iinc 3 1, 3) := by decide +kernel
theorem dX9_windowSum_25 : decode cX9_windowSum 25 = .ok (.goto (-21), 3) := by decide +kernel
theorem dX9_windowSum_28 : decode cX9_windowSum 28 = .ok (.iload_n 2, 1) := by decide +kernel
theorem dX9_windowSum_29 : decode cX9_windowSum 29 = .ok (.ireturn, 1) := by decide +kernel
theorem dX9_foresees_0 : decode cX9_foresees 0 = .ok (.aload_n 0, 1) := by decide +kernel
theorem dX9_foresees_1 : decode cX9_foresees 1 = .ok (.iload_n 1, 1) := by decide +kernel
theorem dX9_foresees_2 : decode cX9_foresees 2 = .ok (.invokevirtual 111, 3) := by decide +kernel
theorem dX9_foresees_5 : decode cX9_foresees 5 = .ok (.istore_n 2, 1) := by decide +kernel
theorem dX9_foresees_6 : decode cX9_foresees 6 = .ok (.aload_n 0, 1) := by decide +kernel
theorem dX9_foresees_7 : decode cX9_foresees 7 = .ok (.iload_n 1, 1) := by decide +kernel
theorem dX9_foresees_8 : decode cX9_foresees 8 = .ok (.bipush 6, 2) := by decide +kernel
theorem dX9_foresees_10 : decode cX9_foresees 10 = .ok (.invokevirtual 81, 3) := by decide +kernel
theorem dX9_foresees_13 : decode cX9_foresees 13 = .ok (.istore_n 3, 1) := by decide +kernel
theorem dX9_foresees_14 : decode cX9_foresees 14 = .ok (.aload_n 0, 1) := by decide +kernel
theorem dX9_foresees_15 : decode cX9_foresees 15 = .ok (.iload_n 1, 1) := by decide +kernel
theorem dX9_foresees_16 : decode cX9_foresees 16 = .ok (.bipush 7, 2) := by decide +kernel
theorem dX9_foresees_18 : decode cX9_foresees 18 = .ok (.invokevirtual 81, 3) := by decide +kernel
theorem dX9_foresees_21 : decode cX9_foresees 21 = .ok (.ifCond .ne 13, 3) := by decide +kernel
theorem dX9_foresees_24 : decode cX9_foresees 24 = .ok (.aload_n 0, 1) := by decide +kernel
theorem dX9_foresees_25 : decode cX9_foresees 25 = .ok (.iload_n 1, 1) := by decide +kernel
theorem dX9_foresees_26 : decode cX9_foresees 26 = .ok (.invokevirtual 117, 3) := by decide +kernel
theorem dX9_foresees_29 : decode cX9_foresees 29 = .ok (.iload_n 2, 1) := by decide +kernel
theorem dX9_foresees_30 : decode cX9_foresees 30 = .ok (.invokestatic 120, 3) := by decide +kernel
theorem dX9_foresees_33 : decode cX9_foresees 33 = .ok (.ireturn, 1) := by decide +kernel
theorem dX9_foresees_34 : decode cX9_foresees 34 = .ok (.aload_n 0, 1) := by decide +kernel
theorem dX9_foresees_35 : decode cX9_foresees 35 = .ok (.iload_n 1, 1) := by decide +kernel
theorem dX9_foresees_36 : decode cX9_foresees 36 = .ok (.bipush 7, 2) := by decide +kernel
theorem dX9_foresees_38 : decode cX9_foresees 38 = .ok (.invokevirtual 81, 3) := by decide +kernel
theorem dX9_foresees_41 : decode cX9_foresees 41 = .ok (.iconst 1, 1) := by decide +kernel
theorem dX9_foresees_42 : decode cX9_foresees 42 = .ok (.if_icmp .ne 40, 3) := by decide +kernel
theorem dX9_foresees_45 : decode cX9_foresees 45 = .ok (.iconst 0, 1) := by decide +kernel
theorem dX9_foresees_46 : decode cX9_foresees 46 = .ok (.aload_n 0, 1) := by decide +kernel
theorem dX9_foresees_47 : decode cX9_foresees 47 = .ok (.iload_n 1, 1) := by decide +kernel
theorem dX9_foresees_48 : decode cX9_foresees 48 = .ok (.iconst 0, 1) := by decide +kernel
theorem dX9_foresees_49 : decode cX9_foresees 49 = .ok (.invokevirtual 114, 3) := by decide +kernel
theorem dX9_foresees_52 : decode cX9_foresees 52 = .ok (.aload_n 0, 1) := by decide +kernel
theorem dX9_foresees_53 : decode cX9_foresees 53 = .ok (.iload_n 1, 1) := by decide +kernel
theorem dX9_foresees_54 : decode cX9_foresees 54 = .ok (.iconst 0, 1) := by decide +kernel
theorem dX9_foresees_55 : decode cX9_foresees 55 = .ok (.invokevirtual 114, 3) := by decide +kernel
theorem dX9_foresees_58 : decode cX9_foresees 58 = .ok (.aload_n 0, 1) := by decide +kernel
theorem dX9_foresees_59 : decode cX9_foresees 59 = .ok (.iload_n 1, 1) := by decide +kernel
theorem dX9_foresees_60 : decode cX9_foresees 60 = .ok (.iload_n 2, 1) := by decide +kernel
theorem dX9_foresees_61 : decode cX9_foresees 61 = .ok (.iconst 1, 1) := by decide +kernel
theorem dX9_foresees_62 : decode cX9_foresees 62 = .ok (.isub, 1) := by decide +kernel
theorem dX9_foresees_63 : decode cX9_foresees 63 = .ok (.invokevirtual 114, 3) := by decide +kernel
theorem dX9_foresees_66 : decode cX9_foresees 66 = .ok (.isub, 1) := by decide +kernel
theorem dX9_foresees_67 : decode cX9_foresees 67 = .ok (.iload_n 3, 1) := by decide +kernel
theorem dX9_foresees_68 : decode cX9_foresees 68 = .ok (.imul, 1) := by decide +kernel
theorem dX9_foresees_69 : decode cX9_foresees 69 = .ok (.iconst 1, 1) := by decide +kernel
theorem dX9_foresees_70 : decode cX9_foresees 70 = .ok (.iload_n 2, 1) := by decide +kernel
theorem dX9_foresees_71 : decode cX9_foresees 71 = .ok (.iconst 1, 1) := by decide +kernel
theorem dX9_foresees_72 : decode cX9_foresees 72 = .ok (.isub, 1) := by decide +kernel
theorem dX9_foresees_73 : decode cX9_foresees 73 = .ok (.invokestatic 123, 3) := by decide +kernel
theorem dX9_foresees_76 : decode cX9_foresees 76 = .ok (.idiv, 1) := by decide +kernel
theorem dX9_foresees_77 : decode cX9_foresees 77 = .ok (.iadd, 1) := by decide +kernel
theorem dX9_foresees_78 : decode cX9_foresees 78 = .ok (.invokestatic 123, 3) := by decide +kernel
theorem dX9_foresees_81 : decode cX9_foresees 81 = .ok (.ireturn, 1) := by decide +kernel
theorem dX9_foresees_82 : decode cX9_foresees 82 = .ok (.iload_n 3, 1) := by decide +kernel
theorem dX9_foresees_83 : decode cX9_foresees 83 = .ok (.aload_n 0, 1) := by decide +kernel
theorem dX9_foresees_84 : decode cX9_foresees 84 = .ok (.iload_n 1, 1) := by decide +kernel
theorem dX9_foresees_85 : decode cX9_foresees 85 = .ok (.bipush 8, 2) := by decide +kernel
theorem dX9_foresees_87 : decode cX9_foresees 87 = .ok (.invokevirtual 81, 3) := by decide +kernel
theorem dX9_foresees_90 : decode cX9_foresees 90 = .ok (.invokestatic 120, 3) := by decide +kernel
theorem dX9_foresees_93 : decode cX9_foresees 93 = .ok (.aload_n 0, 1) := by decide +kernel
theorem dX9_foresees_94 : decode cX9_foresees 94 = .ok (.iload_n 1, 1) := by decide +kernel
theorem dX9_foresees_95 : decode cX9_foresees 95 = .ok (.bipush 8, 2) := by decide +kernel
theorem dX9_foresees_97 : decode cX9_foresees 97 = .ok (.invokevirtual 81, 3) := by decide +kernel
theorem dX9_foresees_100 : decode cX9_foresees 100 = .ok (.imul, 1) := by decide +kernel
theorem dX9_foresees_101 : decode cX9_foresees 101 = .ok (.iload_n 3, 1) := by decide +kernel
theorem dX9_foresees_102 : decode cX9_foresees 102 = .ok (.isub, 1) := by decide +kernel
theorem dX9_foresees_103 : decode cX9_foresees 103 = .ok (.istore 4, 2) := by decide +kernel
theorem dX9_foresees_105 : decode cX9_foresees 105 = .ok (.iload 4, 2) := by decide +kernel
theorem dX9_foresees_107 : decode cX9_foresees 107 = .ok (.aload_n 0, 1) := by decide +kernel
theorem dX9_foresees_108 : decode cX9_foresees 108 = .ok (.iload_n 1, 1) := by decide +kernel
theorem dX9_foresees_109 : decode cX9_foresees 109 = .ok (.bipush 29, 2) := by decide +kernel
theorem dX9_foresees_111 : decode cX9_foresees 111 = .ok (.invokevirtual 81, 3) := by decide +kernel
theorem dX9_foresees_114 : decode cX9_foresees 114 = .ok (.if_icmp .ge 13, 3) := by decide +kernel
theorem dX9_foresees_117 : decode cX9_foresees 117 = .ok (.aload_n 0, 1) := by decide +kernel
theorem dX9_foresees_118 : decode cX9_foresees 118 = .ok (.iload_n 1, 1) := by decide +kernel
theorem dX9_foresees_119 : decode cX9_foresees 119 = .ok (.iload 4, 2) := by decide +kernel
theorem dX9_foresees_121 : decode cX9_foresees 121 = .ok (.invokevirtual 114, 3) := by decide +kernel
theorem dX9_foresees_124 : decode cX9_foresees 124 = .ok (.goto 9, 3) := by decide +kernel
theorem dX9_foresees_127 : decode cX9_foresees 127 = .ok (.aload_n 0, 1) := by decide +kernel
theorem dX9_foresees_128 : decode cX9_foresees 128 = .ok (.iload_n 1, 1) := by decide +kernel
theorem dX9_foresees_129 : decode cX9_foresees 129 = .ok (.iconst 0, 1) := by decide +kernel
theorem dX9_foresees_130 : decode cX9_foresees 130 = .ok (.invokevirtual 114, 3) := by decide +kernel
theorem dX9_foresees_133 : decode cX9_foresees 133 = .ok (.ireturn, 1) := by decide +kernel
theorem dX9_meets_0 : decode cX9_meets 0 = .ok (.aload_n 0, 1) := by decide +kernel
theorem dX9_meets_1 : decode cX9_meets 1 = .ok (.getfield 7, 3) := by decide +kernel
theorem dX9_meets_4 : decode cX9_meets 4 = .ok (.iconst 1, 1) := by decide +kernel
theorem dX9_meets_5 : decode cX9_meets 5 = .ok (.iaload, 1) := by decide +kernel
theorem dX9_meets_6 : decode cX9_meets 6 = .ok (.istore_n 2, 1) := by decide +kernel
theorem dX9_meets_7 : decode cX9_meets 7 = .ok (.aload_n 0, 1) := by decide +kernel
theorem dX9_meets_8 : decode cX9_meets 8 = .ok (.iload_n 1, 1) := by decide +kernel
theorem dX9_meets_9 : decode cX9_meets 9 = .ok (.iload_n 2, 1) := by decide +kernel
theorem dX9_meets_10 : decode cX9_meets 10 = .ok (.invokevirtual 126, 3) := by decide +kernel
theorem dX9_meets_13 : decode cX9_meets 13 = .ok (.aload_n 0, 1) := by decide +kernel
theorem dX9_meets_14 : decode cX9_meets 14 = .ok (.iload_n 1, 1) := by decide +kernel
theorem dX9_meets_15 : decode cX9_meets 15 = .ok (.bipush 20, 2) := by decide +kernel
theorem dX9_meets_17 : decode cX9_meets 17 = .ok (.invokevirtual 81, 3) := by decide +kernel
theorem dX9_meets_20 : decode cX9_meets 20 = .ok (.iadd, 1) := by decide +kernel
theorem dX9_meets_21 : decode cX9_meets 21 = .ok (.istore_n 3, 1) := by decide +kernel
theorem dX9_meets_22 : decode cX9_meets 22 = .ok (.aload_n 0, 1) := by decide +kernel
theorem dX9_meets_23 : decode cX9_meets 23 = .ok (.iload_n 1, 1) := by decide +kernel
theorem dX9_meets_24 : decode cX9_meets 24 = .ok (.invokevirtual 129, 3) := by decide +kernel
theorem dX9_meets_27 : decode cX9_meets 27 = .ok (.istore 4, 2) := by decide +kernel
theorem dX9_meets_29 : decode cX9_meets 29 = .ok (.iconst 0, 1) := by decide +kernel
theorem dX9_meets_30 : decode cX9_meets 30 = .ok (.iload_n 3, 1) := by decide +kernel
theorem dX9_meets_31 : decode cX9_meets 31 = .ok (.iload 4, 2) := by decide +kernel
theorem dX9_meets_33 : decode cX9_meets 33 = .ok (.isub, 1) := by decide +kernel
theorem dX9_meets_34 : decode cX9_meets 34 = .ok (.invokestatic 123, 3) := by decide +kernel
theorem dX9_meets_37 : decode cX9_meets 37 = .ok (.istore 5, 2) := by decide +kernel
theorem dX9_meets_39 : decode cX9_meets 39 = .ok (.aload_n 0, 1) := by decide +kernel
theorem dX9_meets_40 : decode cX9_meets 40 = .ok (.iload_n 1, 1) := by decide +kernel
theorem dX9_meets_41 : decode cX9_meets 41 = .ok (.bipush 20, 2) := by decide +kernel
theorem dX9_meets_43 : decode cX9_meets 43 = .ok (.iconst 0, 1) := by decide +kernel
theorem dX9_meets_44 : decode cX9_meets 44 = .ok (.invokevirtual 64, 3) := by decide +kernel
theorem dX9_meets_47 : decode cX9_meets 47 = .ok (.aload_n 0, 1) := by decide +kernel
theorem dX9_meets_48 : decode cX9_meets 48 = .ok (.iload_n 1, 1) := by decide +kernel
theorem dX9_meets_49 : decode cX9_meets 49 = .ok (.bipush 60, 2) := by decide +kernel
theorem dX9_meets_51 : decode cX9_meets 51 = .ok (.iload_n 2, 1) := by decide +kernel
theorem dX9_meets_52 : decode cX9_meets 52 = .ok (.bipush 24, 2) := by decide +kernel
theorem dX9_meets_54 : decode cX9_meets 54 = .ok (.irem, 1) := by decide +kernel
theorem dX9_meets_55 : decode cX9_meets 55 = .ok (.iadd, 1) := by decide +kernel
theorem dX9_meets_56 : decode cX9_meets 56 = .ok (.iload_n 3, 1) := by decide +kernel
theorem dX9_meets_57 : decode cX9_meets 57 = .ok (.invokevirtual 64, 3) := by decide +kernel
theorem dX9_meets_60 : decode cX9_meets 60 = .ok (.aload_n 0, 1) := by decide +kernel
theorem dX9_meets_61 : decode cX9_meets 61 = .ok (.iload_n 1, 1) := by decide +kernel
theorem dX9_meets_62 : decode cX9_meets 62 = .ok (.bipush 29, 2) := by decide +kernel
theorem dX9_meets_64 : decode cX9_meets 64 = .ok (.iconst 1, 1) := by decide +kernel
theorem dX9_meets_65 : decode cX9_meets 65 = .ok (.invokevirtual 85, 3) := by decide +kernel
theorem dX9_meets_68 : decode cX9_meets 68 = .ok (.aload_n 0, 1) := by decide +kernel
theorem dX9_meets_69 : decode cX9_meets 69 = .ok (.iload_n 1, 1) := by decide +kernel
theorem dX9_meets_70 : decode cX9_meets 70 = .ok (.bipush 25, 2) := by decide +kernel
theorem dX9_meets_72 : decode cX9_meets 72 = .ok (.aload_n 0, 1) := by decide +kernel
theorem dX9_meets_73 : decode cX9_meets 73 = .ok (.iload_n 1, 1) := by decide +kernel
theorem dX9_meets_74 : decode cX9_meets 74 = .ok (.bipush 25, 2) := by decide +kernel
theorem dX9_meets_76 : decode cX9_meets 76 = .ok (.invokevirtual 81, 3) := by decide +kernel
theorem dX9_meets_79 : decode cX9_meets 79 = .ok (.iload_n 3, 1) := by decide +kernel
theorem dX9_meets_80 : decode cX9_meets 80 = .ok (.invokestatic 123, 3) := by decide +kernel
theorem dX9_meets_83 : decode cX9_meets 83 = .ok (.invokevirtual 64, 3) := by decide +kernel
theorem dX9_meets_86 : decode cX9_meets 86 = .ok (.aload_n 0, 1) := by decide +kernel
theorem dX9_meets_87 : decode cX9_meets 87 = .ok (.iload_n 1, 1) := by decide +kernel
theorem dX9_meets_88 : decode cX9_meets 88 = .ok (.bipush 26, 2) := by decide +kernel
theorem dX9_meets_90 : decode cX9_meets 90 = .ok (.iload 5, 2) := by decide +kernel
theorem dX9_meets_92 : decode cX9_meets 92 = .ok (.ifCond .le 15, 3) := by decide +kernel
theorem dX9_meets_95 : decode cX9_meets 95 = .ok (.aload_n 0, 1) := by decide +kernel
theorem dX9_meets_96 : decode cX9_meets 96 = .ok (.iload_n 1, 1) := by decide +kernel
theorem dX9_meets_97 : decode cX9_meets 97 = .ok (.bipush 26, 2) := by decide +kernel
theorem dX9_meets_99 : decode cX9_meets 99 = .ok (.invokevirtual 81, 3) := by decide +kernel
theorem dX9_meets_102 : decode cX9_meets 102 = .ok (.iconst 1, 1) := by decide +kernel
theorem dX9_meets_103 : decode cX9_meets 103 = .ok (.iadd, 1) := by decide +kernel
theorem dX9_meets_104 : decode cX9_meets 104 = .ok (.goto 4, 3) := by decide +kernel
theorem dX9_meets_107 : decode cX9_meets 107 = .ok (.iconst 0, 1) := by decide +kernel
theorem dX9_meets_108 : decode cX9_meets 108 = .ok (.invokevirtual 64, 3) := by decide +kernel
theorem dX9_meets_111 : decode cX9_meets 111 = .ok (.aload_n 0, 1) := by decide +kernel
theorem dX9_meets_112 : decode cX9_meets 112 = .ok (.iload_n 1, 1) := by decide +kernel
theorem dX9_meets_113 : decode cX9_meets 113 = .ok (.bipush 27, 2) := by decide +kernel
theorem dX9_meets_115 : decode cX9_meets 115 = .ok (.aload_n 0, 1) := by decide +kernel
theorem dX9_meets_116 : decode cX9_meets 116 = .ok (.iload_n 1, 1) := by decide +kernel
theorem dX9_meets_117 : decode cX9_meets 117 = .ok (.bipush 27, 2) := by decide +kernel
theorem dX9_meets_119 : decode cX9_meets 119 = .ok (.invokevirtual 81, 3) := by decide +kernel
theorem dX9_meets_122 : decode cX9_meets 122 = .ok (.aload_n 0, 1) := by decide +kernel
theorem dX9_meets_123 : decode cX9_meets 123 = .ok (.iload_n 1, 1) := by decide +kernel
theorem dX9_meets_124 : decode cX9_meets 124 = .ok (.bipush 26, 2) := by decide +kernel
theorem dX9_meets_126 : decode cX9_meets 126 = .ok (.invokevirtual 81, 3) := by decide +kernel
theorem dX9_meets_129 : decode cX9_meets 129 = .ok (.invokestatic 123, 3) := by decide +kernel
theorem dX9_meets_132 : decode cX9_meets 132 = .ok (.invokevirtual 64, 3) := by decide +kernel
theorem dX9_meets_135 : decode cX9_meets 135 = .ok (.aload_n 0, 1) := by decide +kernel
theorem dX9_meets_136 : decode cX9_meets 136 = .ok (.getfield 25, 3) := by decide +kernel
theorem dX9_meets_139 : decode cX9_meets 139 = .ok (.bipush 6, 2) := by decide +kernel
theorem dX9_meets_141 : decode cX9_meets 141 = .ok (.iload_n 1, 1) := by decide +kernel
theorem dX9_meets_142 : decode cX9_meets 142 = .ok (.imul, 1) := by decide +kernel
theorem dX9_meets_143 : decode cX9_meets 143 = .ok (.iconst 0, 1) := by decide +kernel
theorem dX9_meets_144 : decode cX9_meets 144 = .ok (.iadd, 1) := by decide +kernel
theorem dX9_meets_145 : decode cX9_meets 145 = .ok (.dup2, 1) := by decide +kernel
theorem dX9_meets_146 : decode cX9_meets 146 = .ok (.laload, 1) := by decide +kernel
theorem dX9_meets_147 : decode cX9_meets 147 = .ok (.iload_n 3, 1) := by decide +kernel
theorem dX9_meets_148 : decode cX9_meets 148 = .ok (.iload 5, 2) := by decide +kernel
theorem dX9_meets_150 : decode cX9_meets 150 = .ok (.isub, 1) := by decide +kernel
theorem dX9_meets_151 : decode cX9_meets 151 = .ok (.i2l, 1) := by decide +kernel
theorem dX9_meets_152 : decode cX9_meets 152 = .ok (.ladd, 1) := by decide +kernel
theorem dX9_meets_153 : decode cX9_meets 153 = .ok (.lastore, 1) := by decide +kernel
theorem dX9_meets_154 : decode cX9_meets 154 = .ok (.aload_n 0, 1) := by decide +kernel
theorem dX9_meets_155 : decode cX9_meets 155 = .ok (.getfield 25, 3) := by decide +kernel
theorem dX9_meets_158 : decode cX9_meets 158 = .ok (.bipush 6, 2) := by decide +kernel
theorem dX9_meets_160 : decode cX9_meets 160 = .ok (.iload_n 1, 1) := by decide +kernel
theorem dX9_meets_161 : decode cX9_meets 161 = .ok (.imul, 1) := by decide +kernel
theorem dX9_meets_162 : decode cX9_meets 162 = .ok (.iconst 1, 1) := by decide +kernel
theorem dX9_meets_163 : decode cX9_meets 163 = .ok (.iadd, 1) := by decide +kernel
theorem dX9_meets_164 : decode cX9_meets 164 = .ok (.dup2, 1) := by decide +kernel
theorem dX9_meets_165 : decode cX9_meets 165 = .ok (.laload, 1) := by decide +kernel
theorem dX9_meets_166 : decode cX9_meets 166 = .ok (.iload 5, 2) := by decide +kernel
theorem dX9_meets_168 : decode cX9_meets 168 = .ok (.i2l, 1) := by decide +kernel
theorem dX9_meets_169 : decode cX9_meets 169 = .ok (.ladd, 1) := by decide +kernel
theorem dX9_meets_170 : decode cX9_meets 170 = .ok (.lastore, 1) := by decide +kernel
theorem dX9_meets_171 : decode cX9_meets 171 = .ok (.aload_n 0, 1) := by decide +kernel
theorem dX9_meets_172 : decode cX9_meets 172 = .ok (.getfield 25, 3) := by decide +kernel
theorem dX9_meets_175 : decode cX9_meets 175 = .ok (.bipush 6, 2) := by decide +kernel
theorem dX9_meets_177 : decode cX9_meets 177 = .ok (.iload_n 1, 1) := by decide +kernel
theorem dX9_meets_178 : decode cX9_meets 178 = .ok (.imul, 1) := by decide +kernel
theorem dX9_meets_179 : decode cX9_meets 179 = .ok (.iconst 2, 1) := by decide +kernel
theorem dX9_meets_180 : decode cX9_meets 180 = .ok (.iadd, 1) := by decide +kernel
theorem dX9_meets_181 : decode cX9_meets 181 = .ok (.dup2, 1) := by decide +kernel
theorem dX9_meets_182 : decode cX9_meets 182 = .ok (.laload, 1) := by decide +kernel
theorem dX9_meets_183 : decode cX9_meets 183 = .ok (.aload_n 0, 1) := by decide +kernel
theorem dX9_meets_184 : decode cX9_meets 184 = .ok (.iload_n 1, 1) := by decide +kernel
theorem dX9_meets_185 : decode cX9_meets 185 = .ok (.bipush 14, 2) := by decide +kernel
theorem dX9_meets_187 : decode cX9_meets 187 = .ok (.invokevirtual 81, 3) := by decide +kernel
theorem dX9_meets_190 : decode cX9_meets 190 = .ok (.aload_n 0, 1) := by decide +kernel
theorem dX9_meets_191 : decode cX9_meets 191 = .ok (.iload_n 1, 1) := by decide +kernel
theorem dX9_meets_192 : decode cX9_meets 192 = .ok (.bipush 23, 2) := by decide +kernel
theorem dX9_meets_194 : decode cX9_meets 194 = .ok (.invokevirtual 81, 3) := by decide +kernel
theorem dX9_meets_197 : decode cX9_meets 197 = .ok (.imul, 1) := by decide +kernel
theorem dX9_meets_198 : decode cX9_meets 198 = .ok (.aload_n 0, 1) := by decide +kernel
theorem dX9_meets_199 : decode cX9_meets 199 = .ok (.iload_n 1, 1) := by decide +kernel
theorem dX9_meets_200 : decode cX9_meets 200 = .ok (.bipush 15, 2) := by decide +kernel
theorem dX9_meets_202 : decode cX9_meets 202 = .ok (.invokevirtual 81, 3) := by decide +kernel
theorem dX9_meets_205 : decode cX9_meets 205 = .ok (.iload 5, 2) := by decide +kernel
theorem dX9_meets_207 : decode cX9_meets 207 = .ok (.imul, 1) := by decide +kernel
theorem dX9_meets_208 : decode cX9_meets 208 = .ok (.iadd, 1) := by decide +kernel
theorem dX9_meets_209 : decode cX9_meets 209 = .ok (.i2l, 1) := by decide +kernel
theorem dX9_meets_210 : decode cX9_meets 210 = .ok (.ladd, 1) := by decide +kernel
theorem dX9_meets_211 : decode cX9_meets 211 = .ok (.lastore, 1) := by decide +kernel
theorem dX9_meets_212 : decode cX9_meets 212 = .ok (.aload_n 0, 1) := by decide +kernel
theorem dX9_meets_213 : decode cX9_meets 213 = .ok (.getfield 25, 3) := by decide +kernel
theorem dX9_meets_216 : decode cX9_meets 216 = .ok (.bipush 6, 2) := by decide +kernel
theorem dX9_meets_218 : decode cX9_meets 218 = .ok (.iload_n 1, 1) := by decide +kernel
theorem dX9_meets_219 : decode cX9_meets 219 = .ok (.imul, 1) := by decide +kernel
theorem dX9_meets_220 : decode cX9_meets 220 = .ok (.iconst 4, 1) := by decide +kernel
theorem dX9_meets_221 : decode cX9_meets 221 = .ok (.iadd, 1) := by decide +kernel
theorem dX9_meets_222 : decode cX9_meets 222 = .ok (.dup2, 1) := by decide +kernel
theorem dX9_meets_223 : decode cX9_meets 223 = .ok (.laload, 1) := by decide +kernel
theorem dX9_meets_224 : decode cX9_meets 224 = .ok (.iload_n 3, 1) := by decide +kernel
theorem dX9_meets_225 : decode cX9_meets 225 = .ok (.i2l, 1) := by decide +kernel
theorem dX9_meets_226 : decode cX9_meets 226 = .ok (.ladd, 1) := by decide +kernel
theorem dX9_meets_227 : decode cX9_meets 227 = .ok (.lastore, 1) := by decide +kernel
theorem dX9_meets_228 : decode cX9_meets 228 = .ok (.aload_n 0, 1) := by decide +kernel
theorem dX9_meets_229 : decode cX9_meets 229 = .ok (.getfield 25, 3) := by decide +kernel
theorem dX9_meets_232 : decode cX9_meets 232 = .ok (.bipush 6, 2) := by decide +kernel
theorem dX9_meets_234 : decode cX9_meets 234 = .ok (.iload_n 1, 1) := by decide +kernel
theorem dX9_meets_235 : decode cX9_meets 235 = .ok (.imul, 1) := by decide +kernel
theorem dX9_meets_236 : decode cX9_meets 236 = .ok (.iconst 5, 1) := by decide +kernel
theorem dX9_meets_237 : decode cX9_meets 237 = .ok (.iadd, 1) := by decide +kernel
theorem dX9_meets_238 : decode cX9_meets 238 = .ok (.dup2, 1) := by decide +kernel
theorem dX9_meets_239 : decode cX9_meets 239 = .ok (.laload, 1) := by decide +kernel
theorem dX9_meets_240 : decode cX9_meets 240 = .ok (.iload 4, 2) := by decide +kernel
theorem dX9_meets_242 : decode cX9_meets 242 = .ok (.i2l, 1) := by decide +kernel
theorem dX9_meets_243 : decode cX9_meets 243 = .ok (.ladd, 1) := by decide +kernel
theorem dX9_meets_244 : decode cX9_meets 244 = .ok (.lastore, 1) := by decide +kernel
theorem dX9_meets_245 : decode cX9_meets 245 = .ok (.iload_n 2, 1) := by decide +kernel
theorem dX9_meets_246 : decode cX9_meets 246 = .ok (.aload_n 0, 1) := by decide +kernel
theorem dX9_meets_247 : decode cX9_meets 247 = .ok (.iload_n 1, 1) := by decide +kernel
theorem dX9_meets_248 : decode cX9_meets 248 = .ok (.bipush 6, 2) := by decide +kernel
theorem dX9_meets_250 : decode cX9_meets 250 = .ok (.invokevirtual 81, 3) := by decide +kernel
theorem dX9_meets_253 : decode cX9_meets 253 = .ok (.if_icmp .lt 56, 3) := by decide +kernel
theorem dX9_meets_256 : decode cX9_meets 256 = .ok (.aload_n 0, 1) := by decide +kernel
theorem dX9_meets_257 : decode cX9_meets 257 = .ok (.iload_n 1, 1) := by decide +kernel
theorem dX9_meets_258 : decode cX9_meets 258 = .ok (.bipush 84, 2) := by decide +kernel
theorem dX9_meets_260 : decode cX9_meets 260 = .ok (.iload_n 2, 1) := by decide +kernel
theorem dX9_meets_261 : decode cX9_meets 261 = .ok (.bipush 16, 2) := by decide +kernel
theorem dX9_meets_263 : decode cX9_meets 263 = .ok (.irem, 1) := by decide +kernel
theorem dX9_meets_264 : decode cX9_meets 264 = .ok (.iadd, 1) := by decide +kernel
theorem dX9_meets_265 : decode cX9_meets 265 = .ok (.invokevirtual 81, 3) := by decide +kernel
theorem dX9_meets_268 : decode cX9_meets 268 = .ok (.iload_n 3, 1) := by decide +kernel
theorem dX9_meets_269 : decode cX9_meets 269 = .ok (.isub, 1) := by decide +kernel
theorem dX9_meets_270 : decode cX9_meets 270 = .ok (.istore 6, 2) := by decide +kernel
theorem dX9_meets_272 : decode cX9_meets 272 = .ok (.aload_n 0, 1) := by decide +kernel
theorem dX9_meets_273 : decode cX9_meets 273 = .ok (.getfield 25, 3) := by decide +kernel
theorem dX9_meets_276 : decode cX9_meets 276 = .ok (.bipush 6, 2) := by decide +kernel
theorem dX9_meets_278 : decode cX9_meets 278 = .ok (.iload_n 1, 1) := by decide +kernel
theorem dX9_meets_279 : decode cX9_meets 279 = .ok (.imul, 1) := by decide +kernel
theorem dX9_meets_280 : decode cX9_meets 280 = .ok (.iconst 3, 1) := by decide +kernel
theorem dX9_meets_281 : decode cX9_meets 281 = .ok (.iadd, 1) := by decide +kernel
theorem dX9_meets_282 : decode cX9_meets 282 = .ok (.dup2, 1) := by decide +kernel
theorem dX9_meets_283 : decode cX9_meets 283 = .ok (.laload, 1) := by decide +kernel
theorem dX9_meets_284 : decode cX9_meets 284 = .ok (.iload 6, 2) := by decide +kernel
theorem dX9_meets_286 : decode cX9_meets 286 = .ok (.ifCond .ge 10, 3) := by decide +kernel
theorem dX9_meets_289 : decode cX9_meets 289 = .ok (.iload 6, 2) := by decide +kernel
theorem dX9_meets_291 : decode cX9_meets 291 = .ok (.ineg, 1) := by decide +kernel
theorem dX9_meets_292 : decode cX9_meets 292 = .ok (.i2l, 1) := by decide +kernel
theorem dX9_meets_293 : decode cX9_meets 293 = .ok (.goto 6, 3) := by decide +kernel
theorem dX9_meets_296 : decode cX9_meets 296 = .ok (.iload 6, 2) := by decide +kernel
theorem dX9_meets_298 : decode cX9_meets 298 = .ok (.i2l, 1) := by decide +kernel
theorem dX9_meets_299 : decode cX9_meets 299 = .ok (.ladd, 1) := by decide +kernel
theorem dX9_meets_300 : decode cX9_meets 300 = .ok (.lastore, 1) := by decide +kernel
theorem dX9_meets_301 : decode cX9_meets 301 = .ok (.aload_n 0, 1) := by decide +kernel
theorem dX9_meets_302 : decode cX9_meets 302 = .ok (.iload_n 1, 1) := by decide +kernel
theorem dX9_meets_303 : decode cX9_meets 303 = .ok (.bipush 28, 2) := by decide +kernel
theorem dX9_meets_305 : decode cX9_meets 305 = .ok (.iconst 1, 1) := by decide +kernel
theorem dX9_meets_306 : decode cX9_meets 306 = .ok (.invokevirtual 85, 3) := by decide +kernel
theorem dX9_meets_309 : decode cX9_meets 309 = .ok (.return_, 1) := by decide +kernel
theorem dX9_looksAhead_0 : decode cX9_looksAhead 0 = .ok (.aload_n 0, 1) := by decide +kernel
theorem dX9_looksAhead_1 : decode cX9_looksAhead 1 = .ok (.iload_n 1, 1) := by decide +kernel
theorem dX9_looksAhead_2 : decode cX9_looksAhead 2 = .ok (.invokevirtual 132, 3) := by decide +kernel
theorem dX9_looksAhead_5 : decode cX9_looksAhead 5 = .ok (.istore_n 2, 1) := by decide +kernel
theorem dX9_looksAhead_6 : decode cX9_looksAhead 6 = .ok (.aload_n 0, 1) := by decide +kernel
theorem dX9_looksAhead_7 : decode cX9_looksAhead 7 = .ok (.iload_n 1, 1) := by decide +kernel
theorem dX9_looksAhead_8 : decode cX9_looksAhead 8 = .ok (.bipush 18, 2) := by decide +kernel
theorem dX9_looksAhead_10 : decode cX9_looksAhead 10 = .ok (.iload_n 2, 1) := by decide +kernel
theorem dX9_looksAhead_11 : decode cX9_looksAhead 11 = .ok (.invokevirtual 64, 3) := by decide +kernel
theorem dX9_looksAhead_14 : decode cX9_looksAhead 14 = .ok (.aload_n 0, 1) := by decide +kernel
theorem dX9_looksAhead_15 : decode cX9_looksAhead 15 = .ok (.iload_n 1, 1) := by decide +kernel
theorem dX9_looksAhead_16 : decode cX9_looksAhead 16 = .ok (.bipush 84, 2) := by decide +kernel
theorem dX9_looksAhead_18 : decode cX9_looksAhead 18 = .ok (.aload_n 0, 1) := by decide +kernel
theorem dX9_looksAhead_19 : decode cX9_looksAhead 19 = .ok (.getfield 7, 3) := by decide +kernel
theorem dX9_looksAhead_22 : decode cX9_looksAhead 22 = .ok (.iconst 1, 1) := by decide +kernel
theorem dX9_looksAhead_23 : decode cX9_looksAhead 23 = .ok (.iaload, 1) := by decide +kernel
theorem dX9_looksAhead_24 : decode cX9_looksAhead 24 = .ok (.aload_n 0, 1) := by decide +kernel
theorem dX9_looksAhead_25 : decode cX9_looksAhead 25 = .ok (.iload_n 1, 1) := by decide +kernel
theorem dX9_looksAhead_26 : decode cX9_looksAhead 26 = .ok (.bipush 6, 2) := by decide +kernel
theorem dX9_looksAhead_28 : decode cX9_looksAhead 28 = .ok (.invokevirtual 81, 3) := by decide +kernel
theorem dX9_looksAhead_31 : decode cX9_looksAhead 31 = .ok (.iadd, 1) := by decide +kernel
theorem dX9_looksAhead_32 : decode cX9_looksAhead 32 = .ok (.bipush 16, 2) := by decide +kernel
theorem dX9_looksAhead_34 : decode cX9_looksAhead 34 = .ok (.irem, 1) := by decide +kernel
theorem dX9_looksAhead_35 : decode cX9_looksAhead 35 = .ok (.iadd, 1) := by decide +kernel
theorem dX9_looksAhead_36 : decode cX9_looksAhead 36 = .ok (.iload_n 2, 1) := by decide +kernel
theorem dX9_looksAhead_37 : decode cX9_looksAhead 37 = .ok (.invokevirtual 64, 3) := by decide +kernel
theorem dX9_looksAhead_40 : decode cX9_looksAhead 40 = .ok (.bipush 100, 2) := by decide +kernel
theorem dX9_looksAhead_42 : decode cX9_looksAhead 42 = .ok (.iload_n 2, 1) := by decide +kernel
theorem dX9_looksAhead_43 : decode cX9_looksAhead 43 = .ok (.imul, 1) := by decide +kernel
theorem dX9_looksAhead_44 : decode cX9_looksAhead 44 = .ok (.aload_n 0, 1) := by decide +kernel
theorem dX9_looksAhead_45 : decode cX9_looksAhead 45 = .ok (.iload_n 1, 1) := by decide +kernel
theorem dX9_looksAhead_46 : decode cX9_looksAhead 46 = .ok (.iconst 3, 1) := by decide +kernel
theorem dX9_looksAhead_47 : decode cX9_looksAhead 47 = .ok (.invokevirtual 81, 3) := by decide +kernel
theorem dX9_looksAhead_50 : decode cX9_looksAhead 50 = .ok (.aload_n 0, 1) := by decide +kernel
theorem dX9_looksAhead_51 : decode cX9_looksAhead 51 = .ok (.iload_n 1, 1) := by decide +kernel
theorem dX9_looksAhead_52 : decode cX9_looksAhead 52 = .ok (.iconst 2, 1) := by decide +kernel
theorem dX9_looksAhead_53 : decode cX9_looksAhead 53 = .ok (.invokevirtual 81, 3) := by decide +kernel
theorem dX9_looksAhead_56 : decode cX9_looksAhead 56 = .ok (.imul, 1) := by decide +kernel
theorem dX9_looksAhead_57 : decode cX9_looksAhead 57 = .ok (.invokestatic 120, 3) := by decide +kernel
theorem dX9_looksAhead_60 : decode cX9_looksAhead 60 = .ok (.istore_n 3, 1) := by decide +kernel
theorem dX9_looksAhead_61 : decode cX9_looksAhead 61 = .ok (.aload_n 0, 1) := by decide +kernel
theorem dX9_looksAhead_62 : decode cX9_looksAhead 62 = .ok (.iload_n 1, 1) := by decide +kernel
theorem dX9_looksAhead_63 : decode cX9_looksAhead 63 = .ok (.bipush 19, 2) := by decide +kernel
theorem dX9_looksAhead_65 : decode cX9_looksAhead 65 = .ok (.aload_n 0, 1) := by decide +kernel
theorem dX9_looksAhead_66 : decode cX9_looksAhead 66 = .ok (.iload_n 1, 1) := by decide +kernel
theorem dX9_looksAhead_67 : decode cX9_looksAhead 67 = .ok (.iconst 1, 1) := by decide +kernel
theorem dX9_looksAhead_68 : decode cX9_looksAhead 68 = .ok (.invokevirtual 81, 3) := by decide +kernel
theorem dX9_looksAhead_71 : decode cX9_looksAhead 71 = .ok (.aload_n 0, 1) := by decide +kernel
theorem dX9_looksAhead_72 : decode cX9_looksAhead 72 = .ok (.iload_n 1, 1) := by decide +kernel
theorem dX9_looksAhead_73 : decode cX9_looksAhead 73 = .ok (.iconst 0, 1) := by decide +kernel
theorem dX9_looksAhead_74 : decode cX9_looksAhead 74 = .ok (.invokevirtual 81, 3) := by decide +kernel
theorem dX9_looksAhead_77 : decode cX9_looksAhead 77 = .ok (.iload_n 3, 1) := by decide +kernel
theorem dX9_looksAhead_78 : decode cX9_looksAhead 78 = .ok (.invokestatic 123, 3) := by decide +kernel
theorem dX9_looksAhead_81 : decode cX9_looksAhead 81 = .ok (.invokestatic 106, 3) := by decide +kernel
theorem dX9_looksAhead_84 : decode cX9_looksAhead 84 = .ok (.invokevirtual 64, 3) := by decide +kernel
theorem dX9_looksAhead_87 : decode cX9_looksAhead 87 = .ok (.return_, 1) := by decide +kernel
theorem dX9_decides_0 : decode cX9_decides 0 = .ok (.aload_n 0, 1) := by decide +kernel
theorem dX9_decides_1 : decode cX9_decides 1 = .ok (.getfield 7, 3) := by decide +kernel
theorem dX9_decides_4 : decode cX9_decides 4 = .ok (.iconst 1, 1) := by decide +kernel
theorem dX9_decides_5 : decode cX9_decides 5 = .ok (.iaload, 1) := by decide +kernel
theorem dX9_decides_6 : decode cX9_decides 6 = .ok (.istore_n 2, 1) := by decide +kernel
theorem dX9_decides_7 : decode cX9_decides 7 = .ok (.aload_n 0, 1) := by decide +kernel
theorem dX9_decides_8 : decode cX9_decides 8 = .ok (.iload_n 1, 1) := by decide +kernel
theorem dX9_decides_9 : decode cX9_decides 9 = .ok (.bipush 19, 2) := by decide +kernel
theorem dX9_decides_11 : decode cX9_decides 11 = .ok (.invokevirtual 81, 3) := by decide +kernel
theorem dX9_decides_14 : decode cX9_decides 14 = .ok (.aload_n 0, 1) := by decide +kernel
theorem dX9_decides_15 : decode cX9_decides 15 = .ok (.iload_n 1, 1) := by decide +kernel
theorem dX9_decides_16 : decode cX9_decides 16 = .ok (.bipush 23, 2) := by decide +kernel
theorem dX9_decides_18 : decode cX9_decides 18 = .ok (.invokevirtual 81, 3) := by decide +kernel
theorem dX9_decides_21 : decode cX9_decides 21 = .ok (.isub, 1) := by decide +kernel
theorem dX9_decides_22 : decode cX9_decides 22 = .ok (.istore_n 3, 1) := by decide +kernel
theorem dX9_decides_23 : decode cX9_decides 23 = .ok (.aload_n 0, 1) := by decide +kernel
theorem dX9_decides_24 : decode cX9_decides 24 = .ok (.iload_n 1, 1) := by decide +kernel
theorem dX9_decides_25 : decode cX9_decides 25 = .ok (.bipush 16, 2) := by decide +kernel
theorem dX9_decides_27 : decode cX9_decides 27 = .ok (.invokevirtual 81, 3) := by decide +kernel
theorem dX9_decides_30 : decode cX9_decides 30 = .ok (.iconst 1, 1) := by decide +kernel
theorem dX9_decides_31 : decode cX9_decides 31 = .ok (.if_icmp .ne 5, 3) := by decide +kernel
theorem dX9_decides_34 : decode cX9_decides 34 = .ok (.iconst 3, 1) := by decide +kernel
theorem dX9_decides_35 : decode cX9_decides 35 = .ok (.ireturn, 1) := by decide +kernel
theorem dX9_decides_36 : decode cX9_decides 36 = .ok (.iload_n 3, 1) := by decide +kernel
theorem dX9_decides_37 : decode cX9_decides 37 = .ok (.ifCond .ne 5, 3) := by decide +kernel
theorem dX9_decides_40 : decode cX9_decides 40 = .ok (.iconst 2, 1) := by decide +kernel
theorem dX9_decides_41 : decode cX9_decides 41 = .ok (.ireturn, 1) := by decide +kernel
theorem dX9_decides_42 : decode cX9_decides 42 = .ok (.iload_n 3, 1) := by decide +kernel
theorem dX9_decides_43 : decode cX9_decides 43 = .ok (.ifCond .le 28, 3) := by decide +kernel
theorem dX9_decides_46 : decode cX9_decides 46 = .ok (.iload_n 2, 1) := by decide +kernel
theorem dX9_decides_47 : decode cX9_decides 47 = .ok (.aload_n 0, 1) := by decide +kernel
theorem dX9_decides_48 : decode cX9_decides 48 = .ok (.iload_n 1, 1) := by decide +kernel
theorem dX9_decides_49 : decode cX9_decides 49 = .ok (.bipush 21, 2) := by decide +kernel
theorem dX9_decides_51 : decode cX9_decides 51 = .ok (.invokevirtual 81, 3) := by decide +kernel
theorem dX9_decides_54 : decode cX9_decides 54 = .ok (.isub, 1) := by decide +kernel
theorem dX9_decides_55 : decode cX9_decides 55 = .ok (.aload_n 0, 1) := by decide +kernel
theorem dX9_decides_56 : decode cX9_decides 56 = .ok (.iload_n 1, 1) := by decide +kernel
theorem dX9_decides_57 : decode cX9_decides 57 = .ok (.bipush 12, 2) := by decide +kernel
theorem dX9_decides_59 : decode cX9_decides 59 = .ok (.invokevirtual 81, 3) := by decide +kernel
theorem dX9_decides_62 : decode cX9_decides 62 = .ok (.if_icmp .ge 7, 3) := by decide +kernel
theorem dX9_decides_65 : decode cX9_decides 65 = .ok (.iconst 4, 1) := by decide +kernel
theorem dX9_decides_66 : decode cX9_decides 66 = .ok (.goto 4, 3) := by decide +kernel
theorem dX9_decides_69 : decode cX9_decides 69 = .ok (.iconst 0, 1) := by decide +kernel
theorem dX9_decides_70 : decode cX9_decides 70 = .ok (.ireturn, 1) := by decide +kernel
theorem dX9_decides_71 : decode cX9_decides 71 = .ok (.iload_n 2, 1) := by decide +kernel
theorem dX9_decides_72 : decode cX9_decides 72 = .ok (.aload_n 0, 1) := by decide +kernel
theorem dX9_decides_73 : decode cX9_decides 73 = .ok (.iload_n 1, 1) := by decide +kernel
theorem dX9_decides_74 : decode cX9_decides 74 = .ok (.bipush 22, 2) := by decide +kernel
theorem dX9_decides_76 : decode cX9_decides 76 = .ok (.invokevirtual 81, 3) := by decide +kernel
theorem dX9_decides_79 : decode cX9_decides 79 = .ok (.isub, 1) := by decide +kernel
theorem dX9_decides_80 : decode cX9_decides 80 = .ok (.aload_n 0, 1) := by decide +kernel
theorem dX9_decides_81 : decode cX9_decides 81 = .ok (.iload_n 1, 1) := by decide +kernel
theorem dX9_decides_82 : decode cX9_decides 82 = .ok (.bipush 13, 2) := by decide +kernel
theorem dX9_decides_84 : decode cX9_decides 84 = .ok (.invokevirtual 81, 3) := by decide +kernel
theorem dX9_decides_87 : decode cX9_decides 87 = .ok (.if_icmp .ge 5, 3) := by decide +kernel
theorem dX9_decides_90 : decode cX9_decides 90 = .ok (.iconst 4, 1) := by decide +kernel
theorem dX9_decides_91 : decode cX9_decides 91 = .ok (.ireturn, 1) := by decide +kernel
theorem dX9_decides_92 : decode cX9_decides 92 = .ok (.aload_n 0, 1) := by decide +kernel
theorem dX9_decides_93 : decode cX9_decides 93 = .ok (.iload_n 1, 1) := by decide +kernel
theorem dX9_decides_94 : decode cX9_decides 94 = .ok (.invokevirtual 135, 3) := by decide +kernel
theorem dX9_decides_97 : decode cX9_decides 97 = .ok (.iconst (-1), 1) := by decide +kernel
theorem dX9_decides_98 : decode cX9_decides 98 = .ok (.if_icmp .ne 7, 3) := by decide +kernel
theorem dX9_decides_101 : decode cX9_decides 101 = .ok (.iconst 5, 1) := by decide +kernel
theorem dX9_decides_102 : decode cX9_decides 102 = .ok (.goto 4, 3) := by decide +kernel
theorem dX9_decides_105 : decode cX9_decides 105 = .ok (.iconst 1, 1) := by decide +kernel
theorem dX9_decides_106 : decode cX9_decides 106 = .ok (.ireturn, 1) := by decide +kernel
theorem dX9_acts_0 : decode cX9_acts 0 = .ok (.aload_n 0, 1) := by decide +kernel
theorem dX9_acts_1 : decode cX9_acts 1 = .ok (.iload_n 1, 1) := by decide +kernel
theorem dX9_acts_2 : decode cX9_acts 2 = .ok (.invokevirtual 138, 3) := by decide +kernel
theorem dX9_acts_5 : decode cX9_acts 5 = .ok (.istore_n 2, 1) := by decide +kernel
theorem dX9_acts_6 : decode cX9_acts 6 = .ok (.aload_n 0, 1) := by decide +kernel
theorem dX9_acts_7 : decode cX9_acts 7 = .ok (.iload_n 1, 1) := by decide +kernel
theorem dX9_acts_8 : decode cX9_acts 8 = .ok (.bipush 17, 2) := by decide +kernel
theorem dX9_acts_10 : decode cX9_acts 10 = .ok (.iload_n 2, 1) := by decide +kernel
theorem dX9_acts_11 : decode cX9_acts 11 = .ok (.invokevirtual 64, 3) := by decide +kernel
theorem dX9_acts_14 : decode cX9_acts 14 = .ok (.aload_n 0, 1) := by decide +kernel
theorem dX9_acts_15 : decode cX9_acts 15 = .ok (.iload_n 1, 1) := by decide +kernel
theorem dX9_acts_16 : decode cX9_acts 16 = .ok (.bipush 30, 2) := by decide +kernel
theorem dX9_acts_18 : decode cX9_acts 18 = .ok (.iload_n 2, 1) := by decide +kernel
theorem dX9_acts_19 : decode cX9_acts 19 = .ok (.iadd, 1) := by decide +kernel
theorem dX9_acts_20 : decode cX9_acts 20 = .ok (.iconst 1, 1) := by decide +kernel
theorem dX9_acts_21 : decode cX9_acts 21 = .ok (.invokevirtual 85, 3) := by decide +kernel
theorem dX9_acts_24 : decode cX9_acts 24 = .ok (.iload_n 2, 1) := by decide +kernel
theorem dX9_acts_25 : decode cX9_acts 25 = .ok (.iconst 1, 1) := by decide +kernel
theorem dX9_acts_26 : decode cX9_acts 26 = .ok (.if_icmp .le 4, 3) := by decide +kernel
theorem dX9_acts_29 : decode cX9_acts 29 = .ok (.return_, 1) := by decide +kernel
theorem dX9_acts_30 : decode cX9_acts 30 = .ok (.aload_n 0, 1) := by decide +kernel
theorem dX9_acts_31 : decode cX9_acts 31 = .ok (.iload_n 1, 1) := by decide +kernel
theorem dX9_acts_32 : decode cX9_acts 32 = .ok (.bipush 19, 2) := by decide +kernel
theorem dX9_acts_34 : decode cX9_acts 34 = .ok (.invokevirtual 81, 3) := by decide +kernel
theorem dX9_acts_37 : decode cX9_acts 37 = .ok (.aload_n 0, 1) := by decide +kernel
theorem dX9_acts_38 : decode cX9_acts 38 = .ok (.iload_n 1, 1) := by decide +kernel
theorem dX9_acts_39 : decode cX9_acts 39 = .ok (.bipush 23, 2) := by decide +kernel
theorem dX9_acts_41 : decode cX9_acts 41 = .ok (.invokevirtual 81, 3) := by decide +kernel
theorem dX9_acts_44 : decode cX9_acts 44 = .ok (.isub, 1) := by decide +kernel
theorem dX9_acts_45 : decode cX9_acts 45 = .ok (.istore_n 3, 1) := by decide +kernel
theorem dX9_acts_46 : decode cX9_acts 46 = .ok (.iconst 0, 1) := by decide +kernel
theorem dX9_acts_47 : decode cX9_acts 47 = .ok (.istore 4, 2) := by decide +kernel
theorem dX9_acts_49 : decode cX9_acts 49 = .ok (.iload 4, 2) := by decide +kernel
theorem dX9_acts_51 : decode cX9_acts 51 = .ok (.iload_n 3, 1) := by decide +kernel
theorem dX9_acts_52 : decode cX9_acts 52 = .ok (.if_icmp .ge 67, 3) := by decide +kernel
theorem dX9_acts_55 : decode cX9_acts 55 = .ok (.iload 4, 2) := by decide +kernel
theorem dX9_acts_57 : decode cX9_acts 57 = .ok (.aload_n 0, 1) := by decide +kernel
theorem dX9_acts_58 : decode cX9_acts 58 = .ok (.iload_n 1, 1) := by decide +kernel
theorem dX9_acts_59 : decode cX9_acts 59 = .ok (.bipush 10, 2) := by decide +kernel
theorem dX9_acts_61 : decode cX9_acts 61 = .ok (.invokevirtual 81, 3) := by decide +kernel
theorem dX9_acts_64 : decode cX9_acts 64 = .ok (.if_icmp .ge 55, 3) := by decide +kernel
theorem dX9_acts_67 : decode cX9_acts 67 = .ok (.aload_n 0, 1) := by decide +kernel
theorem dX9_acts_68 : decode cX9_acts 68 = .ok (.iload_n 1, 1) := by decide +kernel
theorem dX9_acts_69 : decode cX9_acts 69 = .ok (.aload_n 0, 1) := by decide +kernel
theorem dX9_acts_70 : decode cX9_acts 70 = .ok (.getfield 7, 3) := by decide +kernel
theorem dX9_acts_73 : decode cX9_acts 73 = .ok (.iconst 1, 1) := by decide +kernel
theorem dX9_acts_74 : decode cX9_acts 74 = .ok (.iaload, 1) := by decide +kernel
theorem dX9_acts_75 : decode cX9_acts 75 = .ok (.iconst 1, 1) := by decide +kernel
theorem dX9_acts_76 : decode cX9_acts 76 = .ok (.iadd, 1) := by decide +kernel
theorem dX9_acts_77 : decode cX9_acts 77 = .ok (.aload_n 0, 1) := by decide +kernel
theorem dX9_acts_78 : decode cX9_acts 78 = .ok (.iload_n 1, 1) := by decide +kernel
theorem dX9_acts_79 : decode cX9_acts 79 = .ok (.iconst 4, 1) := by decide +kernel
theorem dX9_acts_80 : decode cX9_acts 80 = .ok (.invokevirtual 81, 3) := by decide +kernel
theorem dX9_acts_83 : decode cX9_acts 83 = .ok (.iadd, 1) := by decide +kernel
theorem dX9_acts_84 : decode cX9_acts 84 = .ok (.invokevirtual 141, 3) := by decide +kernel
theorem dX9_acts_87 : decode cX9_acts 87 = .ok (.istore 5, 2) := by decide +kernel
theorem dX9_acts_89 : decode cX9_acts 89 = .ok (.aload_n 0, 1) := by decide +kernel
theorem dX9_acts_90 : decode cX9_acts 90 = .ok (.iload_n 1, 1) := by decide +kernel
theorem dX9_acts_91 : decode cX9_acts 91 = .ok (.bipush 21, 2) := by decide +kernel
theorem dX9_acts_93 : decode cX9_acts 93 = .ok (.iload 5, 2) := by decide +kernel
theorem dX9_acts_95 : decode cX9_acts 95 = .ok (.ifCond .ge 9, 3) := by decide +kernel
theorem dX9_acts_98 : decode cX9_acts 98 = .ok (.sipush (-1000), 3) := by decide +kernel
theorem dX9_acts_101 : decode cX9_acts 101 = .ok (.goto 9, 3) := by decide +kernel
theorem dX9_acts_104 : decode cX9_acts 104 = .ok (.aload_n 0, 1) := by decide +kernel
theorem dX9_acts_105 : decode cX9_acts 105 = .ok (.getfield 7, 3) := by decide +kernel
theorem dX9_acts_108 : decode cX9_acts 108 = .ok (.iconst 1, 1) := by decide +kernel
theorem dX9_acts_109 : decode cX9_acts 109 = .ok (.iaload, 1) := by decide +kernel
theorem dX9_acts_110 : decode cX9_acts 110 = .ok (.invokevirtual 64, 3) := by decide +kernel
theorem dX9_acts_113 : decode cX9_acts 113 = .ok (.iinc 4 1, 3) := by decide +kernel
theorem dX9_acts_116 : decode cX9_acts 116 = .ok (.goto (-67), 3) := by decide +kernel
theorem dX9_acts_119 : decode cX9_acts 119 = .ok (.iconst 0, 1) := by decide +kernel
theorem dX9_acts_120 : decode cX9_acts 120 = .ok (.istore 4, 2) := by decide +kernel
theorem dX9_acts_122 : decode cX9_acts 122 = .ok (.iload 4, 2) := by decide +kernel
theorem dX9_acts_124 : decode cX9_acts 124 = .ok (.iload_n 3, 1) := by decide +kernel
theorem dX9_acts_125 : decode cX9_acts 125 = .ok (.ineg, 1) := by decide +kernel
theorem dX9_acts_126 : decode cX9_acts 126 = .ok (.if_icmp .ge 40, 3) := by decide +kernel
theorem dX9_acts_129 : decode cX9_acts 129 = .ok (.iload 4, 2) := by decide +kernel
theorem dX9_acts_131 : decode cX9_acts 131 = .ok (.aload_n 0, 1) := by decide +kernel
theorem dX9_acts_132 : decode cX9_acts 132 = .ok (.iload_n 1, 1) := by decide +kernel
theorem dX9_acts_133 : decode cX9_acts 133 = .ok (.bipush 11, 2) := by decide +kernel
theorem dX9_acts_135 : decode cX9_acts 135 = .ok (.invokevirtual 81, 3) := by decide +kernel
theorem dX9_acts_138 : decode cX9_acts 138 = .ok (.if_icmp .ge 28, 3) := by decide +kernel
theorem dX9_acts_141 : decode cX9_acts 141 = .ok (.aload_n 0, 1) := by decide +kernel
theorem dX9_acts_142 : decode cX9_acts 142 = .ok (.iload_n 1, 1) := by decide +kernel
theorem dX9_acts_143 : decode cX9_acts 143 = .ok (.invokevirtual 135, 3) := by decide +kernel
theorem dX9_acts_146 : decode cX9_acts 146 = .ok (.iconst (-1), 1) := by decide +kernel
theorem dX9_acts_147 : decode cX9_acts 147 = .ok (.if_icmp .eq 19, 3) := by decide +kernel
theorem dX9_acts_150 : decode cX9_acts 150 = .ok (.aload_n 0, 1) := by decide +kernel
theorem dX9_acts_151 : decode cX9_acts 151 = .ok (.iload_n 1, 1) := by decide +kernel
theorem dX9_acts_152 : decode cX9_acts 152 = .ok (.aload_n 0, 1) := by decide +kernel
theorem dX9_acts_153 : decode cX9_acts 153 = .ok (.iload_n 1, 1) := by decide +kernel
theorem dX9_acts_154 : decode cX9_acts 154 = .ok (.invokevirtual 135, 3) := by decide +kernel
theorem dX9_acts_157 : decode cX9_acts 157 = .ok (.invokevirtual 144, 3) := by decide +kernel
theorem dX9_acts_160 : decode cX9_acts 160 = .ok (.iinc 4 1, 3) := by decide +kernel
theorem dX9_acts_163 : decode cX9_acts 163 = .ok (.goto (-41), 3) := by decide +kernel
theorem dX9_acts_166 : decode cX9_acts 166 = .ok (.aload_n 0, 1) := by decide +kernel
theorem dX9_acts_167 : decode cX9_acts 167 = .ok (.iload_n 1, 1) := by decide +kernel
theorem dX9_acts_168 : decode cX9_acts 168 = .ok (.bipush 22, 2) := by decide +kernel
theorem dX9_acts_170 : decode cX9_acts 170 = .ok (.aload_n 0, 1) := by decide +kernel
theorem dX9_acts_171 : decode cX9_acts 171 = .ok (.getfield 7, 3) := by decide +kernel
theorem dX9_acts_174 : decode cX9_acts 174 = .ok (.iconst 1, 1) := by decide +kernel
theorem dX9_acts_175 : decode cX9_acts 175 = .ok (.iaload, 1) := by decide +kernel
theorem dX9_acts_176 : decode cX9_acts 176 = .ok (.invokevirtual 64, 3) := by decide +kernel
theorem dX9_acts_179 : decode cX9_acts 179 = .ok (.return_, 1) := by decide +kernel
theorem dX9_tick_0 : decode cX9_tick 0 = .ok (.iconst 0, 1) := by decide +kernel
theorem dX9_tick_1 : decode cX9_tick 1 = .ok (.istore_n 1, 1) := by decide +kernel
theorem dX9_tick_2 : decode cX9_tick 2 = .ok (.iload_n 1, 1) := by decide +kernel
theorem dX9_tick_3 : decode cX9_tick 3 = .ok (.aload_n 0, 1) := by decide +kernel
theorem dX9_tick_4 : decode cX9_tick 4 = .ok (.getfield 7, 3) := by decide +kernel
theorem dX9_tick_7 : decode cX9_tick 7 = .ok (.iconst 0, 1) := by decide +kernel
theorem dX9_tick_8 : decode cX9_tick 8 = .ok (.iaload, 1) := by decide +kernel
theorem dX9_tick_9 : decode cX9_tick 9 = .ok (.if_icmp .ge 24, 3) := by decide +kernel
theorem dX9_tick_12 : decode cX9_tick 12 = .ok (.aload_n 0, 1) := by decide +kernel
theorem dX9_tick_13 : decode cX9_tick 13 = .ok (.iload_n 1, 1) := by decide +kernel
theorem dX9_tick_14 : decode cX9_tick 14 = .ok (.invokevirtual 148, 3) := by decide +kernel
theorem dX9_tick_17 : decode cX9_tick 17 = .ok (.aload_n 0, 1) := by decide +kernel
theorem dX9_tick_18 : decode cX9_tick 18 = .ok (.iload_n 1, 1) := by decide +kernel
theorem dX9_tick_19 : decode cX9_tick 19 = .ok (.invokevirtual 152, 3) := by decide +kernel
theorem dX9_tick_22 : decode cX9_tick 22 = .ok (.aload_n 0, 1) := by decide +kernel
theorem dX9_tick_23 : decode cX9_tick 23 = .ok (.iload_n 1, 1) := by decide +kernel
theorem dX9_tick_24 : decode cX9_tick 24 = .ok (.invokevirtual 155, 3) := by decide +kernel
theorem dX9_tick_27 : decode cX9_tick 27 = .ok (.iinc 1 1, 3) := by decide +kernel
theorem dX9_tick_30 : decode cX9_tick 30 = .ok (.goto (-28), 3) := by decide +kernel
theorem dX9_tick_33 : decode cX9_tick 33 = .ok (.aload_n 0, 1) := by decide +kernel
theorem dX9_tick_34 : decode cX9_tick 34 = .ok (.getfield 7, 3) := by decide +kernel
theorem dX9_tick_37 : decode cX9_tick 37 = .ok (.iconst 1, 1) := by decide +kernel
theorem dX9_tick_38 : decode cX9_tick 38 = .ok (.dup2, 1) := by decide +kernel
theorem dX9_tick_39 : decode cX9_tick 39 = .ok (.iaload, 1) := by decide +kernel
theorem dX9_tick_40 : decode cX9_tick 40 = .ok (.iconst 1, 1) := by decide +kernel
theorem dX9_tick_41 : decode cX9_tick 41 = .ok (.iadd, 1) := by decide +kernel
theorem dX9_tick_42 : decode cX9_tick 42 = .ok (.iastore, 1) := by decide +kernel
theorem dX9_tick_43 : decode cX9_tick 43 = .ok (.return_, 1) := by decide +kernel
theorem dX9_runs_0 : decode cX9_runs 0 = .ok (.aload_n 0, 1) := by decide +kernel
theorem dX9_runs_1 : decode cX9_runs 1 = .ok (.getfield 7, 3) := by decide +kernel
theorem dX9_runs_4 : decode cX9_runs 4 = .ok (.iconst 3, 1) := by decide +kernel
theorem dX9_runs_5 : decode cX9_runs 5 = .ok (.iaload, 1) := by decide +kernel
theorem dX9_runs_6 : decode cX9_runs 6 = .ok (.istore_n 2, 1) := by decide +kernel
theorem dX9_runs_7 : decode cX9_runs 7 = .ok (.iconst 0, 1) := by decide +kernel
theorem dX9_runs_8 : decode cX9_runs 8 = .ok (.istore_n 3, 1) := by decide +kernel
theorem dX9_runs_9 : decode cX9_runs 9 = .ok (.iload_n 3, 1) := by decide +kernel
theorem dX9_runs_10 : decode cX9_runs 10 = .ok (.iload_n 1, 1) := by decide +kernel
theorem dX9_runs_11 : decode cX9_runs 11 = .ok (.if_icmp .ge 13, 3) := by decide +kernel
theorem dX9_runs_14 : decode cX9_runs 14 = .ok (.aload_n 0, 1) := by decide +kernel
theorem dX9_runs_15 : decode cX9_runs 15 = .ok (.invokevirtual 158, 3) := by decide +kernel
theorem dX9_runs_18 : decode cX9_runs 18 = .ok (.iinc 3 1, 3) := by decide +kernel
theorem dX9_runs_21 : decode cX9_runs 21 = .ok (.goto (-12), 3) := by decide +kernel
theorem dX9_runs_24 : decode cX9_runs 24 = .ok (.aload_n 0, 1) := by decide +kernel
theorem dX9_runs_25 : decode cX9_runs 25 = .ok (.getfield 7, 3) := by decide +kernel
theorem dX9_runs_28 : decode cX9_runs 28 = .ok (.iconst 3, 1) := by decide +kernel
theorem dX9_runs_29 : decode cX9_runs 29 = .ok (.iaload, 1) := by decide +kernel
theorem dX9_runs_30 : decode cX9_runs 30 = .ok (.iload_n 2, 1) := by decide +kernel
theorem dX9_runs_31 : decode cX9_runs 31 = .ok (.isub, 1) := by decide +kernel
theorem dX9_runs_32 : decode cX9_runs 32 = .ok (.ireturn, 1) := by decide +kernel
theorem dX9_appendWord_0 : decode cX9_appendWord 0 = .ok (.bipush 24, 2) := by decide +kernel
theorem dX9_appendWord_2 : decode cX9_appendWord 2 = .ok (.istore_n 2, 1) := by decide +kernel
theorem dX9_appendWord_3 : decode cX9_appendWord 3 = .ok (.iload_n 2, 1) := by decide +kernel
theorem dX9_appendWord_4 : decode cX9_appendWord 4 = .ok (.ifCond .lt 35, 3) := by decide +kernel
theorem dX9_appendWord_7 : decode cX9_appendWord 7 = .ok (.aload_n 0, 1) := by decide +kernel
theorem dX9_appendWord_8 : decode cX9_appendWord 8 = .ok (.getfield 41, 3) := by decide +kernel
theorem dX9_appendWord_11 : decode cX9_appendWord 11 = .ok (.aload_n 0, 1) := by decide +kernel
theorem dX9_appendWord_12 : decode cX9_appendWord 12 = .ok (.getfield 161, 3) := by decide +kernel
theorem dX9_appendWord_15 : decode cX9_appendWord 15 = .ok (.iload_n 1, 1) := by decide +kernel
theorem dX9_appendWord_16 : decode cX9_appendWord 16 = .ok (.iload_n 2, 1) := by decide +kernel
theorem dX9_appendWord_17 : decode cX9_appendWord 17 = .ok (.ishr, 1) := by decide +kernel
theorem dX9_appendWord_18 : decode cX9_appendWord 18 = .ok (.sipush 255, 3) := by decide +kernel
theorem dX9_appendWord_21 : decode cX9_appendWord 21 = .ok (.iand, 1) := by decide +kernel
theorem dX9_appendWord_22 : decode cX9_appendWord 22 = .ok (.iastore, 1) := by decide +kernel
theorem dX9_appendWord_23 : decode cX9_appendWord 23 = .ok (.aload_n 0, 1) := by decide +kernel
theorem dX9_appendWord_24 : decode cX9_appendWord 24 = .ok (.dup, 1) := by decide +kernel
theorem dX9_appendWord_25 : decode cX9_appendWord 25 = .ok (.getfield 161, 3) := by decide +kernel
theorem dX9_appendWord_28 : decode cX9_appendWord 28 = .ok (.iconst 1, 1) := by decide +kernel
theorem dX9_appendWord_29 : decode cX9_appendWord 29 = .ok (.iadd, 1) := by decide +kernel
theorem dX9_appendWord_30 : decode cX9_appendWord 30 = .ok (.putfield 161, 3) := by decide +kernel
theorem dX9_appendWord_33 : decode cX9_appendWord 33 = .ok (.iinc 2 (-8), 3) := by decide +kernel
theorem dX9_appendWord_36 : decode cX9_appendWord 36 = .ok (.goto (-33), 3) := by decide +kernel
theorem dX9_appendWord_39 : decode cX9_appendWord 39 = .ok (.return_, 1) := by decide +kernel
theorem dX9_appendInput_0 : decode cX9_appendInput 0 = .ok (.aload_n 0, 1) := by decide +kernel
theorem dX9_appendInput_1 : decode cX9_appendInput 1 = .ok (.iconst 0, 1) := by decide +kernel
theorem dX9_appendInput_2 : decode cX9_appendInput 2 = .ok (.putfield 61, 3) := by decide +kernel
theorem dX9_appendInput_5 : decode cX9_appendInput 5 = .ok (.aload_n 0, 1) := by decide +kernel
theorem dX9_appendInput_6 : decode cX9_appendInput 6 = .ok (.getfield 161, 3) := by decide +kernel
theorem dX9_appendInput_9 : decode cX9_appendInput 9 = .ok (.bipush 20, 2) := by decide +kernel
theorem dX9_appendInput_11 : decode cX9_appendInput 11 = .ok (.iadd, 1) := by decide +kernel
theorem dX9_appendInput_12 : decode cX9_appendInput 12 = .ok (.sipush 700, 3) := by decide +kernel
theorem dX9_appendInput_15 : decode cX9_appendInput 15 = .ok (.if_icmp .le 5, 3) := by decide +kernel
theorem dX9_appendInput_18 : decode cX9_appendInput 18 = .ok (.iconst (-1), 1) := by decide +kernel
theorem dX9_appendInput_19 : decode cX9_appendInput 19 = .ok (.ireturn, 1) := by decide +kernel
theorem dX9_appendInput_20 : decode cX9_appendInput 20 = .ok (.aload_n 0, 1) := by decide +kernel
theorem dX9_appendInput_21 : decode cX9_appendInput 21 = .ok (.iload_n 1, 1) := by decide +kernel
theorem dX9_appendInput_22 : decode cX9_appendInput 22 = .ok (.invokevirtual 164, 3) := by decide +kernel
theorem dX9_appendInput_25 : decode cX9_appendInput 25 = .ok (.aload_n 0, 1) := by decide +kernel
theorem dX9_appendInput_26 : decode cX9_appendInput 26 = .ok (.iload_n 2, 1) := by decide +kernel
theorem dX9_appendInput_27 : decode cX9_appendInput 27 = .ok (.invokevirtual 164, 3) := by decide +kernel
theorem dX9_appendInput_30 : decode cX9_appendInput 30 = .ok (.aload_n 0, 1) := by decide +kernel
theorem dX9_appendInput_31 : decode cX9_appendInput 31 = .ok (.iload_n 3, 1) := by decide +kernel
theorem dX9_appendInput_32 : decode cX9_appendInput 32 = .ok (.invokevirtual 164, 3) := by decide +kernel
theorem dX9_appendInput_35 : decode cX9_appendInput 35 = .ok (.aload_n 0, 1) := by decide +kernel
theorem dX9_appendInput_36 : decode cX9_appendInput 36 = .ok (.iload 4, 2) := by decide +kernel
theorem dX9_appendInput_38 : decode cX9_appendInput 38 = .ok (.invokevirtual 164, 3) := by decide +kernel
theorem dX9_appendInput_41 : decode cX9_appendInput 41 = .ok (.aload_n 0, 1) := by decide +kernel
theorem dX9_appendInput_42 : decode cX9_appendInput 42 = .ok (.iload 5, 2) := by decide +kernel
theorem dX9_appendInput_44 : decode cX9_appendInput 44 = .ok (.invokevirtual 164, 3) := by decide +kernel
theorem dX9_appendInput_47 : decode cX9_appendInput 47 = .ok (.aload_n 0, 1) := by decide +kernel
theorem dX9_appendInput_48 : decode cX9_appendInput 48 = .ok (.getfield 161, 3) := by decide +kernel
theorem dX9_appendInput_51 : decode cX9_appendInput 51 = .ok (.ireturn, 1) := by decide +kernel
theorem dX9_truncateInput_0 : decode cX9_truncateInput 0 = .ok (.aload_n 0, 1) := by decide +kernel
theorem dX9_truncateInput_1 : decode cX9_truncateInput 1 = .ok (.iconst 0, 1) := by decide +kernel
theorem dX9_truncateInput_2 : decode cX9_truncateInput 2 = .ok (.putfield 61, 3) := by decide +kernel
theorem dX9_truncateInput_5 : decode cX9_truncateInput 5 = .ok (.iload_n 1, 1) := by decide +kernel
theorem dX9_truncateInput_6 : decode cX9_truncateInput 6 = .ok (.iconst 0, 1) := by decide +kernel
theorem dX9_truncateInput_7 : decode cX9_truncateInput 7 = .ok (.aload_n 0, 1) := by decide +kernel
theorem dX9_truncateInput_8 : decode cX9_truncateInput 8 = .ok (.getfield 161, 3) := by decide +kernel
theorem dX9_truncateInput_11 : decode cX9_truncateInput 11 = .ok (.invokestatic 167, 3) := by decide +kernel
theorem dX9_truncateInput_14 : decode cX9_truncateInput 14 = .ok (.ifCond .ne 5, 3) := by decide +kernel
theorem dX9_truncateInput_17 : decode cX9_truncateInput 17 = .ok (.iconst 0, 1) := by decide +kernel
theorem dX9_truncateInput_18 : decode cX9_truncateInput 18 = .ok (.ireturn, 1) := by decide +kernel
theorem dX9_truncateInput_19 : decode cX9_truncateInput 19 = .ok (.aload_n 0, 1) := by decide +kernel
theorem dX9_truncateInput_20 : decode cX9_truncateInput 20 = .ok (.iload_n 1, 1) := by decide +kernel
theorem dX9_truncateInput_21 : decode cX9_truncateInput 21 = .ok (.putfield 161, 3) := by decide +kernel
theorem dX9_truncateInput_24 : decode cX9_truncateInput 24 = .ok (.iconst 1, 1) := by decide +kernel
theorem dX9_truncateInput_25 : decode cX9_truncateInput 25 = .ok (.ireturn, 1) := by decide +kernel
theorem dX9_byteAt_0 : decode cX9_byteAt 0 = .ok (.iload_n 1, 1) := by decide +kernel
theorem dX9_byteAt_1 : decode cX9_byteAt 1 = .ok (.aload_n 0, 1) := by decide +kernel
theorem dX9_byteAt_2 : decode cX9_byteAt 2 = .ok (.getfield 161, 3) := by decide +kernel
theorem dX9_byteAt_5 : decode cX9_byteAt 5 = .ok (.if_icmp .ge 12, 3) := by decide +kernel
theorem dX9_byteAt_8 : decode cX9_byteAt 8 = .ok (.aload_n 0, 1) := by decide +kernel
theorem dX9_byteAt_9 : decode cX9_byteAt 9 = .ok (.getfield 41, 3) := by decide +kernel
theorem dX9_byteAt_12 : decode cX9_byteAt 12 = .ok (.iload_n 1, 1) := by decide +kernel
theorem dX9_byteAt_13 : decode cX9_byteAt 13 = .ok (.iaload, 1) := by decide +kernel
theorem dX9_byteAt_14 : decode cX9_byteAt 14 = .ok (.goto 4, 3) := by decide +kernel
theorem dX9_byteAt_17 : decode cX9_byteAt 17 = .ok (.iconst (-1), 1) := by decide +kernel
theorem dX9_byteAt_18 : decode cX9_byteAt 18 = .ok (.ireturn, 1) := by decide +kernel
theorem dX9_advanceToken_0 : decode cX9_advanceToken 0 = .ok (.aload_n 0, 1) := by decide +kernel
theorem dX9_advanceToken_1 : decode cX9_advanceToken 1 = .ok (.aload_n 0, 1) := by decide +kernel
theorem dX9_advanceToken_2 : decode cX9_advanceToken 2 = .ok (.getfield 170, 3) := by decide +kernel
theorem dX9_advanceToken_5 : decode cX9_advanceToken 5 = .ok (.invokevirtual 173, 3) := by decide +kernel
theorem dX9_advanceToken_8 : decode cX9_advanceToken 8 = .ok (.bipush 32, 2) := by decide +kernel
theorem dX9_advanceToken_10 : decode cX9_advanceToken 10 = .ok (.if_icmp .eq 16, 3) := by decide +kernel
theorem dX9_advanceToken_13 : decode cX9_advanceToken 13 = .ok (.aload_n 0, 1) := by decide +kernel
theorem dX9_advanceToken_14 : decode cX9_advanceToken 14 = .ok (.aload_n 0, 1) := by decide +kernel
theorem dX9_advanceToken_15 : decode cX9_advanceToken 15 = .ok (.getfield 170, 3) := by decide +kernel
theorem dX9_advanceToken_18 : decode cX9_advanceToken 18 = .ok (.invokevirtual 173, 3) := by decide +kernel
theorem dX9_advanceToken_21 : decode cX9_advanceToken 21 = .ok (.bipush 10, 2) := by decide +kernel
theorem dX9_advanceToken_23 : decode cX9_advanceToken 23 = .ok (.if_icmp .ne 16, 3) := by decide +kernel
theorem dX9_advanceToken_26 : decode cX9_advanceToken 26 = .ok (.aload_n 0, 1) := by decide +kernel
theorem dX9_advanceToken_27 : decode cX9_advanceToken 27 = .ok (.dup, 1) := by decide +kernel
theorem dX9_advanceToken_28 : decode cX9_advanceToken 28 = .ok (.getfield 170, 3) := by decide +kernel
theorem dX9_advanceToken_31 : decode cX9_advanceToken 31 = .ok (.iconst 1, 1) := by decide +kernel
theorem dX9_advanceToken_32 : decode cX9_advanceToken 32 = .ok (.iadd, 1) := by decide +kernel
theorem dX9_advanceToken_33 : decode cX9_advanceToken 33 = .ok (.putfield 170, 3) := by decide +kernel
theorem dX9_advanceToken_36 : decode cX9_advanceToken 36 = .ok (.goto (-36), 3) := by decide +kernel
theorem dX9_advanceToken_39 : decode cX9_advanceToken 39 = .ok (.aload_n 0, 1) := by decide +kernel
theorem dX9_advanceToken_40 : decode cX9_advanceToken 40 = .ok (.aload_n 0, 1) := by decide +kernel
theorem dX9_advanceToken_41 : decode cX9_advanceToken 41 = .ok (.getfield 170, 3) := by decide +kernel
theorem dX9_advanceToken_44 : decode cX9_advanceToken 44 = .ok (.putfield 176, 3) := by decide +kernel
theorem dX9_advanceToken_47 : decode cX9_advanceToken 47 = .ok (.aload_n 0, 1) := by decide +kernel
theorem dX9_advanceToken_48 : decode cX9_advanceToken 48 = .ok (.aload_n 0, 1) := by decide +kernel
theorem dX9_advanceToken_49 : decode cX9_advanceToken 49 = .ok (.getfield 170, 3) := by decide +kernel
theorem dX9_advanceToken_52 : decode cX9_advanceToken 52 = .ok (.invokevirtual 173, 3) := by decide +kernel
theorem dX9_advanceToken_55 : decode cX9_advanceToken 55 = .ok (.istore_n 1, 1) := by decide +kernel
theorem dX9_advanceToken_56 : decode cX9_advanceToken 56 = .ok (.aload_n 0, 1) := by decide +kernel
theorem dX9_advanceToken_57 : decode cX9_advanceToken 57 = .ok (.iconst 0, 1) := by decide +kernel
theorem dX9_advanceToken_58 : decode cX9_advanceToken 58 = .ok (.putfield 179, 3) := by decide +kernel
theorem dX9_advanceToken_61 : decode cX9_advanceToken 61 = .ok (.iload_n 1, 1) := by decide +kernel
theorem dX9_advanceToken_62 : decode cX9_advanceToken 62 = .ok (.iconst (-1), 1) := by decide +kernel
theorem dX9_advanceToken_63 : decode cX9_advanceToken 63 = .ok (.if_icmp .ne 11, 3) := by decide +kernel
theorem dX9_advanceToken_66 : decode cX9_advanceToken 66 = .ok (.aload_n 0, 1) := by decide +kernel
theorem dX9_advanceToken_67 : decode cX9_advanceToken 67 = .ok (.iconst 0, 1) := by decide +kernel
theorem dX9_advanceToken_68 : decode cX9_advanceToken 68 = .ok (.putfield 182, 3) := by decide +kernel
theorem dX9_advanceToken_71 : decode cX9_advanceToken 71 = .ok (.goto 158, 3) := by decide +kernel
theorem dX9_advanceToken_74 : decode cX9_advanceToken 74 = .ok (.iload_n 1, 1) := by decide +kernel
theorem dX9_advanceToken_75 : decode cX9_advanceToken 75 = .ok (.bipush 97, 2) := by decide +kernel
theorem dX9_advanceToken_77 : decode cX9_advanceToken 77 = .ok (.bipush 122, 2) := by decide +kernel
theorem dX9_advanceToken_79 : decode cX9_advanceToken 79 = .ok (.invokestatic 167, 3) := by decide +kernel
theorem dX9_advanceToken_82 : decode cX9_advanceToken 82 = .ok (.ifCond .eq 39, 3) := by decide +kernel
theorem dX9_advanceToken_85 : decode cX9_advanceToken 85 = .ok (.aload_n 0, 1) := by decide +kernel
theorem dX9_advanceToken_86 : decode cX9_advanceToken 86 = .ok (.iconst 1, 1) := by decide +kernel
theorem dX9_advanceToken_87 : decode cX9_advanceToken 87 = .ok (.putfield 182, 3) := by decide +kernel
theorem dX9_advanceToken_90 : decode cX9_advanceToken 90 = .ok (.aload_n 0, 1) := by decide +kernel
theorem dX9_advanceToken_91 : decode cX9_advanceToken 91 = .ok (.aload_n 0, 1) := by decide +kernel
theorem dX9_advanceToken_92 : decode cX9_advanceToken 92 = .ok (.getfield 170, 3) := by decide +kernel
theorem dX9_advanceToken_95 : decode cX9_advanceToken 95 = .ok (.invokevirtual 173, 3) := by decide +kernel
theorem dX9_advanceToken_98 : decode cX9_advanceToken 98 = .ok (.bipush 97, 2) := by decide +kernel
theorem dX9_advanceToken_100 : decode cX9_advanceToken 100 = .ok (.bipush 122, 2) := by decide +kernel
theorem dX9_advanceToken_102 : decode cX9_advanceToken 102 = .ok (.invokestatic 167, 3) := by decide +kernel
theorem dX9_advanceToken_105 : decode cX9_advanceToken 105 = .ok (.ifCond .eq 124, 3) := by decide +kernel
theorem dX9_advanceToken_108 : decode cX9_advanceToken 108 = .ok (.aload_n 0, 1) := by decide +kernel
theorem dX9_advanceToken_109 : decode cX9_advanceToken 109 = .ok (.dup, 1) := by decide +kernel
theorem dX9_advanceToken_110 : decode cX9_advanceToken 110 = .ok (.getfield 170, 3) := by decide +kernel
theorem dX9_advanceToken_113 : decode cX9_advanceToken 113 = .ok (.iconst 1, 1) := by decide +kernel
theorem dX9_advanceToken_114 : decode cX9_advanceToken 114 = .ok (.iadd, 1) := by decide +kernel
theorem dX9_advanceToken_115 : decode cX9_advanceToken 115 = .ok (.putfield 170, 3) := by decide +kernel
theorem dX9_advanceToken_118 : decode cX9_advanceToken 118 = .ok (.goto (-28), 3) := by decide +kernel
theorem dX9_advanceToken_121 : decode cX9_advanceToken 121 = .ok (.iload_n 1, 1) := by decide +kernel
theorem dX9_advanceToken_122 : decode cX9_advanceToken 122 = .ok (.bipush 48, 2) := by decide +kernel
theorem dX9_advanceToken_124 : decode cX9_advanceToken 124 = .ok (.bipush 57, 2) := by decide +kernel
theorem dX9_advanceToken_126 : decode cX9_advanceToken 126 = .ok (.invokestatic 167, 3) := by decide +kernel
theorem dX9_advanceToken_129 : decode cX9_advanceToken 129 = .ok (.ifCond .eq 75, 3) := by decide +kernel
theorem dX9_advanceToken_132 : decode cX9_advanceToken 132 = .ok (.aload_n 0, 1) := by decide +kernel
theorem dX9_advanceToken_133 : decode cX9_advanceToken 133 = .ok (.iconst 2, 1) := by decide +kernel
theorem dX9_advanceToken_134 : decode cX9_advanceToken 134 = .ok (.putfield 182, 3) := by decide +kernel
theorem dX9_advanceToken_137 : decode cX9_advanceToken 137 = .ok (.aload_n 0, 1) := by decide +kernel
theorem dX9_advanceToken_138 : decode cX9_advanceToken 138 = .ok (.aload_n 0, 1) := by decide +kernel
theorem dX9_advanceToken_139 : decode cX9_advanceToken 139 = .ok (.getfield 170, 3) := by decide +kernel
theorem dX9_advanceToken_142 : decode cX9_advanceToken 142 = .ok (.invokevirtual 173, 3) := by decide +kernel
theorem dX9_advanceToken_145 : decode cX9_advanceToken 145 = .ok (.bipush 48, 2) := by decide +kernel
theorem dX9_advanceToken_147 : decode cX9_advanceToken 147 = .ok (.bipush 57, 2) := by decide +kernel
theorem dX9_advanceToken_149 : decode cX9_advanceToken 149 = .ok (.invokestatic 167, 3) := by decide +kernel
theorem dX9_advanceToken_152 : decode cX9_advanceToken 152 = .ok (.ifCond .eq 77, 3) := by decide +kernel
theorem dX9_advanceToken_155 : decode cX9_advanceToken 155 = .ok (.aload_n 0, 1) := by decide +kernel
theorem dX9_advanceToken_156 : decode cX9_advanceToken 156 = .ok (.getfield 170, 3) := by decide +kernel
theorem dX9_advanceToken_159 : decode cX9_advanceToken 159 = .ok (.aload_n 0, 1) := by decide +kernel
theorem dX9_advanceToken_160 : decode cX9_advanceToken 160 = .ok (.getfield 176, 3) := by decide +kernel
theorem dX9_advanceToken_163 : decode cX9_advanceToken 163 = .ok (.isub, 1) := by decide +kernel
theorem dX9_advanceToken_164 : decode cX9_advanceToken 164 = .ok (.iconst 3, 1) := by decide +kernel
theorem dX9_advanceToken_165 : decode cX9_advanceToken 165 = .ok (.if_icmp .ge 26, 3) := by decide +kernel
theorem dX9_advanceToken_168 : decode cX9_advanceToken 168 = .ok (.aload_n 0, 1) := by decide +kernel
theorem dX9_advanceToken_169 : decode cX9_advanceToken 169 = .ok (.bipush 10, 2) := by decide +kernel
theorem dX9_advanceToken_171 : decode cX9_advanceToken 171 = .ok (.aload_n 0, 1) := by decide +kernel
theorem dX9_advanceToken_172 : decode cX9_advanceToken 172 = .ok (.getfield 179, 3) := by decide +kernel
theorem dX9_advanceToken_175 : decode cX9_advanceToken 175 = .ok (.imul, 1) := by decide +kernel
theorem dX9_advanceToken_176 : decode cX9_advanceToken 176 = .ok (.aload_n 0, 1) := by decide +kernel
theorem dX9_advanceToken_177 : decode cX9_advanceToken 177 = .ok (.aload_n 0, 1) := by decide +kernel
theorem dX9_advanceToken_178 : decode cX9_advanceToken 178 = .ok (.getfield 170, 3) := by decide +kernel
theorem dX9_advanceToken_181 : decode cX9_advanceToken 181 = .ok (.invokevirtual 173, 3) := by decide +kernel
theorem dX9_advanceToken_184 : decode cX9_advanceToken 184 = .ok (.iadd, 1) := by decide +kernel
theorem dX9_advanceToken_185 : decode cX9_advanceToken 185 = .ok (.bipush 48, 2) := by decide +kernel
theorem dX9_advanceToken_187 : decode cX9_advanceToken 187 = .ok (.isub, 1) := by decide +kernel
theorem dX9_advanceToken_188 : decode cX9_advanceToken 188 = .ok (.putfield 179, 3) := by decide +kernel
theorem dX9_advanceToken_191 : decode cX9_advanceToken 191 = .ok (.aload_n 0, 1) := by decide +kernel
theorem dX9_advanceToken_192 : decode cX9_advanceToken 192 = .ok (.dup, 1) := by decide +kernel
theorem dX9_advanceToken_193 : decode cX9_advanceToken 193 = .ok (.getfield 170, 3) := by decide +kernel
theorem dX9_advanceToken_196 : decode cX9_advanceToken 196 = .ok (.iconst 1, 1) := by decide +kernel
theorem dX9_advanceToken_197 : decode cX9_advanceToken 197 = .ok (.iadd, 1) := by decide +kernel
theorem dX9_advanceToken_198 : decode cX9_advanceToken 198 = .ok (.putfield 170, 3) := by decide +kernel
theorem dX9_advanceToken_201 : decode cX9_advanceToken 201 = .ok (.goto (-64), 3) := by decide +kernel
theorem dX9_advanceToken_204 : decode cX9_advanceToken 204 = .ok (.aload_n 0, 1) := by decide +kernel
theorem dX9_advanceToken_205 : decode cX9_advanceToken 205 = .ok (.iload_n 1, 1) := by decide +kernel
theorem dX9_advanceToken_206 : decode cX9_advanceToken 206 = .ok (.bipush 59, 2) := by decide +kernel
theorem dX9_advanceToken_208 : decode cX9_advanceToken 208 = .ok (.if_icmp .ne 7, 3) := by decide +kernel
theorem dX9_advanceToken_211 : decode cX9_advanceToken 211 = .ok (.iconst 3, 1) := by decide +kernel
theorem dX9_advanceToken_212 : decode cX9_advanceToken 212 = .ok (.goto 4, 3) := by decide +kernel
theorem dX9_advanceToken_215 : decode cX9_advanceToken 215 = .ok (.iconst 4, 1) := by decide +kernel
theorem dX9_advanceToken_216 : decode cX9_advanceToken 216 = .ok (.putfield 182, 3) := by decide +kernel
theorem dX9_advanceToken_219 : decode cX9_advanceToken 219 = .ok (.aload_n 0, 1) := by decide +kernel
theorem dX9_advanceToken_220 : decode cX9_advanceToken 220 = .ok (.dup, 1) := by decide +kernel
theorem dX9_advanceToken_221 : decode cX9_advanceToken 221 = .ok (.getfield 170, 3) := by decide +kernel
theorem dX9_advanceToken_224 : decode cX9_advanceToken 224 = .ok (.iconst 1, 1) := by decide +kernel
theorem dX9_advanceToken_225 : decode cX9_advanceToken 225 = .ok (.iadd, 1) := by decide +kernel
theorem dX9_advanceToken_226 : decode cX9_advanceToken 226 = .ok (.putfield 170, 3) := by decide +kernel
theorem dX9_advanceToken_229 : decode cX9_advanceToken 229 = .ok (.return_, 1) := by decide +kernel
theorem dX9_tokenLength_0 : decode cX9_tokenLength 0 = .ok (.aload_n 0, 1) := by decide +kernel
theorem dX9_tokenLength_1 : decode cX9_tokenLength 1 = .ok (.getfield 170, 3) := by decide +kernel
theorem dX9_tokenLength_4 : decode cX9_tokenLength 4 = .ok (.aload_n 0, 1) := by decide +kernel
theorem dX9_tokenLength_5 : decode cX9_tokenLength 5 = .ok (.getfield 176, 3) := by decide +kernel
theorem dX9_tokenLength_8 : decode cX9_tokenLength 8 = .ok (.isub, 1) := by decide +kernel
theorem dX9_tokenLength_9 : decode cX9_tokenLength 9 = .ok (.ireturn, 1) := by decide +kernel
theorem dX9_failsAt_0 : decode cX9_failsAt 0 = .ok (.aload_n 0, 1) := by decide +kernel
theorem dX9_failsAt_1 : decode cX9_failsAt 1 = .ok (.getfield 185, 3) := by decide +kernel
theorem dX9_failsAt_4 : decode cX9_failsAt 4 = .ok (.ifCond .ne 16, 3) := by decide +kernel
theorem dX9_failsAt_7 : decode cX9_failsAt 7 = .ok (.aload_n 0, 1) := by decide +kernel
theorem dX9_failsAt_8 : decode cX9_failsAt 8 = .ok (.iload_n 1, 1) := by decide +kernel
theorem dX9_failsAt_9 : decode cX9_failsAt 9 = .ok (.putfield 185, 3) := by decide +kernel
theorem dX9_failsAt_12 : decode cX9_failsAt 12 = .ok (.aload_n 0, 1) := by decide +kernel
theorem dX9_failsAt_13 : decode cX9_failsAt 13 = .ok (.aload_n 0, 1) := by decide +kernel
theorem dX9_failsAt_14 : decode cX9_failsAt 14 = .ok (.getfield 176, 3) := by decide +kernel
theorem dX9_failsAt_17 : decode cX9_failsAt 17 = .ok (.putfield 188, 3) := by decide +kernel
theorem dX9_failsAt_20 : decode cX9_failsAt 20 = .ok (.iconst 0, 1) := by decide +kernel
theorem dX9_failsAt_21 : decode cX9_failsAt 21 = .ok (.ireturn, 1) := by decide +kernel
theorem dX9_isWord_0 : decode cX9_isWord 0 = .ok (.aload_n 0, 1) := by decide +kernel
theorem dX9_isWord_1 : decode cX9_isWord 1 = .ok (.getfield 182, 3) := by decide +kernel
theorem dX9_isWord_4 : decode cX9_isWord 4 = .ok (.iconst 1, 1) := by decide +kernel
theorem dX9_isWord_5 : decode cX9_isWord 5 = .ok (.if_icmp .ne 14, 3) := by decide +kernel
theorem dX9_isWord_8 : decode cX9_isWord 8 = .ok (.aload_n 0, 1) := by decide +kernel
theorem dX9_isWord_9 : decode cX9_isWord 9 = .ok (.invokevirtual 191, 3) := by decide +kernel
theorem dX9_isWord_12 : decode cX9_isWord 12 = .ok (.aload_n 1, 1) := by decide +kernel
theorem dX9_isWord_13 : decode cX9_isWord 13 = .ok (.invokevirtual 195, 3) := by decide +kernel
theorem dX9_isWord_16 : decode cX9_isWord 16 = .ok (.if_icmp .eq 5, 3) := by decide +kernel
theorem dX9_isWord_19 : decode cX9_isWord 19 = .ok (.iconst 0, 1) := by decide +kernel
theorem dX9_isWord_20 : decode cX9_isWord 20 = .ok (.ireturn, 1) := by decide +kernel
theorem dX9_isWord_21 : decode cX9_isWord 21 = .ok (.iconst 0, 1) := by decide +kernel
theorem dX9_isWord_22 : decode cX9_isWord 22 = .ok (.istore_n 2, 1) := by decide +kernel
theorem dX9_isWord_23 : decode cX9_isWord 23 = .ok (.iload_n 2, 1) := by decide +kernel
theorem dX9_isWord_24 : decode cX9_isWord 24 = .ok (.aload_n 1, 1) := by decide +kernel
theorem dX9_isWord_25 : decode cX9_isWord 25 = .ok (.invokevirtual 195, 3) := by decide +kernel
theorem dX9_isWord_28 : decode cX9_isWord 28 = .ok (.if_icmp .ge 30, 3) := by decide +kernel
theorem dX9_isWord_31 : decode cX9_isWord 31 = .ok (.aload_n 0, 1) := by decide +kernel
theorem dX9_isWord_32 : decode cX9_isWord 32 = .ok (.getfield 41, 3) := by decide +kernel
theorem dX9_isWord_35 : decode cX9_isWord 35 = .ok (.aload_n 0, 1) := by decide +kernel
theorem dX9_isWord_36 : decode cX9_isWord 36 = .ok (.getfield 176, 3) := by decide +kernel
theorem dX9_isWord_39 : decode cX9_isWord 39 = .ok (.iload_n 2, 1) := by decide +kernel
theorem dX9_isWord_40 : decode cX9_isWord 40 = .ok (.iadd, 1) := by decide +kernel
theorem dX9_isWord_41 : decode cX9_isWord 41 = .ok (.iaload, 1) := by decide +kernel
theorem dX9_isWord_42 : decode cX9_isWord 42 = .ok (.aload_n 1, 1) := by decide +kernel
theorem dX9_isWord_43 : decode cX9_isWord 43 = .ok (.iload_n 2, 1) := by decide +kernel
theorem dX9_isWord_44 : decode cX9_isWord 44 = .ok (.invokevirtual 200, 3) := by decide +kernel
theorem dX9_isWord_47 : decode cX9_isWord 47 = .ok (.if_icmp .eq 5, 3) := by decide +kernel
theorem dX9_isWord_50 : decode cX9_isWord 50 = .ok (.iconst 0, 1) := by decide +kernel
theorem dX9_isWord_51 : decode cX9_isWord 51 = .ok (.ireturn, 1) := by decide +kernel
theorem dX9_isWord_52 : decode cX9_isWord 52 = .ok (.iinc 2 1, 3) := by decide +kernel
theorem dX9_isWord_55 : decode cX9_isWord 55 = .ok (.goto (-32), 3) := by decide +kernel
theorem dX9_isWord_58 : decode cX9_isWord 58 = .ok (.iconst 1, 1) := by decide +kernel
theorem dX9_isWord_59 : decode cX9_isWord 59 = .ok (.ireturn, 1) := by decide +kernel
theorem dX9_takes_0 : decode cX9_takes 0 = .ok (.aload_n 0, 1) := by decide +kernel
theorem dX9_takes_1 : decode cX9_takes 1 = .ok (.getfield 182, 3) := by decide +kernel
theorem dX9_takes_4 : decode cX9_takes 4 = .ok (.iconst 2, 1) := by decide +kernel
theorem dX9_takes_5 : decode cX9_takes 5 = .ok (.if_icmp .ne 11, 3) := by decide +kernel
theorem dX9_takes_8 : decode cX9_takes 8 = .ok (.aload_n 0, 1) := by decide +kernel
theorem dX9_takes_9 : decode cX9_takes 9 = .ok (.invokevirtual 191, 3) := by decide +kernel
theorem dX9_takes_12 : decode cX9_takes 12 = .ok (.iconst 3, 1) := by decide +kernel
theorem dX9_takes_13 : decode cX9_takes 13 = .ok (.if_icmp .le 9, 3) := by decide +kernel
theorem dX9_takes_16 : decode cX9_takes 16 = .ok (.aload_n 0, 1) := by decide +kernel
theorem dX9_takes_17 : decode cX9_takes 17 = .ok (.iconst 1, 1) := by decide +kernel
theorem dX9_takes_18 : decode cX9_takes 18 = .ok (.invokevirtual 204, 3) := by decide +kernel
theorem dX9_takes_21 : decode cX9_takes 21 = .ok (.ireturn, 1) := by decide +kernel
theorem dX9_takes_22 : decode cX9_takes 22 = .ok (.aload_n 0, 1) := by decide +kernel
theorem dX9_takes_23 : decode cX9_takes 23 = .ok (.getfield 179, 3) := by decide +kernel
theorem dX9_takes_26 : decode cX9_takes 26 = .ok (.iload_n 2, 1) := by decide +kernel
theorem dX9_takes_27 : decode cX9_takes 27 = .ok (.iload_n 3, 1) := by decide +kernel
theorem dX9_takes_28 : decode cX9_takes 28 = .ok (.invokestatic 167, 3) := by decide +kernel
theorem dX9_takes_31 : decode cX9_takes 31 = .ok (.ifCond .ne 9, 3) := by decide +kernel
theorem dX9_takes_34 : decode cX9_takes 34 = .ok (.aload_n 0, 1) := by decide +kernel
theorem dX9_takes_35 : decode cX9_takes 35 = .ok (.iconst 2, 1) := by decide +kernel
theorem dX9_takes_36 : decode cX9_takes 36 = .ok (.invokevirtual 204, 3) := by decide +kernel
theorem dX9_takes_39 : decode cX9_takes 39 = .ok (.ireturn, 1) := by decide +kernel
theorem dX9_takes_40 : decode cX9_takes 40 = .ok (.aload_n 0, 1) := by decide +kernel
theorem dX9_takes_41 : decode cX9_takes 41 = .ok (.getfield 48, 3) := by decide +kernel
theorem dX9_takes_44 : decode cX9_takes 44 = .ok (.iload_n 1, 1) := by decide +kernel
theorem dX9_takes_45 : decode cX9_takes 45 = .ok (.aload_n 0, 1) := by decide +kernel
theorem dX9_takes_46 : decode cX9_takes 46 = .ok (.getfield 179, 3) := by decide +kernel
theorem dX9_takes_49 : decode cX9_takes 49 = .ok (.iastore, 1) := by decide +kernel
theorem dX9_takes_50 : decode cX9_takes 50 = .ok (.aload_n 0, 1) := by decide +kernel
theorem dX9_takes_51 : decode cX9_takes 51 = .ok (.invokevirtual 208, 3) := by decide +kernel
theorem dX9_takes_54 : decode cX9_takes 54 = .ok (.iconst 1, 1) := by decide +kernel
theorem dX9_takes_55 : decode cX9_takes 55 = .ok (.ireturn, 1) := by decide +kernel
theorem dX9_readPool_0 : decode cX9_readPool 0 = .ok (.aload_n 0, 1) := by decide +kernel
theorem dX9_readPool_1 : decode cX9_readPool 1 = .ok (.getfield 7, 3) := by decide +kernel
theorem dX9_readPool_4 : decode cX9_readPool 4 = .ok (.iconst 0, 1) := by decide +kernel
theorem dX9_readPool_5 : decode cX9_readPool 5 = .ok (.iaload, 1) := by decide +kernel
theorem dX9_readPool_6 : decode cX9_readPool 6 = .ok (.iconst 4, 1) := by decide +kernel
theorem dX9_readPool_7 : decode cX9_readPool 7 = .ok (.if_icmp .ne 9, 3) := by decide +kernel
theorem dX9_readPool_10 : decode cX9_readPool 10 = .ok (.aload_n 0, 1) := by decide +kernel
theorem dX9_readPool_11 : decode cX9_readPool 11 = .ok (.iconst 4, 1) := by decide +kernel
theorem dX9_readPool_12 : decode cX9_readPool 12 = .ok (.invokevirtual 204, 3) := by decide +kernel
theorem dX9_readPool_15 : decode cX9_readPool 15 = .ok (.ireturn, 1) := by decide +kernel
theorem dX9_readPool_16 : decode cX9_readPool 16 = .ok (.aload_n 0, 1) := by decide +kernel
theorem dX9_readPool_17 : decode cX9_readPool 17 = .ok (.invokevirtual 208, 3) := by decide +kernel
theorem dX9_readPool_20 : decode cX9_readPool 20 = .ok (.aload_n 0, 1) := by decide +kernel
theorem dX9_readPool_21 : decode cX9_readPool 21 = .ok (.iconst 0, 1) := by decide +kernel
theorem dX9_readPool_22 : decode cX9_readPool 22 = .ok (.iconst 0, 1) := by decide +kernel
theorem dX9_readPool_23 : decode cX9_readPool 23 = .ok (.bipush 20, 2) := by decide +kernel
theorem dX9_readPool_25 : decode cX9_readPool 25 = .ok (.invokevirtual 211, 3) := by decide +kernel
theorem dX9_readPool_28 : decode cX9_readPool 28 = .ok (.ifCond .eq 34, 3) := by decide +kernel
theorem dX9_readPool_31 : decode cX9_readPool 31 = .ok (.aload_n 0, 1) := by decide +kernel
theorem dX9_readPool_32 : decode cX9_readPool 32 = .ok (.iconst 1, 1) := by decide +kernel
theorem dX9_readPool_33 : decode cX9_readPool 33 = .ok (.iconst 1, 1) := by decide +kernel
theorem dX9_readPool_34 : decode cX9_readPool 34 = .ok (.aload_n 0, 1) := by decide +kernel
theorem dX9_readPool_35 : decode cX9_readPool 35 = .ok (.getfield 48, 3) := by decide +kernel
theorem dX9_readPool_38 : decode cX9_readPool 38 = .ok (.iconst 0, 1) := by decide +kernel
theorem dX9_readPool_39 : decode cX9_readPool 39 = .ok (.iaload, 1) := by decide +kernel
theorem dX9_readPool_40 : decode cX9_readPool 40 = .ok (.invokestatic 123, 3) := by decide +kernel
theorem dX9_readPool_43 : decode cX9_readPool 43 = .ok (.bipush 20, 2) := by decide +kernel
theorem dX9_readPool_45 : decode cX9_readPool 45 = .ok (.invokevirtual 211, 3) := by decide +kernel
theorem dX9_readPool_48 : decode cX9_readPool 48 = .ok (.ifCond .eq 14, 3) := by decide +kernel
theorem dX9_readPool_51 : decode cX9_readPool 51 = .ok (.aload_n 0, 1) := by decide +kernel
theorem dX9_readPool_52 : decode cX9_readPool 52 = .ok (.iconst 2, 1) := by decide +kernel
theorem dX9_readPool_53 : decode cX9_readPool 53 = .ok (.iconst 1, 1) := by decide +kernel
theorem dX9_readPool_54 : decode cX9_readPool 54 = .ok (.bipush 100, 2) := by decide +kernel
theorem dX9_readPool_56 : decode cX9_readPool 56 = .ok (.invokevirtual 211, 3) := by decide +kernel
theorem dX9_readPool_59 : decode cX9_readPool 59 = .ok (.ifCond .ne 5, 3) := by decide +kernel
theorem dX9_readPool_62 : decode cX9_readPool 62 = .ok (.iconst 0, 1) := by decide +kernel
theorem dX9_readPool_63 : decode cX9_readPool 63 = .ok (.ireturn, 1) := by decide +kernel
theorem dX9_readPool_64 : decode cX9_readPool 64 = .ok (.aload_n 0, 1) := by decide +kernel
theorem dX9_readPool_65 : decode cX9_readPool 65 = .ok (.aload_n 0, 1) := by decide +kernel
theorem dX9_readPool_66 : decode cX9_readPool 66 = .ok (.getfield 48, 3) := by decide +kernel
theorem dX9_readPool_69 : decode cX9_readPool 69 = .ok (.iconst 0, 1) := by decide +kernel
theorem dX9_readPool_70 : decode cX9_readPool 70 = .ok (.iaload, 1) := by decide +kernel
theorem dX9_readPool_71 : decode cX9_readPool 71 = .ok (.aload_n 0, 1) := by decide +kernel
theorem dX9_readPool_72 : decode cX9_readPool 72 = .ok (.getfield 48, 3) := by decide +kernel
theorem dX9_readPool_75 : decode cX9_readPool 75 = .ok (.iconst 1, 1) := by decide +kernel
theorem dX9_readPool_76 : decode cX9_readPool 76 = .ok (.iaload, 1) := by decide +kernel
theorem dX9_readPool_77 : decode cX9_readPool 77 = .ok (.aload_n 0, 1) := by decide +kernel
theorem dX9_readPool_78 : decode cX9_readPool 78 = .ok (.getfield 48, 3) := by decide +kernel
theorem dX9_readPool_81 : decode cX9_readPool 81 = .ok (.iconst 2, 1) := by decide +kernel
theorem dX9_readPool_82 : decode cX9_readPool 82 = .ok (.iaload, 1) := by decide +kernel
theorem dX9_readPool_83 : decode cX9_readPool 83 = .ok (.invokevirtual 57, 3) := by decide +kernel
theorem dX9_readPool_86 : decode cX9_readPool 86 = .ok (.aload_n 0, 1) := by decide +kernel
theorem dX9_readPool_87 : decode cX9_readPool 87 = .ok (.iconst 0, 1) := by decide +kernel
theorem dX9_readPool_88 : decode cX9_readPool 88 = .ok (.putfield 214, 3) := by decide +kernel
theorem dX9_readPool_91 : decode cX9_readPool 91 = .ok (.iconst 1, 1) := by decide +kernel
theorem dX9_readPool_92 : decode cX9_readPool 92 = .ok (.ireturn, 1) := by decide +kernel
theorem dX9_startsOnce_0 : decode cX9_startsOnce 0 = .ok (.aload_n 0, 1) := by decide +kernel
theorem dX9_startsOnce_1 : decode cX9_startsOnce 1 = .ok (.getfield 7, 3) := by decide +kernel
theorem dX9_startsOnce_4 : decode cX9_startsOnce 4 = .ok (.iconst 0, 1) := by decide +kernel
theorem dX9_startsOnce_5 : decode cX9_startsOnce 5 = .ok (.iaload, 1) := by decide +kernel
theorem dX9_startsOnce_6 : decode cX9_startsOnce 6 = .ok (.ifCond .ne 9, 3) := by decide +kernel
theorem dX9_startsOnce_9 : decode cX9_startsOnce 9 = .ok (.aload_n 0, 1) := by decide +kernel
theorem dX9_startsOnce_10 : decode cX9_startsOnce 10 = .ok (.iconst 1, 1) := by decide +kernel
theorem dX9_startsOnce_11 : decode cX9_startsOnce 11 = .ok (.invokevirtual 204, 3) := by decide +kernel
theorem dX9_startsOnce_14 : decode cX9_startsOnce 14 = .ok (.ireturn, 1) := by decide +kernel
theorem dX9_startsOnce_15 : decode cX9_startsOnce 15 = .ok (.aload_n 0, 1) := by decide +kernel
theorem dX9_startsOnce_16 : decode cX9_startsOnce 16 = .ok (.getfield 214, 3) := by decide +kernel
theorem dX9_startsOnce_19 : decode cX9_startsOnce 19 = .ok (.iload_n 1, 1) := by decide +kernel
theorem dX9_startsOnce_20 : decode cX9_startsOnce 20 = .ok (.iand, 1) := by decide +kernel
theorem dX9_startsOnce_21 : decode cX9_startsOnce 21 = .ok (.ifCond .eq 9, 3) := by decide +kernel
theorem dX9_startsOnce_24 : decode cX9_startsOnce 24 = .ok (.aload_n 0, 1) := by decide +kernel
theorem dX9_startsOnce_25 : decode cX9_startsOnce 25 = .ok (.iconst 3, 1) := by decide +kernel
theorem dX9_startsOnce_26 : decode cX9_startsOnce 26 = .ok (.invokevirtual 204, 3) := by decide +kernel
theorem dX9_startsOnce_29 : decode cX9_startsOnce 29 = .ok (.ireturn, 1) := by decide +kernel
theorem dX9_startsOnce_30 : decode cX9_startsOnce 30 = .ok (.aload_n 0, 1) := by decide +kernel
theorem dX9_startsOnce_31 : decode cX9_startsOnce 31 = .ok (.dup, 1) := by decide +kernel
theorem dX9_startsOnce_32 : decode cX9_startsOnce 32 = .ok (.getfield 214, 3) := by decide +kernel
theorem dX9_startsOnce_35 : decode cX9_startsOnce 35 = .ok (.iload_n 1, 1) := by decide +kernel
theorem dX9_startsOnce_36 : decode cX9_startsOnce 36 = .ok (.ior, 1) := by decide +kernel
theorem dX9_startsOnce_37 : decode cX9_startsOnce 37 = .ok (.putfield 214, 3) := by decide +kernel
theorem dX9_startsOnce_40 : decode cX9_startsOnce 40 = .ok (.aload_n 0, 1) := by decide +kernel
theorem dX9_startsOnce_41 : decode cX9_startsOnce 41 = .ok (.invokevirtual 208, 3) := by decide +kernel
theorem dX9_startsOnce_44 : decode cX9_startsOnce 44 = .ok (.iconst 1, 1) := by decide +kernel
theorem dX9_startsOnce_45 : decode cX9_startsOnce 45 = .ok (.ireturn, 1) := by decide +kernel
theorem dX9_sets_0 : decode cX9_sets 0 = .ok (.aload_n 0, 1) := by decide +kernel
theorem dX9_sets_1 : decode cX9_sets 1 = .ok (.aload_n 0, 1) := by decide +kernel
theorem dX9_sets_2 : decode cX9_sets 2 = .ok (.getfield 7, 3) := by decide +kernel
theorem dX9_sets_5 : decode cX9_sets 5 = .ok (.iconst 0, 1) := by decide +kernel
theorem dX9_sets_6 : decode cX9_sets 6 = .ok (.iaload, 1) := by decide +kernel
theorem dX9_sets_7 : decode cX9_sets 7 = .ok (.iconst 1, 1) := by decide +kernel
theorem dX9_sets_8 : decode cX9_sets 8 = .ok (.isub, 1) := by decide +kernel
theorem dX9_sets_9 : decode cX9_sets 9 = .ok (.iload_n 1, 1) := by decide +kernel
theorem dX9_sets_10 : decode cX9_sets 10 = .ok (.iload_n 2, 1) := by decide +kernel
theorem dX9_sets_11 : decode cX9_sets 11 = .ok (.invokevirtual 64, 3) := by decide +kernel
theorem dX9_sets_14 : decode cX9_sets 14 = .ok (.return_, 1) := by decide +kernel
theorem dX9_readOne_0 : decode cX9_readOne 0 = .ok (.aload_n 0, 1) := by decide +kernel
theorem dX9_readOne_1 : decode cX9_readOne 1 = .ok (.iload_n 1, 1) := by decide +kernel
theorem dX9_readOne_2 : decode cX9_readOne 2 = .ok (.invokevirtual 217, 3) := by decide +kernel
theorem dX9_readOne_5 : decode cX9_readOne 5 = .ok (.ifCond .eq 14, 3) := by decide +kernel
theorem dX9_readOne_8 : decode cX9_readOne 8 = .ok (.aload_n 0, 1) := by decide +kernel
theorem dX9_readOne_9 : decode cX9_readOne 9 = .ok (.iconst 0, 1) := by decide +kernel
theorem dX9_readOne_10 : decode cX9_readOne 10 = .ok (.iload_n 3, 1) := by decide +kernel
theorem dX9_readOne_11 : decode cX9_readOne 11 = .ok (.iload 4, 2) := by decide +kernel
theorem dX9_readOne_13 : decode cX9_readOne 13 = .ok (.invokevirtual 211, 3) := by decide +kernel
theorem dX9_readOne_16 : decode cX9_readOne 16 = .ok (.ifCond .ne 5, 3) := by decide +kernel
theorem dX9_readOne_19 : decode cX9_readOne 19 = .ok (.iconst 0, 1) := by decide +kernel
theorem dX9_readOne_20 : decode cX9_readOne 20 = .ok (.ireturn, 1) := by decide +kernel
theorem dX9_readOne_21 : decode cX9_readOne 21 = .ok (.aload_n 0, 1) := by decide +kernel
theorem dX9_readOne_22 : decode cX9_readOne 22 = .ok (.iload_n 2, 1) := by decide +kernel
theorem dX9_readOne_23 : decode cX9_readOne 23 = .ok (.aload_n 0, 1) := by decide +kernel
theorem dX9_readOne_24 : decode cX9_readOne 24 = .ok (.getfield 48, 3) := by decide +kernel
theorem dX9_readOne_27 : decode cX9_readOne 27 = .ok (.iconst 0, 1) := by decide +kernel
theorem dX9_readOne_28 : decode cX9_readOne 28 = .ok (.iaload, 1) := by decide +kernel
theorem dX9_readOne_29 : decode cX9_readOne 29 = .ok (.invokevirtual 220, 3) := by decide +kernel
theorem dX9_readOne_32 : decode cX9_readOne 32 = .ok (.iconst 1, 1) := by decide +kernel
theorem dX9_readOne_33 : decode cX9_readOne 33 = .ok (.ireturn, 1) := by decide +kernel
theorem dX9_readTwo_0 : decode cX9_readTwo 0 = .ok (.aload_n 0, 1) := by decide +kernel
theorem dX9_readTwo_1 : decode cX9_readTwo 1 = .ok (.iload_n 1, 1) := by decide +kernel
theorem dX9_readTwo_2 : decode cX9_readTwo 2 = .ok (.invokevirtual 217, 3) := by decide +kernel
theorem dX9_readTwo_5 : decode cX9_readTwo 5 = .ok (.ifCond .eq 25, 3) := by decide +kernel
theorem dX9_readTwo_8 : decode cX9_readTwo 8 = .ok (.aload_n 0, 1) := by decide +kernel
theorem dX9_readTwo_9 : decode cX9_readTwo 9 = .ok (.iconst 0, 1) := by decide +kernel
theorem dX9_readTwo_10 : decode cX9_readTwo 10 = .ok (.iload_n 3, 1) := by decide +kernel
theorem dX9_readTwo_11 : decode cX9_readTwo 11 = .ok (.iload 4, 2) := by decide +kernel
theorem dX9_readTwo_13 : decode cX9_readTwo 13 = .ok (.invokevirtual 211, 3) := by decide +kernel
theorem dX9_readTwo_16 : decode cX9_readTwo 16 = .ok (.ifCond .eq 14, 3) := by decide +kernel
theorem dX9_readTwo_19 : decode cX9_readTwo 19 = .ok (.aload_n 0, 1) := by decide +kernel
theorem dX9_readTwo_20 : decode cX9_readTwo 20 = .ok (.iconst 1, 1) := by decide +kernel
theorem dX9_readTwo_21 : decode cX9_readTwo 21 = .ok (.iload_n 3, 1) := by decide +kernel
theorem dX9_readTwo_22 : decode cX9_readTwo 22 = .ok (.iload 4, 2) := by decide +kernel
theorem dX9_readTwo_24 : decode cX9_readTwo 24 = .ok (.invokevirtual 211, 3) := by decide +kernel
theorem dX9_readTwo_27 : decode cX9_readTwo 27 = .ok (.ifCond .ne 5, 3) := by decide +kernel
theorem dX9_readTwo_30 : decode cX9_readTwo 30 = .ok (.iconst 0, 1) := by decide +kernel
theorem dX9_readTwo_31 : decode cX9_readTwo 31 = .ok (.ireturn, 1) := by decide +kernel
theorem dX9_readTwo_32 : decode cX9_readTwo 32 = .ok (.aload_n 0, 1) := by decide +kernel
theorem dX9_readTwo_33 : decode cX9_readTwo 33 = .ok (.iload_n 2, 1) := by decide +kernel
theorem dX9_readTwo_34 : decode cX9_readTwo 34 = .ok (.aload_n 0, 1) := by decide +kernel
theorem dX9_readTwo_35 : decode cX9_readTwo 35 = .ok (.getfield 48, 3) := by decide +kernel
theorem dX9_readTwo_38 : decode cX9_readTwo 38 = .ok (.iconst 0, 1) := by decide +kernel
theorem dX9_readTwo_39 : decode cX9_readTwo 39 = .ok (.iaload, 1) := by decide +kernel
theorem dX9_readTwo_40 : decode cX9_readTwo 40 = .ok (.invokevirtual 220, 3) := by decide +kernel
theorem dX9_readTwo_43 : decode cX9_readTwo 43 = .ok (.aload_n 0, 1) := by decide +kernel
theorem dX9_readTwo_44 : decode cX9_readTwo 44 = .ok (.iload_n 2, 1) := by decide +kernel
theorem dX9_readTwo_45 : decode cX9_readTwo 45 = .ok (.iconst 1, 1) := by decide +kernel
theorem dX9_readTwo_46 : decode cX9_readTwo 46 = .ok (.iadd, 1) := by decide +kernel
theorem dX9_readTwo_47 : decode cX9_readTwo 47 = .ok (.aload_n 0, 1) := by decide +kernel
theorem dX9_readTwo_48 : decode cX9_readTwo 48 = .ok (.getfield 48, 3) := by decide +kernel
theorem dX9_readTwo_51 : decode cX9_readTwo 51 = .ok (.iconst 1, 1) := by decide +kernel
theorem dX9_readTwo_52 : decode cX9_readTwo 52 = .ok (.iaload, 1) := by decide +kernel
theorem dX9_readTwo_53 : decode cX9_readTwo 53 = .ok (.invokevirtual 220, 3) := by decide +kernel
theorem dX9_readTwo_56 : decode cX9_readTwo 56 = .ok (.iconst 1, 1) := by decide +kernel
theorem dX9_readTwo_57 : decode cX9_readTwo 57 = .ok (.ireturn, 1) := by decide +kernel
theorem dX9_readPolicy_0 : decode cX9_readPolicy 0 = .ok (.aload_n 0, 1) := by decide +kernel
theorem dX9_readPolicy_1 : decode cX9_readPolicy 1 = .ok (.bipush 64, 2) := by decide +kernel
theorem dX9_readPolicy_3 : decode cX9_readPolicy 3 = .ok (.invokevirtual 217, 3) := by decide +kernel
theorem dX9_readPolicy_6 : decode cX9_readPolicy 6 = .ok (.ifCond .ne 5, 3) := by decide +kernel
theorem dX9_readPolicy_9 : decode cX9_readPolicy 9 = .ok (.iconst 0, 1) := by decide +kernel
theorem dX9_readPolicy_10 : decode cX9_readPolicy 10 = .ok (.ireturn, 1) := by decide +kernel
theorem dX9_readPolicy_11 : decode cX9_readPolicy 11 = .ok (.aload_n 0, 1) := by decide +kernel
theorem dX9_readPolicy_12 : decode cX9_readPolicy 12 = .ok (.ldc 223, 2) := by decide +kernel
theorem dX9_readPolicy_14 : decode cX9_readPolicy 14 = .ok (.invokevirtual 225, 3) := by decide +kernel
theorem dX9_readPolicy_17 : decode cX9_readPolicy 17 = .ok (.ifCond .eq 7, 3) := by decide +kernel
theorem dX9_readPolicy_20 : decode cX9_readPolicy 20 = .ok (.iconst 0, 1) := by decide +kernel
theorem dX9_readPolicy_21 : decode cX9_readPolicy 21 = .ok (.goto 30, 3) := by decide +kernel
theorem dX9_readPolicy_24 : decode cX9_readPolicy 24 = .ok (.aload_n 0, 1) := by decide +kernel
theorem dX9_readPolicy_25 : decode cX9_readPolicy 25 = .ok (.ldc 229, 2) := by decide +kernel
theorem dX9_readPolicy_27 : decode cX9_readPolicy 27 = .ok (.invokevirtual 225, 3) := by decide +kernel
theorem dX9_readPolicy_30 : decode cX9_readPolicy 30 = .ok (.ifCond .eq 7, 3) := by decide +kernel
theorem dX9_readPolicy_33 : decode cX9_readPolicy 33 = .ok (.iconst 1, 1) := by decide +kernel
theorem dX9_readPolicy_34 : decode cX9_readPolicy 34 = .ok (.goto 17, 3) := by decide +kernel
theorem dX9_readPolicy_37 : decode cX9_readPolicy 37 = .ok (.aload_n 0, 1) := by decide +kernel
theorem dX9_readPolicy_38 : decode cX9_readPolicy 38 = .ok (.ldc 231, 2) := by decide +kernel
theorem dX9_readPolicy_40 : decode cX9_readPolicy 40 = .ok (.invokevirtual 225, 3) := by decide +kernel
theorem dX9_readPolicy_43 : decode cX9_readPolicy 43 = .ok (.ifCond .eq 7, 3) := by decide +kernel
theorem dX9_readPolicy_46 : decode cX9_readPolicy 46 = .ok (.iconst 2, 1) := by decide +kernel
theorem dX9_readPolicy_47 : decode cX9_readPolicy 47 = .ok (.goto 4, 3) := by decide +kernel
theorem dX9_readPolicy_50 : decode cX9_readPolicy 50 = .ok (.iconst (-1), 1) := by decide +kernel
theorem dX9_readPolicy_51 : decode cX9_readPolicy 51 = .ok (.istore_n 1, 1) := by decide +kernel
theorem dX9_readPolicy_52 : decode cX9_readPolicy 52 = .ok (.iload_n 1, 1) := by decide +kernel
theorem dX9_readPolicy_53 : decode cX9_readPolicy 53 = .ok (.iconst (-1), 1) := by decide +kernel
theorem dX9_readPolicy_54 : decode cX9_readPolicy 54 = .ok (.if_icmp .ne 9, 3) := by decide +kernel
theorem dX9_readPolicy_57 : decode cX9_readPolicy 57 = .ok (.aload_n 0, 1) := by decide +kernel
theorem dX9_readPolicy_58 : decode cX9_readPolicy 58 = .ok (.iconst 1, 1) := by decide +kernel
theorem dX9_readPolicy_59 : decode cX9_readPolicy 59 = .ok (.invokevirtual 204, 3) := by decide +kernel
theorem dX9_readPolicy_62 : decode cX9_readPolicy 62 = .ok (.ireturn, 1) := by decide +kernel
theorem dX9_readPolicy_63 : decode cX9_readPolicy 63 = .ok (.aload_n 0, 1) := by decide +kernel
theorem dX9_readPolicy_64 : decode cX9_readPolicy 64 = .ok (.bipush 7, 2) := by decide +kernel
theorem dX9_readPolicy_66 : decode cX9_readPolicy 66 = .ok (.iload_n 1, 1) := by decide +kernel
theorem dX9_readPolicy_67 : decode cX9_readPolicy 67 = .ok (.invokevirtual 220, 3) := by decide +kernel
theorem dX9_readPolicy_70 : decode cX9_readPolicy 70 = .ok (.aload_n 0, 1) := by decide +kernel
theorem dX9_readPolicy_71 : decode cX9_readPolicy 71 = .ok (.invokevirtual 208, 3) := by decide +kernel
theorem dX9_readPolicy_74 : decode cX9_readPolicy 74 = .ok (.iload_n 1, 1) := by decide +kernel
theorem dX9_readPolicy_75 : decode cX9_readPolicy 75 = .ok (.iconst 2, 1) := by decide +kernel
theorem dX9_readPolicy_76 : decode cX9_readPolicy 76 = .ok (.if_icmp .eq 5, 3) := by decide +kernel
theorem dX9_readPolicy_79 : decode cX9_readPolicy 79 = .ok (.iconst 1, 1) := by decide +kernel
theorem dX9_readPolicy_80 : decode cX9_readPolicy 80 = .ok (.ireturn, 1) := by decide +kernel
theorem dX9_readPolicy_81 : decode cX9_readPolicy 81 = .ok (.aload_n 0, 1) := by decide +kernel
theorem dX9_readPolicy_82 : decode cX9_readPolicy 82 = .ok (.iconst 0, 1) := by decide +kernel
theorem dX9_readPolicy_83 : decode cX9_readPolicy 83 = .ok (.iconst 2, 1) := by decide +kernel
theorem dX9_readPolicy_84 : decode cX9_readPolicy 84 = .ok (.bipush 24, 2) := by decide +kernel
theorem dX9_readPolicy_86 : decode cX9_readPolicy 86 = .ok (.invokevirtual 211, 3) := by decide +kernel
theorem dX9_readPolicy_89 : decode cX9_readPolicy 89 = .ok (.ifCond .ne 5, 3) := by decide +kernel
theorem dX9_readPolicy_92 : decode cX9_readPolicy 92 = .ok (.iconst 0, 1) := by decide +kernel
theorem dX9_readPolicy_93 : decode cX9_readPolicy 93 = .ok (.ireturn, 1) := by decide +kernel
theorem dX9_readPolicy_94 : decode cX9_readPolicy 94 = .ok (.aload_n 0, 1) := by decide +kernel
theorem dX9_readPolicy_95 : decode cX9_readPolicy 95 = .ok (.bipush 8, 2) := by decide +kernel
theorem dX9_readPolicy_97 : decode cX9_readPolicy 97 = .ok (.aload_n 0, 1) := by decide +kernel
theorem dX9_readPolicy_98 : decode cX9_readPolicy 98 = .ok (.getfield 48, 3) := by decide +kernel
theorem dX9_readPolicy_101 : decode cX9_readPolicy 101 = .ok (.iconst 0, 1) := by decide +kernel
theorem dX9_readPolicy_102 : decode cX9_readPolicy 102 = .ok (.iaload, 1) := by decide +kernel
theorem dX9_readPolicy_103 : decode cX9_readPolicy 103 = .ok (.invokevirtual 220, 3) := by decide +kernel
theorem dX9_readPolicy_106 : decode cX9_readPolicy 106 = .ok (.iconst 1, 1) := by decide +kernel
theorem dX9_readPolicy_107 : decode cX9_readPolicy 107 = .ok (.ireturn, 1) := by decide +kernel
theorem dX9_readRule_0 : decode cX9_readRule 0 = .ok (.aload_n 0, 1) := by decide +kernel
theorem dX9_readRule_1 : decode cX9_readRule 1 = .ok (.sipush 128, 3) := by decide +kernel
theorem dX9_readRule_4 : decode cX9_readRule 4 = .ok (.invokevirtual 217, 3) := by decide +kernel
theorem dX9_readRule_7 : decode cX9_readRule 7 = .ok (.ifCond .ne 5, 3) := by decide +kernel
theorem dX9_readRule_10 : decode cX9_readRule 10 = .ok (.iconst 0, 1) := by decide +kernel
theorem dX9_readRule_11 : decode cX9_readRule 11 = .ok (.ireturn, 1) := by decide +kernel
theorem dX9_readRule_12 : decode cX9_readRule 12 = .ok (.aload_n 0, 1) := by decide +kernel
theorem dX9_readRule_13 : decode cX9_readRule 13 = .ok (.ldc 233, 2) := by decide +kernel
theorem dX9_readRule_15 : decode cX9_readRule 15 = .ok (.invokevirtual 225, 3) := by decide +kernel
theorem dX9_readRule_18 : decode cX9_readRule 18 = .ok (.ifCond .eq 7, 3) := by decide +kernel
theorem dX9_readRule_21 : decode cX9_readRule 21 = .ok (.iconst 0, 1) := by decide +kernel
theorem dX9_readRule_22 : decode cX9_readRule 22 = .ok (.goto 30, 3) := by decide +kernel
theorem dX9_readRule_25 : decode cX9_readRule 25 = .ok (.aload_n 0, 1) := by decide +kernel
theorem dX9_readRule_26 : decode cX9_readRule 26 = .ok (.ldc 235, 2) := by decide +kernel
theorem dX9_readRule_28 : decode cX9_readRule 28 = .ok (.invokevirtual 225, 3) := by decide +kernel
theorem dX9_readRule_31 : decode cX9_readRule 31 = .ok (.ifCond .eq 7, 3) := by decide +kernel
theorem dX9_readRule_34 : decode cX9_readRule 34 = .ok (.iconst 1, 1) := by decide +kernel
theorem dX9_readRule_35 : decode cX9_readRule 35 = .ok (.goto 17, 3) := by decide +kernel
theorem dX9_readRule_38 : decode cX9_readRule 38 = .ok (.aload_n 0, 1) := by decide +kernel
theorem dX9_readRule_39 : decode cX9_readRule 39 = .ok (.ldc 237, 2) := by decide +kernel
theorem dX9_readRule_41 : decode cX9_readRule 41 = .ok (.invokevirtual 225, 3) := by decide +kernel
theorem dX9_readRule_44 : decode cX9_readRule 44 = .ok (.ifCond .eq 7, 3) := by decide +kernel
theorem dX9_readRule_47 : decode cX9_readRule 47 = .ok (.iconst 2, 1) := by decide +kernel
theorem dX9_readRule_48 : decode cX9_readRule 48 = .ok (.goto 4, 3) := by decide +kernel
theorem dX9_readRule_51 : decode cX9_readRule 51 = .ok (.iconst (-1), 1) := by decide +kernel
theorem dX9_readRule_52 : decode cX9_readRule 52 = .ok (.istore_n 1, 1) := by decide +kernel
theorem dX9_readRule_53 : decode cX9_readRule 53 = .ok (.iload_n 1, 1) := by decide +kernel
theorem dX9_readRule_54 : decode cX9_readRule 54 = .ok (.iconst (-1), 1) := by decide +kernel
theorem dX9_readRule_55 : decode cX9_readRule 55 = .ok (.if_icmp .ne 9, 3) := by decide +kernel
theorem dX9_readRule_58 : decode cX9_readRule 58 = .ok (.aload_n 0, 1) := by decide +kernel
theorem dX9_readRule_59 : decode cX9_readRule 59 = .ok (.iconst 1, 1) := by decide +kernel
theorem dX9_readRule_60 : decode cX9_readRule 60 = .ok (.invokevirtual 204, 3) := by decide +kernel
theorem dX9_readRule_63 : decode cX9_readRule 63 = .ok (.ireturn, 1) := by decide +kernel
theorem dX9_readRule_64 : decode cX9_readRule 64 = .ok (.aload_n 0, 1) := by decide +kernel
theorem dX9_readRule_65 : decode cX9_readRule 65 = .ok (.bipush 9, 2) := by decide +kernel
theorem dX9_readRule_67 : decode cX9_readRule 67 = .ok (.iload_n 1, 1) := by decide +kernel
theorem dX9_readRule_68 : decode cX9_readRule 68 = .ok (.invokevirtual 220, 3) := by decide +kernel
theorem dX9_readRule_71 : decode cX9_readRule 71 = .ok (.aload_n 0, 1) := by decide +kernel
theorem dX9_readRule_72 : decode cX9_readRule 72 = .ok (.invokevirtual 208, 3) := by decide +kernel
theorem dX9_readRule_75 : decode cX9_readRule 75 = .ok (.iconst 1, 1) := by decide +kernel
theorem dX9_readRule_76 : decode cX9_readRule 76 = .ok (.ireturn, 1) := by decide +kernel
theorem dX9_readLoad_0 : decode cX9_readLoad 0 = .ok (.aload_n 0, 1) := by decide +kernel
theorem dX9_readLoad_1 : decode cX9_readLoad 1 = .ok (.sipush 512, 3) := by decide +kernel
theorem dX9_readLoad_4 : decode cX9_readLoad 4 = .ok (.invokevirtual 217, 3) := by decide +kernel
theorem dX9_readLoad_7 : decode cX9_readLoad 7 = .ok (.ifCond .ne 5, 3) := by decide +kernel
theorem dX9_readLoad_10 : decode cX9_readLoad 10 = .ok (.iconst 0, 1) := by decide +kernel
theorem dX9_readLoad_11 : decode cX9_readLoad 11 = .ok (.ireturn, 1) := by decide +kernel
theorem dX9_readLoad_12 : decode cX9_readLoad 12 = .ok (.iconst 0, 1) := by decide +kernel
theorem dX9_readLoad_13 : decode cX9_readLoad 13 = .ok (.istore_n 1, 1) := by decide +kernel
theorem dX9_readLoad_14 : decode cX9_readLoad 14 = .ok (.aload_n 0, 1) := by decide +kernel
theorem dX9_readLoad_15 : decode cX9_readLoad 15 = .ok (.iconst 0, 1) := by decide +kernel
theorem dX9_readLoad_16 : decode cX9_readLoad 16 = .ok (.iconst 0, 1) := by decide +kernel
theorem dX9_readLoad_17 : decode cX9_readLoad 17 = .ok (.sipush 999, 3) := by decide +kernel
theorem dX9_readLoad_20 : decode cX9_readLoad 20 = .ok (.invokevirtual 211, 3) := by decide +kernel
theorem dX9_readLoad_23 : decode cX9_readLoad 23 = .ok (.ifCond .ne 5, 3) := by decide +kernel
theorem dX9_readLoad_26 : decode cX9_readLoad 26 = .ok (.iconst 0, 1) := by decide +kernel
theorem dX9_readLoad_27 : decode cX9_readLoad 27 = .ok (.ireturn, 1) := by decide +kernel
theorem dX9_readLoad_28 : decode cX9_readLoad 28 = .ok (.aload_n 0, 1) := by decide +kernel
theorem dX9_readLoad_29 : decode cX9_readLoad 29 = .ok (.bipush 36, 2) := by decide +kernel
theorem dX9_readLoad_31 : decode cX9_readLoad 31 = .ok (.iload_n 1, 1) := by decide +kernel
theorem dX9_readLoad_32 : decode cX9_readLoad 32 = .ok (.iadd, 1) := by decide +kernel
theorem dX9_readLoad_33 : decode cX9_readLoad 33 = .ok (.aload_n 0, 1) := by decide +kernel
theorem dX9_readLoad_34 : decode cX9_readLoad 34 = .ok (.getfield 48, 3) := by decide +kernel
theorem dX9_readLoad_37 : decode cX9_readLoad 37 = .ok (.iconst 0, 1) := by decide +kernel
theorem dX9_readLoad_38 : decode cX9_readLoad 38 = .ok (.iaload, 1) := by decide +kernel
theorem dX9_readLoad_39 : decode cX9_readLoad 39 = .ok (.invokevirtual 220, 3) := by decide +kernel
theorem dX9_readLoad_42 : decode cX9_readLoad 42 = .ok (.iinc 1 1, 3) := by decide +kernel
theorem dX9_readLoad_45 : decode cX9_readLoad 45 = .ok (.aload_n 0, 1) := by decide +kernel
theorem dX9_readLoad_46 : decode cX9_readLoad 46 = .ok (.getfield 182, 3) := by decide +kernel
theorem dX9_readLoad_49 : decode cX9_readLoad 49 = .ok (.iconst 2, 1) := by decide +kernel
theorem dX9_readLoad_50 : decode cX9_readLoad 50 = .ok (.if_icmp .ne 9, 3) := by decide +kernel
theorem dX9_readLoad_53 : decode cX9_readLoad 53 = .ok (.iload_n 1, 1) := by decide +kernel
theorem dX9_readLoad_54 : decode cX9_readLoad 54 = .ok (.bipush 24, 2) := by decide +kernel
theorem dX9_readLoad_56 : decode cX9_readLoad 56 = .ok (.if_icmp .lt (-42), 3) := by decide +kernel
theorem dX9_readLoad_59 : decode cX9_readLoad 59 = .ok (.aload_n 0, 1) := by decide +kernel
theorem dX9_readLoad_60 : decode cX9_readLoad 60 = .ok (.bipush 24, 2) := by decide +kernel
theorem dX9_readLoad_62 : decode cX9_readLoad 62 = .ok (.iload_n 1, 1) := by decide +kernel
theorem dX9_readLoad_63 : decode cX9_readLoad 63 = .ok (.invokevirtual 220, 3) := by decide +kernel
theorem dX9_readLoad_66 : decode cX9_readLoad 66 = .ok (.iconst 1, 1) := by decide +kernel
theorem dX9_readLoad_67 : decode cX9_readLoad 67 = .ok (.ireturn, 1) := by decide +kernel
theorem dX9_readGuard_0 : decode cX9_readGuard 0 = .ok (.aload_n 0, 1) := by decide +kernel
theorem dX9_readGuard_1 : decode cX9_readGuard 1 = .ok (.getfield 7, 3) := by decide +kernel
theorem dX9_readGuard_4 : decode cX9_readGuard 4 = .ok (.iconst 0, 1) := by decide +kernel
theorem dX9_readGuard_5 : decode cX9_readGuard 5 = .ok (.iaload, 1) := by decide +kernel
theorem dX9_readGuard_6 : decode cX9_readGuard 6 = .ok (.ifCond .ne 9, 3) := by decide +kernel
theorem dX9_readGuard_9 : decode cX9_readGuard 9 = .ok (.aload_n 0, 1) := by decide +kernel
theorem dX9_readGuard_10 : decode cX9_readGuard 10 = .ok (.iconst 1, 1) := by decide +kernel
theorem dX9_readGuard_11 : decode cX9_readGuard 11 = .ok (.invokevirtual 204, 3) := by decide +kernel
theorem dX9_readGuard_14 : decode cX9_readGuard 14 = .ok (.ireturn, 1) := by decide +kernel
theorem dX9_readGuard_15 : decode cX9_readGuard 15 = .ok (.aload_n 0, 1) := by decide +kernel
theorem dX9_readGuard_16 : decode cX9_readGuard 16 = .ok (.invokevirtual 208, 3) := by decide +kernel
theorem dX9_readGuard_19 : decode cX9_readGuard 19 = .ok (.aload_n 0, 1) := by decide +kernel
theorem dX9_readGuard_20 : decode cX9_readGuard 20 = .ok (.getfield 7, 3) := by decide +kernel
theorem dX9_readGuard_23 : decode cX9_readGuard 23 = .ok (.iconst 0, 1) := by decide +kernel
theorem dX9_readGuard_24 : decode cX9_readGuard 24 = .ok (.iaload, 1) := by decide +kernel
theorem dX9_readGuard_25 : decode cX9_readGuard 25 = .ok (.iconst 1, 1) := by decide +kernel
theorem dX9_readGuard_26 : decode cX9_readGuard 26 = .ok (.isub, 1) := by decide +kernel
theorem dX9_readGuard_27 : decode cX9_readGuard 27 = .ok (.istore_n 1, 1) := by decide +kernel
theorem dX9_readGuard_28 : decode cX9_readGuard 28 = .ok (.aload_n 0, 1) := by decide +kernel
theorem dX9_readGuard_29 : decode cX9_readGuard 29 = .ok (.getfield 182, 3) := by decide +kernel
theorem dX9_readGuard_32 : decode cX9_readGuard 32 = .ok (.iconst 2, 1) := by decide +kernel
theorem dX9_readGuard_33 : decode cX9_readGuard 33 = .ok (.if_icmp .ne 42, 3) := by decide +kernel
theorem dX9_readGuard_36 : decode cX9_readGuard 36 = .ok (.aload_n 0, 1) := by decide +kernel
theorem dX9_readGuard_37 : decode cX9_readGuard 37 = .ok (.invokevirtual 191, 3) := by decide +kernel
theorem dX9_readGuard_40 : decode cX9_readGuard 40 = .ok (.iconst 4, 1) := by decide +kernel
theorem dX9_readGuard_41 : decode cX9_readGuard 41 = .ok (.if_icmp .ge 34, 3) := by decide +kernel
theorem dX9_readGuard_44 : decode cX9_readGuard 44 = .ok (.aload_n 0, 1) := by decide +kernel
theorem dX9_readGuard_45 : decode cX9_readGuard 45 = .ok (.getfield 179, 3) := by decide +kernel
theorem dX9_readGuard_48 : decode cX9_readGuard 48 = .ok (.aload_n 0, 1) := by decide +kernel
theorem dX9_readGuard_49 : decode cX9_readGuard 49 = .ok (.iload_n 1, 1) := by decide +kernel
theorem dX9_readGuard_50 : decode cX9_readGuard 50 = .ok (.iconst 0, 1) := by decide +kernel
theorem dX9_readGuard_51 : decode cX9_readGuard 51 = .ok (.invokevirtual 81, 3) := by decide +kernel
theorem dX9_readGuard_54 : decode cX9_readGuard 54 = .ok (.if_icmp .ge 21, 3) := by decide +kernel
theorem dX9_readGuard_57 : decode cX9_readGuard 57 = .ok (.aload_n 0, 1) := by decide +kernel
theorem dX9_readGuard_58 : decode cX9_readGuard 58 = .ok (.iload_n 1, 1) := by decide +kernel
theorem dX9_readGuard_59 : decode cX9_readGuard 59 = .ok (.aload_n 0, 1) := by decide +kernel
theorem dX9_readGuard_60 : decode cX9_readGuard 60 = .ok (.getfield 179, 3) := by decide +kernel
theorem dX9_readGuard_63 : decode cX9_readGuard 63 = .ok (.invokevirtual 95, 3) := by decide +kernel
theorem dX9_readGuard_66 : decode cX9_readGuard 66 = .ok (.ifCond .eq 9, 3) := by decide +kernel
theorem dX9_readGuard_69 : decode cX9_readGuard 69 = .ok (.aload_n 0, 1) := by decide +kernel
theorem dX9_readGuard_70 : decode cX9_readGuard 70 = .ok (.iconst 3, 1) := by decide +kernel
theorem dX9_readGuard_71 : decode cX9_readGuard 71 = .ok (.invokevirtual 204, 3) := by decide +kernel
theorem dX9_readGuard_74 : decode cX9_readGuard 74 = .ok (.ireturn, 1) := by decide +kernel
theorem dX9_readGuard_75 : decode cX9_readGuard 75 = .ok (.aload_n 0, 1) := by decide +kernel
theorem dX9_readGuard_76 : decode cX9_readGuard 76 = .ok (.iconst 0, 1) := by decide +kernel
theorem dX9_readGuard_77 : decode cX9_readGuard 77 = .ok (.iconst 0, 1) := by decide +kernel
theorem dX9_readGuard_78 : decode cX9_readGuard 78 = .ok (.aload_n 0, 1) := by decide +kernel
theorem dX9_readGuard_79 : decode cX9_readGuard 79 = .ok (.iload_n 1, 1) := by decide +kernel
theorem dX9_readGuard_80 : decode cX9_readGuard 80 = .ok (.iconst 0, 1) := by decide +kernel
theorem dX9_readGuard_81 : decode cX9_readGuard 81 = .ok (.invokevirtual 81, 3) := by decide +kernel
theorem dX9_readGuard_84 : decode cX9_readGuard 84 = .ok (.iconst 1, 1) := by decide +kernel
theorem dX9_readGuard_85 : decode cX9_readGuard 85 = .ok (.isub, 1) := by decide +kernel
theorem dX9_readGuard_86 : decode cX9_readGuard 86 = .ok (.invokevirtual 211, 3) := by decide +kernel
theorem dX9_readGuard_89 : decode cX9_readGuard 89 = .ok (.ifCond .ne 5, 3) := by decide +kernel
theorem dX9_readGuard_92 : decode cX9_readGuard 92 = .ok (.iconst 0, 1) := by decide +kernel
theorem dX9_readGuard_93 : decode cX9_readGuard 93 = .ok (.ireturn, 1) := by decide +kernel
theorem dX9_readGuard_94 : decode cX9_readGuard 94 = .ok (.aload_n 0, 1) := by decide +kernel
theorem dX9_readGuard_95 : decode cX9_readGuard 95 = .ok (.bipush 100, 2) := by decide +kernel
theorem dX9_readGuard_97 : decode cX9_readGuard 97 = .ok (.iconst 4, 1) := by decide +kernel
theorem dX9_readGuard_98 : decode cX9_readGuard 98 = .ok (.aload_n 0, 1) := by decide +kernel
theorem dX9_readGuard_99 : decode cX9_readGuard 99 = .ok (.getfield 48, 3) := by decide +kernel
theorem dX9_readGuard_102 : decode cX9_readGuard 102 = .ok (.iconst 0, 1) := by decide +kernel
theorem dX9_readGuard_103 : decode cX9_readGuard 103 = .ok (.iaload, 1) := by decide +kernel
theorem dX9_readGuard_104 : decode cX9_readGuard 104 = .ok (.imul, 1) := by decide +kernel
theorem dX9_readGuard_105 : decode cX9_readGuard 105 = .ok (.iadd, 1) := by decide +kernel
theorem dX9_readGuard_106 : decode cX9_readGuard 106 = .ok (.iconst 3, 1) := by decide +kernel
theorem dX9_readGuard_107 : decode cX9_readGuard 107 = .ok (.iadd, 1) := by decide +kernel
theorem dX9_readGuard_108 : decode cX9_readGuard 108 = .ok (.iconst 1, 1) := by decide +kernel
theorem dX9_readGuard_109 : decode cX9_readGuard 109 = .ok (.invokevirtual 220, 3) := by decide +kernel
theorem dX9_readGuard_112 : decode cX9_readGuard 112 = .ok (.iconst 1, 1) := by decide +kernel
theorem dX9_readGuard_113 : decode cX9_readGuard 113 = .ok (.ireturn, 1) := by decide +kernel
theorem dX9_readSetting_0 : decode cX9_readSetting 0 = .ok (.aload_n 0, 1) := by decide +kernel
theorem dX9_readSetting_1 : decode cX9_readSetting 1 = .ok (.ldc 239, 2) := by decide +kernel
theorem dX9_readSetting_3 : decode cX9_readSetting 3 = .ok (.invokevirtual 225, 3) := by decide +kernel
theorem dX9_readSetting_6 : decode cX9_readSetting 6 = .ok (.ifCond .eq 14, 3) := by decide +kernel
theorem dX9_readSetting_9 : decode cX9_readSetting 9 = .ok (.aload_n 0, 1) := by decide +kernel
theorem dX9_readSetting_10 : decode cX9_readSetting 10 = .ok (.iconst 4, 1) := by decide +kernel
theorem dX9_readSetting_11 : decode cX9_readSetting 11 = .ok (.iconst 3, 1) := by decide +kernel
theorem dX9_readSetting_12 : decode cX9_readSetting 12 = .ok (.bipush 10, 2) := by decide +kernel
theorem dX9_readSetting_14 : decode cX9_readSetting 14 = .ok (.bipush 100, 2) := by decide +kernel
theorem dX9_readSetting_16 : decode cX9_readSetting 16 = .ok (.invokevirtual 241, 3) := by decide +kernel
theorem dX9_readSetting_19 : decode cX9_readSetting 19 = .ok (.ireturn, 1) := by decide +kernel
theorem dX9_readSetting_20 : decode cX9_readSetting 20 = .ok (.aload_n 0, 1) := by decide +kernel
theorem dX9_readSetting_21 : decode cX9_readSetting 21 = .ok (.ldc 245, 2) := by decide +kernel
theorem dX9_readSetting_23 : decode cX9_readSetting 23 = .ok (.invokevirtual 225, 3) := by decide +kernel
theorem dX9_readSetting_26 : decode cX9_readSetting 26 = .ok (.ifCond .eq 14, 3) := by decide +kernel
theorem dX9_readSetting_29 : decode cX9_readSetting 29 = .ok (.aload_n 0, 1) := by decide +kernel
theorem dX9_readSetting_30 : decode cX9_readSetting 30 = .ok (.bipush 8, 2) := by decide +kernel
theorem dX9_readSetting_32 : decode cX9_readSetting 32 = .ok (.iconst 4, 1) := by decide +kernel
theorem dX9_readSetting_33 : decode cX9_readSetting 33 = .ok (.iconst 0, 1) := by decide +kernel
theorem dX9_readSetting_34 : decode cX9_readSetting 34 = .ok (.bipush 9, 2) := by decide +kernel
theorem dX9_readSetting_36 : decode cX9_readSetting 36 = .ok (.invokevirtual 241, 3) := by decide +kernel
theorem dX9_readSetting_39 : decode cX9_readSetting 39 = .ok (.ireturn, 1) := by decide +kernel
theorem dX9_readSetting_40 : decode cX9_readSetting 40 = .ok (.aload_n 0, 1) := by decide +kernel
theorem dX9_readSetting_41 : decode cX9_readSetting 41 = .ok (.ldc 247, 2) := by decide +kernel
theorem dX9_readSetting_43 : decode cX9_readSetting 43 = .ok (.invokevirtual 225, 3) := by decide +kernel
theorem dX9_readSetting_46 : decode cX9_readSetting 46 = .ok (.ifCond .eq 14, 3) := by decide +kernel
theorem dX9_readSetting_49 : decode cX9_readSetting 49 = .ok (.aload_n 0, 1) := by decide +kernel
theorem dX9_readSetting_50 : decode cX9_readSetting 50 = .ok (.bipush 16, 2) := by decide +kernel
theorem dX9_readSetting_52 : decode cX9_readSetting 52 = .ok (.iconst 5, 1) := by decide +kernel
theorem dX9_readSetting_53 : decode cX9_readSetting 53 = .ok (.iconst 1, 1) := by decide +kernel
theorem dX9_readSetting_54 : decode cX9_readSetting 54 = .ok (.bipush 8, 2) := by decide +kernel
theorem dX9_readSetting_56 : decode cX9_readSetting 56 = .ok (.invokevirtual 241, 3) := by decide +kernel
theorem dX9_readSetting_59 : decode cX9_readSetting 59 = .ok (.ireturn, 1) := by decide +kernel
theorem dX9_readSetting_60 : decode cX9_readSetting 60 = .ok (.aload_n 0, 1) := by decide +kernel
theorem dX9_readSetting_61 : decode cX9_readSetting 61 = .ok (.ldc 249, 2) := by decide +kernel
theorem dX9_readSetting_63 : decode cX9_readSetting 63 = .ok (.invokevirtual 225, 3) := by decide +kernel
theorem dX9_readSetting_66 : decode cX9_readSetting 66 = .ok (.ifCond .eq 15, 3) := by decide +kernel
theorem dX9_readSetting_69 : decode cX9_readSetting 69 = .ok (.aload_n 0, 1) := by decide +kernel
theorem dX9_readSetting_70 : decode cX9_readSetting 70 = .ok (.bipush 32, 2) := by decide +kernel
theorem dX9_readSetting_72 : decode cX9_readSetting 72 = .ok (.bipush 6, 2) := by decide +kernel
theorem dX9_readSetting_74 : decode cX9_readSetting 74 = .ok (.iconst 1, 1) := by decide +kernel
theorem dX9_readSetting_75 : decode cX9_readSetting 75 = .ok (.bipush 8, 2) := by decide +kernel
theorem dX9_readSetting_77 : decode cX9_readSetting 77 = .ok (.invokevirtual 241, 3) := by decide +kernel
theorem dX9_readSetting_80 : decode cX9_readSetting 80 = .ok (.ireturn, 1) := by decide +kernel
theorem dX9_readSetting_81 : decode cX9_readSetting 81 = .ok (.aload_n 0, 1) := by decide +kernel
theorem dX9_readSetting_82 : decode cX9_readSetting 82 = .ok (.ldc 251, 2) := by decide +kernel
theorem dX9_readSetting_84 : decode cX9_readSetting 84 = .ok (.invokevirtual 225, 3) := by decide +kernel
theorem dX9_readSetting_87 : decode cX9_readSetting 87 = .ok (.ifCond .eq 8, 3) := by decide +kernel
theorem dX9_readSetting_90 : decode cX9_readSetting 90 = .ok (.aload_n 0, 1) := by decide +kernel
theorem dX9_readSetting_91 : decode cX9_readSetting 91 = .ok (.invokevirtual 253, 3) := by decide +kernel
theorem dX9_readSetting_94 : decode cX9_readSetting 94 = .ok (.ireturn, 1) := by decide +kernel
theorem dX9_readSetting_95 : decode cX9_readSetting 95 = .ok (.aload_n 0, 1) := by decide +kernel
theorem dX9_readSetting_96 : decode cX9_readSetting 96 = .ok (.ldc_w 257, 3) := by decide +kernel
theorem dX9_readSetting_99 : decode cX9_readSetting 99 = .ok (.invokevirtual 225, 3) := by decide +kernel
theorem dX9_readSetting_102 : decode cX9_readSetting 102 = .ok (.ifCond .eq 8, 3) := by decide +kernel
theorem dX9_readSetting_105 : decode cX9_readSetting 105 = .ok (.aload_n 0, 1) := by decide +kernel
theorem dX9_readSetting_106 : decode cX9_readSetting 106 = .ok (.invokevirtual 259, 3) := by decide +kernel
theorem dX9_readSetting_109 : decode cX9_readSetting 109 = .ok (.ireturn, 1) := by decide +kernel
theorem dX9_readSetting_110 : decode cX9_readSetting 110 = .ok (.aload_n 0, 1) := by decide +kernel
theorem dX9_readSetting_111 : decode cX9_readSetting 111 = .ok (.ldc_w 262, 3) := by decide +kernel
theorem dX9_readSetting_114 : decode cX9_readSetting 114 = .ok (.invokevirtual 225, 3) := by decide +kernel
theorem dX9_readSetting_117 : decode cX9_readSetting 117 = .ok (.ifCond .eq 16, 3) := by decide +kernel
theorem dX9_readSetting_120 : decode cX9_readSetting 120 = .ok (.aload_n 0, 1) := by decide +kernel
theorem dX9_readSetting_121 : decode cX9_readSetting 121 = .ok (.sipush 256, 3) := by decide +kernel
theorem dX9_readSetting_124 : decode cX9_readSetting 124 = .ok (.bipush 14, 2) := by decide +kernel
theorem dX9_readSetting_126 : decode cX9_readSetting 126 = .ok (.iconst 0, 1) := by decide +kernel
theorem dX9_readSetting_127 : decode cX9_readSetting 127 = .ok (.bipush 99, 2) := by decide +kernel
theorem dX9_readSetting_129 : decode cX9_readSetting 129 = .ok (.invokevirtual 264, 3) := by decide +kernel
theorem dX9_readSetting_132 : decode cX9_readSetting 132 = .ok (.ireturn, 1) := by decide +kernel
theorem dX9_readSetting_133 : decode cX9_readSetting 133 = .ok (.aload_n 0, 1) := by decide +kernel
theorem dX9_readSetting_134 : decode cX9_readSetting 134 = .ok (.ldc_w 267, 3) := by decide +kernel
theorem dX9_readSetting_137 : decode cX9_readSetting 137 = .ok (.invokevirtual 225, 3) := by decide +kernel
theorem dX9_readSetting_140 : decode cX9_readSetting 140 = .ok (.ifCond .eq 8, 3) := by decide +kernel
theorem dX9_readSetting_143 : decode cX9_readSetting 143 = .ok (.aload_n 0, 1) := by decide +kernel
theorem dX9_readSetting_144 : decode cX9_readSetting 144 = .ok (.invokevirtual 269, 3) := by decide +kernel
theorem dX9_readSetting_147 : decode cX9_readSetting 147 = .ok (.ireturn, 1) := by decide +kernel
theorem dX9_readSetting_148 : decode cX9_readSetting 148 = .ok (.aload_n 0, 1) := by decide +kernel
theorem dX9_readSetting_149 : decode cX9_readSetting 149 = .ok (.ldc_w 272, 3) := by decide +kernel
theorem dX9_readSetting_152 : decode cX9_readSetting 152 = .ok (.invokevirtual 225, 3) := by decide +kernel
theorem dX9_readSetting_155 : decode cX9_readSetting 155 = .ok (.ifCond .eq 10, 3) := by decide +kernel
theorem dX9_readSetting_158 : decode cX9_readSetting 158 = .ok (.aload_n 0, 1) := by decide +kernel
theorem dX9_readSetting_159 : decode cX9_readSetting 159 = .ok (.invokevirtual 274, 3) := by decide +kernel
theorem dX9_readSetting_162 : decode cX9_readSetting 162 = .ok (.goto 8, 3) := by decide +kernel
theorem dX9_readSetting_165 : decode cX9_readSetting 165 = .ok (.aload_n 0, 1) := by decide +kernel
theorem dX9_readSetting_166 : decode cX9_readSetting 166 = .ok (.iconst 1, 1) := by decide +kernel
theorem dX9_readSetting_167 : decode cX9_readSetting 167 = .ok (.invokevirtual 204, 3) := by decide +kernel
theorem dX9_readSetting_170 : decode cX9_readSetting 170 = .ok (.ireturn, 1) := by decide +kernel
theorem dX9_readStatement_0 : decode cX9_readStatement 0 = .ok (.aload_n 0, 1) := by decide +kernel
theorem dX9_readStatement_1 : decode cX9_readStatement 1 = .ok (.ldc_w 277, 3) := by decide +kernel
theorem dX9_readStatement_4 : decode cX9_readStatement 4 = .ok (.invokevirtual 225, 3) := by decide +kernel
theorem dX9_readStatement_7 : decode cX9_readStatement 7 = .ok (.ifCond .eq 8, 3) := by decide +kernel
theorem dX9_readStatement_10 : decode cX9_readStatement 10 = .ok (.aload_n 0, 1) := by decide +kernel
theorem dX9_readStatement_11 : decode cX9_readStatement 11 = .ok (.invokevirtual 279, 3) := by decide +kernel
theorem dX9_readStatement_14 : decode cX9_readStatement 14 = .ok (.ireturn, 1) := by decide +kernel
theorem dX9_readStatement_15 : decode cX9_readStatement 15 = .ok (.aload_n 0, 1) := by decide +kernel
theorem dX9_readStatement_16 : decode cX9_readStatement 16 = .ok (.ldc_w 282, 3) := by decide +kernel
theorem dX9_readStatement_19 : decode cX9_readStatement 19 = .ok (.invokevirtual 225, 3) := by decide +kernel
theorem dX9_readStatement_22 : decode cX9_readStatement 22 = .ok (.ifCond .eq 13, 3) := by decide +kernel
theorem dX9_readStatement_25 : decode cX9_readStatement 25 = .ok (.aload_n 0, 1) := by decide +kernel
theorem dX9_readStatement_26 : decode cX9_readStatement 26 = .ok (.iconst 1, 1) := by decide +kernel
theorem dX9_readStatement_27 : decode cX9_readStatement 27 = .ok (.bipush 10, 2) := by decide +kernel
theorem dX9_readStatement_29 : decode cX9_readStatement 29 = .ok (.iconst 1, 1) := by decide +kernel
theorem dX9_readStatement_30 : decode cX9_readStatement 30 = .ok (.iconst 5, 1) := by decide +kernel
theorem dX9_readStatement_31 : decode cX9_readStatement 31 = .ok (.invokevirtual 264, 3) := by decide +kernel
theorem dX9_readStatement_34 : decode cX9_readStatement 34 = .ok (.ireturn, 1) := by decide +kernel
theorem dX9_readStatement_35 : decode cX9_readStatement 35 = .ok (.aload_n 0, 1) := by decide +kernel
theorem dX9_readStatement_36 : decode cX9_readStatement 36 = .ok (.ldc_w 284, 3) := by decide +kernel
theorem dX9_readStatement_39 : decode cX9_readStatement 39 = .ok (.invokevirtual 225, 3) := by decide +kernel
theorem dX9_readStatement_42 : decode cX9_readStatement 42 = .ok (.ifCond .eq 16, 3) := by decide +kernel
theorem dX9_readStatement_45 : decode cX9_readStatement 45 = .ok (.aload_n 0, 1) := by decide +kernel
theorem dX9_readStatement_46 : decode cX9_readStatement 46 = .ok (.iconst 2, 1) := by decide +kernel
theorem dX9_readStatement_47 : decode cX9_readStatement 47 = .ok (.bipush 12, 2) := by decide +kernel
theorem dX9_readStatement_49 : decode cX9_readStatement 49 = .ok (.iconst 0, 1) := by decide +kernel
theorem dX9_readStatement_50 : decode cX9_readStatement 50 = .ok (.bipush 30, 2) := by decide +kernel
theorem dX9_readStatement_52 : decode cX9_readStatement 52 = .ok (.invokevirtual 264, 3) := by decide +kernel
theorem dX9_readStatement_55 : decode cX9_readStatement 55 = .ok (.goto 7, 3) := by decide +kernel
theorem dX9_readStatement_58 : decode cX9_readStatement 58 = .ok (.aload_n 0, 1) := by decide +kernel
theorem dX9_readStatement_59 : decode cX9_readStatement 59 = .ok (.invokevirtual 286, 3) := by decide +kernel
theorem dX9_readStatement_62 : decode cX9_readStatement 62 = .ok (.ireturn, 1) := by decide +kernel
theorem dX9_readText_0 : decode cX9_readText 0 = .ok (.aload_n 0, 1) := by decide +kernel
theorem dX9_readText_1 : decode cX9_readText 1 = .ok (.getfield 182, 3) := by decide +kernel
theorem dX9_readText_4 : decode cX9_readText 4 = .ok (.ifCond .eq 33, 3) := by decide +kernel
theorem dX9_readText_7 : decode cX9_readText 7 = .ok (.aload_n 0, 1) := by decide +kernel
theorem dX9_readText_8 : decode cX9_readText 8 = .ok (.invokevirtual 289, 3) := by decide +kernel
theorem dX9_readText_11 : decode cX9_readText 11 = .ok (.ifCond .ne 5, 3) := by decide +kernel
theorem dX9_readText_14 : decode cX9_readText 14 = .ok (.iconst 0, 1) := by decide +kernel
theorem dX9_readText_15 : decode cX9_readText 15 = .ok (.ireturn, 1) := by decide +kernel
theorem dX9_readText_16 : decode cX9_readText 16 = .ok (.aload_n 0, 1) := by decide +kernel
theorem dX9_readText_17 : decode cX9_readText 17 = .ok (.getfield 182, 3) := by decide +kernel
theorem dX9_readText_20 : decode cX9_readText 20 = .ok (.iconst 3, 1) := by decide +kernel
theorem dX9_readText_21 : decode cX9_readText 21 = .ok (.if_icmp .eq 9, 3) := by decide +kernel
theorem dX9_readText_24 : decode cX9_readText 24 = .ok (.aload_n 0, 1) := by decide +kernel
theorem dX9_readText_25 : decode cX9_readText 25 = .ok (.iconst 1, 1) := by decide +kernel
theorem dX9_readText_26 : decode cX9_readText 26 = .ok (.invokevirtual 204, 3) := by decide +kernel
theorem dX9_readText_29 : decode cX9_readText 29 = .ok (.ireturn, 1) := by decide +kernel
theorem dX9_readText_30 : decode cX9_readText 30 = .ok (.aload_n 0, 1) := by decide +kernel
theorem dX9_readText_31 : decode cX9_readText 31 = .ok (.invokevirtual 208, 3) := by decide +kernel
theorem dX9_readText_34 : decode cX9_readText 34 = .ok (.goto (-34), 3) := by decide +kernel
theorem dX9_readText_37 : decode cX9_readText 37 = .ok (.aload_n 0, 1) := by decide +kernel
theorem dX9_readText_38 : decode cX9_readText 38 = .ok (.getfield 7, 3) := by decide +kernel
theorem dX9_readText_41 : decode cX9_readText 41 = .ok (.iconst 0, 1) := by decide +kernel
theorem dX9_readText_42 : decode cX9_readText 42 = .ok (.iaload, 1) := by decide +kernel
theorem dX9_readText_43 : decode cX9_readText 43 = .ok (.ifCond .gt 11, 3) := by decide +kernel
theorem dX9_readText_46 : decode cX9_readText 46 = .ok (.aload_n 0, 1) := by decide +kernel
theorem dX9_readText_47 : decode cX9_readText 47 = .ok (.iconst 5, 1) := by decide +kernel
theorem dX9_readText_48 : decode cX9_readText 48 = .ok (.invokevirtual 204, 3) := by decide +kernel
theorem dX9_readText_51 : decode cX9_readText 51 = .ok (.ifCond .eq 7, 3) := by decide +kernel
theorem dX9_readText_54 : decode cX9_readText 54 = .ok (.iconst 1, 1) := by decide +kernel
theorem dX9_readText_55 : decode cX9_readText 55 = .ok (.goto 4, 3) := by decide +kernel
theorem dX9_readText_58 : decode cX9_readText 58 = .ok (.iconst 0, 1) := by decide +kernel
theorem dX9_readText_59 : decode cX9_readText 59 = .ok (.ireturn, 1) := by decide +kernel
theorem dX9_loadPools_0 : decode cX9_loadPools 0 = .ok (.aload_n 0, 1) := by decide +kernel
theorem dX9_loadPools_1 : decode cX9_loadPools 1 = .ok (.iconst 0, 1) := by decide +kernel
theorem dX9_loadPools_2 : decode cX9_loadPools 2 = .ok (.putfield 61, 3) := by decide +kernel
theorem dX9_loadPools_5 : decode cX9_loadPools 5 = .ok (.aload_n 0, 1) := by decide +kernel
theorem dX9_loadPools_6 : decode cX9_loadPools 6 = .ok (.getfield 7, 3) := by decide +kernel
theorem dX9_loadPools_9 : decode cX9_loadPools 9 = .ok (.iconst 0, 1) := by decide +kernel
theorem dX9_loadPools_10 : decode cX9_loadPools 10 = .ok (.aload_n 0, 1) := by decide +kernel
theorem dX9_loadPools_11 : decode cX9_loadPools 11 = .ok (.getfield 13, 3) := by decide +kernel
theorem dX9_loadPools_14 : decode cX9_loadPools 14 = .ok (.iconst 0, 1) := by decide +kernel
theorem dX9_loadPools_15 : decode cX9_loadPools 15 = .ok (.invokestatic 74, 3) := by decide +kernel
theorem dX9_loadPools_18 : decode cX9_loadPools 18 = .ok (.aload_n 0, 1) := by decide +kernel
theorem dX9_loadPools_19 : decode cX9_loadPools 19 = .ok (.getfield 25, 3) := by decide +kernel
theorem dX9_loadPools_22 : decode cX9_loadPools 22 = .ok (.iconst 0, 1) := by decide +kernel
theorem dX9_loadPools_23 : decode cX9_loadPools 23 = .ok (.aload_n 0, 1) := by decide +kernel
theorem dX9_loadPools_24 : decode cX9_loadPools 24 = .ok (.getfield 29, 3) := by decide +kernel
theorem dX9_loadPools_27 : decode cX9_loadPools 27 = .ok (.iconst 0, 1) := by decide +kernel
theorem dX9_loadPools_28 : decode cX9_loadPools 28 = .ok (.invokestatic 78, 3) := by decide +kernel
theorem dX9_loadPools_31 : decode cX9_loadPools 31 = .ok (.aload_n 0, 1) := by decide +kernel
theorem dX9_loadPools_32 : decode cX9_loadPools 32 = .ok (.invokevirtual 54, 3) := by decide +kernel
theorem dX9_loadPools_35 : decode cX9_loadPools 35 = .ok (.aload_n 0, 1) := by decide +kernel
theorem dX9_loadPools_36 : decode cX9_loadPools 36 = .ok (.iconst 0, 1) := by decide +kernel
theorem dX9_loadPools_37 : decode cX9_loadPools 37 = .ok (.putfield 185, 3) := by decide +kernel
theorem dX9_loadPools_40 : decode cX9_loadPools 40 = .ok (.aload_n 0, 1) := by decide +kernel
theorem dX9_loadPools_41 : decode cX9_loadPools 41 = .ok (.iconst (-1), 1) := by decide +kernel
theorem dX9_loadPools_42 : decode cX9_loadPools 42 = .ok (.putfield 188, 3) := by decide +kernel
theorem dX9_loadPools_45 : decode cX9_loadPools 45 = .ok (.aload_n 0, 1) := by decide +kernel
theorem dX9_loadPools_46 : decode cX9_loadPools 46 = .ok (.iconst 0, 1) := by decide +kernel
theorem dX9_loadPools_47 : decode cX9_loadPools 47 = .ok (.putfield 170, 3) := by decide +kernel
theorem dX9_loadPools_50 : decode cX9_loadPools 50 = .ok (.aload_n 0, 1) := by decide +kernel
theorem dX9_loadPools_51 : decode cX9_loadPools 51 = .ok (.iconst 0, 1) := by decide +kernel
theorem dX9_loadPools_52 : decode cX9_loadPools 52 = .ok (.putfield 214, 3) := by decide +kernel
theorem dX9_loadPools_55 : decode cX9_loadPools 55 = .ok (.aload_n 0, 1) := by decide +kernel
theorem dX9_loadPools_56 : decode cX9_loadPools 56 = .ok (.invokevirtual 208, 3) := by decide +kernel
theorem dX9_loadPools_59 : decode cX9_loadPools 59 = .ok (.aload_n 0, 1) := by decide +kernel
theorem dX9_loadPools_60 : decode cX9_loadPools 60 = .ok (.invokevirtual 292, 3) := by decide +kernel
theorem dX9_loadPools_63 : decode cX9_loadPools 63 = .ok (.istore_n 1, 1) := by decide +kernel
theorem dX9_loadPools_64 : decode cX9_loadPools 64 = .ok (.aload_n 0, 1) := by decide +kernel
theorem dX9_loadPools_65 : decode cX9_loadPools 65 = .ok (.iconst 0, 1) := by decide +kernel
theorem dX9_loadPools_66 : decode cX9_loadPools 66 = .ok (.putfield 161, 3) := by decide +kernel
theorem dX9_loadPools_69 : decode cX9_loadPools 69 = .ok (.aload_n 0, 1) := by decide +kernel
theorem dX9_loadPools_70 : decode cX9_loadPools 70 = .ok (.aload_n 0, 1) := by decide +kernel
theorem dX9_loadPools_71 : decode cX9_loadPools 71 = .ok (.getfield 185, 3) := by decide +kernel
theorem dX9_loadPools_74 : decode cX9_loadPools 74 = .ok (.putfield 295, 3) := by decide +kernel
theorem dX9_loadPools_77 : decode cX9_loadPools 77 = .ok (.aload_n 0, 1) := by decide +kernel
theorem dX9_loadPools_78 : decode cX9_loadPools 78 = .ok (.aload_n 0, 1) := by decide +kernel
theorem dX9_loadPools_79 : decode cX9_loadPools 79 = .ok (.getfield 188, 3) := by decide +kernel
theorem dX9_loadPools_82 : decode cX9_loadPools 82 = .ok (.putfield 44, 3) := by decide +kernel
theorem dX9_loadPools_85 : decode cX9_loadPools 85 = .ok (.iload_n 1, 1) := by decide +kernel
theorem dX9_loadPools_86 : decode cX9_loadPools 86 = .ok (.ifCond .ne 31, 3) := by decide +kernel
theorem dX9_loadPools_89 : decode cX9_loadPools 89 = .ok (.aload_n 0, 1) := by decide +kernel
theorem dX9_loadPools_90 : decode cX9_loadPools 90 = .ok (.getfield 13, 3) := by decide +kernel
theorem dX9_loadPools_93 : decode cX9_loadPools 93 = .ok (.iconst 0, 1) := by decide +kernel
theorem dX9_loadPools_94 : decode cX9_loadPools 94 = .ok (.aload_n 0, 1) := by decide +kernel
theorem dX9_loadPools_95 : decode cX9_loadPools 95 = .ok (.getfield 7, 3) := by decide +kernel
theorem dX9_loadPools_98 : decode cX9_loadPools 98 = .ok (.iconst 0, 1) := by decide +kernel
theorem dX9_loadPools_99 : decode cX9_loadPools 99 = .ok (.invokestatic 74, 3) := by decide +kernel
theorem dX9_loadPools_102 : decode cX9_loadPools 102 = .ok (.aload_n 0, 1) := by decide +kernel
theorem dX9_loadPools_103 : decode cX9_loadPools 103 = .ok (.getfield 29, 3) := by decide +kernel
theorem dX9_loadPools_106 : decode cX9_loadPools 106 = .ok (.iconst 0, 1) := by decide +kernel
theorem dX9_loadPools_107 : decode cX9_loadPools 107 = .ok (.aload_n 0, 1) := by decide +kernel
theorem dX9_loadPools_108 : decode cX9_loadPools 108 = .ok (.getfield 25, 3) := by decide +kernel
theorem dX9_loadPools_111 : decode cX9_loadPools 111 = .ok (.iconst 0, 1) := by decide +kernel
theorem dX9_loadPools_112 : decode cX9_loadPools 112 = .ok (.invokestatic 78, 3) := by decide +kernel
theorem dX9_loadPools_115 : decode cX9_loadPools 115 = .ok (.iconst (-1), 1) := by decide +kernel
theorem dX9_loadPools_116 : decode cX9_loadPools 116 = .ok (.ireturn, 1) := by decide +kernel
theorem dX9_loadPools_117 : decode cX9_loadPools 117 = .ok (.aload_n 0, 1) := by decide +kernel
theorem dX9_loadPools_118 : decode cX9_loadPools 118 = .ok (.iconst 0, 1) := by decide +kernel
theorem dX9_loadPools_119 : decode cX9_loadPools 119 = .ok (.putfield 71, 3) := by decide +kernel
theorem dX9_loadPools_122 : decode cX9_loadPools 122 = .ok (.aload_n 0, 1) := by decide +kernel
theorem dX9_loadPools_123 : decode cX9_loadPools 123 = .ok (.iconst 0, 1) := by decide +kernel
theorem dX9_loadPools_124 : decode cX9_loadPools 124 = .ok (.putfield 298, 3) := by decide +kernel
theorem dX9_loadPools_127 : decode cX9_loadPools 127 = .ok (.aload_n 0, 1) := by decide +kernel
theorem dX9_loadPools_128 : decode cX9_loadPools 128 = .ok (.getfield 7, 3) := by decide +kernel
theorem dX9_loadPools_131 : decode cX9_loadPools 131 = .ok (.iconst 0, 1) := by decide +kernel
theorem dX9_loadPools_132 : decode cX9_loadPools 132 = .ok (.iaload, 1) := by decide +kernel
theorem dX9_loadPools_133 : decode cX9_loadPools 133 = .ok (.ireturn, 1) := by decide +kernel
theorem dX9_errorCode_0 : decode cX9_errorCode 0 = .ok (.aload_n 0, 1) := by decide +kernel
theorem dX9_errorCode_1 : decode cX9_errorCode 1 = .ok (.iconst 0, 1) := by decide +kernel
theorem dX9_errorCode_2 : decode cX9_errorCode 2 = .ok (.putfield 61, 3) := by decide +kernel
theorem dX9_errorCode_5 : decode cX9_errorCode 5 = .ok (.aload_n 0, 1) := by decide +kernel
theorem dX9_errorCode_6 : decode cX9_errorCode 6 = .ok (.getfield 295, 3) := by decide +kernel
theorem dX9_errorCode_9 : decode cX9_errorCode 9 = .ok (.ireturn, 1) := by decide +kernel
theorem dX9_errorOffset_0 : decode cX9_errorOffset 0 = .ok (.aload_n 0, 1) := by decide +kernel
theorem dX9_errorOffset_1 : decode cX9_errorOffset 1 = .ok (.iconst 0, 1) := by decide +kernel
theorem dX9_errorOffset_2 : decode cX9_errorOffset 2 = .ok (.putfield 61, 3) := by decide +kernel
theorem dX9_errorOffset_5 : decode cX9_errorOffset 5 = .ok (.aload_n 0, 1) := by decide +kernel
theorem dX9_errorOffset_6 : decode cX9_errorOffset 6 = .ok (.getfield 44, 3) := by decide +kernel
theorem dX9_errorOffset_9 : decode cX9_errorOffset 9 = .ok (.ireturn, 1) := by decide +kernel
theorem dX9_sizes_0 : decode cX9_sizes 0 = .ok (.iconst 0, 1) := by decide +kernel
theorem dX9_sizes_1 : decode cX9_sizes 1 = .ok (.istore_n 1, 1) := by decide +kernel
theorem dX9_sizes_2 : decode cX9_sizes 2 = .ok (.iconst 0, 1) := by decide +kernel
theorem dX9_sizes_3 : decode cX9_sizes 3 = .ok (.istore_n 2, 1) := by decide +kernel
theorem dX9_sizes_4 : decode cX9_sizes 4 = .ok (.iload_n 2, 1) := by decide +kernel
theorem dX9_sizes_5 : decode cX9_sizes 5 = .ok (.aload_n 0, 1) := by decide +kernel
theorem dX9_sizes_6 : decode cX9_sizes 6 = .ok (.getfield 7, 3) := by decide +kernel
theorem dX9_sizes_9 : decode cX9_sizes 9 = .ok (.iconst 0, 1) := by decide +kernel
theorem dX9_sizes_10 : decode cX9_sizes 10 = .ok (.iaload, 1) := by decide +kernel
theorem dX9_sizes_11 : decode cX9_sizes 11 = .ok (.if_icmp .ge 19, 3) := by decide +kernel
theorem dX9_sizes_14 : decode cX9_sizes 14 = .ok (.iload_n 1, 1) := by decide +kernel
theorem dX9_sizes_15 : decode cX9_sizes 15 = .ok (.aload_n 0, 1) := by decide +kernel
theorem dX9_sizes_16 : decode cX9_sizes 16 = .ok (.iload_n 2, 1) := by decide +kernel
theorem dX9_sizes_17 : decode cX9_sizes 17 = .ok (.bipush 23, 2) := by decide +kernel
theorem dX9_sizes_19 : decode cX9_sizes 19 = .ok (.invokevirtual 81, 3) := by decide +kernel
theorem dX9_sizes_22 : decode cX9_sizes 22 = .ok (.iadd, 1) := by decide +kernel
theorem dX9_sizes_23 : decode cX9_sizes 23 = .ok (.istore_n 1, 1) := by decide +kernel
theorem dX9_sizes_24 : decode cX9_sizes 24 = .ok (.iinc 2 1, 3) := by decide +kernel
theorem dX9_sizes_27 : decode cX9_sizes 27 = .ok (.goto (-23), 3) := by decide +kernel
theorem dX9_sizes_30 : decode cX9_sizes 30 = .ok (.iload_n 1, 1) := by decide +kernel
theorem dX9_sizes_31 : decode cX9_sizes 31 = .ok (.ireturn, 1) := by decide +kernel
theorem dX9_count_0 : decode cX9_count 0 = .ok (.aload_n 0, 1) := by decide +kernel
theorem dX9_count_1 : decode cX9_count 1 = .ok (.iconst 0, 1) := by decide +kernel
theorem dX9_count_2 : decode cX9_count 2 = .ok (.putfield 61, 3) := by decide +kernel
theorem dX9_count_5 : decode cX9_count 5 = .ok (.aload_n 0, 1) := by decide +kernel
theorem dX9_count_6 : decode cX9_count 6 = .ok (.iload_n 1, 1) := by decide +kernel
theorem dX9_count_7 : decode cX9_count 7 = .ok (.iconst 0, 1) := by decide +kernel
theorem dX9_count_8 : decode cX9_count 8 = .ok (.iconst 5, 1) := by decide +kernel
theorem dX9_count_9 : decode cX9_count 9 = .ok (.invokestatic 167, 3) := by decide +kernel
theorem dX9_count_12 : decode cX9_count 12 = .ok (.ifCond .ne 7, 3) := by decide +kernel
theorem dX9_count_15 : decode cX9_count 15 = .ok (.iconst 1, 1) := by decide +kernel
theorem dX9_count_16 : decode cX9_count 16 = .ok (.goto 4, 3) := by decide +kernel
theorem dX9_count_19 : decode cX9_count 19 = .ok (.iconst 0, 1) := by decide +kernel
theorem dX9_count_20 : decode cX9_count 20 = .ok (.iconst 1, 1) := by decide +kernel
theorem dX9_count_21 : decode cX9_count 21 = .ok (.invokevirtual 302, 3) := by decide +kernel
theorem dX9_count_24 : decode cX9_count 24 = .ok (.ifCond .eq 5, 3) := by decide +kernel
theorem dX9_count_27 : decode cX9_count 27 = .ok (.iconst 0, 1) := by decide +kernel
theorem dX9_count_28 : decode cX9_count 28 = .ok (.ireturn, 1) := by decide +kernel
theorem dX9_count_29 : decode cX9_count 29 = .ok (.iload_n 1, 1) := by decide +kernel
theorem dX9_count_30 : decode cX9_count 30 = .ok (.tableswitch 67 0 4 #[34, 41, 48, 53, 60], 34) := by decide +kernel
theorem dX9_count_64 : decode cX9_count 64 = .ok (.aload_n 0, 1) := by decide +kernel
theorem dX9_count_65 : decode cX9_count 65 = .ok (.getfield 7, 3) := by decide +kernel
theorem dX9_count_68 : decode cX9_count 68 = .ok (.iconst 0, 1) := by decide +kernel
theorem dX9_count_69 : decode cX9_count 69 = .ok (.iaload, 1) := by decide +kernel
theorem dX9_count_70 : decode cX9_count 70 = .ok (.ireturn, 1) := by decide +kernel
theorem dX9_count_71 : decode cX9_count 71 = .ok (.aload_n 0, 1) := by decide +kernel
theorem dX9_count_72 : decode cX9_count 72 = .ok (.getfield 7, 3) := by decide +kernel
theorem dX9_count_75 : decode cX9_count 75 = .ok (.iconst 1, 1) := by decide +kernel
theorem dX9_count_76 : decode cX9_count 76 = .ok (.iaload, 1) := by decide +kernel
theorem dX9_count_77 : decode cX9_count 77 = .ok (.ireturn, 1) := by decide +kernel
theorem dX9_count_78 : decode cX9_count 78 = .ok (.aload_n 0, 1) := by decide +kernel
theorem dX9_count_79 : decode cX9_count 79 = .ok (.invokevirtual 306, 3) := by decide +kernel
theorem dX9_count_82 : decode cX9_count 82 = .ok (.ireturn, 1) := by decide +kernel
theorem dX9_count_83 : decode cX9_count 83 = .ok (.aload_n 0, 1) := by decide +kernel
theorem dX9_count_84 : decode cX9_count 84 = .ok (.getfield 7, 3) := by decide +kernel
theorem dX9_count_87 : decode cX9_count 87 = .ok (.iconst 2, 1) := by decide +kernel
theorem dX9_count_88 : decode cX9_count 88 = .ok (.iaload, 1) := by decide +kernel
theorem dX9_count_89 : decode cX9_count 89 = .ok (.ireturn, 1) := by decide +kernel
theorem dX9_count_90 : decode cX9_count 90 = .ok (.aload_n 0, 1) := by decide +kernel
theorem dX9_count_91 : decode cX9_count 91 = .ok (.getfield 7, 3) := by decide +kernel
theorem dX9_count_94 : decode cX9_count 94 = .ok (.iconst 3, 1) := by decide +kernel
theorem dX9_count_95 : decode cX9_count 95 = .ok (.iaload, 1) := by decide +kernel
theorem dX9_count_96 : decode cX9_count 96 = .ok (.ireturn, 1) := by decide +kernel
theorem dX9_count_97 : decode cX9_count 97 = .ok (.aload_n 0, 1) := by decide +kernel
theorem dX9_count_98 : decode cX9_count 98 = .ok (.getfield 71, 3) := by decide +kernel
theorem dX9_count_101 : decode cX9_count 101 = .ok (.ireturn, 1) := by decide +kernel
theorem dX9_noPool_0 : decode cX9_noPool 0 = .ok (.aload_n 0, 1) := by decide +kernel
theorem dX9_noPool_1 : decode cX9_noPool 1 = .ok (.iconst 0, 1) := by decide +kernel
theorem dX9_noPool_2 : decode cX9_noPool 2 = .ok (.putfield 61, 3) := by decide +kernel
theorem dX9_noPool_5 : decode cX9_noPool 5 = .ok (.aload_n 0, 1) := by decide +kernel
theorem dX9_noPool_6 : decode cX9_noPool 6 = .ok (.iload_n 1, 1) := by decide +kernel
theorem dX9_noPool_7 : decode cX9_noPool 7 = .ok (.iconst 0, 1) := by decide +kernel
theorem dX9_noPool_8 : decode cX9_noPool 8 = .ok (.aload_n 0, 1) := by decide +kernel
theorem dX9_noPool_9 : decode cX9_noPool 9 = .ok (.getfield 7, 3) := by decide +kernel
theorem dX9_noPool_12 : decode cX9_noPool 12 = .ok (.iconst 0, 1) := by decide +kernel
theorem dX9_noPool_13 : decode cX9_noPool 13 = .ok (.iaload, 1) := by decide +kernel
theorem dX9_noPool_14 : decode cX9_noPool 14 = .ok (.iconst 1, 1) := by decide +kernel
theorem dX9_noPool_15 : decode cX9_noPool 15 = .ok (.isub, 1) := by decide +kernel
theorem dX9_noPool_16 : decode cX9_noPool 16 = .ok (.invokestatic 167, 3) := by decide +kernel
theorem dX9_noPool_19 : decode cX9_noPool 19 = .ok (.ifCond .ne 7, 3) := by decide +kernel
theorem dX9_noPool_22 : decode cX9_noPool 22 = .ok (.iconst 1, 1) := by decide +kernel
theorem dX9_noPool_23 : decode cX9_noPool 23 = .ok (.goto 4, 3) := by decide +kernel
theorem dX9_noPool_26 : decode cX9_noPool 26 = .ok (.iconst 0, 1) := by decide +kernel
theorem dX9_noPool_27 : decode cX9_noPool 27 = .ok (.iconst 1, 1) := by decide +kernel
theorem dX9_noPool_28 : decode cX9_noPool 28 = .ok (.invokevirtual 302, 3) := by decide +kernel
theorem dX9_noPool_31 : decode cX9_noPool 31 = .ok (.ireturn, 1) := by decide +kernel
theorem dX9_pool_0 : decode cX9_pool 0 = .ok (.aload_n 0, 1) := by decide +kernel
theorem dX9_pool_1 : decode cX9_pool 1 = .ok (.iload_n 1, 1) := by decide +kernel
theorem dX9_pool_2 : decode cX9_pool 2 = .ok (.invokevirtual 309, 3) := by decide +kernel
theorem dX9_pool_5 : decode cX9_pool 5 = .ok (.ifCond .ne 26, 3) := by decide +kernel
theorem dX9_pool_8 : decode cX9_pool 8 = .ok (.aload_n 0, 1) := by decide +kernel
theorem dX9_pool_9 : decode cX9_pool 9 = .ok (.iload_n 2, 1) := by decide +kernel
theorem dX9_pool_10 : decode cX9_pool 10 = .ok (.iconst 0, 1) := by decide +kernel
theorem dX9_pool_11 : decode cX9_pool 11 = .ok (.bipush 20, 2) := by decide +kernel
theorem dX9_pool_13 : decode cX9_pool 13 = .ok (.invokestatic 167, 3) := by decide +kernel
theorem dX9_pool_16 : decode cX9_pool 16 = .ok (.ifCond .ne 7, 3) := by decide +kernel
theorem dX9_pool_19 : decode cX9_pool 19 = .ok (.iconst 1, 1) := by decide +kernel
theorem dX9_pool_20 : decode cX9_pool 20 = .ok (.goto 4, 3) := by decide +kernel
theorem dX9_pool_23 : decode cX9_pool 23 = .ok (.iconst 0, 1) := by decide +kernel
theorem dX9_pool_24 : decode cX9_pool 24 = .ok (.iconst 2, 1) := by decide +kernel
theorem dX9_pool_25 : decode cX9_pool 25 = .ok (.invokevirtual 302, 3) := by decide +kernel
theorem dX9_pool_28 : decode cX9_pool 28 = .ok (.ifCond .eq 5, 3) := by decide +kernel
theorem dX9_pool_31 : decode cX9_pool 31 = .ok (.iconst 0, 1) := by decide +kernel
theorem dX9_pool_32 : decode cX9_pool 32 = .ok (.ireturn, 1) := by decide +kernel
theorem dX9_pool_33 : decode cX9_pool 33 = .ok (.iload_n 2, 1) := by decide +kernel
theorem dX9_pool_34 : decode cX9_pool 34 = .ok (.tableswitch 65 0 5 #[58, 58, 58, 38, 46, 52], 38) := by decide +kernel
theorem dX9_pool_72 : decode cX9_pool 72 = .ok (.aload_n 0, 1) := by decide +kernel
theorem dX9_pool_73 : decode cX9_pool 73 = .ok (.iload_n 1, 1) := by decide +kernel
theorem dX9_pool_74 : decode cX9_pool 74 = .ok (.bipush 23, 2) := by decide +kernel
theorem dX9_pool_76 : decode cX9_pool 76 = .ok (.invokevirtual 81, 3) := by decide +kernel
theorem dX9_pool_79 : decode cX9_pool 79 = .ok (.ireturn, 1) := by decide +kernel
theorem dX9_pool_80 : decode cX9_pool 80 = .ok (.aload_n 0, 1) := by decide +kernel
theorem dX9_pool_81 : decode cX9_pool 81 = .ok (.iload_n 1, 1) := by decide +kernel
theorem dX9_pool_82 : decode cX9_pool 82 = .ok (.invokevirtual 98, 3) := by decide +kernel
theorem dX9_pool_85 : decode cX9_pool 85 = .ok (.ireturn, 1) := by decide +kernel
theorem dX9_pool_86 : decode cX9_pool 86 = .ok (.aload_n 0, 1) := by decide +kernel
theorem dX9_pool_87 : decode cX9_pool 87 = .ok (.iload_n 1, 1) := by decide +kernel
theorem dX9_pool_88 : decode cX9_pool 88 = .ok (.invokevirtual 312, 3) := by decide +kernel
theorem dX9_pool_91 : decode cX9_pool 91 = .ok (.ireturn, 1) := by decide +kernel
theorem dX9_pool_92 : decode cX9_pool 92 = .ok (.aload_n 0, 1) := by decide +kernel
theorem dX9_pool_93 : decode cX9_pool 93 = .ok (.iload_n 1, 1) := by decide +kernel
theorem dX9_pool_94 : decode cX9_pool 94 = .ok (.iload_n 2, 1) := by decide +kernel
theorem dX9_pool_95 : decode cX9_pool 95 = .ok (.invokevirtual 81, 3) := by decide +kernel
theorem dX9_pool_98 : decode cX9_pool 98 = .ok (.ireturn, 1) := by decide +kernel
theorem dX9_pool_99 : decode cX9_pool 99 = .ok (.aload_n 0, 1) := by decide +kernel
theorem dX9_pool_100 : decode cX9_pool 100 = .ok (.iload_n 1, 1) := by decide +kernel
theorem dX9_pool_101 : decode cX9_pool 101 = .ok (.iload_n 2, 1) := by decide +kernel
theorem dX9_pool_102 : decode cX9_pool 102 = .ok (.iconst 3, 1) := by decide +kernel
theorem dX9_pool_103 : decode cX9_pool 103 = .ok (.isub, 1) := by decide +kernel
theorem dX9_pool_104 : decode cX9_pool 104 = .ok (.invokevirtual 81, 3) := by decide +kernel
theorem dX9_pool_107 : decode cX9_pool 107 = .ok (.ireturn, 1) := by decide +kernel
theorem dX9_finds_0 : decode cX9_finds 0 = .ok (.iconst 0, 1) := by decide +kernel
theorem dX9_finds_1 : decode cX9_finds 1 = .ok (.istore_n 2, 1) := by decide +kernel
theorem dX9_finds_2 : decode cX9_finds 2 = .ok (.iload_n 2, 1) := by decide +kernel
theorem dX9_finds_3 : decode cX9_finds 3 = .ok (.aload_n 0, 1) := by decide +kernel
theorem dX9_finds_4 : decode cX9_finds 4 = .ok (.getfield 7, 3) := by decide +kernel
theorem dX9_finds_7 : decode cX9_finds 7 = .ok (.iconst 0, 1) := by decide +kernel
theorem dX9_finds_8 : decode cX9_finds 8 = .ok (.iaload, 1) := by decide +kernel
theorem dX9_finds_9 : decode cX9_finds 9 = .ok (.if_icmp .ge 58, 3) := by decide +kernel
theorem dX9_finds_12 : decode cX9_finds 12 = .ok (.iconst 0, 1) := by decide +kernel
theorem dX9_finds_13 : decode cX9_finds 13 = .ok (.istore_n 3, 1) := by decide +kernel
theorem dX9_finds_14 : decode cX9_finds 14 = .ok (.iload_n 3, 1) := by decide +kernel
theorem dX9_finds_15 : decode cX9_finds 15 = .ok (.aload_n 0, 1) := by decide +kernel
theorem dX9_finds_16 : decode cX9_finds 16 = .ok (.iload_n 2, 1) := by decide +kernel
theorem dX9_finds_17 : decode cX9_finds 17 = .ok (.bipush 23, 2) := by decide +kernel
theorem dX9_finds_19 : decode cX9_finds 19 = .ok (.invokevirtual 81, 3) := by decide +kernel
theorem dX9_finds_22 : decode cX9_finds 22 = .ok (.if_icmp .ge 39, 3) := by decide +kernel
theorem dX9_finds_25 : decode cX9_finds 25 = .ok (.aload_n 0, 1) := by decide +kernel
theorem dX9_finds_26 : decode cX9_finds 26 = .ok (.iload_n 2, 1) := by decide +kernel
theorem dX9_finds_27 : decode cX9_finds 27 = .ok (.bipush 100, 2) := by decide +kernel
theorem dX9_finds_29 : decode cX9_finds 29 = .ok (.iconst 4, 1) := by decide +kernel
theorem dX9_finds_30 : decode cX9_finds 30 = .ok (.iload_n 3, 1) := by decide +kernel
theorem dX9_finds_31 : decode cX9_finds 31 = .ok (.imul, 1) := by decide +kernel
theorem dX9_finds_32 : decode cX9_finds 32 = .ok (.iadd, 1) := by decide +kernel
theorem dX9_finds_33 : decode cX9_finds 33 = .ok (.invokevirtual 81, 3) := by decide +kernel
theorem dX9_finds_36 : decode cX9_finds 36 = .ok (.iload_n 1, 1) := by decide +kernel
theorem dX9_finds_37 : decode cX9_finds 37 = .ok (.if_icmp .eq 6, 3) := by decide +kernel
theorem dX9_finds_40 : decode cX9_finds 40 = .ok (.goto 15, 3) := by decide +kernel
theorem dX9_finds_43 : decode cX9_finds 43 = .ok (.aload_n 0, 1) := by decide +kernel
theorem dX9_finds_44 : decode cX9_finds 44 = .ok (.iload_n 2, 1) := by decide +kernel
theorem dX9_finds_45 : decode cX9_finds 45 = .ok (.putfield 315, 3) := by decide +kernel
theorem dX9_finds_48 : decode cX9_finds 48 = .ok (.aload_n 0, 1) := by decide +kernel
theorem dX9_finds_49 : decode cX9_finds 49 = .ok (.iload_n 3, 1) := by decide +kernel
theorem dX9_finds_50 : decode cX9_finds 50 = .ok (.putfield 318, 3) := by decide +kernel
theorem dX9_finds_53 : decode cX9_finds 53 = .ok (.iconst 1, 1) := by decide +kernel
theorem dX9_finds_54 : decode cX9_finds 54 = .ok (.ireturn, 1) := by decide +kernel
theorem dX9_finds_55 : decode cX9_finds 55 = .ok (.iinc 3 1, 3) := by decide +kernel
theorem dX9_finds_58 : decode cX9_finds 58 = .ok (.goto (-44), 3) := by decide +kernel
theorem dX9_finds_61 : decode cX9_finds 61 = .ok (.iinc 2 1, 3) := by decide +kernel
theorem dX9_finds_64 : decode cX9_finds 64 = .ok (.goto (-62), 3) := by decide +kernel
theorem dX9_finds_67 : decode cX9_finds 67 = .ok (.iconst 0, 1) := by decide +kernel
theorem dX9_finds_68 : decode cX9_finds 68 = .ok (.ireturn, 1) := by decide +kernel
theorem dX9_member_0 : decode cX9_member 0 = .ok (.aload_n 0, 1) := by decide +kernel
theorem dX9_member_1 : decode cX9_member 1 = .ok (.iconst 0, 1) := by decide +kernel
theorem dX9_member_2 : decode cX9_member 2 = .ok (.putfield 61, 3) := by decide +kernel
theorem dX9_member_5 : decode cX9_member 5 = .ok (.aload_n 0, 1) := by decide +kernel
theorem dX9_member_6 : decode cX9_member 6 = .ok (.iload_n 2, 1) := by decide +kernel
theorem dX9_member_7 : decode cX9_member 7 = .ok (.iconst 0, 1) := by decide +kernel
theorem dX9_member_8 : decode cX9_member 8 = .ok (.iconst 4, 1) := by decide +kernel
theorem dX9_member_9 : decode cX9_member 9 = .ok (.invokestatic 167, 3) := by decide +kernel
theorem dX9_member_12 : decode cX9_member 12 = .ok (.ifCond .ne 7, 3) := by decide +kernel
theorem dX9_member_15 : decode cX9_member 15 = .ok (.iconst 1, 1) := by decide +kernel
theorem dX9_member_16 : decode cX9_member 16 = .ok (.goto 4, 3) := by decide +kernel
theorem dX9_member_19 : decode cX9_member 19 = .ok (.iconst 0, 1) := by decide +kernel
theorem dX9_member_20 : decode cX9_member 20 = .ok (.iconst 1, 1) := by decide +kernel
theorem dX9_member_21 : decode cX9_member 21 = .ok (.invokevirtual 302, 3) := by decide +kernel
theorem dX9_member_24 : decode cX9_member 24 = .ok (.ifCond .ne 24, 3) := by decide +kernel
theorem dX9_member_27 : decode cX9_member 27 = .ok (.aload_n 0, 1) := by decide +kernel
theorem dX9_member_28 : decode cX9_member 28 = .ok (.aload_n 0, 1) := by decide +kernel
theorem dX9_member_29 : decode cX9_member 29 = .ok (.iload_n 1, 1) := by decide +kernel
theorem dX9_member_30 : decode cX9_member 30 = .ok (.invokevirtual 321, 3) := by decide +kernel
theorem dX9_member_33 : decode cX9_member 33 = .ok (.ifCond .ne 7, 3) := by decide +kernel
theorem dX9_member_36 : decode cX9_member 36 = .ok (.iconst 1, 1) := by decide +kernel
theorem dX9_member_37 : decode cX9_member 37 = .ok (.goto 4, 3) := by decide +kernel
theorem dX9_member_40 : decode cX9_member 40 = .ok (.iconst 0, 1) := by decide +kernel
theorem dX9_member_41 : decode cX9_member 41 = .ok (.iconst 2, 1) := by decide +kernel
theorem dX9_member_42 : decode cX9_member 42 = .ok (.invokevirtual 302, 3) := by decide +kernel
theorem dX9_member_45 : decode cX9_member 45 = .ok (.ifCond .eq 5, 3) := by decide +kernel
theorem dX9_member_48 : decode cX9_member 48 = .ok (.iconst 0, 1) := by decide +kernel
theorem dX9_member_49 : decode cX9_member 49 = .ok (.ireturn, 1) := by decide +kernel
theorem dX9_member_50 : decode cX9_member 50 = .ok (.iload_n 2, 1) := by decide +kernel
theorem dX9_member_51 : decode cX9_member 51 = .ok (.tableswitch 75 0 3 #[29, 34, 34, 54], 29) := by decide +kernel
theorem dX9_member_80 : decode cX9_member 80 = .ok (.aload_n 0, 1) := by decide +kernel
theorem dX9_member_81 : decode cX9_member 81 = .ok (.getfield 315, 3) := by decide +kernel
theorem dX9_member_84 : decode cX9_member 84 = .ok (.ireturn, 1) := by decide +kernel
theorem dX9_member_85 : decode cX9_member 85 = .ok (.aload_n 0, 1) := by decide +kernel
theorem dX9_member_86 : decode cX9_member 86 = .ok (.aload_n 0, 1) := by decide +kernel
theorem dX9_member_87 : decode cX9_member 87 = .ok (.getfield 315, 3) := by decide +kernel
theorem dX9_member_90 : decode cX9_member 90 = .ok (.bipush 100, 2) := by decide +kernel
theorem dX9_member_92 : decode cX9_member 92 = .ok (.iconst 4, 1) := by decide +kernel
theorem dX9_member_93 : decode cX9_member 93 = .ok (.aload_n 0, 1) := by decide +kernel
theorem dX9_member_94 : decode cX9_member 94 = .ok (.getfield 318, 3) := by decide +kernel
theorem dX9_member_97 : decode cX9_member 97 = .ok (.imul, 1) := by decide +kernel
theorem dX9_member_98 : decode cX9_member 98 = .ok (.iadd, 1) := by decide +kernel
theorem dX9_member_99 : decode cX9_member 99 = .ok (.iload_n 2, 1) := by decide +kernel
theorem dX9_member_100 : decode cX9_member 100 = .ok (.iadd, 1) := by decide +kernel
theorem dX9_member_101 : decode cX9_member 101 = .ok (.invokevirtual 81, 3) := by decide +kernel
theorem dX9_member_104 : decode cX9_member 104 = .ok (.ireturn, 1) := by decide +kernel
theorem dX9_member_105 : decode cX9_member 105 = .ok (.aload_n 0, 1) := by decide +kernel
theorem dX9_member_106 : decode cX9_member 106 = .ok (.aload_n 0, 1) := by decide +kernel
theorem dX9_member_107 : decode cX9_member 107 = .ok (.getfield 315, 3) := by decide +kernel
theorem dX9_member_110 : decode cX9_member 110 = .ok (.aload_n 0, 1) := by decide +kernel
theorem dX9_member_111 : decode cX9_member 111 = .ok (.getfield 318, 3) := by decide +kernel
theorem dX9_member_114 : decode cX9_member 114 = .ok (.invokevirtual 91, 3) := by decide +kernel
theorem dX9_member_117 : decode cX9_member 117 = .ok (.ifCond .eq 7, 3) := by decide +kernel
theorem dX9_member_120 : decode cX9_member 120 = .ok (.iconst 1, 1) := by decide +kernel
theorem dX9_member_121 : decode cX9_member 121 = .ok (.goto 4, 3) := by decide +kernel
theorem dX9_member_124 : decode cX9_member 124 = .ok (.iconst 0, 1) := by decide +kernel
theorem dX9_member_125 : decode cX9_member 125 = .ok (.ireturn, 1) := by decide +kernel
theorem dX9_member_126 : decode cX9_member 126 = .ok (.aload_n 0, 1) := by decide +kernel
theorem dX9_member_127 : decode cX9_member 127 = .ok (.aload_n 0, 1) := by decide +kernel
theorem dX9_member_128 : decode cX9_member 128 = .ok (.getfield 315, 3) := by decide +kernel
theorem dX9_member_131 : decode cX9_member 131 = .ok (.aload_n 0, 1) := by decide +kernel
theorem dX9_member_132 : decode cX9_member 132 = .ok (.getfield 318, 3) := by decide +kernel
theorem dX9_member_135 : decode cX9_member 135 = .ok (.invokevirtual 95, 3) := by decide +kernel
theorem dX9_member_138 : decode cX9_member 138 = .ok (.ifCond .eq 7, 3) := by decide +kernel
theorem dX9_member_141 : decode cX9_member 141 = .ok (.iconst 1, 1) := by decide +kernel
theorem dX9_member_142 : decode cX9_member 142 = .ok (.goto 4, 3) := by decide +kernel
theorem dX9_member_145 : decode cX9_member 145 = .ok (.iconst 0, 1) := by decide +kernel
theorem dX9_member_146 : decode cX9_member 146 = .ok (.ireturn, 1) := by decide +kernel
theorem dX9_memberAt_0 : decode cX9_memberAt 0 = .ok (.aload_n 0, 1) := by decide +kernel
theorem dX9_memberAt_1 : decode cX9_memberAt 1 = .ok (.iload_n 1, 1) := by decide +kernel
theorem dX9_memberAt_2 : decode cX9_memberAt 2 = .ok (.invokevirtual 309, 3) := by decide +kernel
theorem dX9_memberAt_5 : decode cX9_memberAt 5 = .ok (.ifCond .ne 33, 3) := by decide +kernel
theorem dX9_memberAt_8 : decode cX9_memberAt 8 = .ok (.aload_n 0, 1) := by decide +kernel
theorem dX9_memberAt_9 : decode cX9_memberAt 9 = .ok (.iload_n 2, 1) := by decide +kernel
theorem dX9_memberAt_10 : decode cX9_memberAt 10 = .ok (.iconst 0, 1) := by decide +kernel
theorem dX9_memberAt_11 : decode cX9_memberAt 11 = .ok (.aload_n 0, 1) := by decide +kernel
theorem dX9_memberAt_12 : decode cX9_memberAt 12 = .ok (.iload_n 1, 1) := by decide +kernel
theorem dX9_memberAt_13 : decode cX9_memberAt 13 = .ok (.bipush 23, 2) := by decide +kernel
theorem dX9_memberAt_15 : decode cX9_memberAt 15 = .ok (.invokevirtual 81, 3) := by decide +kernel
theorem dX9_memberAt_18 : decode cX9_memberAt 18 = .ok (.iconst 1, 1) := by decide +kernel
theorem dX9_memberAt_19 : decode cX9_memberAt 19 = .ok (.isub, 1) := by decide +kernel
theorem dX9_memberAt_20 : decode cX9_memberAt 20 = .ok (.invokestatic 167, 3) := by decide +kernel
theorem dX9_memberAt_23 : decode cX9_memberAt 23 = .ok (.ifCond .ne 7, 3) := by decide +kernel
theorem dX9_memberAt_26 : decode cX9_memberAt 26 = .ok (.iconst 1, 1) := by decide +kernel
theorem dX9_memberAt_27 : decode cX9_memberAt 27 = .ok (.goto 4, 3) := by decide +kernel
theorem dX9_memberAt_30 : decode cX9_memberAt 30 = .ok (.iconst 0, 1) := by decide +kernel
theorem dX9_memberAt_31 : decode cX9_memberAt 31 = .ok (.iconst 2, 1) := by decide +kernel
theorem dX9_memberAt_32 : decode cX9_memberAt 32 = .ok (.invokevirtual 302, 3) := by decide +kernel
theorem dX9_memberAt_35 : decode cX9_memberAt 35 = .ok (.ifCond .eq 5, 3) := by decide +kernel
theorem dX9_memberAt_38 : decode cX9_memberAt 38 = .ok (.iconst 0, 1) := by decide +kernel
theorem dX9_memberAt_39 : decode cX9_memberAt 39 = .ok (.ireturn, 1) := by decide +kernel
theorem dX9_memberAt_40 : decode cX9_memberAt 40 = .ok (.aload_n 0, 1) := by decide +kernel
theorem dX9_memberAt_41 : decode cX9_memberAt 41 = .ok (.iload_n 1, 1) := by decide +kernel
theorem dX9_memberAt_42 : decode cX9_memberAt 42 = .ok (.bipush 100, 2) := by decide +kernel
theorem dX9_memberAt_44 : decode cX9_memberAt 44 = .ok (.iconst 4, 1) := by decide +kernel
theorem dX9_memberAt_45 : decode cX9_memberAt 45 = .ok (.iload_n 2, 1) := by decide +kernel
theorem dX9_memberAt_46 : decode cX9_memberAt 46 = .ok (.imul, 1) := by decide +kernel
theorem dX9_memberAt_47 : decode cX9_memberAt 47 = .ok (.iadd, 1) := by decide +kernel
theorem dX9_memberAt_48 : decode cX9_memberAt 48 = .ok (.invokevirtual 81, 3) := by decide +kernel
theorem dX9_memberAt_51 : decode cX9_memberAt 51 = .ok (.ireturn, 1) := by decide +kernel
theorem dX9_knownDemands_0 : decode cX9_knownDemands 0 = .ok (.bipush 24, 2) := by decide +kernel
theorem dX9_knownDemands_2 : decode cX9_knownDemands 2 = .ok (.aload_n 0, 1) := by decide +kernel
theorem dX9_knownDemands_3 : decode cX9_knownDemands 3 = .ok (.iload_n 1, 1) := by decide +kernel
theorem dX9_knownDemands_4 : decode cX9_knownDemands 4 = .ok (.bipush 29, 2) := by decide +kernel
theorem dX9_knownDemands_6 : decode cX9_knownDemands 6 = .ok (.invokevirtual 81, 3) := by decide +kernel
theorem dX9_knownDemands_9 : decode cX9_knownDemands 9 = .ok (.invokestatic 106, 3) := by decide +kernel
theorem dX9_knownDemands_12 : decode cX9_knownDemands 12 = .ok (.ireturn, 1) := by decide +kernel
theorem dX9_demand_0 : decode cX9_demand 0 = .ok (.aload_n 0, 1) := by decide +kernel
theorem dX9_demand_1 : decode cX9_demand 1 = .ok (.iload_n 1, 1) := by decide +kernel
theorem dX9_demand_2 : decode cX9_demand 2 = .ok (.invokevirtual 309, 3) := by decide +kernel
theorem dX9_demand_5 : decode cX9_demand 5 = .ok (.ifCond .ne 31, 3) := by decide +kernel
theorem dX9_demand_8 : decode cX9_demand 8 = .ok (.aload_n 0, 1) := by decide +kernel
theorem dX9_demand_9 : decode cX9_demand 9 = .ok (.iload_n 2, 1) := by decide +kernel
theorem dX9_demand_10 : decode cX9_demand 10 = .ok (.iconst 0, 1) := by decide +kernel
theorem dX9_demand_11 : decode cX9_demand 11 = .ok (.aload_n 0, 1) := by decide +kernel
theorem dX9_demand_12 : decode cX9_demand 12 = .ok (.iload_n 1, 1) := by decide +kernel
theorem dX9_demand_13 : decode cX9_demand 13 = .ok (.invokevirtual 324, 3) := by decide +kernel
theorem dX9_demand_16 : decode cX9_demand 16 = .ok (.iconst 1, 1) := by decide +kernel
theorem dX9_demand_17 : decode cX9_demand 17 = .ok (.isub, 1) := by decide +kernel
theorem dX9_demand_18 : decode cX9_demand 18 = .ok (.invokestatic 167, 3) := by decide +kernel
theorem dX9_demand_21 : decode cX9_demand 21 = .ok (.ifCond .ne 7, 3) := by decide +kernel
theorem dX9_demand_24 : decode cX9_demand 24 = .ok (.iconst 1, 1) := by decide +kernel
theorem dX9_demand_25 : decode cX9_demand 25 = .ok (.goto 4, 3) := by decide +kernel
theorem dX9_demand_28 : decode cX9_demand 28 = .ok (.iconst 0, 1) := by decide +kernel
theorem dX9_demand_29 : decode cX9_demand 29 = .ok (.iconst 2, 1) := by decide +kernel
theorem dX9_demand_30 : decode cX9_demand 30 = .ok (.invokevirtual 302, 3) := by decide +kernel
theorem dX9_demand_33 : decode cX9_demand 33 = .ok (.ifCond .eq 5, 3) := by decide +kernel
theorem dX9_demand_36 : decode cX9_demand 36 = .ok (.iconst 0, 1) := by decide +kernel
theorem dX9_demand_37 : decode cX9_demand 37 = .ok (.ireturn, 1) := by decide +kernel
theorem dX9_demand_38 : decode cX9_demand 38 = .ok (.aload_n 0, 1) := by decide +kernel
theorem dX9_demand_39 : decode cX9_demand 39 = .ok (.iload_n 1, 1) := by decide +kernel
theorem dX9_demand_40 : decode cX9_demand 40 = .ok (.iload_n 2, 1) := by decide +kernel
theorem dX9_demand_41 : decode cX9_demand 41 = .ok (.invokevirtual 114, 3) := by decide +kernel
theorem dX9_demand_44 : decode cX9_demand 44 = .ok (.ireturn, 1) := by decide +kernel
theorem dX9_plannedAt_0 : decode cX9_plannedAt 0 = .ok (.aload_n 0, 1) := by decide +kernel
theorem dX9_plannedAt_1 : decode cX9_plannedAt 1 = .ok (.iload_n 1, 1) := by decide +kernel
theorem dX9_plannedAt_2 : decode cX9_plannedAt 2 = .ok (.aload_n 0, 1) := by decide +kernel
theorem dX9_plannedAt_3 : decode cX9_plannedAt 3 = .ok (.getfield 7, 3) := by decide +kernel
theorem dX9_plannedAt_6 : decode cX9_plannedAt 6 = .ok (.iconst 1, 1) := by decide +kernel
theorem dX9_plannedAt_7 : decode cX9_plannedAt 7 = .ok (.iaload, 1) := by decide +kernel
theorem dX9_plannedAt_8 : decode cX9_plannedAt 8 = .ok (.iload_n 2, 1) := by decide +kernel
theorem dX9_plannedAt_9 : decode cX9_plannedAt 9 = .ok (.iadd, 1) := by decide +kernel
theorem dX9_plannedAt_10 : decode cX9_plannedAt 10 = .ok (.invokevirtual 126, 3) := by decide +kernel
theorem dX9_plannedAt_13 : decode cX9_plannedAt 13 = .ok (.iload_n 2, 1) := by decide +kernel
theorem dX9_plannedAt_14 : decode cX9_plannedAt 14 = .ok (.ifCond .ne 13, 3) := by decide +kernel
theorem dX9_plannedAt_17 : decode cX9_plannedAt 17 = .ok (.aload_n 0, 1) := by decide +kernel
theorem dX9_plannedAt_18 : decode cX9_plannedAt 18 = .ok (.iload_n 1, 1) := by decide +kernel
theorem dX9_plannedAt_19 : decode cX9_plannedAt 19 = .ok (.bipush 20, 2) := by decide +kernel
theorem dX9_plannedAt_21 : decode cX9_plannedAt 21 = .ok (.invokevirtual 81, 3) := by decide +kernel
theorem dX9_plannedAt_24 : decode cX9_plannedAt 24 = .ok (.goto 4, 3) := by decide +kernel
theorem dX9_plannedAt_27 : decode cX9_plannedAt 27 = .ok (.iconst 0, 1) := by decide +kernel
theorem dX9_plannedAt_28 : decode cX9_plannedAt 28 = .ok (.iadd, 1) := by decide +kernel
theorem dX9_plannedAt_29 : decode cX9_plannedAt 29 = .ok (.ireturn, 1) := by decide +kernel
theorem dX9_planned_0 : decode cX9_planned 0 = .ok (.aload_n 0, 1) := by decide +kernel
theorem dX9_planned_1 : decode cX9_planned 1 = .ok (.iload_n 1, 1) := by decide +kernel
theorem dX9_planned_2 : decode cX9_planned 2 = .ok (.invokevirtual 309, 3) := by decide +kernel
theorem dX9_planned_5 : decode cX9_planned 5 = .ok (.ifCond .ne 27, 3) := by decide +kernel
theorem dX9_planned_8 : decode cX9_planned 8 = .ok (.aload_n 0, 1) := by decide +kernel
theorem dX9_planned_9 : decode cX9_planned 9 = .ok (.iload_n 2, 1) := by decide +kernel
theorem dX9_planned_10 : decode cX9_planned 10 = .ok (.iconst 0, 1) := by decide +kernel
theorem dX9_planned_11 : decode cX9_planned 11 = .ok (.sipush 999, 3) := by decide +kernel
theorem dX9_planned_14 : decode cX9_planned 14 = .ok (.invokestatic 167, 3) := by decide +kernel
theorem dX9_planned_17 : decode cX9_planned 17 = .ok (.ifCond .ne 7, 3) := by decide +kernel
theorem dX9_planned_20 : decode cX9_planned 20 = .ok (.iconst 1, 1) := by decide +kernel
theorem dX9_planned_21 : decode cX9_planned 21 = .ok (.goto 4, 3) := by decide +kernel
theorem dX9_planned_24 : decode cX9_planned 24 = .ok (.iconst 0, 1) := by decide +kernel
theorem dX9_planned_25 : decode cX9_planned 25 = .ok (.iconst 2, 1) := by decide +kernel
theorem dX9_planned_26 : decode cX9_planned 26 = .ok (.invokevirtual 302, 3) := by decide +kernel
theorem dX9_planned_29 : decode cX9_planned 29 = .ok (.ifCond .eq 7, 3) := by decide +kernel
theorem dX9_planned_32 : decode cX9_planned 32 = .ok (.iconst 0, 1) := by decide +kernel
theorem dX9_planned_33 : decode cX9_planned 33 = .ok (.goto 9, 3) := by decide +kernel
theorem dX9_planned_36 : decode cX9_planned 36 = .ok (.aload_n 0, 1) := by decide +kernel
theorem dX9_planned_37 : decode cX9_planned 37 = .ok (.iload_n 1, 1) := by decide +kernel
theorem dX9_planned_38 : decode cX9_planned 38 = .ok (.iload_n 2, 1) := by decide +kernel
theorem dX9_planned_39 : decode cX9_planned 39 = .ok (.invokevirtual 327, 3) := by decide +kernel
theorem dX9_planned_42 : decode cX9_planned 42 = .ok (.ireturn, 1) := by decide +kernel
theorem dX9_measured_0 : decode cX9_measured 0 = .ok (.aload_n 0, 1) := by decide +kernel
theorem dX9_measured_1 : decode cX9_measured 1 = .ok (.iload_n 1, 1) := by decide +kernel
theorem dX9_measured_2 : decode cX9_measured 2 = .ok (.invokevirtual 111, 3) := by decide +kernel
theorem dX9_measured_5 : decode cX9_measured 5 = .ok (.istore_n 2, 1) := by decide +kernel
theorem dX9_measured_6 : decode cX9_measured 6 = .ok (.iload_n 2, 1) := by decide +kernel
theorem dX9_measured_7 : decode cX9_measured 7 = .ok (.ifCond .ne 5, 3) := by decide +kernel
theorem dX9_measured_10 : decode cX9_measured 10 = .ok (.iconst 0, 1) := by decide +kernel
theorem dX9_measured_11 : decode cX9_measured 11 = .ok (.ireturn, 1) := by decide +kernel
theorem dX9_measured_12 : decode cX9_measured 12 = .ok (.aload_n 0, 1) := by decide +kernel
theorem dX9_measured_13 : decode cX9_measured 13 = .ok (.iload_n 1, 1) := by decide +kernel
theorem dX9_measured_14 : decode cX9_measured 14 = .ok (.invokevirtual 129, 3) := by decide +kernel
theorem dX9_measured_17 : decode cX9_measured 17 = .ok (.istore_n 3, 1) := by decide +kernel
theorem dX9_measured_18 : decode cX9_measured 18 = .ok (.iload_n 3, 1) := by decide +kernel
theorem dX9_measured_19 : decode cX9_measured 19 = .ok (.ifCond .ne 9, 3) := by decide +kernel
theorem dX9_measured_22 : decode cX9_measured 22 = .ok (.sipush 999, 3) := by decide +kernel
theorem dX9_measured_25 : decode cX9_measured 25 = .ok (.goto 21, 3) := by decide +kernel
theorem dX9_measured_28 : decode cX9_measured 28 = .ok (.sipush 999, 3) := by decide +kernel
theorem dX9_measured_31 : decode cX9_measured 31 = .ok (.bipush 100, 2) := by decide +kernel
theorem dX9_measured_33 : decode cX9_measured 33 = .ok (.aload_n 0, 1) := by decide +kernel
theorem dX9_measured_34 : decode cX9_measured 34 = .ok (.iload_n 1, 1) := by decide +kernel
theorem dX9_measured_35 : decode cX9_measured 35 = .ok (.invokevirtual 117, 3) := by decide +kernel
theorem dX9_measured_38 : decode cX9_measured 38 = .ok (.imul, 1) := by decide +kernel
theorem dX9_measured_39 : decode cX9_measured 39 = .ok (.iload_n 2, 1) := by decide +kernel
theorem dX9_measured_40 : decode cX9_measured 40 = .ok (.iload_n 3, 1) := by decide +kernel
theorem dX9_measured_41 : decode cX9_measured 41 = .ok (.imul, 1) := by decide +kernel
theorem dX9_measured_42 : decode cX9_measured 42 = .ok (.idiv, 1) := by decide +kernel
theorem dX9_measured_43 : decode cX9_measured 43 = .ok (.invokestatic 106, 3) := by decide +kernel
theorem dX9_measured_46 : decode cX9_measured 46 = .ok (.ireturn, 1) := by decide +kernel
theorem dX9_measure_0 : decode cX9_measure 0 = .ok (.aload_n 0, 1) := by decide +kernel
theorem dX9_measure_1 : decode cX9_measure 1 = .ok (.iload_n 1, 1) := by decide +kernel
theorem dX9_measure_2 : decode cX9_measure 2 = .ok (.invokevirtual 309, 3) := by decide +kernel
theorem dX9_measure_5 : decode cX9_measure 5 = .ok (.ifCond .eq 7, 3) := by decide +kernel
theorem dX9_measure_8 : decode cX9_measure 8 = .ok (.iconst 0, 1) := by decide +kernel
theorem dX9_measure_9 : decode cX9_measure 9 = .ok (.goto 8, 3) := by decide +kernel
theorem dX9_measure_12 : decode cX9_measure 12 = .ok (.aload_n 0, 1) := by decide +kernel
theorem dX9_measure_13 : decode cX9_measure 13 = .ok (.iload_n 1, 1) := by decide +kernel
theorem dX9_measure_14 : decode cX9_measure 14 = .ok (.invokevirtual 330, 3) := by decide +kernel
theorem dX9_measure_17 : decode cX9_measure 17 = .ok (.ireturn, 1) := by decide +kernel
theorem dX9_busiest_0 : decode cX9_busiest 0 = .ok (.aload_n 0, 1) := by decide +kernel
theorem dX9_busiest_1 : decode cX9_busiest 1 = .ok (.iconst 0, 1) := by decide +kernel
theorem dX9_busiest_2 : decode cX9_busiest 2 = .ok (.putfield 61, 3) := by decide +kernel
theorem dX9_busiest_5 : decode cX9_busiest 5 = .ok (.iconst 0, 1) := by decide +kernel
theorem dX9_busiest_6 : decode cX9_busiest 6 = .ok (.istore_n 1, 1) := by decide +kernel
theorem dX9_busiest_7 : decode cX9_busiest 7 = .ok (.iconst 1, 1) := by decide +kernel
theorem dX9_busiest_8 : decode cX9_busiest 8 = .ok (.istore_n 2, 1) := by decide +kernel
theorem dX9_busiest_9 : decode cX9_busiest 9 = .ok (.iload_n 2, 1) := by decide +kernel
theorem dX9_busiest_10 : decode cX9_busiest 10 = .ok (.aload_n 0, 1) := by decide +kernel
theorem dX9_busiest_11 : decode cX9_busiest 11 = .ok (.getfield 7, 3) := by decide +kernel
theorem dX9_busiest_14 : decode cX9_busiest 14 = .ok (.iconst 0, 1) := by decide +kernel
theorem dX9_busiest_15 : decode cX9_busiest 15 = .ok (.iaload, 1) := by decide +kernel
theorem dX9_busiest_16 : decode cX9_busiest 16 = .ok (.if_icmp .ge 24, 3) := by decide +kernel
theorem dX9_busiest_19 : decode cX9_busiest 19 = .ok (.aload_n 0, 1) := by decide +kernel
theorem dX9_busiest_20 : decode cX9_busiest 20 = .ok (.iload_n 2, 1) := by decide +kernel
theorem dX9_busiest_21 : decode cX9_busiest 21 = .ok (.invokevirtual 330, 3) := by decide +kernel
theorem dX9_busiest_24 : decode cX9_busiest 24 = .ok (.aload_n 0, 1) := by decide +kernel
theorem dX9_busiest_25 : decode cX9_busiest 25 = .ok (.iload_n 1, 1) := by decide +kernel
theorem dX9_busiest_26 : decode cX9_busiest 26 = .ok (.invokevirtual 330, 3) := by decide +kernel
theorem dX9_busiest_29 : decode cX9_busiest 29 = .ok (.if_icmp .le 5, 3) := by decide +kernel
theorem dX9_busiest_32 : decode cX9_busiest 32 = .ok (.iload_n 2, 1) := by decide +kernel
theorem dX9_busiest_33 : decode cX9_busiest 33 = .ok (.istore_n 1, 1) := by decide +kernel
theorem dX9_busiest_34 : decode cX9_busiest 34 = .ok (.iinc 2 1, 3) := by decide +kernel
theorem dX9_busiest_37 : decode cX9_busiest 37 = .ok (.goto (-28), 3) := by decide +kernel
theorem dX9_busiest_40 : decode cX9_busiest 40 = .ok (.iload_n 1, 1) := by decide +kernel
theorem dX9_busiest_41 : decode cX9_busiest 41 = .ok (.ireturn, 1) := by decide +kernel
theorem dX9_forecast_0 : decode cX9_forecast 0 = .ok (.aload_n 0, 1) := by decide +kernel
theorem dX9_forecast_1 : decode cX9_forecast 1 = .ok (.iload_n 1, 1) := by decide +kernel
theorem dX9_forecast_2 : decode cX9_forecast 2 = .ok (.invokevirtual 309, 3) := by decide +kernel
theorem dX9_forecast_5 : decode cX9_forecast 5 = .ok (.ifCond .eq 7, 3) := by decide +kernel
theorem dX9_forecast_8 : decode cX9_forecast 8 = .ok (.iconst 0, 1) := by decide +kernel
theorem dX9_forecast_9 : decode cX9_forecast 9 = .ok (.goto 10, 3) := by decide +kernel
theorem dX9_forecast_12 : decode cX9_forecast 12 = .ok (.aload_n 0, 1) := by decide +kernel
theorem dX9_forecast_13 : decode cX9_forecast 13 = .ok (.iload_n 1, 1) := by decide +kernel
theorem dX9_forecast_14 : decode cX9_forecast 14 = .ok (.bipush 18, 2) := by decide +kernel
theorem dX9_forecast_16 : decode cX9_forecast 16 = .ok (.invokevirtual 81, 3) := by decide +kernel
theorem dX9_forecast_19 : decode cX9_forecast 19 = .ok (.ireturn, 1) := by decide +kernel
theorem dX9_wanted_0 : decode cX9_wanted 0 = .ok (.aload_n 0, 1) := by decide +kernel
theorem dX9_wanted_1 : decode cX9_wanted 1 = .ok (.iload_n 1, 1) := by decide +kernel
theorem dX9_wanted_2 : decode cX9_wanted 2 = .ok (.invokevirtual 309, 3) := by decide +kernel
theorem dX9_wanted_5 : decode cX9_wanted 5 = .ok (.ifCond .eq 7, 3) := by decide +kernel
theorem dX9_wanted_8 : decode cX9_wanted 8 = .ok (.iconst 0, 1) := by decide +kernel
theorem dX9_wanted_9 : decode cX9_wanted 9 = .ok (.goto 10, 3) := by decide +kernel
theorem dX9_wanted_12 : decode cX9_wanted 12 = .ok (.aload_n 0, 1) := by decide +kernel
theorem dX9_wanted_13 : decode cX9_wanted 13 = .ok (.iload_n 1, 1) := by decide +kernel
theorem dX9_wanted_14 : decode cX9_wanted 14 = .ok (.bipush 19, 2) := by decide +kernel
theorem dX9_wanted_16 : decode cX9_wanted 16 = .ok (.invokevirtual 81, 3) := by decide +kernel
theorem dX9_wanted_19 : decode cX9_wanted 19 = .ok (.ireturn, 1) := by decide +kernel
theorem dX9_meanError_0 : decode cX9_meanError 0 = .ok (.aload_n 0, 1) := by decide +kernel
theorem dX9_meanError_1 : decode cX9_meanError 1 = .ok (.iload_n 1, 1) := by decide +kernel
theorem dX9_meanError_2 : decode cX9_meanError 2 = .ok (.invokevirtual 309, 3) := by decide +kernel
theorem dX9_meanError_5 : decode cX9_meanError 5 = .ok (.ifCond .eq 5, 3) := by decide +kernel
theorem dX9_meanError_8 : decode cX9_meanError 8 = .ok (.dconst 0, 1) := by decide +kernel
theorem dX9_meanError_9 : decode cX9_meanError 9 = .ok (.dreturn, 1) := by decide +kernel
theorem dX9_meanError_10 : decode cX9_meanError 10 = .ok (.aload_n 0, 1) := by decide +kernel
theorem dX9_meanError_11 : decode cX9_meanError 11 = .ok (.iload_n 1, 1) := by decide +kernel
theorem dX9_meanError_12 : decode cX9_meanError 12 = .ok (.bipush 28, 2) := by decide +kernel
theorem dX9_meanError_14 : decode cX9_meanError 14 = .ok (.invokevirtual 81, 3) := by decide +kernel
theorem dX9_meanError_17 : decode cX9_meanError 17 = .ok (.ifCond .ne 7, 3) := by decide +kernel
theorem dX9_meanError_20 : decode cX9_meanError 20 = .ok (.dconst 0, 1) := by decide +kernel
theorem dX9_meanError_21 : decode cX9_meanError 21 = .ok (.goto 19, 3) := by decide +kernel
theorem dX9_meanError_24 : decode cX9_meanError 24 = .ok (.aload_n 0, 1) := by decide +kernel
theorem dX9_meanError_25 : decode cX9_meanError 25 = .ok (.iload_n 1, 1) := by decide +kernel
theorem dX9_meanError_26 : decode cX9_meanError 26 = .ok (.iconst 3, 1) := by decide +kernel
theorem dX9_meanError_27 : decode cX9_meanError 27 = .ok (.invokevirtual 333, 3) := by decide +kernel
theorem dX9_meanError_30 : decode cX9_meanError 30 = .ok (.l2d, 1) := by decide +kernel
theorem dX9_meanError_31 : decode cX9_meanError 31 = .ok (.aload_n 0, 1) := by decide +kernel
theorem dX9_meanError_32 : decode cX9_meanError 32 = .ok (.iload_n 1, 1) := by decide +kernel
theorem dX9_meanError_33 : decode cX9_meanError 33 = .ok (.bipush 28, 2) := by decide +kernel
theorem dX9_meanError_35 : decode cX9_meanError 35 = .ok (.invokevirtual 81, 3) := by decide +kernel
theorem dX9_meanError_38 : decode cX9_meanError 38 = .ok (.i2d, 1) := by decide +kernel
theorem dX9_meanError_39 : decode cX9_meanError 39 = .ok (.ddiv, 1) := by decide +kernel
theorem dX9_meanError_40 : decode cX9_meanError 40 = .ok (.dreturn, 1) := by decide +kernel
theorem dX9_nextDropped_0 : decode cX9_nextDropped 0 = .ok (.aload_n 0, 1) := by decide +kernel
theorem dX9_nextDropped_1 : decode cX9_nextDropped 1 = .ok (.iload_n 1, 1) := by decide +kernel
theorem dX9_nextDropped_2 : decode cX9_nextDropped 2 = .ok (.invokevirtual 309, 3) := by decide +kernel
theorem dX9_nextDropped_5 : decode cX9_nextDropped 5 = .ok (.ifCond .eq 5, 3) := by decide +kernel
theorem dX9_nextDropped_8 : decode cX9_nextDropped 8 = .ok (.iconst 0, 1) := by decide +kernel
theorem dX9_nextDropped_9 : decode cX9_nextDropped 9 = .ok (.ireturn, 1) := by decide +kernel
theorem dX9_nextDropped_10 : decode cX9_nextDropped 10 = .ok (.aload_n 0, 1) := by decide +kernel
theorem dX9_nextDropped_11 : decode cX9_nextDropped 11 = .ok (.iload_n 1, 1) := by decide +kernel
theorem dX9_nextDropped_12 : decode cX9_nextDropped 12 = .ok (.invokevirtual 135, 3) := by decide +kernel
theorem dX9_nextDropped_15 : decode cX9_nextDropped 15 = .ok (.istore_n 2, 1) := by decide +kernel
theorem dX9_nextDropped_16 : decode cX9_nextDropped 16 = .ok (.iload_n 2, 1) := by decide +kernel
theorem dX9_nextDropped_17 : decode cX9_nextDropped 17 = .ok (.iconst (-1), 1) := by decide +kernel
theorem dX9_nextDropped_18 : decode cX9_nextDropped 18 = .ok (.if_icmp .ne 7, 3) := by decide +kernel
theorem dX9_nextDropped_21 : decode cX9_nextDropped 21 = .ok (.iconst (-1), 1) := by decide +kernel
theorem dX9_nextDropped_22 : decode cX9_nextDropped 22 = .ok (.goto 14, 3) := by decide +kernel
theorem dX9_nextDropped_25 : decode cX9_nextDropped 25 = .ok (.aload_n 0, 1) := by decide +kernel
theorem dX9_nextDropped_26 : decode cX9_nextDropped 26 = .ok (.iload_n 1, 1) := by decide +kernel
theorem dX9_nextDropped_27 : decode cX9_nextDropped 27 = .ok (.bipush 100, 2) := by decide +kernel
theorem dX9_nextDropped_29 : decode cX9_nextDropped 29 = .ok (.iconst 4, 1) := by decide +kernel
theorem dX9_nextDropped_30 : decode cX9_nextDropped 30 = .ok (.iload_n 2, 1) := by decide +kernel
theorem dX9_nextDropped_31 : decode cX9_nextDropped 31 = .ok (.imul, 1) := by decide +kernel
theorem dX9_nextDropped_32 : decode cX9_nextDropped 32 = .ok (.iadd, 1) := by decide +kernel
theorem dX9_nextDropped_33 : decode cX9_nextDropped 33 = .ok (.invokevirtual 81, 3) := by decide +kernel
theorem dX9_nextDropped_36 : decode cX9_nextDropped 36 = .ok (.ireturn, 1) := by decide +kernel
theorem dX9_coolLeft_0 : decode cX9_coolLeft 0 = .ok (.aload_n 0, 1) := by decide +kernel
theorem dX9_coolLeft_1 : decode cX9_coolLeft 1 = .ok (.iload_n 1, 1) := by decide +kernel
theorem dX9_coolLeft_2 : decode cX9_coolLeft 2 = .ok (.invokevirtual 309, 3) := by decide +kernel
theorem dX9_coolLeft_5 : decode cX9_coolLeft 5 = .ok (.ifCond .eq 5, 3) := by decide +kernel
theorem dX9_coolLeft_8 : decode cX9_coolLeft 8 = .ok (.iconst 0, 1) := by decide +kernel
theorem dX9_coolLeft_9 : decode cX9_coolLeft 9 = .ok (.ireturn, 1) := by decide +kernel
theorem dX9_coolLeft_10 : decode cX9_coolLeft 10 = .ok (.iload_n 2, 1) := by decide +kernel
theorem dX9_coolLeft_11 : decode cX9_coolLeft 11 = .ok (.ifCond .eq 13, 3) := by decide +kernel
theorem dX9_coolLeft_14 : decode cX9_coolLeft 14 = .ok (.aload_n 0, 1) := by decide +kernel
theorem dX9_coolLeft_15 : decode cX9_coolLeft 15 = .ok (.iload_n 1, 1) := by decide +kernel
theorem dX9_coolLeft_16 : decode cX9_coolLeft 16 = .ok (.bipush 12, 2) := by decide +kernel
theorem dX9_coolLeft_18 : decode cX9_coolLeft 18 = .ok (.invokevirtual 81, 3) := by decide +kernel
theorem dX9_coolLeft_21 : decode cX9_coolLeft 21 = .ok (.goto 10, 3) := by decide +kernel
theorem dX9_coolLeft_24 : decode cX9_coolLeft 24 = .ok (.aload_n 0, 1) := by decide +kernel
theorem dX9_coolLeft_25 : decode cX9_coolLeft 25 = .ok (.iload_n 1, 1) := by decide +kernel
theorem dX9_coolLeft_26 : decode cX9_coolLeft 26 = .ok (.bipush 13, 2) := by decide +kernel
theorem dX9_coolLeft_28 : decode cX9_coolLeft 28 = .ok (.invokevirtual 81, 3) := by decide +kernel
theorem dX9_coolLeft_31 : decode cX9_coolLeft 31 = .ok (.istore_n 3, 1) := by decide +kernel
theorem dX9_coolLeft_32 : decode cX9_coolLeft 32 = .ok (.aload_n 0, 1) := by decide +kernel
theorem dX9_coolLeft_33 : decode cX9_coolLeft 33 = .ok (.getfield 7, 3) := by decide +kernel
theorem dX9_coolLeft_36 : decode cX9_coolLeft 36 = .ok (.iconst 1, 1) := by decide +kernel
theorem dX9_coolLeft_37 : decode cX9_coolLeft 37 = .ok (.iaload, 1) := by decide +kernel
theorem dX9_coolLeft_38 : decode cX9_coolLeft 38 = .ok (.aload_n 0, 1) := by decide +kernel
theorem dX9_coolLeft_39 : decode cX9_coolLeft 39 = .ok (.iload_n 1, 1) := by decide +kernel
theorem dX9_coolLeft_40 : decode cX9_coolLeft 40 = .ok (.iload_n 2, 1) := by decide +kernel
theorem dX9_coolLeft_41 : decode cX9_coolLeft 41 = .ok (.ifCond .eq 8, 3) := by decide +kernel
theorem dX9_coolLeft_44 : decode cX9_coolLeft 44 = .ok (.bipush 21, 2) := by decide +kernel
theorem dX9_coolLeft_46 : decode cX9_coolLeft 46 = .ok (.goto 5, 3) := by decide +kernel
theorem dX9_coolLeft_49 : decode cX9_coolLeft 49 = .ok (.bipush 22, 2) := by decide +kernel
theorem dX9_coolLeft_51 : decode cX9_coolLeft 51 = .ok (.invokevirtual 81, 3) := by decide +kernel
theorem dX9_coolLeft_54 : decode cX9_coolLeft 54 = .ok (.isub, 1) := by decide +kernel
theorem dX9_coolLeft_55 : decode cX9_coolLeft 55 = .ok (.istore 4, 2) := by decide +kernel
theorem dX9_coolLeft_57 : decode cX9_coolLeft 57 = .ok (.iconst 0, 1) := by decide +kernel
theorem dX9_coolLeft_58 : decode cX9_coolLeft 58 = .ok (.iload_n 3, 1) := by decide +kernel
theorem dX9_coolLeft_59 : decode cX9_coolLeft 59 = .ok (.iload 4, 2) := by decide +kernel
theorem dX9_coolLeft_61 : decode cX9_coolLeft 61 = .ok (.isub, 1) := by decide +kernel
theorem dX9_coolLeft_62 : decode cX9_coolLeft 62 = .ok (.invokestatic 123, 3) := by decide +kernel
theorem dX9_coolLeft_65 : decode cX9_coolLeft 65 = .ok (.ireturn, 1) := by decide +kernel
theorem dX9_served_0 : decode cX9_served 0 = .ok (.aload_n 0, 1) := by decide +kernel
theorem dX9_served_1 : decode cX9_served 1 = .ok (.iload_n 1, 1) := by decide +kernel
theorem dX9_served_2 : decode cX9_served 2 = .ok (.invokevirtual 309, 3) := by decide +kernel
theorem dX9_served_5 : decode cX9_served 5 = .ok (.ifCond .eq 7, 3) := by decide +kernel
theorem dX9_served_8 : decode cX9_served 8 = .ok (.lconst 0, 1) := by decide +kernel
theorem dX9_served_9 : decode cX9_served 9 = .ok (.goto 9, 3) := by decide +kernel
theorem dX9_served_12 : decode cX9_served 12 = .ok (.aload_n 0, 1) := by decide +kernel
theorem dX9_served_13 : decode cX9_served 13 = .ok (.iload_n 1, 1) := by decide +kernel
theorem dX9_served_14 : decode cX9_served 14 = .ok (.iconst 0, 1) := by decide +kernel
theorem dX9_served_15 : decode cX9_served 15 = .ok (.invokevirtual 333, 3) := by decide +kernel
theorem dX9_served_18 : decode cX9_served 18 = .ok (.lreturn, 1) := by decide +kernel
theorem dX9_missed_0 : decode cX9_missed 0 = .ok (.aload_n 0, 1) := by decide +kernel
theorem dX9_missed_1 : decode cX9_missed 1 = .ok (.iload_n 1, 1) := by decide +kernel
theorem dX9_missed_2 : decode cX9_missed 2 = .ok (.invokevirtual 309, 3) := by decide +kernel
theorem dX9_missed_5 : decode cX9_missed 5 = .ok (.ifCond .eq 7, 3) := by decide +kernel
theorem dX9_missed_8 : decode cX9_missed 8 = .ok (.lconst 0, 1) := by decide +kernel
theorem dX9_missed_9 : decode cX9_missed 9 = .ok (.goto 9, 3) := by decide +kernel
theorem dX9_missed_12 : decode cX9_missed 12 = .ok (.aload_n 0, 1) := by decide +kernel
theorem dX9_missed_13 : decode cX9_missed 13 = .ok (.iload_n 1, 1) := by decide +kernel
theorem dX9_missed_14 : decode cX9_missed 14 = .ok (.iconst 1, 1) := by decide +kernel
theorem dX9_missed_15 : decode cX9_missed 15 = .ok (.invokevirtual 333, 3) := by decide +kernel
theorem dX9_missed_18 : decode cX9_missed 18 = .ok (.lreturn, 1) := by decide +kernel
theorem dX9_cost_0 : decode cX9_cost 0 = .ok (.aload_n 0, 1) := by decide +kernel
theorem dX9_cost_1 : decode cX9_cost 1 = .ok (.iload_n 1, 1) := by decide +kernel
theorem dX9_cost_2 : decode cX9_cost 2 = .ok (.invokevirtual 309, 3) := by decide +kernel
theorem dX9_cost_5 : decode cX9_cost 5 = .ok (.ifCond .eq 7, 3) := by decide +kernel
theorem dX9_cost_8 : decode cX9_cost 8 = .ok (.lconst 0, 1) := by decide +kernel
theorem dX9_cost_9 : decode cX9_cost 9 = .ok (.goto 9, 3) := by decide +kernel
theorem dX9_cost_12 : decode cX9_cost 12 = .ok (.aload_n 0, 1) := by decide +kernel
theorem dX9_cost_13 : decode cX9_cost 13 = .ok (.iload_n 1, 1) := by decide +kernel
theorem dX9_cost_14 : decode cX9_cost 14 = .ok (.iconst 2, 1) := by decide +kernel
theorem dX9_cost_15 : decode cX9_cost 15 = .ok (.invokevirtual 333, 3) := by decide +kernel
theorem dX9_cost_18 : decode cX9_cost 18 = .ok (.lreturn, 1) := by decide +kernel
theorem dX9_missedShare_0 : decode cX9_missedShare 0 = .ok (.aload_n 0, 1) := by decide +kernel
theorem dX9_missedShare_1 : decode cX9_missedShare 1 = .ok (.iload_n 1, 1) := by decide +kernel
theorem dX9_missedShare_2 : decode cX9_missedShare 2 = .ok (.invokevirtual 309, 3) := by decide +kernel
theorem dX9_missedShare_5 : decode cX9_missedShare 5 = .ok (.ifCond .eq 5, 3) := by decide +kernel
theorem dX9_missedShare_8 : decode cX9_missedShare 8 = .ok (.fconst 0, 1) := by decide +kernel
theorem dX9_missedShare_9 : decode cX9_missedShare 9 = .ok (.freturn, 1) := by decide +kernel
theorem dX9_missedShare_10 : decode cX9_missedShare 10 = .ok (.aload_n 0, 1) := by decide +kernel
theorem dX9_missedShare_11 : decode cX9_missedShare 11 = .ok (.iload_n 1, 1) := by decide +kernel
theorem dX9_missedShare_12 : decode cX9_missedShare 12 = .ok (.iconst 4, 1) := by decide +kernel
theorem dX9_missedShare_13 : decode cX9_missedShare 13 = .ok (.invokevirtual 333, 3) := by decide +kernel
theorem dX9_missedShare_16 : decode cX9_missedShare 16 = .ok (.lconst 0, 1) := by decide +kernel
theorem dX9_missedShare_17 : decode cX9_missedShare 17 = .ok (.lcmp, 1) := by decide +kernel
theorem dX9_missedShare_18 : decode cX9_missedShare 18 = .ok (.ifCond .ne 7, 3) := by decide +kernel
theorem dX9_missedShare_21 : decode cX9_missedShare 21 = .ok (.fconst 0, 1) := by decide +kernel
theorem dX9_missedShare_22 : decode cX9_missedShare 22 = .ok (.goto 18, 3) := by decide +kernel
theorem dX9_missedShare_25 : decode cX9_missedShare 25 = .ok (.aload_n 0, 1) := by decide +kernel
theorem dX9_missedShare_26 : decode cX9_missedShare 26 = .ok (.iload_n 1, 1) := by decide +kernel
theorem dX9_missedShare_27 : decode cX9_missedShare 27 = .ok (.iconst 1, 1) := by decide +kernel
theorem dX9_missedShare_28 : decode cX9_missedShare 28 = .ok (.invokevirtual 333, 3) := by decide +kernel
theorem dX9_missedShare_31 : decode cX9_missedShare 31 = .ok (.l2f, 1) := by decide +kernel
theorem dX9_missedShare_32 : decode cX9_missedShare 32 = .ok (.aload_n 0, 1) := by decide +kernel
theorem dX9_missedShare_33 : decode cX9_missedShare 33 = .ok (.iload_n 1, 1) := by decide +kernel
theorem dX9_missedShare_34 : decode cX9_missedShare 34 = .ok (.iconst 4, 1) := by decide +kernel
theorem dX9_missedShare_35 : decode cX9_missedShare 35 = .ok (.invokevirtual 333, 3) := by decide +kernel
theorem dX9_missedShare_38 : decode cX9_missedShare 38 = .ok (.l2f, 1) := by decide +kernel
theorem dX9_missedShare_39 : decode cX9_missedShare 39 = .ok (.fdiv, 1) := by decide +kernel
theorem dX9_missedShare_40 : decode cX9_missedShare 40 = .ok (.freturn, 1) := by decide +kernel
theorem dX9_used_0 : decode cX9_used 0 = .ok (.aload_n 0, 1) := by decide +kernel
theorem dX9_used_1 : decode cX9_used 1 = .ok (.iload_n 1, 1) := by decide +kernel
theorem dX9_used_2 : decode cX9_used 2 = .ok (.invokevirtual 309, 3) := by decide +kernel
theorem dX9_used_5 : decode cX9_used 5 = .ok (.ifCond .eq 5, 3) := by decide +kernel
theorem dX9_used_8 : decode cX9_used 8 = .ok (.dconst 0, 1) := by decide +kernel
theorem dX9_used_9 : decode cX9_used 9 = .ok (.dreturn, 1) := by decide +kernel
theorem dX9_used_10 : decode cX9_used 10 = .ok (.aload_n 0, 1) := by decide +kernel
theorem dX9_used_11 : decode cX9_used 11 = .ok (.iload_n 1, 1) := by decide +kernel
theorem dX9_used_12 : decode cX9_used 12 = .ok (.iconst 5, 1) := by decide +kernel
theorem dX9_used_13 : decode cX9_used 13 = .ok (.invokevirtual 333, 3) := by decide +kernel
theorem dX9_used_16 : decode cX9_used 16 = .ok (.lconst 0, 1) := by decide +kernel
theorem dX9_used_17 : decode cX9_used 17 = .ok (.lcmp, 1) := by decide +kernel
theorem dX9_used_18 : decode cX9_used 18 = .ok (.ifCond .ne 7, 3) := by decide +kernel
theorem dX9_used_21 : decode cX9_used 21 = .ok (.dconst 0, 1) := by decide +kernel
theorem dX9_used_22 : decode cX9_used 22 = .ok (.goto 18, 3) := by decide +kernel
theorem dX9_used_25 : decode cX9_used 25 = .ok (.aload_n 0, 1) := by decide +kernel
theorem dX9_used_26 : decode cX9_used 26 = .ok (.iload_n 1, 1) := by decide +kernel
theorem dX9_used_27 : decode cX9_used 27 = .ok (.iconst 0, 1) := by decide +kernel
theorem dX9_used_28 : decode cX9_used 28 = .ok (.invokevirtual 333, 3) := by decide +kernel
theorem dX9_used_31 : decode cX9_used 31 = .ok (.l2d, 1) := by decide +kernel
theorem dX9_used_32 : decode cX9_used 32 = .ok (.aload_n 0, 1) := by decide +kernel
theorem dX9_used_33 : decode cX9_used 33 = .ok (.iload_n 1, 1) := by decide +kernel
theorem dX9_used_34 : decode cX9_used 34 = .ok (.iconst 5, 1) := by decide +kernel
theorem dX9_used_35 : decode cX9_used 35 = .ok (.invokevirtual 333, 3) := by decide +kernel
theorem dX9_used_38 : decode cX9_used 38 = .ok (.l2d, 1) := by decide +kernel
theorem dX9_used_39 : decode cX9_used 39 = .ok (.ddiv, 1) := by decide +kernel
theorem dX9_used_40 : decode cX9_used 40 = .ok (.dreturn, 1) := by decide +kernel
theorem dX9_peak_0 : decode cX9_peak 0 = .ok (.aload_n 0, 1) := by decide +kernel
theorem dX9_peak_1 : decode cX9_peak 1 = .ok (.iload_n 1, 1) := by decide +kernel
theorem dX9_peak_2 : decode cX9_peak 2 = .ok (.invokevirtual 309, 3) := by decide +kernel
theorem dX9_peak_5 : decode cX9_peak 5 = .ok (.ifCond .eq 7, 3) := by decide +kernel
theorem dX9_peak_8 : decode cX9_peak 8 = .ok (.iconst 0, 1) := by decide +kernel
theorem dX9_peak_9 : decode cX9_peak 9 = .ok (.goto 10, 3) := by decide +kernel
theorem dX9_peak_12 : decode cX9_peak 12 = .ok (.aload_n 0, 1) := by decide +kernel
theorem dX9_peak_13 : decode cX9_peak 13 = .ok (.iload_n 1, 1) := by decide +kernel
theorem dX9_peak_14 : decode cX9_peak 14 = .ok (.bipush 25, 2) := by decide +kernel
theorem dX9_peak_16 : decode cX9_peak 16 = .ok (.invokevirtual 81, 3) := by decide +kernel
theorem dX9_peak_19 : decode cX9_peak 19 = .ok (.ireturn, 1) := by decide +kernel
theorem dX9_longestMiss_0 : decode cX9_longestMiss 0 = .ok (.aload_n 0, 1) := by decide +kernel
theorem dX9_longestMiss_1 : decode cX9_longestMiss 1 = .ok (.iload_n 1, 1) := by decide +kernel
theorem dX9_longestMiss_2 : decode cX9_longestMiss 2 = .ok (.invokevirtual 309, 3) := by decide +kernel
theorem dX9_longestMiss_5 : decode cX9_longestMiss 5 = .ok (.ifCond .eq 7, 3) := by decide +kernel
theorem dX9_longestMiss_8 : decode cX9_longestMiss 8 = .ok (.iconst 0, 1) := by decide +kernel
theorem dX9_longestMiss_9 : decode cX9_longestMiss 9 = .ok (.goto 10, 3) := by decide +kernel
theorem dX9_longestMiss_12 : decode cX9_longestMiss 12 = .ok (.aload_n 0, 1) := by decide +kernel
theorem dX9_longestMiss_13 : decode cX9_longestMiss 13 = .ok (.iload_n 1, 1) := by decide +kernel
theorem dX9_longestMiss_14 : decode cX9_longestMiss 14 = .ok (.bipush 27, 2) := by decide +kernel
theorem dX9_longestMiss_16 : decode cX9_longestMiss 16 = .ok (.invokevirtual 81, 3) := by decide +kernel
theorem dX9_longestMiss_19 : decode cX9_longestMiss 19 = .ok (.ireturn, 1) := by decide +kernel
theorem dX9_headroom_0 : decode cX9_headroom 0 = .ok (.aload_n 0, 1) := by decide +kernel
theorem dX9_headroom_1 : decode cX9_headroom 1 = .ok (.iload_n 1, 1) := by decide +kernel
theorem dX9_headroom_2 : decode cX9_headroom 2 = .ok (.invokevirtual 309, 3) := by decide +kernel
theorem dX9_headroom_5 : decode cX9_headroom 5 = .ok (.ifCond .eq 5, 3) := by decide +kernel
theorem dX9_headroom_8 : decode cX9_headroom 8 = .ok (.iconst 0, 1) := by decide +kernel
theorem dX9_headroom_9 : decode cX9_headroom 9 = .ok (.ireturn, 1) := by decide +kernel
theorem dX9_headroom_10 : decode cX9_headroom 10 = .ok (.aload_n 0, 1) := by decide +kernel
theorem dX9_headroom_11 : decode cX9_headroom 11 = .ok (.iload_n 1, 1) := by decide +kernel
theorem dX9_headroom_12 : decode cX9_headroom 12 = .ok (.invokevirtual 129, 3) := by decide +kernel
theorem dX9_headroom_15 : decode cX9_headroom 15 = .ok (.aload_n 0, 1) := by decide +kernel
theorem dX9_headroom_16 : decode cX9_headroom 16 = .ok (.iload_n 1, 1) := by decide +kernel
theorem dX9_headroom_17 : decode cX9_headroom 17 = .ok (.bipush 29, 2) := by decide +kernel
theorem dX9_headroom_19 : decode cX9_headroom 19 = .ok (.invokevirtual 81, 3) := by decide +kernel
theorem dX9_headroom_22 : decode cX9_headroom 22 = .ok (.ifCond .ne 7, 3) := by decide +kernel
theorem dX9_headroom_25 : decode cX9_headroom 25 = .ok (.iconst 0, 1) := by decide +kernel
theorem dX9_headroom_26 : decode cX9_headroom 26 = .ok (.goto 9, 3) := by decide +kernel
theorem dX9_headroom_29 : decode cX9_headroom 29 = .ok (.aload_n 0, 1) := by decide +kernel
theorem dX9_headroom_30 : decode cX9_headroom 30 = .ok (.iload_n 1, 1) := by decide +kernel
theorem dX9_headroom_31 : decode cX9_headroom 31 = .ok (.iconst 0, 1) := by decide +kernel
theorem dX9_headroom_32 : decode cX9_headroom 32 = .ok (.invokevirtual 114, 3) := by decide +kernel
theorem dX9_headroom_35 : decode cX9_headroom 35 = .ok (.isub, 1) := by decide +kernel
theorem dX9_headroom_36 : decode cX9_headroom 36 = .ok (.ireturn, 1) := by decide +kernel
theorem dX9_meanAge_0 : decode cX9_meanAge 0 = .ok (.aload_n 0, 1) := by decide +kernel
theorem dX9_meanAge_1 : decode cX9_meanAge 1 = .ok (.iload_n 1, 1) := by decide +kernel
theorem dX9_meanAge_2 : decode cX9_meanAge 2 = .ok (.invokevirtual 309, 3) := by decide +kernel
theorem dX9_meanAge_5 : decode cX9_meanAge 5 = .ok (.ifCond .eq 5, 3) := by decide +kernel
theorem dX9_meanAge_8 : decode cX9_meanAge 8 = .ok (.dconst 0, 1) := by decide +kernel
theorem dX9_meanAge_9 : decode cX9_meanAge 9 = .ok (.dreturn, 1) := by decide +kernel
theorem dX9_meanAge_10 : decode cX9_meanAge 10 = .ok (.iconst 0, 1) := by decide +kernel
theorem dX9_meanAge_11 : decode cX9_meanAge 11 = .ok (.istore_n 2, 1) := by decide +kernel
theorem dX9_meanAge_12 : decode cX9_meanAge 12 = .ok (.iconst 0, 1) := by decide +kernel
theorem dX9_meanAge_13 : decode cX9_meanAge 13 = .ok (.istore_n 3, 1) := by decide +kernel
theorem dX9_meanAge_14 : decode cX9_meanAge 14 = .ok (.iload_n 3, 1) := by decide +kernel
theorem dX9_meanAge_15 : decode cX9_meanAge 15 = .ok (.aload_n 0, 1) := by decide +kernel
theorem dX9_meanAge_16 : decode cX9_meanAge 16 = .ok (.iload_n 1, 1) := by decide +kernel
theorem dX9_meanAge_17 : decode cX9_meanAge 17 = .ok (.bipush 23, 2) := by decide +kernel
theorem dX9_meanAge_19 : decode cX9_meanAge 19 = .ok (.invokevirtual 81, 3) := by decide +kernel
theorem dX9_meanAge_22 : decode cX9_meanAge 22 = .ok (.if_icmp .ge 32, 3) := by decide +kernel
theorem dX9_meanAge_25 : decode cX9_meanAge 25 = .ok (.iload_n 2, 1) := by decide +kernel
theorem dX9_meanAge_26 : decode cX9_meanAge 26 = .ok (.aload_n 0, 1) := by decide +kernel
theorem dX9_meanAge_27 : decode cX9_meanAge 27 = .ok (.getfield 7, 3) := by decide +kernel
theorem dX9_meanAge_30 : decode cX9_meanAge 30 = .ok (.iconst 1, 1) := by decide +kernel
theorem dX9_meanAge_31 : decode cX9_meanAge 31 = .ok (.iaload, 1) := by decide +kernel
theorem dX9_meanAge_32 : decode cX9_meanAge 32 = .ok (.aload_n 0, 1) := by decide +kernel
theorem dX9_meanAge_33 : decode cX9_meanAge 33 = .ok (.iload_n 1, 1) := by decide +kernel
theorem dX9_meanAge_34 : decode cX9_meanAge 34 = .ok (.bipush 100, 2) := by decide +kernel
theorem dX9_meanAge_36 : decode cX9_meanAge 36 = .ok (.iconst 4, 1) := by decide +kernel
theorem dX9_meanAge_37 : decode cX9_meanAge 37 = .ok (.iload_n 3, 1) := by decide +kernel
theorem dX9_meanAge_38 : decode cX9_meanAge 38 = .ok (.imul, 1) := by decide +kernel
theorem dX9_meanAge_39 : decode cX9_meanAge 39 = .ok (.iadd, 1) := by decide +kernel
theorem dX9_meanAge_40 : decode cX9_meanAge 40 = .ok (.iconst 1, 1) := by decide +kernel
theorem dX9_meanAge_41 : decode cX9_meanAge 41 = .ok (.iadd, 1) := by decide +kernel
theorem dX9_meanAge_42 : decode cX9_meanAge 42 = .ok (.invokevirtual 81, 3) := by decide +kernel
theorem dX9_meanAge_45 : decode cX9_meanAge 45 = .ok (.isub, 1) := by decide +kernel
theorem dX9_meanAge_46 : decode cX9_meanAge 46 = .ok (.iadd, 1) := by decide +kernel
theorem dX9_meanAge_47 : decode cX9_meanAge 47 = .ok (.istore_n 2, 1) := by decide +kernel
theorem dX9_meanAge_48 : decode cX9_meanAge 48 = .ok (.iinc 3 1, 3) := by decide +kernel
theorem dX9_meanAge_51 : decode cX9_meanAge 51 = .ok (.goto (-37), 3) := by decide +kernel
theorem dX9_meanAge_54 : decode cX9_meanAge 54 = .ok (.aload_n 0, 1) := by decide +kernel
theorem dX9_meanAge_55 : decode cX9_meanAge 55 = .ok (.iload_n 1, 1) := by decide +kernel
theorem dX9_meanAge_56 : decode cX9_meanAge 56 = .ok (.bipush 23, 2) := by decide +kernel
theorem dX9_meanAge_58 : decode cX9_meanAge 58 = .ok (.invokevirtual 81, 3) := by decide +kernel
theorem dX9_meanAge_61 : decode cX9_meanAge 61 = .ok (.ifCond .ne 7, 3) := by decide +kernel
theorem dX9_meanAge_64 : decode cX9_meanAge 64 = .ok (.dconst 0, 1) := by decide +kernel
theorem dX9_meanAge_65 : decode cX9_meanAge 65 = .ok (.goto 14, 3) := by decide +kernel
theorem dX9_meanAge_68 : decode cX9_meanAge 68 = .ok (.iload_n 2, 1) := by decide +kernel
theorem dX9_meanAge_69 : decode cX9_meanAge 69 = .ok (.i2d, 1) := by decide +kernel
theorem dX9_meanAge_70 : decode cX9_meanAge 70 = .ok (.aload_n 0, 1) := by decide +kernel
theorem dX9_meanAge_71 : decode cX9_meanAge 71 = .ok (.iload_n 1, 1) := by decide +kernel
theorem dX9_meanAge_72 : decode cX9_meanAge 72 = .ok (.bipush 23, 2) := by decide +kernel
theorem dX9_meanAge_74 : decode cX9_meanAge 74 = .ok (.invokevirtual 81, 3) := by decide +kernel
theorem dX9_meanAge_77 : decode cX9_meanAge 77 = .ok (.i2d, 1) := by decide +kernel
theorem dX9_meanAge_78 : decode cX9_meanAge 78 = .ok (.ddiv, 1) := by decide +kernel
theorem dX9_meanAge_79 : decode cX9_meanAge 79 = .ok (.dreturn, 1) := by decide +kernel
theorem dX9_decisions_0 : decode cX9_decisions 0 = .ok (.aload_n 0, 1) := by decide +kernel
theorem dX9_decisions_1 : decode cX9_decisions 1 = .ok (.iload_n 1, 1) := by decide +kernel
theorem dX9_decisions_2 : decode cX9_decisions 2 = .ok (.invokevirtual 309, 3) := by decide +kernel
theorem dX9_decisions_5 : decode cX9_decisions 5 = .ok (.ifCond .ne 25, 3) := by decide +kernel
theorem dX9_decisions_8 : decode cX9_decisions 8 = .ok (.aload_n 0, 1) := by decide +kernel
theorem dX9_decisions_9 : decode cX9_decisions 9 = .ok (.iload_n 2, 1) := by decide +kernel
theorem dX9_decisions_10 : decode cX9_decisions 10 = .ok (.iconst 0, 1) := by decide +kernel
theorem dX9_decisions_11 : decode cX9_decisions 11 = .ok (.iconst 5, 1) := by decide +kernel
theorem dX9_decisions_12 : decode cX9_decisions 12 = .ok (.invokestatic 167, 3) := by decide +kernel
theorem dX9_decisions_15 : decode cX9_decisions 15 = .ok (.ifCond .ne 7, 3) := by decide +kernel
theorem dX9_decisions_18 : decode cX9_decisions 18 = .ok (.iconst 1, 1) := by decide +kernel
theorem dX9_decisions_19 : decode cX9_decisions 19 = .ok (.goto 4, 3) := by decide +kernel
theorem dX9_decisions_22 : decode cX9_decisions 22 = .ok (.iconst 0, 1) := by decide +kernel
theorem dX9_decisions_23 : decode cX9_decisions 23 = .ok (.iconst 2, 1) := by decide +kernel
theorem dX9_decisions_24 : decode cX9_decisions 24 = .ok (.invokevirtual 302, 3) := by decide +kernel
theorem dX9_decisions_27 : decode cX9_decisions 27 = .ok (.ifCond .eq 7, 3) := by decide +kernel
theorem dX9_decisions_30 : decode cX9_decisions 30 = .ok (.iconst 0, 1) := by decide +kernel
theorem dX9_decisions_31 : decode cX9_decisions 31 = .ok (.goto 12, 3) := by decide +kernel
theorem dX9_decisions_34 : decode cX9_decisions 34 = .ok (.aload_n 0, 1) := by decide +kernel
theorem dX9_decisions_35 : decode cX9_decisions 35 = .ok (.iload_n 1, 1) := by decide +kernel
theorem dX9_decisions_36 : decode cX9_decisions 36 = .ok (.bipush 30, 2) := by decide +kernel
theorem dX9_decisions_38 : decode cX9_decisions 38 = .ok (.iload_n 2, 1) := by decide +kernel
theorem dX9_decisions_39 : decode cX9_decisions 39 = .ok (.iadd, 1) := by decide +kernel
theorem dX9_decisions_40 : decode cX9_decisions 40 = .ok (.invokevirtual 81, 3) := by decide +kernel
theorem dX9_decisions_43 : decode cX9_decisions 43 = .ok (.ireturn, 1) := by decide +kernel
theorem dX9_event_0 : decode cX9_event 0 = .ok (.aload_n 0, 1) := by decide +kernel
theorem dX9_event_1 : decode cX9_event 1 = .ok (.iconst 0, 1) := by decide +kernel
theorem dX9_event_2 : decode cX9_event 2 = .ok (.putfield 61, 3) := by decide +kernel
theorem dX9_event_5 : decode cX9_event 5 = .ok (.aload_n 0, 1) := by decide +kernel
theorem dX9_event_6 : decode cX9_event 6 = .ok (.iload_n 2, 1) := by decide +kernel
theorem dX9_event_7 : decode cX9_event 7 = .ok (.iconst 0, 1) := by decide +kernel
theorem dX9_event_8 : decode cX9_event 8 = .ok (.iconst 3, 1) := by decide +kernel
theorem dX9_event_9 : decode cX9_event 9 = .ok (.invokestatic 167, 3) := by decide +kernel
theorem dX9_event_12 : decode cX9_event 12 = .ok (.ifCond .ne 7, 3) := by decide +kernel
theorem dX9_event_15 : decode cX9_event 15 = .ok (.iconst 1, 1) := by decide +kernel
theorem dX9_event_16 : decode cX9_event 16 = .ok (.goto 4, 3) := by decide +kernel
theorem dX9_event_19 : decode cX9_event 19 = .ok (.iconst 0, 1) := by decide +kernel
theorem dX9_event_20 : decode cX9_event 20 = .ok (.iconst 1, 1) := by decide +kernel
theorem dX9_event_21 : decode cX9_event 21 = .ok (.invokevirtual 302, 3) := by decide +kernel
theorem dX9_event_24 : decode cX9_event 24 = .ok (.ifCond .ne 37, 3) := by decide +kernel
theorem dX9_event_27 : decode cX9_event 27 = .ok (.aload_n 0, 1) := by decide +kernel
theorem dX9_event_28 : decode cX9_event 28 = .ok (.iload_n 1, 1) := by decide +kernel
theorem dX9_event_29 : decode cX9_event 29 = .ok (.iconst 0, 1) := by decide +kernel
theorem dX9_event_30 : decode cX9_event 30 = .ok (.bipush 60, 2) := by decide +kernel
theorem dX9_event_32 : decode cX9_event 32 = .ok (.aload_n 0, 1) := by decide +kernel
theorem dX9_event_33 : decode cX9_event 33 = .ok (.getfield 7, 3) := by decide +kernel
theorem dX9_event_36 : decode cX9_event 36 = .ok (.iconst 3, 1) := by decide +kernel
theorem dX9_event_37 : decode cX9_event 37 = .ok (.iaload, 1) := by decide +kernel
theorem dX9_event_38 : decode cX9_event 38 = .ok (.invokestatic 106, 3) := by decide +kernel
theorem dX9_event_41 : decode cX9_event 41 = .ok (.iconst 1, 1) := by decide +kernel
theorem dX9_event_42 : decode cX9_event 42 = .ok (.isub, 1) := by decide +kernel
theorem dX9_event_43 : decode cX9_event 43 = .ok (.invokestatic 167, 3) := by decide +kernel
theorem dX9_event_46 : decode cX9_event 46 = .ok (.ifCond .ne 7, 3) := by decide +kernel
theorem dX9_event_49 : decode cX9_event 49 = .ok (.iconst 1, 1) := by decide +kernel
theorem dX9_event_50 : decode cX9_event 50 = .ok (.goto 4, 3) := by decide +kernel
theorem dX9_event_53 : decode cX9_event 53 = .ok (.iconst 0, 1) := by decide +kernel
theorem dX9_event_54 : decode cX9_event 54 = .ok (.iconst 2, 1) := by decide +kernel
theorem dX9_event_55 : decode cX9_event 55 = .ok (.invokevirtual 302, 3) := by decide +kernel
theorem dX9_event_58 : decode cX9_event 58 = .ok (.ifCond .eq 5, 3) := by decide +kernel
theorem dX9_event_61 : decode cX9_event 61 = .ok (.iconst 0, 1) := by decide +kernel
theorem dX9_event_62 : decode cX9_event 62 = .ok (.ireturn, 1) := by decide +kernel
theorem dX9_event_63 : decode cX9_event 63 = .ok (.aload_n 0, 1) := by decide +kernel
theorem dX9_event_64 : decode cX9_event 64 = .ok (.getfield 7, 3) := by decide +kernel
theorem dX9_event_67 : decode cX9_event 67 = .ok (.iconst 4, 1) := by decide +kernel
theorem dX9_event_68 : decode cX9_event 68 = .ok (.iconst 4, 1) := by decide +kernel
theorem dX9_event_69 : decode cX9_event 69 = .ok (.aload_n 0, 1) := by decide +kernel
theorem dX9_event_70 : decode cX9_event 70 = .ok (.getfield 7, 3) := by decide +kernel
theorem dX9_event_73 : decode cX9_event 73 = .ok (.iconst 3, 1) := by decide +kernel
theorem dX9_event_74 : decode cX9_event 74 = .ok (.iaload, 1) := by decide +kernel
theorem dX9_event_75 : decode cX9_event 75 = .ok (.iconst 1, 1) := by decide +kernel
theorem dX9_event_76 : decode cX9_event 76 = .ok (.isub, 1) := by decide +kernel
theorem dX9_event_77 : decode cX9_event 77 = .ok (.iload_n 1, 1) := by decide +kernel
theorem dX9_event_78 : decode cX9_event 78 = .ok (.isub, 1) := by decide +kernel
theorem dX9_event_79 : decode cX9_event 79 = .ok (.bipush 60, 2) := by decide +kernel
theorem dX9_event_81 : decode cX9_event 81 = .ok (.irem, 1) := by decide +kernel
theorem dX9_event_82 : decode cX9_event 82 = .ok (.imul, 1) := by decide +kernel
theorem dX9_event_83 : decode cX9_event 83 = .ok (.iadd, 1) := by decide +kernel
theorem dX9_event_84 : decode cX9_event 84 = .ok (.iload_n 2, 1) := by decide +kernel
theorem dX9_event_85 : decode cX9_event 85 = .ok (.iadd, 1) := by decide +kernel
theorem dX9_event_86 : decode cX9_event 86 = .ok (.iaload, 1) := by decide +kernel
theorem dX9_event_87 : decode cX9_event 87 = .ok (.ireturn, 1) := by decide +kernel
theorem dX9_run_0 : decode cX9_run 0 = .ok (.aload_n 0, 1) := by decide +kernel
theorem dX9_run_1 : decode cX9_run 1 = .ok (.iconst 0, 1) := by decide +kernel
theorem dX9_run_2 : decode cX9_run 2 = .ok (.putfield 61, 3) := by decide +kernel
theorem dX9_run_5 : decode cX9_run 5 = .ok (.aload_n 0, 1) := by decide +kernel
theorem dX9_run_6 : decode cX9_run 6 = .ok (.iload_n 1, 1) := by decide +kernel
theorem dX9_run_7 : decode cX9_run 7 = .ok (.iconst 1, 1) := by decide +kernel
theorem dX9_run_8 : decode cX9_run 8 = .ok (.sipush 300, 3) := by decide +kernel
theorem dX9_run_11 : decode cX9_run 11 = .ok (.invokestatic 167, 3) := by decide +kernel
theorem dX9_run_14 : decode cX9_run 14 = .ok (.ifCond .ne 7, 3) := by decide +kernel
theorem dX9_run_17 : decode cX9_run 17 = .ok (.iconst 1, 1) := by decide +kernel
theorem dX9_run_18 : decode cX9_run 18 = .ok (.goto 4, 3) := by decide +kernel
theorem dX9_run_21 : decode cX9_run 21 = .ok (.iconst 0, 1) := by decide +kernel
theorem dX9_run_22 : decode cX9_run 22 = .ok (.iconst 1, 1) := by decide +kernel
theorem dX9_run_23 : decode cX9_run 23 = .ok (.invokevirtual 302, 3) := by decide +kernel
theorem dX9_run_26 : decode cX9_run 26 = .ok (.ifCond .eq 5, 3) := by decide +kernel
theorem dX9_run_29 : decode cX9_run 29 = .ok (.iconst 0, 1) := by decide +kernel
theorem dX9_run_30 : decode cX9_run 30 = .ok (.ireturn, 1) := by decide +kernel
theorem dX9_run_31 : decode cX9_run 31 = .ok (.aload_n 0, 1) := by decide +kernel
theorem dX9_run_32 : decode cX9_run 32 = .ok (.invokevirtual 337, 3) := by decide +kernel
theorem dX9_run_35 : decode cX9_run 35 = .ok (.aload_n 0, 1) := by decide +kernel
theorem dX9_run_36 : decode cX9_run 36 = .ok (.iload_n 1, 1) := by decide +kernel
theorem dX9_run_37 : decode cX9_run 37 = .ok (.invokevirtual 340, 3) := by decide +kernel
theorem dX9_run_40 : decode cX9_run 40 = .ok (.ireturn, 1) := by decide +kernel
theorem dX9_push_0 : decode cX9_push 0 = .ok (.aload_n 0, 1) := by decide +kernel
theorem dX9_push_1 : decode cX9_push 1 = .ok (.iload_n 1, 1) := by decide +kernel
theorem dX9_push_2 : decode cX9_push 2 = .ok (.invokevirtual 309, 3) := by decide +kernel
theorem dX9_push_5 : decode cX9_push 5 = .ok (.ifCond .ne 27, 3) := by decide +kernel
theorem dX9_push_8 : decode cX9_push 8 = .ok (.aload_n 0, 1) := by decide +kernel
theorem dX9_push_9 : decode cX9_push 9 = .ok (.iload_n 2, 1) := by decide +kernel
theorem dX9_push_10 : decode cX9_push 10 = .ok (.iconst 0, 1) := by decide +kernel
theorem dX9_push_11 : decode cX9_push 11 = .ok (.sipush 999, 3) := by decide +kernel
theorem dX9_push_14 : decode cX9_push 14 = .ok (.invokestatic 167, 3) := by decide +kernel
theorem dX9_push_17 : decode cX9_push 17 = .ok (.ifCond .ne 7, 3) := by decide +kernel
theorem dX9_push_20 : decode cX9_push 20 = .ok (.iconst 1, 1) := by decide +kernel
theorem dX9_push_21 : decode cX9_push 21 = .ok (.goto 4, 3) := by decide +kernel
theorem dX9_push_24 : decode cX9_push 24 = .ok (.iconst 0, 1) := by decide +kernel
theorem dX9_push_25 : decode cX9_push 25 = .ok (.iconst 2, 1) := by decide +kernel
theorem dX9_push_26 : decode cX9_push 26 = .ok (.invokevirtual 302, 3) := by decide +kernel
theorem dX9_push_29 : decode cX9_push 29 = .ok (.ifCond .eq 5, 3) := by decide +kernel
theorem dX9_push_32 : decode cX9_push 32 = .ok (.iconst 0, 1) := by decide +kernel
theorem dX9_push_33 : decode cX9_push 33 = .ok (.ireturn, 1) := by decide +kernel
theorem dX9_push_34 : decode cX9_push 34 = .ok (.aload_n 0, 1) := by decide +kernel
theorem dX9_push_35 : decode cX9_push 35 = .ok (.invokevirtual 337, 3) := by decide +kernel
theorem dX9_push_38 : decode cX9_push 38 = .ok (.aload_n 0, 1) := by decide +kernel
theorem dX9_push_39 : decode cX9_push 39 = .ok (.iload_n 1, 1) := by decide +kernel
theorem dX9_push_40 : decode cX9_push 40 = .ok (.bipush 20, 2) := by decide +kernel
theorem dX9_push_42 : decode cX9_push 42 = .ok (.sipush 999, 3) := by decide +kernel
theorem dX9_push_45 : decode cX9_push 45 = .ok (.aload_n 0, 1) := by decide +kernel
theorem dX9_push_46 : decode cX9_push 46 = .ok (.iload_n 1, 1) := by decide +kernel
theorem dX9_push_47 : decode cX9_push 47 = .ok (.bipush 20, 2) := by decide +kernel
theorem dX9_push_49 : decode cX9_push 49 = .ok (.invokevirtual 81, 3) := by decide +kernel
theorem dX9_push_52 : decode cX9_push 52 = .ok (.iload_n 2, 1) := by decide +kernel
theorem dX9_push_53 : decode cX9_push 53 = .ok (.iadd, 1) := by decide +kernel
theorem dX9_push_54 : decode cX9_push 54 = .ok (.invokestatic 106, 3) := by decide +kernel
theorem dX9_push_57 : decode cX9_push 57 = .ok (.invokevirtual 64, 3) := by decide +kernel
theorem dX9_push_60 : decode cX9_push 60 = .ok (.aload_n 0, 1) := by decide +kernel
theorem dX9_push_61 : decode cX9_push 61 = .ok (.iload_n 1, 1) := by decide +kernel
theorem dX9_push_62 : decode cX9_push 62 = .ok (.bipush 20, 2) := by decide +kernel
theorem dX9_push_64 : decode cX9_push 64 = .ok (.invokevirtual 81, 3) := by decide +kernel
theorem dX9_push_67 : decode cX9_push 67 = .ok (.ireturn, 1) := by decide +kernel
theorem dX9_protect_0 : decode cX9_protect 0 = .ok (.aload_n 0, 1) := by decide +kernel
theorem dX9_protect_1 : decode cX9_protect 1 = .ok (.iconst 0, 1) := by decide +kernel
theorem dX9_protect_2 : decode cX9_protect 2 = .ok (.putfield 61, 3) := by decide +kernel
theorem dX9_protect_5 : decode cX9_protect 5 = .ok (.aload_n 0, 1) := by decide +kernel
theorem dX9_protect_6 : decode cX9_protect 6 = .ok (.aload_n 0, 1) := by decide +kernel
theorem dX9_protect_7 : decode cX9_protect 7 = .ok (.iload_n 1, 1) := by decide +kernel
theorem dX9_protect_8 : decode cX9_protect 8 = .ok (.invokevirtual 321, 3) := by decide +kernel
theorem dX9_protect_11 : decode cX9_protect 11 = .ok (.ifCond .ne 7, 3) := by decide +kernel
theorem dX9_protect_14 : decode cX9_protect 14 = .ok (.iconst 1, 1) := by decide +kernel
theorem dX9_protect_15 : decode cX9_protect 15 = .ok (.goto 4, 3) := by decide +kernel
theorem dX9_protect_18 : decode cX9_protect 18 = .ok (.iconst 0, 1) := by decide +kernel
theorem dX9_protect_19 : decode cX9_protect 19 = .ok (.iconst 1, 1) := by decide +kernel
theorem dX9_protect_20 : decode cX9_protect 20 = .ok (.invokevirtual 302, 3) := by decide +kernel
theorem dX9_protect_23 : decode cX9_protect 23 = .ok (.ifCond .eq 5, 3) := by decide +kernel
theorem dX9_protect_26 : decode cX9_protect 26 = .ok (.iconst 0, 1) := by decide +kernel
theorem dX9_protect_27 : decode cX9_protect 27 = .ok (.ireturn, 1) := by decide +kernel
theorem dX9_protect_28 : decode cX9_protect 28 = .ok (.aload_n 0, 1) := by decide +kernel
theorem dX9_protect_29 : decode cX9_protect 29 = .ok (.invokevirtual 337, 3) := by decide +kernel
theorem dX9_protect_32 : decode cX9_protect 32 = .ok (.aload_n 0, 1) := by decide +kernel
theorem dX9_protect_33 : decode cX9_protect 33 = .ok (.aload_n 0, 1) := by decide +kernel
theorem dX9_protect_34 : decode cX9_protect 34 = .ok (.getfield 315, 3) := by decide +kernel
theorem dX9_protect_37 : decode cX9_protect 37 = .ok (.aload_n 0, 1) := by decide +kernel
theorem dX9_protect_38 : decode cX9_protect 38 = .ok (.getfield 318, 3) := by decide +kernel
theorem dX9_protect_41 : decode cX9_protect 41 = .ok (.invokevirtual 95, 3) := by decide +kernel
theorem dX9_protect_44 : decode cX9_protect 44 = .ok (.istore_n 3, 1) := by decide +kernel
theorem dX9_protect_45 : decode cX9_protect 45 = .ok (.aload_n 0, 1) := by decide +kernel
theorem dX9_protect_46 : decode cX9_protect 46 = .ok (.aload_n 0, 1) := by decide +kernel
theorem dX9_protect_47 : decode cX9_protect 47 = .ok (.getfield 315, 3) := by decide +kernel
theorem dX9_protect_50 : decode cX9_protect 50 = .ok (.bipush 100, 2) := by decide +kernel
theorem dX9_protect_52 : decode cX9_protect 52 = .ok (.iconst 4, 1) := by decide +kernel
theorem dX9_protect_53 : decode cX9_protect 53 = .ok (.aload_n 0, 1) := by decide +kernel
theorem dX9_protect_54 : decode cX9_protect 54 = .ok (.getfield 318, 3) := by decide +kernel
theorem dX9_protect_57 : decode cX9_protect 57 = .ok (.imul, 1) := by decide +kernel
theorem dX9_protect_58 : decode cX9_protect 58 = .ok (.iadd, 1) := by decide +kernel
theorem dX9_protect_59 : decode cX9_protect 59 = .ok (.iconst 3, 1) := by decide +kernel
theorem dX9_protect_60 : decode cX9_protect 60 = .ok (.iadd, 1) := by decide +kernel
theorem dX9_protect_61 : decode cX9_protect 61 = .ok (.iload_n 2, 1) := by decide +kernel
theorem dX9_protect_62 : decode cX9_protect 62 = .ok (.ifCond .eq 7, 3) := by decide +kernel
theorem dX9_protect_65 : decode cX9_protect 65 = .ok (.iconst 1, 1) := by decide +kernel
theorem dX9_protect_66 : decode cX9_protect 66 = .ok (.goto 4, 3) := by decide +kernel
theorem dX9_protect_69 : decode cX9_protect 69 = .ok (.iconst 0, 1) := by decide +kernel
theorem dX9_protect_70 : decode cX9_protect 70 = .ok (.invokevirtual 64, 3) := by decide +kernel
theorem dX9_protect_73 : decode cX9_protect 73 = .ok (.iload_n 3, 1) := by decide +kernel
theorem dX9_protect_74 : decode cX9_protect 74 = .ok (.ireturn, 1) := by decide +kernel
theorem dX9_grow_0 : decode cX9_grow 0 = .ok (.aload_n 0, 1) := by decide +kernel
theorem dX9_grow_1 : decode cX9_grow 1 = .ok (.iload_n 1, 1) := by decide +kernel
theorem dX9_grow_2 : decode cX9_grow 2 = .ok (.invokevirtual 309, 3) := by decide +kernel
theorem dX9_grow_5 : decode cX9_grow 5 = .ok (.ifCond .ne 56, 3) := by decide +kernel
theorem dX9_grow_8 : decode cX9_grow 8 = .ok (.aload_n 0, 1) := by decide +kernel
theorem dX9_grow_9 : decode cX9_grow 9 = .ok (.iload_n 2, 1) := by decide +kernel
theorem dX9_grow_10 : decode cX9_grow 10 = .ok (.iconst 1, 1) := by decide +kernel
theorem dX9_grow_11 : decode cX9_grow 11 = .ok (.iconst 5, 1) := by decide +kernel
theorem dX9_grow_12 : decode cX9_grow 12 = .ok (.invokestatic 167, 3) := by decide +kernel
theorem dX9_grow_15 : decode cX9_grow 15 = .ok (.ifCond .ne 7, 3) := by decide +kernel
theorem dX9_grow_18 : decode cX9_grow 18 = .ok (.iconst 1, 1) := by decide +kernel
theorem dX9_grow_19 : decode cX9_grow 19 = .ok (.goto 4, 3) := by decide +kernel
theorem dX9_grow_22 : decode cX9_grow 22 = .ok (.iconst 0, 1) := by decide +kernel
theorem dX9_grow_23 : decode cX9_grow 23 = .ok (.iconst 2, 1) := by decide +kernel
theorem dX9_grow_24 : decode cX9_grow 24 = .ok (.invokevirtual 302, 3) := by decide +kernel
theorem dX9_grow_27 : decode cX9_grow 27 = .ok (.ifCond .ne 34, 3) := by decide +kernel
theorem dX9_grow_30 : decode cX9_grow 30 = .ok (.aload_n 0, 1) := by decide +kernel
theorem dX9_grow_31 : decode cX9_grow 31 = .ok (.aload_n 0, 1) := by decide +kernel
theorem dX9_grow_32 : decode cX9_grow 32 = .ok (.iload_n 1, 1) := by decide +kernel
theorem dX9_grow_33 : decode cX9_grow 33 = .ok (.bipush 23, 2) := by decide +kernel
theorem dX9_grow_35 : decode cX9_grow 35 = .ok (.invokevirtual 81, 3) := by decide +kernel
theorem dX9_grow_38 : decode cX9_grow 38 = .ok (.iload_n 2, 1) := by decide +kernel
theorem dX9_grow_39 : decode cX9_grow 39 = .ok (.iadd, 1) := by decide +kernel
theorem dX9_grow_40 : decode cX9_grow 40 = .ok (.aload_n 0, 1) := by decide +kernel
theorem dX9_grow_41 : decode cX9_grow 41 = .ok (.iload_n 1, 1) := by decide +kernel
theorem dX9_grow_42 : decode cX9_grow 42 = .ok (.iconst 1, 1) := by decide +kernel
theorem dX9_grow_43 : decode cX9_grow 43 = .ok (.invokevirtual 81, 3) := by decide +kernel
theorem dX9_grow_46 : decode cX9_grow 46 = .ok (.if_icmp .le 7, 3) := by decide +kernel
theorem dX9_grow_49 : decode cX9_grow 49 = .ok (.iconst 1, 1) := by decide +kernel
theorem dX9_grow_50 : decode cX9_grow 50 = .ok (.goto 4, 3) := by decide +kernel
theorem dX9_grow_53 : decode cX9_grow 53 = .ok (.iconst 0, 1) := by decide +kernel
theorem dX9_grow_54 : decode cX9_grow 54 = .ok (.iconst 3, 1) := by decide +kernel
theorem dX9_grow_55 : decode cX9_grow 55 = .ok (.invokevirtual 302, 3) := by decide +kernel
theorem dX9_grow_58 : decode cX9_grow 58 = .ok (.ifCond .eq 5, 3) := by decide +kernel
theorem dX9_grow_61 : decode cX9_grow 61 = .ok (.iconst 0, 1) := by decide +kernel
theorem dX9_grow_62 : decode cX9_grow 62 = .ok (.ireturn, 1) := by decide +kernel
theorem dX9_grow_63 : decode cX9_grow 63 = .ok (.aload_n 0, 1) := by decide +kernel
theorem dX9_grow_64 : decode cX9_grow 64 = .ok (.invokevirtual 337, 3) := by decide +kernel
theorem dX9_grow_67 : decode cX9_grow 67 = .ok (.iconst (-1), 1) := by decide +kernel
theorem dX9_grow_68 : decode cX9_grow 68 = .ok (.istore_n 3, 1) := by decide +kernel
theorem dX9_grow_69 : decode cX9_grow 69 = .ok (.iconst 0, 1) := by decide +kernel
theorem dX9_grow_70 : decode cX9_grow 70 = .ok (.istore 4, 2) := by decide +kernel
theorem dX9_grow_72 : decode cX9_grow 72 = .ok (.iload 4, 2) := by decide +kernel
theorem dX9_grow_74 : decode cX9_grow 74 = .ok (.iload_n 2, 1) := by decide +kernel
theorem dX9_grow_75 : decode cX9_grow 75 = .ok (.if_icmp .ge 28, 3) := by decide +kernel
theorem dX9_grow_78 : decode cX9_grow 78 = .ok (.aload_n 0, 1) := by decide +kernel
theorem dX9_grow_79 : decode cX9_grow 79 = .ok (.iload_n 1, 1) := by decide +kernel
theorem dX9_grow_80 : decode cX9_grow 80 = .ok (.aload_n 0, 1) := by decide +kernel
theorem dX9_grow_81 : decode cX9_grow 81 = .ok (.getfield 7, 3) := by decide +kernel
theorem dX9_grow_84 : decode cX9_grow 84 = .ok (.iconst 1, 1) := by decide +kernel
theorem dX9_grow_85 : decode cX9_grow 85 = .ok (.iaload, 1) := by decide +kernel
theorem dX9_grow_86 : decode cX9_grow 86 = .ok (.aload_n 0, 1) := by decide +kernel
theorem dX9_grow_87 : decode cX9_grow 87 = .ok (.iload_n 1, 1) := by decide +kernel
theorem dX9_grow_88 : decode cX9_grow 88 = .ok (.iconst 4, 1) := by decide +kernel
theorem dX9_grow_89 : decode cX9_grow 89 = .ok (.invokevirtual 81, 3) := by decide +kernel
theorem dX9_grow_92 : decode cX9_grow 92 = .ok (.iadd, 1) := by decide +kernel
theorem dX9_grow_93 : decode cX9_grow 93 = .ok (.invokevirtual 141, 3) := by decide +kernel
theorem dX9_grow_96 : decode cX9_grow 96 = .ok (.istore_n 3, 1) := by decide +kernel
theorem dX9_grow_97 : decode cX9_grow 97 = .ok (.iinc 4 1, 3) := by decide +kernel
theorem dX9_grow_100 : decode cX9_grow 100 = .ok (.goto (-28), 3) := by decide +kernel
theorem dX9_grow_103 : decode cX9_grow 103 = .ok (.iload_n 3, 1) := by decide +kernel
theorem dX9_grow_104 : decode cX9_grow 104 = .ok (.ifCond .ge 7, 3) := by decide +kernel
theorem dX9_grow_107 : decode cX9_grow 107 = .ok (.iconst (-1), 1) := by decide +kernel
theorem dX9_grow_108 : decode cX9_grow 108 = .ok (.goto 10, 3) := by decide +kernel
theorem dX9_grow_111 : decode cX9_grow 111 = .ok (.aload_n 0, 1) := by decide +kernel
theorem dX9_grow_112 : decode cX9_grow 112 = .ok (.iload_n 1, 1) := by decide +kernel
theorem dX9_grow_113 : decode cX9_grow 113 = .ok (.bipush 23, 2) := by decide +kernel
theorem dX9_grow_115 : decode cX9_grow 115 = .ok (.invokevirtual 81, 3) := by decide +kernel
theorem dX9_grow_118 : decode cX9_grow 118 = .ok (.ireturn, 1) := by decide +kernel
theorem dX9_mustStay_0 : decode cX9_mustStay 0 = .ok (.aload_n 0, 1) := by decide +kernel
theorem dX9_mustStay_1 : decode cX9_mustStay 1 = .ok (.aload_n 0, 1) := by decide +kernel
theorem dX9_mustStay_2 : decode cX9_mustStay 2 = .ok (.getfield 315, 3) := by decide +kernel
theorem dX9_mustStay_5 : decode cX9_mustStay 5 = .ok (.aload_n 0, 1) := by decide +kernel
theorem dX9_mustStay_6 : decode cX9_mustStay 6 = .ok (.getfield 318, 3) := by decide +kernel
theorem dX9_mustStay_9 : decode cX9_mustStay 9 = .ok (.invokevirtual 95, 3) := by decide +kernel
theorem dX9_mustStay_12 : decode cX9_mustStay 12 = .ok (.ifCond .ne 25, 3) := by decide +kernel
theorem dX9_mustStay_15 : decode cX9_mustStay 15 = .ok (.aload_n 0, 1) := by decide +kernel
theorem dX9_mustStay_16 : decode cX9_mustStay 16 = .ok (.aload_n 0, 1) := by decide +kernel
theorem dX9_mustStay_17 : decode cX9_mustStay 17 = .ok (.getfield 315, 3) := by decide +kernel
theorem dX9_mustStay_20 : decode cX9_mustStay 20 = .ok (.bipush 23, 2) := by decide +kernel
theorem dX9_mustStay_22 : decode cX9_mustStay 22 = .ok (.invokevirtual 81, 3) := by decide +kernel
theorem dX9_mustStay_25 : decode cX9_mustStay 25 = .ok (.aload_n 0, 1) := by decide +kernel
theorem dX9_mustStay_26 : decode cX9_mustStay 26 = .ok (.aload_n 0, 1) := by decide +kernel
theorem dX9_mustStay_27 : decode cX9_mustStay 27 = .ok (.getfield 315, 3) := by decide +kernel
theorem dX9_mustStay_30 : decode cX9_mustStay 30 = .ok (.iconst 0, 1) := by decide +kernel
theorem dX9_mustStay_31 : decode cX9_mustStay 31 = .ok (.invokevirtual 81, 3) := by decide +kernel
theorem dX9_mustStay_34 : decode cX9_mustStay 34 = .ok (.if_icmp .gt 7, 3) := by decide +kernel
theorem dX9_mustStay_37 : decode cX9_mustStay 37 = .ok (.iconst 1, 1) := by decide +kernel
theorem dX9_mustStay_38 : decode cX9_mustStay 38 = .ok (.goto 4, 3) := by decide +kernel
theorem dX9_mustStay_41 : decode cX9_mustStay 41 = .ok (.iconst 0, 1) := by decide +kernel
theorem dX9_mustStay_42 : decode cX9_mustStay 42 = .ok (.ireturn, 1) := by decide +kernel
theorem dX9_drop_0 : decode cX9_drop 0 = .ok (.aload_n 0, 1) := by decide +kernel
theorem dX9_drop_1 : decode cX9_drop 1 = .ok (.iconst 0, 1) := by decide +kernel
theorem dX9_drop_2 : decode cX9_drop 2 = .ok (.putfield 61, 3) := by decide +kernel
theorem dX9_drop_5 : decode cX9_drop 5 = .ok (.aload_n 0, 1) := by decide +kernel
theorem dX9_drop_6 : decode cX9_drop 6 = .ok (.aload_n 0, 1) := by decide +kernel
theorem dX9_drop_7 : decode cX9_drop 7 = .ok (.iload_n 1, 1) := by decide +kernel
theorem dX9_drop_8 : decode cX9_drop 8 = .ok (.invokevirtual 321, 3) := by decide +kernel
theorem dX9_drop_11 : decode cX9_drop 11 = .ok (.ifCond .ne 7, 3) := by decide +kernel
theorem dX9_drop_14 : decode cX9_drop 14 = .ok (.iconst 1, 1) := by decide +kernel
theorem dX9_drop_15 : decode cX9_drop 15 = .ok (.goto 4, 3) := by decide +kernel
theorem dX9_drop_18 : decode cX9_drop 18 = .ok (.iconst 0, 1) := by decide +kernel
theorem dX9_drop_19 : decode cX9_drop 19 = .ok (.iconst 2, 1) := by decide +kernel
theorem dX9_drop_20 : decode cX9_drop 20 = .ok (.invokevirtual 302, 3) := by decide +kernel
theorem dX9_drop_23 : decode cX9_drop 23 = .ok (.ifCond .ne 15, 3) := by decide +kernel
theorem dX9_drop_26 : decode cX9_drop 26 = .ok (.aload_n 0, 1) := by decide +kernel
theorem dX9_drop_27 : decode cX9_drop 27 = .ok (.aload_n 0, 1) := by decide +kernel
theorem dX9_drop_28 : decode cX9_drop 28 = .ok (.invokevirtual 343, 3) := by decide +kernel
theorem dX9_drop_31 : decode cX9_drop 31 = .ok (.iconst 1, 1) := by decide +kernel
theorem dX9_drop_32 : decode cX9_drop 32 = .ok (.invokevirtual 302, 3) := by decide +kernel
theorem dX9_drop_35 : decode cX9_drop 35 = .ok (.ifCond .eq 5, 3) := by decide +kernel
theorem dX9_drop_38 : decode cX9_drop 38 = .ok (.iconst 0, 1) := by decide +kernel
theorem dX9_drop_39 : decode cX9_drop 39 = .ok (.ireturn, 1) := by decide +kernel
theorem dX9_drop_40 : decode cX9_drop 40 = .ok (.aload_n 0, 1) := by decide +kernel
theorem dX9_drop_41 : decode cX9_drop 41 = .ok (.invokevirtual 337, 3) := by decide +kernel
theorem dX9_drop_44 : decode cX9_drop 44 = .ok (.aload_n 0, 1) := by decide +kernel
theorem dX9_drop_45 : decode cX9_drop 45 = .ok (.aload_n 0, 1) := by decide +kernel
theorem dX9_drop_46 : decode cX9_drop 46 = .ok (.getfield 315, 3) := by decide +kernel
theorem dX9_drop_49 : decode cX9_drop 49 = .ok (.aload_n 0, 1) := by decide +kernel
theorem dX9_drop_50 : decode cX9_drop 50 = .ok (.getfield 318, 3) := by decide +kernel
theorem dX9_drop_53 : decode cX9_drop 53 = .ok (.invokevirtual 144, 3) := by decide +kernel
theorem dX9_drop_56 : decode cX9_drop 56 = .ok (.aload_n 0, 1) := by decide +kernel
theorem dX9_drop_57 : decode cX9_drop 57 = .ok (.aload_n 0, 1) := by decide +kernel
theorem dX9_drop_58 : decode cX9_drop 58 = .ok (.getfield 315, 3) := by decide +kernel
theorem dX9_drop_61 : decode cX9_drop 61 = .ok (.bipush 23, 2) := by decide +kernel
theorem dX9_drop_63 : decode cX9_drop 63 = .ok (.invokevirtual 81, 3) := by decide +kernel
theorem dX9_drop_66 : decode cX9_drop 66 = .ok (.ireturn, 1) := by decide +kernel
theorem dX9_transfer_0 : decode cX9_transfer 0 = .ok (.aload_n 0, 1) := by decide +kernel
theorem dX9_transfer_1 : decode cX9_transfer 1 = .ok (.iload_n 2, 1) := by decide +kernel
theorem dX9_transfer_2 : decode cX9_transfer 2 = .ok (.invokevirtual 309, 3) := by decide +kernel
theorem dX9_transfer_5 : decode cX9_transfer 5 = .ok (.ifCond .eq 5, 3) := by decide +kernel
theorem dX9_transfer_8 : decode cX9_transfer 8 = .ok (.iconst 0, 1) := by decide +kernel
theorem dX9_transfer_9 : decode cX9_transfer 9 = .ok (.ireturn, 1) := by decide +kernel
theorem dX9_transfer_10 : decode cX9_transfer 10 = .ok (.aload_n 0, 1) := by decide +kernel
theorem dX9_transfer_11 : decode cX9_transfer 11 = .ok (.iload_n 1, 1) := by decide +kernel
theorem dX9_transfer_12 : decode cX9_transfer 12 = .ok (.invokevirtual 321, 3) := by decide +kernel
theorem dX9_transfer_15 : decode cX9_transfer 15 = .ok (.istore_n 3, 1) := by decide +kernel
theorem dX9_transfer_16 : decode cX9_transfer 16 = .ok (.aload_n 0, 1) := by decide +kernel
theorem dX9_transfer_17 : decode cX9_transfer 17 = .ok (.iload_n 3, 1) := by decide +kernel
theorem dX9_transfer_18 : decode cX9_transfer 18 = .ok (.ifCond .eq 15, 3) := by decide +kernel
theorem dX9_transfer_21 : decode cX9_transfer 21 = .ok (.aload_n 0, 1) := by decide +kernel
theorem dX9_transfer_22 : decode cX9_transfer 22 = .ok (.getfield 315, 3) := by decide +kernel
theorem dX9_transfer_25 : decode cX9_transfer 25 = .ok (.iload_n 2, 1) := by decide +kernel
theorem dX9_transfer_26 : decode cX9_transfer 26 = .ok (.if_icmp .ne 7, 3) := by decide +kernel
theorem dX9_transfer_29 : decode cX9_transfer 29 = .ok (.iconst 1, 1) := by decide +kernel
theorem dX9_transfer_30 : decode cX9_transfer 30 = .ok (.goto 4, 3) := by decide +kernel
theorem dX9_transfer_33 : decode cX9_transfer 33 = .ok (.iconst 0, 1) := by decide +kernel
theorem dX9_transfer_34 : decode cX9_transfer 34 = .ok (.iconst 2, 1) := by decide +kernel
theorem dX9_transfer_35 : decode cX9_transfer 35 = .ok (.invokevirtual 302, 3) := by decide +kernel
theorem dX9_transfer_38 : decode cX9_transfer 38 = .ok (.ifCond .ne 60, 3) := by decide +kernel
theorem dX9_transfer_41 : decode cX9_transfer 41 = .ok (.aload_n 0, 1) := by decide +kernel
theorem dX9_transfer_42 : decode cX9_transfer 42 = .ok (.iload_n 3, 1) := by decide +kernel
theorem dX9_transfer_43 : decode cX9_transfer 43 = .ok (.ifCond .eq 10, 3) := by decide +kernel
theorem dX9_transfer_46 : decode cX9_transfer 46 = .ok (.aload_n 0, 1) := by decide +kernel
theorem dX9_transfer_47 : decode cX9_transfer 47 = .ok (.invokevirtual 343, 3) := by decide +kernel
theorem dX9_transfer_50 : decode cX9_transfer 50 = .ok (.ifCond .ne 19, 3) := by decide +kernel
theorem dX9_transfer_53 : decode cX9_transfer 53 = .ok (.aload_n 0, 1) := by decide +kernel
theorem dX9_transfer_54 : decode cX9_transfer 54 = .ok (.iload_n 2, 1) := by decide +kernel
theorem dX9_transfer_55 : decode cX9_transfer 55 = .ok (.bipush 23, 2) := by decide +kernel
theorem dX9_transfer_57 : decode cX9_transfer 57 = .ok (.invokevirtual 81, 3) := by decide +kernel
theorem dX9_transfer_60 : decode cX9_transfer 60 = .ok (.aload_n 0, 1) := by decide +kernel
theorem dX9_transfer_61 : decode cX9_transfer 61 = .ok (.iload_n 2, 1) := by decide +kernel
theorem dX9_transfer_62 : decode cX9_transfer 62 = .ok (.iconst 1, 1) := by decide +kernel
theorem dX9_transfer_63 : decode cX9_transfer 63 = .ok (.invokevirtual 81, 3) := by decide +kernel
theorem dX9_transfer_66 : decode cX9_transfer 66 = .ok (.if_icmp .lt 7, 3) := by decide +kernel
theorem dX9_transfer_69 : decode cX9_transfer 69 = .ok (.iconst 1, 1) := by decide +kernel
theorem dX9_transfer_70 : decode cX9_transfer 70 = .ok (.goto 4, 3) := by decide +kernel
theorem dX9_transfer_73 : decode cX9_transfer 73 = .ok (.iconst 0, 1) := by decide +kernel
theorem dX9_transfer_74 : decode cX9_transfer 74 = .ok (.iconst 3, 1) := by decide +kernel
theorem dX9_transfer_75 : decode cX9_transfer 75 = .ok (.invokevirtual 302, 3) := by decide +kernel
theorem dX9_transfer_78 : decode cX9_transfer 78 = .ok (.ifCond .ne 20, 3) := by decide +kernel
theorem dX9_transfer_81 : decode cX9_transfer 81 = .ok (.aload_n 0, 1) := by decide +kernel
theorem dX9_transfer_82 : decode cX9_transfer 82 = .ok (.iload_n 3, 1) := by decide +kernel
theorem dX9_transfer_83 : decode cX9_transfer 83 = .ok (.ifCond .ne 7, 3) := by decide +kernel
theorem dX9_transfer_86 : decode cX9_transfer 86 = .ok (.iconst 1, 1) := by decide +kernel
theorem dX9_transfer_87 : decode cX9_transfer 87 = .ok (.goto 4, 3) := by decide +kernel
theorem dX9_transfer_90 : decode cX9_transfer 90 = .ok (.iconst 0, 1) := by decide +kernel
theorem dX9_transfer_91 : decode cX9_transfer 91 = .ok (.iconst 4, 1) := by decide +kernel
theorem dX9_transfer_92 : decode cX9_transfer 92 = .ok (.invokevirtual 302, 3) := by decide +kernel
theorem dX9_transfer_95 : decode cX9_transfer 95 = .ok (.ifCond .eq 5, 3) := by decide +kernel
theorem dX9_transfer_98 : decode cX9_transfer 98 = .ok (.iconst 0, 1) := by decide +kernel
theorem dX9_transfer_99 : decode cX9_transfer 99 = .ok (.ireturn, 1) := by decide +kernel
theorem dX9_transfer_100 : decode cX9_transfer 100 = .ok (.aload_n 0, 1) := by decide +kernel
theorem dX9_transfer_101 : decode cX9_transfer 101 = .ok (.invokevirtual 337, 3) := by decide +kernel
theorem dX9_transfer_104 : decode cX9_transfer 104 = .ok (.aload_n 0, 1) := by decide +kernel
theorem dX9_transfer_105 : decode cX9_transfer 105 = .ok (.aload_n 0, 1) := by decide +kernel
theorem dX9_transfer_106 : decode cX9_transfer 106 = .ok (.getfield 315, 3) := by decide +kernel
theorem dX9_transfer_109 : decode cX9_transfer 109 = .ok (.aload_n 0, 1) := by decide +kernel
theorem dX9_transfer_110 : decode cX9_transfer 110 = .ok (.getfield 318, 3) := by decide +kernel
theorem dX9_transfer_113 : decode cX9_transfer 113 = .ok (.invokevirtual 144, 3) := by decide +kernel
theorem dX9_transfer_116 : decode cX9_transfer 116 = .ok (.aload_n 0, 1) := by decide +kernel
theorem dX9_transfer_117 : decode cX9_transfer 117 = .ok (.iload_n 2, 1) := by decide +kernel
theorem dX9_transfer_118 : decode cX9_transfer 118 = .ok (.aload_n 0, 1) := by decide +kernel
theorem dX9_transfer_119 : decode cX9_transfer 119 = .ok (.getfield 7, 3) := by decide +kernel
theorem dX9_transfer_122 : decode cX9_transfer 122 = .ok (.iconst 1, 1) := by decide +kernel
theorem dX9_transfer_123 : decode cX9_transfer 123 = .ok (.iaload, 1) := by decide +kernel
theorem dX9_transfer_124 : decode cX9_transfer 124 = .ok (.aload_n 0, 1) := by decide +kernel
theorem dX9_transfer_125 : decode cX9_transfer 125 = .ok (.iload_n 2, 1) := by decide +kernel
theorem dX9_transfer_126 : decode cX9_transfer 126 = .ok (.iconst 4, 1) := by decide +kernel
theorem dX9_transfer_127 : decode cX9_transfer 127 = .ok (.invokevirtual 81, 3) := by decide +kernel
theorem dX9_transfer_130 : decode cX9_transfer 130 = .ok (.iadd, 1) := by decide +kernel
theorem dX9_transfer_131 : decode cX9_transfer 131 = .ok (.invokevirtual 141, 3) := by decide +kernel
theorem dX9_transfer_134 : decode cX9_transfer 134 = .ok (.ireturn, 1) := by decide +kernel
theorem dX9_lastCold_0 : decode cX9_lastCold 0 = .ok (.aload_n 0, 1) := by decide +kernel
theorem dX9_lastCold_1 : decode cX9_lastCold 1 = .ok (.iload_n 1, 1) := by decide +kernel
theorem dX9_lastCold_2 : decode cX9_lastCold 2 = .ok (.bipush 23, 2) := by decide +kernel
theorem dX9_lastCold_4 : decode cX9_lastCold 4 = .ok (.invokevirtual 81, 3) := by decide +kernel
theorem dX9_lastCold_7 : decode cX9_lastCold 7 = .ok (.iconst 1, 1) := by decide +kernel
theorem dX9_lastCold_8 : decode cX9_lastCold 8 = .ok (.isub, 1) := by decide +kernel
theorem dX9_lastCold_9 : decode cX9_lastCold 9 = .ok (.istore_n 2, 1) := by decide +kernel
theorem dX9_lastCold_10 : decode cX9_lastCold 10 = .ok (.iload_n 2, 1) := by decide +kernel
theorem dX9_lastCold_11 : decode cX9_lastCold 11 = .ok (.ifCond .lt 29, 3) := by decide +kernel
theorem dX9_lastCold_14 : decode cX9_lastCold 14 = .ok (.aload_n 0, 1) := by decide +kernel
theorem dX9_lastCold_15 : decode cX9_lastCold 15 = .ok (.iload_n 1, 1) := by decide +kernel
theorem dX9_lastCold_16 : decode cX9_lastCold 16 = .ok (.iload_n 2, 1) := by decide +kernel
theorem dX9_lastCold_17 : decode cX9_lastCold 17 = .ok (.invokevirtual 95, 3) := by decide +kernel
theorem dX9_lastCold_20 : decode cX9_lastCold 20 = .ok (.ifCond .ne 14, 3) := by decide +kernel
theorem dX9_lastCold_23 : decode cX9_lastCold 23 = .ok (.aload_n 0, 1) := by decide +kernel
theorem dX9_lastCold_24 : decode cX9_lastCold 24 = .ok (.iload_n 1, 1) := by decide +kernel
theorem dX9_lastCold_25 : decode cX9_lastCold 25 = .ok (.iload_n 2, 1) := by decide +kernel
theorem dX9_lastCold_26 : decode cX9_lastCold 26 = .ok (.invokevirtual 91, 3) := by decide +kernel
theorem dX9_lastCold_29 : decode cX9_lastCold 29 = .ok (.ifCond .ne 5, 3) := by decide +kernel
theorem dX9_lastCold_32 : decode cX9_lastCold 32 = .ok (.iload_n 2, 1) := by decide +kernel
theorem dX9_lastCold_33 : decode cX9_lastCold 33 = .ok (.ireturn, 1) := by decide +kernel
theorem dX9_lastCold_34 : decode cX9_lastCold 34 = .ok (.iinc 2 (-1), 3) := by decide +kernel
theorem dX9_lastCold_37 : decode cX9_lastCold 37 = .ok (.goto (-27), 3) := by decide +kernel
theorem dX9_lastCold_40 : decode cX9_lastCold 40 = .ok (.iconst (-1), 1) := by decide +kernel
theorem dX9_lastCold_41 : decode cX9_lastCold 41 = .ok (.ireturn, 1) := by decide +kernel
theorem dX9_dropCold_0 : decode cX9_dropCold 0 = .ok (.aload_n 0, 1) := by decide +kernel
theorem dX9_dropCold_1 : decode cX9_dropCold 1 = .ok (.iload_n 1, 1) := by decide +kernel
theorem dX9_dropCold_2 : decode cX9_dropCold 2 = .ok (.invokevirtual 309, 3) := by decide +kernel
theorem dX9_dropCold_5 : decode cX9_dropCold 5 = .ok (.ifCond .eq 5, 3) := by decide +kernel
theorem dX9_dropCold_8 : decode cX9_dropCold 8 = .ok (.iconst 0, 1) := by decide +kernel
theorem dX9_dropCold_9 : decode cX9_dropCold 9 = .ok (.ireturn, 1) := by decide +kernel
theorem dX9_dropCold_10 : decode cX9_dropCold 10 = .ok (.aload_n 0, 1) := by decide +kernel
theorem dX9_dropCold_11 : decode cX9_dropCold 11 = .ok (.invokevirtual 337, 3) := by decide +kernel
theorem dX9_dropCold_14 : decode cX9_dropCold 14 = .ok (.iconst 0, 1) := by decide +kernel
theorem dX9_dropCold_15 : decode cX9_dropCold 15 = .ok (.istore_n 2, 1) := by decide +kernel
theorem dX9_dropCold_16 : decode cX9_dropCold 16 = .ok (.aload_n 0, 1) := by decide +kernel
theorem dX9_dropCold_17 : decode cX9_dropCold 17 = .ok (.iload_n 1, 1) := by decide +kernel
theorem dX9_dropCold_18 : decode cX9_dropCold 18 = .ok (.bipush 23, 2) := by decide +kernel
theorem dX9_dropCold_20 : decode cX9_dropCold 20 = .ok (.invokevirtual 81, 3) := by decide +kernel
theorem dX9_dropCold_23 : decode cX9_dropCold 23 = .ok (.aload_n 0, 1) := by decide +kernel
theorem dX9_dropCold_24 : decode cX9_dropCold 24 = .ok (.iload_n 1, 1) := by decide +kernel
theorem dX9_dropCold_25 : decode cX9_dropCold 25 = .ok (.iconst 0, 1) := by decide +kernel
theorem dX9_dropCold_26 : decode cX9_dropCold 26 = .ok (.invokevirtual 81, 3) := by decide +kernel
theorem dX9_dropCold_29 : decode cX9_dropCold 29 = .ok (.if_icmp .le 28, 3) := by decide +kernel
theorem dX9_dropCold_32 : decode cX9_dropCold 32 = .ok (.aload_n 0, 1) := by decide +kernel
theorem dX9_dropCold_33 : decode cX9_dropCold 33 = .ok (.iload_n 1, 1) := by decide +kernel
theorem dX9_dropCold_34 : decode cX9_dropCold 34 = .ok (.invokevirtual 346, 3) := by decide +kernel
theorem dX9_dropCold_37 : decode cX9_dropCold 37 = .ok (.iconst (-1), 1) := by decide +kernel
theorem dX9_dropCold_38 : decode cX9_dropCold 38 = .ok (.if_icmp .eq 19, 3) := by decide +kernel
theorem dX9_dropCold_41 : decode cX9_dropCold 41 = .ok (.aload_n 0, 1) := by decide +kernel
theorem dX9_dropCold_42 : decode cX9_dropCold 42 = .ok (.iload_n 1, 1) := by decide +kernel
theorem dX9_dropCold_43 : decode cX9_dropCold 43 = .ok (.aload_n 0, 1) := by decide +kernel
theorem dX9_dropCold_44 : decode cX9_dropCold 44 = .ok (.iload_n 1, 1) := by decide +kernel
theorem dX9_dropCold_45 : decode cX9_dropCold 45 = .ok (.invokevirtual 346, 3) := by decide +kernel
theorem dX9_dropCold_48 : decode cX9_dropCold 48 = .ok (.invokevirtual 144, 3) := by decide +kernel
theorem dX9_dropCold_51 : decode cX9_dropCold 51 = .ok (.iinc 2 1, 3) := by decide +kernel
theorem dX9_dropCold_54 : decode cX9_dropCold 54 = .ok (.goto (-38), 3) := by decide +kernel
theorem dX9_dropCold_57 : decode cX9_dropCold 57 = .ok (.iload_n 2, 1) := by decide +kernel
theorem dX9_dropCold_58 : decode cX9_dropCold 58 = .ok (.ireturn, 1) := by decide +kernel
theorem dX9_hurry_0 : decode cX9_hurry 0 = .ok (.aload_n 0, 1) := by decide +kernel
theorem dX9_hurry_1 : decode cX9_hurry 1 = .ok (.iload_n 1, 1) := by decide +kernel
theorem dX9_hurry_2 : decode cX9_hurry 2 = .ok (.invokevirtual 309, 3) := by decide +kernel
theorem dX9_hurry_5 : decode cX9_hurry 5 = .ok (.ifCond .eq 5, 3) := by decide +kernel
theorem dX9_hurry_8 : decode cX9_hurry 8 = .ok (.iconst 0, 1) := by decide +kernel
theorem dX9_hurry_9 : decode cX9_hurry 9 = .ok (.ireturn, 1) := by decide +kernel
theorem dX9_hurry_10 : decode cX9_hurry 10 = .ok (.aload_n 0, 1) := by decide +kernel
theorem dX9_hurry_11 : decode cX9_hurry 11 = .ok (.invokevirtual 337, 3) := by decide +kernel
theorem dX9_hurry_14 : decode cX9_hurry 14 = .ok (.aload_n 0, 1) := by decide +kernel
theorem dX9_hurry_15 : decode cX9_hurry 15 = .ok (.iload_n 1, 1) := by decide +kernel
theorem dX9_hurry_16 : decode cX9_hurry 16 = .ok (.bipush 12, 2) := by decide +kernel
theorem dX9_hurry_18 : decode cX9_hurry 18 = .ok (.invokevirtual 81, 3) := by decide +kernel
theorem dX9_hurry_21 : decode cX9_hurry 21 = .ok (.istore_n 2, 1) := by decide +kernel
theorem dX9_hurry_22 : decode cX9_hurry 22 = .ok (.aload_n 0, 1) := by decide +kernel
theorem dX9_hurry_23 : decode cX9_hurry 23 = .ok (.iload_n 1, 1) := by decide +kernel
theorem dX9_hurry_24 : decode cX9_hurry 24 = .ok (.bipush 13, 2) := by decide +kernel
theorem dX9_hurry_26 : decode cX9_hurry 26 = .ok (.invokevirtual 81, 3) := by decide +kernel
theorem dX9_hurry_29 : decode cX9_hurry 29 = .ok (.istore_n 3, 1) := by decide +kernel
theorem dX9_hurry_30 : decode cX9_hurry 30 = .ok (.aload_n 0, 1) := by decide +kernel
theorem dX9_hurry_31 : decode cX9_hurry 31 = .ok (.iload_n 1, 1) := by decide +kernel
theorem dX9_hurry_32 : decode cX9_hurry 32 = .ok (.bipush 12, 2) := by decide +kernel
theorem dX9_hurry_34 : decode cX9_hurry 34 = .ok (.iconst 0, 1) := by decide +kernel
theorem dX9_hurry_35 : decode cX9_hurry 35 = .ok (.invokevirtual 64, 3) := by decide +kernel
theorem dX9_hurry_38 : decode cX9_hurry 38 = .ok (.aload_n 0, 1) := by decide +kernel
theorem dX9_hurry_39 : decode cX9_hurry 39 = .ok (.iload_n 1, 1) := by decide +kernel
theorem dX9_hurry_40 : decode cX9_hurry 40 = .ok (.bipush 13, 2) := by decide +kernel
theorem dX9_hurry_42 : decode cX9_hurry 42 = .ok (.iconst 0, 1) := by decide +kernel
theorem dX9_hurry_43 : decode cX9_hurry 43 = .ok (.invokevirtual 64, 3) := by decide +kernel
theorem dX9_hurry_46 : decode cX9_hurry 46 = .ok (.aload_n 0, 1) := by decide +kernel
theorem dX9_hurry_47 : decode cX9_hurry 47 = .ok (.invokevirtual 158, 3) := by decide +kernel
theorem dX9_hurry_50 : decode cX9_hurry 50 = .ok (.aload_n 0, 1) := by decide +kernel
theorem dX9_hurry_51 : decode cX9_hurry 51 = .ok (.iload_n 1, 1) := by decide +kernel
theorem dX9_hurry_52 : decode cX9_hurry 52 = .ok (.bipush 12, 2) := by decide +kernel
theorem dX9_hurry_54 : decode cX9_hurry 54 = .ok (.iload_n 2, 1) := by decide +kernel
theorem dX9_hurry_55 : decode cX9_hurry 55 = .ok (.invokevirtual 64, 3) := by decide +kernel
theorem dX9_hurry_58 : decode cX9_hurry 58 = .ok (.aload_n 0, 1) := by decide +kernel
theorem dX9_hurry_59 : decode cX9_hurry 59 = .ok (.iload_n 1, 1) := by decide +kernel
theorem dX9_hurry_60 : decode cX9_hurry 60 = .ok (.bipush 13, 2) := by decide +kernel
theorem dX9_hurry_62 : decode cX9_hurry 62 = .ok (.iload_n 3, 1) := by decide +kernel
theorem dX9_hurry_63 : decode cX9_hurry 63 = .ok (.invokevirtual 64, 3) := by decide +kernel
theorem dX9_hurry_66 : decode cX9_hurry 66 = .ok (.aload_n 0, 1) := by decide +kernel
theorem dX9_hurry_67 : decode cX9_hurry 67 = .ok (.iload_n 1, 1) := by decide +kernel
theorem dX9_hurry_68 : decode cX9_hurry 68 = .ok (.bipush 17, 2) := by decide +kernel
theorem dX9_hurry_70 : decode cX9_hurry 70 = .ok (.invokevirtual 81, 3) := by decide +kernel
theorem dX9_hurry_73 : decode cX9_hurry 73 = .ok (.ireturn, 1) := by decide +kernel
theorem dX9_pause_0 : decode cX9_pause 0 = .ok (.aload_n 0, 1) := by decide +kernel
theorem dX9_pause_1 : decode cX9_pause 1 = .ok (.iload_n 1, 1) := by decide +kernel
theorem dX9_pause_2 : decode cX9_pause 2 = .ok (.invokevirtual 309, 3) := by decide +kernel
theorem dX9_pause_5 : decode cX9_pause 5 = .ok (.ifCond .eq 5, 3) := by decide +kernel
theorem dX9_pause_8 : decode cX9_pause 8 = .ok (.iconst 0, 1) := by decide +kernel
theorem dX9_pause_9 : decode cX9_pause 9 = .ok (.ireturn, 1) := by decide +kernel
theorem dX9_pause_10 : decode cX9_pause 10 = .ok (.aload_n 0, 1) := by decide +kernel
theorem dX9_pause_11 : decode cX9_pause 11 = .ok (.invokevirtual 337, 3) := by decide +kernel
theorem dX9_pause_14 : decode cX9_pause 14 = .ok (.aload_n 0, 1) := by decide +kernel
theorem dX9_pause_15 : decode cX9_pause 15 = .ok (.iload_n 1, 1) := by decide +kernel
theorem dX9_pause_16 : decode cX9_pause 16 = .ok (.bipush 16, 2) := by decide +kernel
theorem dX9_pause_18 : decode cX9_pause 18 = .ok (.invokevirtual 81, 3) := by decide +kernel
theorem dX9_pause_21 : decode cX9_pause 21 = .ok (.iconst 1, 1) := by decide +kernel
theorem dX9_pause_22 : decode cX9_pause 22 = .ok (.if_icmp .ne 7, 3) := by decide +kernel
theorem dX9_pause_25 : decode cX9_pause 25 = .ok (.iconst 1, 1) := by decide +kernel
theorem dX9_pause_26 : decode cX9_pause 26 = .ok (.goto 4, 3) := by decide +kernel
theorem dX9_pause_29 : decode cX9_pause 29 = .ok (.iconst 0, 1) := by decide +kernel
theorem dX9_pause_30 : decode cX9_pause 30 = .ok (.istore_n 3, 1) := by decide +kernel
theorem dX9_pause_31 : decode cX9_pause 31 = .ok (.aload_n 0, 1) := by decide +kernel
theorem dX9_pause_32 : decode cX9_pause 32 = .ok (.iload_n 1, 1) := by decide +kernel
theorem dX9_pause_33 : decode cX9_pause 33 = .ok (.bipush 16, 2) := by decide +kernel
theorem dX9_pause_35 : decode cX9_pause 35 = .ok (.iload_n 2, 1) := by decide +kernel
theorem dX9_pause_36 : decode cX9_pause 36 = .ok (.ifCond .eq 7, 3) := by decide +kernel
theorem dX9_pause_39 : decode cX9_pause 39 = .ok (.iconst 1, 1) := by decide +kernel
theorem dX9_pause_40 : decode cX9_pause 40 = .ok (.goto 4, 3) := by decide +kernel
theorem dX9_pause_43 : decode cX9_pause 43 = .ok (.iconst 0, 1) := by decide +kernel
theorem dX9_pause_44 : decode cX9_pause 44 = .ok (.invokevirtual 64, 3) := by decide +kernel
theorem dX9_pause_47 : decode cX9_pause 47 = .ok (.iload_n 3, 1) := by decide +kernel
theorem dX9_pause_48 : decode cX9_pause 48 = .ok (.ireturn, 1) := by decide +kernel
theorem dX9_setPolicy_0 : decode cX9_setPolicy 0 = .ok (.aload_n 0, 1) := by decide +kernel
theorem dX9_setPolicy_1 : decode cX9_setPolicy 1 = .ok (.iload_n 1, 1) := by decide +kernel
theorem dX9_setPolicy_2 : decode cX9_setPolicy 2 = .ok (.invokevirtual 309, 3) := by decide +kernel
theorem dX9_setPolicy_5 : decode cX9_setPolicy 5 = .ok (.ifCond .ne 47, 3) := by decide +kernel
theorem dX9_setPolicy_8 : decode cX9_setPolicy 8 = .ok (.aload_n 0, 1) := by decide +kernel
theorem dX9_setPolicy_9 : decode cX9_setPolicy 9 = .ok (.iload_n 2, 1) := by decide +kernel
theorem dX9_setPolicy_10 : decode cX9_setPolicy 10 = .ok (.iconst 0, 1) := by decide +kernel
theorem dX9_setPolicy_11 : decode cX9_setPolicy 11 = .ok (.iconst 2, 1) := by decide +kernel
theorem dX9_setPolicy_12 : decode cX9_setPolicy 12 = .ok (.invokestatic 167, 3) := by decide +kernel
theorem dX9_setPolicy_15 : decode cX9_setPolicy 15 = .ok (.ifCond .eq 25, 3) := by decide +kernel
theorem dX9_setPolicy_18 : decode cX9_setPolicy 18 = .ok (.iload_n 2, 1) := by decide +kernel
theorem dX9_setPolicy_19 : decode cX9_setPolicy 19 = .ok (.iconst 2, 1) := by decide +kernel
theorem dX9_setPolicy_20 : decode cX9_setPolicy 20 = .ok (.if_icmp .ne 16, 3) := by decide +kernel
theorem dX9_setPolicy_23 : decode cX9_setPolicy 23 = .ok (.iload_n 3, 1) := by decide +kernel
theorem dX9_setPolicy_24 : decode cX9_setPolicy 24 = .ok (.iconst 2, 1) := by decide +kernel
theorem dX9_setPolicy_25 : decode cX9_setPolicy 25 = .ok (.bipush 24, 2) := by decide +kernel
theorem dX9_setPolicy_27 : decode cX9_setPolicy 27 = .ok (.invokestatic 167, 3) := by decide +kernel
theorem dX9_setPolicy_30 : decode cX9_setPolicy 30 = .ok (.ifCond .ne 14, 3) := by decide +kernel
theorem dX9_setPolicy_33 : decode cX9_setPolicy 33 = .ok (.goto 7, 3) := by decide +kernel
theorem dX9_setPolicy_36 : decode cX9_setPolicy 36 = .ok (.iload_n 3, 1) := by decide +kernel
theorem dX9_setPolicy_37 : decode cX9_setPolicy 37 = .ok (.ifCond .eq 7, 3) := by decide +kernel
theorem dX9_setPolicy_40 : decode cX9_setPolicy 40 = .ok (.iconst 1, 1) := by decide +kernel
theorem dX9_setPolicy_41 : decode cX9_setPolicy 41 = .ok (.goto 4, 3) := by decide +kernel
theorem dX9_setPolicy_44 : decode cX9_setPolicy 44 = .ok (.iconst 0, 1) := by decide +kernel
theorem dX9_setPolicy_45 : decode cX9_setPolicy 45 = .ok (.iconst 2, 1) := by decide +kernel
theorem dX9_setPolicy_46 : decode cX9_setPolicy 46 = .ok (.invokevirtual 302, 3) := by decide +kernel
theorem dX9_setPolicy_49 : decode cX9_setPolicy 49 = .ok (.ifCond .eq 5, 3) := by decide +kernel
theorem dX9_setPolicy_52 : decode cX9_setPolicy 52 = .ok (.iconst 0, 1) := by decide +kernel
theorem dX9_setPolicy_53 : decode cX9_setPolicy 53 = .ok (.ireturn, 1) := by decide +kernel
theorem dX9_setPolicy_54 : decode cX9_setPolicy 54 = .ok (.aload_n 0, 1) := by decide +kernel
theorem dX9_setPolicy_55 : decode cX9_setPolicy 55 = .ok (.invokevirtual 337, 3) := by decide +kernel
theorem dX9_setPolicy_58 : decode cX9_setPolicy 58 = .ok (.aload_n 0, 1) := by decide +kernel
theorem dX9_setPolicy_59 : decode cX9_setPolicy 59 = .ok (.iload_n 1, 1) := by decide +kernel
theorem dX9_setPolicy_60 : decode cX9_setPolicy 60 = .ok (.bipush 7, 2) := by decide +kernel
theorem dX9_setPolicy_62 : decode cX9_setPolicy 62 = .ok (.invokevirtual 81, 3) := by decide +kernel
theorem dX9_setPolicy_65 : decode cX9_setPolicy 65 = .ok (.istore 4, 2) := by decide +kernel
theorem dX9_setPolicy_67 : decode cX9_setPolicy 67 = .ok (.aload_n 0, 1) := by decide +kernel
theorem dX9_setPolicy_68 : decode cX9_setPolicy 68 = .ok (.iload_n 1, 1) := by decide +kernel
theorem dX9_setPolicy_69 : decode cX9_setPolicy 69 = .ok (.bipush 7, 2) := by decide +kernel
theorem dX9_setPolicy_71 : decode cX9_setPolicy 71 = .ok (.iload_n 2, 1) := by decide +kernel
theorem dX9_setPolicy_72 : decode cX9_setPolicy 72 = .ok (.invokevirtual 64, 3) := by decide +kernel
theorem dX9_setPolicy_75 : decode cX9_setPolicy 75 = .ok (.aload_n 0, 1) := by decide +kernel
theorem dX9_setPolicy_76 : decode cX9_setPolicy 76 = .ok (.iload_n 1, 1) := by decide +kernel
theorem dX9_setPolicy_77 : decode cX9_setPolicy 77 = .ok (.bipush 8, 2) := by decide +kernel
theorem dX9_setPolicy_79 : decode cX9_setPolicy 79 = .ok (.iload_n 3, 1) := by decide +kernel
theorem dX9_setPolicy_80 : decode cX9_setPolicy 80 = .ok (.invokevirtual 64, 3) := by decide +kernel
theorem dX9_setPolicy_83 : decode cX9_setPolicy 83 = .ok (.iload 4, 2) := by decide +kernel
theorem dX9_setPolicy_85 : decode cX9_setPolicy 85 = .ok (.ireturn, 1) := by decide +kernel
theorem dX9_setTarget_0 : decode cX9_setTarget 0 = .ok (.aload_n 0, 1) := by decide +kernel
theorem dX9_setTarget_1 : decode cX9_setTarget 1 = .ok (.iload_n 1, 1) := by decide +kernel
theorem dX9_setTarget_2 : decode cX9_setTarget 2 = .ok (.invokevirtual 309, 3) := by decide +kernel
theorem dX9_setTarget_5 : decode cX9_setTarget 5 = .ok (.ifCond .ne 27, 3) := by decide +kernel
theorem dX9_setTarget_8 : decode cX9_setTarget 8 = .ok (.aload_n 0, 1) := by decide +kernel
theorem dX9_setTarget_9 : decode cX9_setTarget 9 = .ok (.iload_n 2, 1) := by decide +kernel
theorem dX9_setTarget_10 : decode cX9_setTarget 10 = .ok (.bipush 10, 2) := by decide +kernel
theorem dX9_setTarget_12 : decode cX9_setTarget 12 = .ok (.bipush 100, 2) := by decide +kernel
theorem dX9_setTarget_14 : decode cX9_setTarget 14 = .ok (.invokestatic 167, 3) := by decide +kernel
theorem dX9_setTarget_17 : decode cX9_setTarget 17 = .ok (.ifCond .ne 7, 3) := by decide +kernel
theorem dX9_setTarget_20 : decode cX9_setTarget 20 = .ok (.iconst 1, 1) := by decide +kernel
theorem dX9_setTarget_21 : decode cX9_setTarget 21 = .ok (.goto 4, 3) := by decide +kernel
theorem dX9_setTarget_24 : decode cX9_setTarget 24 = .ok (.iconst 0, 1) := by decide +kernel
theorem dX9_setTarget_25 : decode cX9_setTarget 25 = .ok (.iconst 2, 1) := by decide +kernel
theorem dX9_setTarget_26 : decode cX9_setTarget 26 = .ok (.invokevirtual 302, 3) := by decide +kernel
theorem dX9_setTarget_29 : decode cX9_setTarget 29 = .ok (.ifCond .eq 5, 3) := by decide +kernel
theorem dX9_setTarget_32 : decode cX9_setTarget 32 = .ok (.iconst 0, 1) := by decide +kernel
theorem dX9_setTarget_33 : decode cX9_setTarget 33 = .ok (.ireturn, 1) := by decide +kernel
theorem dX9_setTarget_34 : decode cX9_setTarget 34 = .ok (.aload_n 0, 1) := by decide +kernel
theorem dX9_setTarget_35 : decode cX9_setTarget 35 = .ok (.invokevirtual 337, 3) := by decide +kernel
theorem dX9_setTarget_38 : decode cX9_setTarget 38 = .ok (.aload_n 0, 1) := by decide +kernel
theorem dX9_setTarget_39 : decode cX9_setTarget 39 = .ok (.iload_n 1, 1) := by decide +kernel
theorem dX9_setTarget_40 : decode cX9_setTarget 40 = .ok (.iconst 3, 1) := by decide +kernel
theorem dX9_setTarget_41 : decode cX9_setTarget 41 = .ok (.invokevirtual 81, 3) := by decide +kernel
theorem dX9_setTarget_44 : decode cX9_setTarget 44 = .ok (.istore_n 3, 1) := by decide +kernel
theorem dX9_setTarget_45 : decode cX9_setTarget 45 = .ok (.aload_n 0, 1) := by decide +kernel
theorem dX9_setTarget_46 : decode cX9_setTarget 46 = .ok (.iload_n 1, 1) := by decide +kernel
theorem dX9_setTarget_47 : decode cX9_setTarget 47 = .ok (.iconst 3, 1) := by decide +kernel
theorem dX9_setTarget_48 : decode cX9_setTarget 48 = .ok (.iload_n 2, 1) := by decide +kernel
theorem dX9_setTarget_49 : decode cX9_setTarget 49 = .ok (.invokevirtual 64, 3) := by decide +kernel
theorem dX9_setTarget_52 : decode cX9_setTarget 52 = .ok (.iload_n 3, 1) := by decide +kernel
theorem dX9_setTarget_53 : decode cX9_setTarget 53 = .ok (.ireturn, 1) := by decide +kernel
theorem dX9_setCool_0 : decode cX9_setCool 0 = .ok (.aload_n 0, 1) := by decide +kernel
theorem dX9_setCool_1 : decode cX9_setCool 1 = .ok (.iload_n 1, 1) := by decide +kernel
theorem dX9_setCool_2 : decode cX9_setCool 2 = .ok (.invokevirtual 309, 3) := by decide +kernel
theorem dX9_setCool_5 : decode cX9_setCool 5 = .ok (.ifCond .ne 36, 3) := by decide +kernel
theorem dX9_setCool_8 : decode cX9_setCool 8 = .ok (.aload_n 0, 1) := by decide +kernel
theorem dX9_setCool_9 : decode cX9_setCool 9 = .ok (.iload_n 2, 1) := by decide +kernel
theorem dX9_setCool_10 : decode cX9_setCool 10 = .ok (.iconst 0, 1) := by decide +kernel
theorem dX9_setCool_11 : decode cX9_setCool 11 = .ok (.bipush 30, 2) := by decide +kernel
theorem dX9_setCool_13 : decode cX9_setCool 13 = .ok (.invokestatic 167, 3) := by decide +kernel
theorem dX9_setCool_16 : decode cX9_setCool 16 = .ok (.ifCond .eq 13, 3) := by decide +kernel
theorem dX9_setCool_19 : decode cX9_setCool 19 = .ok (.iload_n 3, 1) := by decide +kernel
theorem dX9_setCool_20 : decode cX9_setCool 20 = .ok (.iconst 0, 1) := by decide +kernel
theorem dX9_setCool_21 : decode cX9_setCool 21 = .ok (.bipush 30, 2) := by decide +kernel
theorem dX9_setCool_23 : decode cX9_setCool 23 = .ok (.invokestatic 167, 3) := by decide +kernel
theorem dX9_setCool_26 : decode cX9_setCool 26 = .ok (.ifCond .ne 7, 3) := by decide +kernel
theorem dX9_setCool_29 : decode cX9_setCool 29 = .ok (.iconst 1, 1) := by decide +kernel
theorem dX9_setCool_30 : decode cX9_setCool 30 = .ok (.goto 4, 3) := by decide +kernel
theorem dX9_setCool_33 : decode cX9_setCool 33 = .ok (.iconst 0, 1) := by decide +kernel
theorem dX9_setCool_34 : decode cX9_setCool 34 = .ok (.iconst 2, 1) := by decide +kernel
theorem dX9_setCool_35 : decode cX9_setCool 35 = .ok (.invokevirtual 302, 3) := by decide +kernel
theorem dX9_setCool_38 : decode cX9_setCool 38 = .ok (.ifCond .eq 5, 3) := by decide +kernel
theorem dX9_setCool_41 : decode cX9_setCool 41 = .ok (.iconst 0, 1) := by decide +kernel
theorem dX9_setCool_42 : decode cX9_setCool 42 = .ok (.ireturn, 1) := by decide +kernel
theorem dX9_setCool_43 : decode cX9_setCool 43 = .ok (.aload_n 0, 1) := by decide +kernel
theorem dX9_setCool_44 : decode cX9_setCool 44 = .ok (.invokevirtual 337, 3) := by decide +kernel
theorem dX9_setCool_47 : decode cX9_setCool 47 = .ok (.bipush 100, 2) := by decide +kernel
theorem dX9_setCool_49 : decode cX9_setCool 49 = .ok (.aload_n 0, 1) := by decide +kernel
theorem dX9_setCool_50 : decode cX9_setCool 50 = .ok (.iload_n 1, 1) := by decide +kernel
theorem dX9_setCool_51 : decode cX9_setCool 51 = .ok (.bipush 12, 2) := by decide +kernel
theorem dX9_setCool_53 : decode cX9_setCool 53 = .ok (.invokevirtual 81, 3) := by decide +kernel
theorem dX9_setCool_56 : decode cX9_setCool 56 = .ok (.imul, 1) := by decide +kernel
theorem dX9_setCool_57 : decode cX9_setCool 57 = .ok (.aload_n 0, 1) := by decide +kernel
theorem dX9_setCool_58 : decode cX9_setCool 58 = .ok (.iload_n 1, 1) := by decide +kernel
theorem dX9_setCool_59 : decode cX9_setCool 59 = .ok (.bipush 13, 2) := by decide +kernel
theorem dX9_setCool_61 : decode cX9_setCool 61 = .ok (.invokevirtual 81, 3) := by decide +kernel
theorem dX9_setCool_64 : decode cX9_setCool 64 = .ok (.iadd, 1) := by decide +kernel
theorem dX9_setCool_65 : decode cX9_setCool 65 = .ok (.istore 4, 2) := by decide +kernel
theorem dX9_setCool_67 : decode cX9_setCool 67 = .ok (.aload_n 0, 1) := by decide +kernel
theorem dX9_setCool_68 : decode cX9_setCool 68 = .ok (.iload_n 1, 1) := by decide +kernel
theorem dX9_setCool_69 : decode cX9_setCool 69 = .ok (.bipush 12, 2) := by decide +kernel
theorem dX9_setCool_71 : decode cX9_setCool 71 = .ok (.iload_n 2, 1) := by decide +kernel
theorem dX9_setCool_72 : decode cX9_setCool 72 = .ok (.invokevirtual 64, 3) := by decide +kernel
theorem dX9_setCool_75 : decode cX9_setCool 75 = .ok (.aload_n 0, 1) := by decide +kernel
theorem dX9_setCool_76 : decode cX9_setCool 76 = .ok (.iload_n 1, 1) := by decide +kernel
theorem dX9_setCool_77 : decode cX9_setCool 77 = .ok (.bipush 13, 2) := by decide +kernel
theorem dX9_setCool_79 : decode cX9_setCool 79 = .ok (.iload_n 3, 1) := by decide +kernel
theorem dX9_setCool_80 : decode cX9_setCool 80 = .ok (.invokevirtual 64, 3) := by decide +kernel
theorem dX9_setCool_83 : decode cX9_setCool 83 = .ok (.iload 4, 2) := by decide +kernel
theorem dX9_setCool_85 : decode cX9_setCool 85 = .ok (.ireturn, 1) := by decide +kernel
theorem dX9_setBounds_0 : decode cX9_setBounds 0 = .ok (.aload_n 0, 1) := by decide +kernel
theorem dX9_setBounds_1 : decode cX9_setBounds 1 = .ok (.iload_n 1, 1) := by decide +kernel
theorem dX9_setBounds_2 : decode cX9_setBounds 2 = .ok (.invokevirtual 309, 3) := by decide +kernel
theorem dX9_setBounds_5 : decode cX9_setBounds 5 = .ok (.ifCond .ne 40, 3) := by decide +kernel
theorem dX9_setBounds_8 : decode cX9_setBounds 8 = .ok (.aload_n 0, 1) := by decide +kernel
theorem dX9_setBounds_9 : decode cX9_setBounds 9 = .ok (.iload_n 2, 1) := by decide +kernel
theorem dX9_setBounds_10 : decode cX9_setBounds 10 = .ok (.iconst 0, 1) := by decide +kernel
theorem dX9_setBounds_11 : decode cX9_setBounds 11 = .ok (.bipush 20, 2) := by decide +kernel
theorem dX9_setBounds_13 : decode cX9_setBounds 13 = .ok (.invokestatic 167, 3) := by decide +kernel
theorem dX9_setBounds_16 : decode cX9_setBounds 16 = .ok (.ifCond .eq 17, 3) := by decide +kernel
theorem dX9_setBounds_19 : decode cX9_setBounds 19 = .ok (.iload_n 3, 1) := by decide +kernel
theorem dX9_setBounds_20 : decode cX9_setBounds 20 = .ok (.iconst 1, 1) := by decide +kernel
theorem dX9_setBounds_21 : decode cX9_setBounds 21 = .ok (.iload_n 2, 1) := by decide +kernel
theorem dX9_setBounds_22 : decode cX9_setBounds 22 = .ok (.invokestatic 123, 3) := by decide +kernel
theorem dX9_setBounds_25 : decode cX9_setBounds 25 = .ok (.bipush 20, 2) := by decide +kernel
theorem dX9_setBounds_27 : decode cX9_setBounds 27 = .ok (.invokestatic 167, 3) := by decide +kernel
theorem dX9_setBounds_30 : decode cX9_setBounds 30 = .ok (.ifCond .ne 7, 3) := by decide +kernel
theorem dX9_setBounds_33 : decode cX9_setBounds 33 = .ok (.iconst 1, 1) := by decide +kernel
theorem dX9_setBounds_34 : decode cX9_setBounds 34 = .ok (.goto 4, 3) := by decide +kernel
theorem dX9_setBounds_37 : decode cX9_setBounds 37 = .ok (.iconst 0, 1) := by decide +kernel
theorem dX9_setBounds_38 : decode cX9_setBounds 38 = .ok (.iconst 2, 1) := by decide +kernel
theorem dX9_setBounds_39 : decode cX9_setBounds 39 = .ok (.invokevirtual 302, 3) := by decide +kernel
theorem dX9_setBounds_42 : decode cX9_setBounds 42 = .ok (.ifCond .eq 5, 3) := by decide +kernel
theorem dX9_setBounds_45 : decode cX9_setBounds 45 = .ok (.iconst 0, 1) := by decide +kernel
theorem dX9_setBounds_46 : decode cX9_setBounds 46 = .ok (.ireturn, 1) := by decide +kernel
theorem dX9_setBounds_47 : decode cX9_setBounds 47 = .ok (.aload_n 0, 1) := by decide +kernel
theorem dX9_setBounds_48 : decode cX9_setBounds 48 = .ok (.invokevirtual 337, 3) := by decide +kernel
theorem dX9_setBounds_51 : decode cX9_setBounds 51 = .ok (.bipush 100, 2) := by decide +kernel
theorem dX9_setBounds_53 : decode cX9_setBounds 53 = .ok (.aload_n 0, 1) := by decide +kernel
theorem dX9_setBounds_54 : decode cX9_setBounds 54 = .ok (.iload_n 1, 1) := by decide +kernel
theorem dX9_setBounds_55 : decode cX9_setBounds 55 = .ok (.iconst 0, 1) := by decide +kernel
theorem dX9_setBounds_56 : decode cX9_setBounds 56 = .ok (.invokevirtual 81, 3) := by decide +kernel
theorem dX9_setBounds_59 : decode cX9_setBounds 59 = .ok (.imul, 1) := by decide +kernel
theorem dX9_setBounds_60 : decode cX9_setBounds 60 = .ok (.aload_n 0, 1) := by decide +kernel
theorem dX9_setBounds_61 : decode cX9_setBounds 61 = .ok (.iload_n 1, 1) := by decide +kernel
theorem dX9_setBounds_62 : decode cX9_setBounds 62 = .ok (.iconst 1, 1) := by decide +kernel
theorem dX9_setBounds_63 : decode cX9_setBounds 63 = .ok (.invokevirtual 81, 3) := by decide +kernel
theorem dX9_setBounds_66 : decode cX9_setBounds 66 = .ok (.iadd, 1) := by decide +kernel
theorem dX9_setBounds_67 : decode cX9_setBounds 67 = .ok (.istore 4, 2) := by decide +kernel
theorem dX9_setBounds_69 : decode cX9_setBounds 69 = .ok (.aload_n 0, 1) := by decide +kernel
theorem dX9_setBounds_70 : decode cX9_setBounds 70 = .ok (.iload_n 1, 1) := by decide +kernel
theorem dX9_setBounds_71 : decode cX9_setBounds 71 = .ok (.iconst 0, 1) := by decide +kernel
theorem dX9_setBounds_72 : decode cX9_setBounds 72 = .ok (.iload_n 2, 1) := by decide +kernel
theorem dX9_setBounds_73 : decode cX9_setBounds 73 = .ok (.invokevirtual 64, 3) := by decide +kernel
theorem dX9_setBounds_76 : decode cX9_setBounds 76 = .ok (.aload_n 0, 1) := by decide +kernel
theorem dX9_setBounds_77 : decode cX9_setBounds 77 = .ok (.iload_n 1, 1) := by decide +kernel
theorem dX9_setBounds_78 : decode cX9_setBounds 78 = .ok (.iconst 1, 1) := by decide +kernel
theorem dX9_setBounds_79 : decode cX9_setBounds 79 = .ok (.iload_n 3, 1) := by decide +kernel
theorem dX9_setBounds_80 : decode cX9_setBounds 80 = .ok (.invokevirtual 64, 3) := by decide +kernel
theorem dX9_setBounds_83 : decode cX9_setBounds 83 = .ok (.iload 4, 2) := by decide +kernel
theorem dX9_setBounds_85 : decode cX9_setBounds 85 = .ok (.ireturn, 1) := by decide +kernel
theorem dX9_setLoad_0 : decode cX9_setLoad 0 = .ok (.aload_n 0, 1) := by decide +kernel
theorem dX9_setLoad_1 : decode cX9_setLoad 1 = .ok (.iload_n 1, 1) := by decide +kernel
theorem dX9_setLoad_2 : decode cX9_setLoad 2 = .ok (.invokevirtual 309, 3) := by decide +kernel
theorem dX9_setLoad_5 : decode cX9_setLoad 5 = .ok (.ifCond .ne 57, 3) := by decide +kernel
theorem dX9_setLoad_8 : decode cX9_setLoad 8 = .ok (.aload_n 0, 1) := by decide +kernel
theorem dX9_setLoad_9 : decode cX9_setLoad 9 = .ok (.iload_n 3, 1) := by decide +kernel
theorem dX9_setLoad_10 : decode cX9_setLoad 10 = .ok (.iconst 0, 1) := by decide +kernel
theorem dX9_setLoad_11 : decode cX9_setLoad 11 = .ok (.sipush 999, 3) := by decide +kernel
theorem dX9_setLoad_14 : decode cX9_setLoad 14 = .ok (.invokestatic 167, 3) := by decide +kernel
theorem dX9_setLoad_17 : decode cX9_setLoad 17 = .ok (.ifCond .ne 7, 3) := by decide +kernel
theorem dX9_setLoad_20 : decode cX9_setLoad 20 = .ok (.iconst 1, 1) := by decide +kernel
theorem dX9_setLoad_21 : decode cX9_setLoad 21 = .ok (.goto 4, 3) := by decide +kernel
theorem dX9_setLoad_24 : decode cX9_setLoad 24 = .ok (.iconst 0, 1) := by decide +kernel
theorem dX9_setLoad_25 : decode cX9_setLoad 25 = .ok (.iconst 2, 1) := by decide +kernel
theorem dX9_setLoad_26 : decode cX9_setLoad 26 = .ok (.invokevirtual 302, 3) := by decide +kernel
theorem dX9_setLoad_29 : decode cX9_setLoad 29 = .ok (.ifCond .ne 33, 3) := by decide +kernel
theorem dX9_setLoad_32 : decode cX9_setLoad 32 = .ok (.aload_n 0, 1) := by decide +kernel
theorem dX9_setLoad_33 : decode cX9_setLoad 33 = .ok (.iload_n 2, 1) := by decide +kernel
theorem dX9_setLoad_34 : decode cX9_setLoad 34 = .ok (.iconst 0, 1) := by decide +kernel
theorem dX9_setLoad_35 : decode cX9_setLoad 35 = .ok (.aload_n 0, 1) := by decide +kernel
theorem dX9_setLoad_36 : decode cX9_setLoad 36 = .ok (.iload_n 1, 1) := by decide +kernel
theorem dX9_setLoad_37 : decode cX9_setLoad 37 = .ok (.bipush 24, 2) := by decide +kernel
theorem dX9_setLoad_39 : decode cX9_setLoad 39 = .ok (.invokevirtual 81, 3) := by decide +kernel
theorem dX9_setLoad_42 : decode cX9_setLoad 42 = .ok (.iconst 1, 1) := by decide +kernel
theorem dX9_setLoad_43 : decode cX9_setLoad 43 = .ok (.isub, 1) := by decide +kernel
theorem dX9_setLoad_44 : decode cX9_setLoad 44 = .ok (.invokestatic 167, 3) := by decide +kernel
theorem dX9_setLoad_47 : decode cX9_setLoad 47 = .ok (.ifCond .ne 7, 3) := by decide +kernel
theorem dX9_setLoad_50 : decode cX9_setLoad 50 = .ok (.iconst 1, 1) := by decide +kernel
theorem dX9_setLoad_51 : decode cX9_setLoad 51 = .ok (.goto 4, 3) := by decide +kernel
theorem dX9_setLoad_54 : decode cX9_setLoad 54 = .ok (.iconst 0, 1) := by decide +kernel
theorem dX9_setLoad_55 : decode cX9_setLoad 55 = .ok (.iconst 3, 1) := by decide +kernel
theorem dX9_setLoad_56 : decode cX9_setLoad 56 = .ok (.invokevirtual 302, 3) := by decide +kernel
theorem dX9_setLoad_59 : decode cX9_setLoad 59 = .ok (.ifCond .eq 5, 3) := by decide +kernel
theorem dX9_setLoad_62 : decode cX9_setLoad 62 = .ok (.iconst 0, 1) := by decide +kernel
theorem dX9_setLoad_63 : decode cX9_setLoad 63 = .ok (.ireturn, 1) := by decide +kernel
theorem dX9_setLoad_64 : decode cX9_setLoad 64 = .ok (.aload_n 0, 1) := by decide +kernel
theorem dX9_setLoad_65 : decode cX9_setLoad 65 = .ok (.invokevirtual 337, 3) := by decide +kernel
theorem dX9_setLoad_68 : decode cX9_setLoad 68 = .ok (.aload_n 0, 1) := by decide +kernel
theorem dX9_setLoad_69 : decode cX9_setLoad 69 = .ok (.iload_n 1, 1) := by decide +kernel
theorem dX9_setLoad_70 : decode cX9_setLoad 70 = .ok (.bipush 36, 2) := by decide +kernel
theorem dX9_setLoad_72 : decode cX9_setLoad 72 = .ok (.iload_n 2, 1) := by decide +kernel
theorem dX9_setLoad_73 : decode cX9_setLoad 73 = .ok (.iadd, 1) := by decide +kernel
theorem dX9_setLoad_74 : decode cX9_setLoad 74 = .ok (.invokevirtual 81, 3) := by decide +kernel
theorem dX9_setLoad_77 : decode cX9_setLoad 77 = .ok (.istore 4, 2) := by decide +kernel
theorem dX9_setLoad_79 : decode cX9_setLoad 79 = .ok (.aload_n 0, 1) := by decide +kernel
theorem dX9_setLoad_80 : decode cX9_setLoad 80 = .ok (.iload_n 1, 1) := by decide +kernel
theorem dX9_setLoad_81 : decode cX9_setLoad 81 = .ok (.bipush 36, 2) := by decide +kernel
theorem dX9_setLoad_83 : decode cX9_setLoad 83 = .ok (.iload_n 2, 1) := by decide +kernel
theorem dX9_setLoad_84 : decode cX9_setLoad 84 = .ok (.iadd, 1) := by decide +kernel
theorem dX9_setLoad_85 : decode cX9_setLoad 85 = .ok (.iload_n 3, 1) := by decide +kernel
theorem dX9_setLoad_86 : decode cX9_setLoad 86 = .ok (.invokevirtual 64, 3) := by decide +kernel
theorem dX9_setLoad_89 : decode cX9_setLoad 89 = .ok (.iload 4, 2) := by decide +kernel
theorem dX9_setLoad_91 : decode cX9_setLoad 91 = .ok (.ireturn, 1) := by decide +kernel
theorem dX9_noSpan_0 : decode cX9_noSpan 0 = .ok (.aload_n 0, 1) := by decide +kernel
theorem dX9_noSpan_1 : decode cX9_noSpan 1 = .ok (.iload_n 1, 1) := by decide +kernel
theorem dX9_noSpan_2 : decode cX9_noSpan 2 = .ok (.invokevirtual 309, 3) := by decide +kernel
theorem dX9_noSpan_5 : decode cX9_noSpan 5 = .ok (.ifCond .ne 27, 3) := by decide +kernel
theorem dX9_noSpan_8 : decode cX9_noSpan 8 = .ok (.aload_n 0, 1) := by decide +kernel
theorem dX9_noSpan_9 : decode cX9_noSpan 9 = .ok (.iload_n 2, 1) := by decide +kernel
theorem dX9_noSpan_10 : decode cX9_noSpan 10 = .ok (.iconst 1, 1) := by decide +kernel
theorem dX9_noSpan_11 : decode cX9_noSpan 11 = .ok (.sipush 300, 3) := by decide +kernel
theorem dX9_noSpan_14 : decode cX9_noSpan 14 = .ok (.invokestatic 167, 3) := by decide +kernel
theorem dX9_noSpan_17 : decode cX9_noSpan 17 = .ok (.ifCond .ne 7, 3) := by decide +kernel
theorem dX9_noSpan_20 : decode cX9_noSpan 20 = .ok (.iconst 1, 1) := by decide +kernel
theorem dX9_noSpan_21 : decode cX9_noSpan 21 = .ok (.goto 4, 3) := by decide +kernel
theorem dX9_noSpan_24 : decode cX9_noSpan 24 = .ok (.iconst 0, 1) := by decide +kernel
theorem dX9_noSpan_25 : decode cX9_noSpan 25 = .ok (.iconst 2, 1) := by decide +kernel
theorem dX9_noSpan_26 : decode cX9_noSpan 26 = .ok (.invokevirtual 302, 3) := by decide +kernel
theorem dX9_noSpan_29 : decode cX9_noSpan 29 = .ok (.ifCond .eq 7, 3) := by decide +kernel
theorem dX9_noSpan_32 : decode cX9_noSpan 32 = .ok (.iconst 1, 1) := by decide +kernel
theorem dX9_noSpan_33 : decode cX9_noSpan 33 = .ok (.goto 4, 3) := by decide +kernel
theorem dX9_noSpan_36 : decode cX9_noSpan 36 = .ok (.iconst 0, 1) := by decide +kernel
theorem dX9_noSpan_37 : decode cX9_noSpan 37 = .ok (.ireturn, 1) := by decide +kernel
theorem dX9_sizeIn_0 : decode cX9_sizeIn 0 = .ok (.aload_n 0, 1) := by decide +kernel
theorem dX9_sizeIn_1 : decode cX9_sizeIn 1 = .ok (.iload_n 1, 1) := by decide +kernel
theorem dX9_sizeIn_2 : decode cX9_sizeIn 2 = .ok (.iload_n 2, 1) := by decide +kernel
theorem dX9_sizeIn_3 : decode cX9_sizeIn 3 = .ok (.invokevirtual 349, 3) := by decide +kernel
theorem dX9_sizeIn_6 : decode cX9_sizeIn 6 = .ok (.ifCond .eq 5, 3) := by decide +kernel
theorem dX9_sizeIn_9 : decode cX9_sizeIn 9 = .ok (.iconst 0, 1) := by decide +kernel
theorem dX9_sizeIn_10 : decode cX9_sizeIn 10 = .ok (.ireturn, 1) := by decide +kernel
theorem dX9_sizeIn_11 : decode cX9_sizeIn 11 = .ok (.aload_n 0, 1) := by decide +kernel
theorem dX9_sizeIn_12 : decode cX9_sizeIn 12 = .ok (.invokevirtual 352, 3) := by decide +kernel
theorem dX9_sizeIn_15 : decode cX9_sizeIn 15 = .ok (.aload_n 0, 1) := by decide +kernel
theorem dX9_sizeIn_16 : decode cX9_sizeIn 16 = .ok (.aload_n 0, 1) := by decide +kernel
theorem dX9_sizeIn_17 : decode cX9_sizeIn 17 = .ok (.iload_n 2, 1) := by decide +kernel
theorem dX9_sizeIn_18 : decode cX9_sizeIn 18 = .ok (.invokevirtual 340, 3) := by decide +kernel
theorem dX9_sizeIn_21 : decode cX9_sizeIn 21 = .ok (.putfield 355, 3) := by decide +kernel
theorem dX9_sizeIn_24 : decode cX9_sizeIn 24 = .ok (.aload_n 0, 1) := by decide +kernel
theorem dX9_sizeIn_25 : decode cX9_sizeIn 25 = .ok (.iload_n 1, 1) := by decide +kernel
theorem dX9_sizeIn_26 : decode cX9_sizeIn 26 = .ok (.bipush 23, 2) := by decide +kernel
theorem dX9_sizeIn_28 : decode cX9_sizeIn 28 = .ok (.invokevirtual 81, 3) := by decide +kernel
theorem dX9_sizeIn_31 : decode cX9_sizeIn 31 = .ok (.istore_n 3, 1) := by decide +kernel
theorem dX9_sizeIn_32 : decode cX9_sizeIn 32 = .ok (.aload_n 0, 1) := by decide +kernel
theorem dX9_sizeIn_33 : decode cX9_sizeIn 33 = .ok (.invokevirtual 358, 3) := by decide +kernel
theorem dX9_sizeIn_36 : decode cX9_sizeIn 36 = .ok (.iload_n 3, 1) := by decide +kernel
theorem dX9_sizeIn_37 : decode cX9_sizeIn 37 = .ok (.ireturn, 1) := by decide +kernel
theorem dX9_greatestIn_0 : decode cX9_greatestIn 0 = .ok (.aload_n 0, 1) := by decide +kernel
theorem dX9_greatestIn_1 : decode cX9_greatestIn 1 = .ok (.iload_n 1, 1) := by decide +kernel
theorem dX9_greatestIn_2 : decode cX9_greatestIn 2 = .ok (.iload_n 2, 1) := by decide +kernel
theorem dX9_greatestIn_3 : decode cX9_greatestIn 3 = .ok (.invokevirtual 349, 3) := by decide +kernel
theorem dX9_greatestIn_6 : decode cX9_greatestIn 6 = .ok (.ifCond .eq 5, 3) := by decide +kernel
theorem dX9_greatestIn_9 : decode cX9_greatestIn 9 = .ok (.iconst 0, 1) := by decide +kernel
theorem dX9_greatestIn_10 : decode cX9_greatestIn 10 = .ok (.ireturn, 1) := by decide +kernel
theorem dX9_greatestIn_11 : decode cX9_greatestIn 11 = .ok (.aload_n 0, 1) := by decide +kernel
theorem dX9_greatestIn_12 : decode cX9_greatestIn 12 = .ok (.invokevirtual 352, 3) := by decide +kernel
theorem dX9_greatestIn_15 : decode cX9_greatestIn 15 = .ok (.iconst 0, 1) := by decide +kernel
theorem dX9_greatestIn_16 : decode cX9_greatestIn 16 = .ok (.istore_n 3, 1) := by decide +kernel
theorem dX9_greatestIn_17 : decode cX9_greatestIn 17 = .ok (.iconst 0, 1) := by decide +kernel
theorem dX9_greatestIn_18 : decode cX9_greatestIn 18 = .ok (.istore 4, 2) := by decide +kernel
theorem dX9_greatestIn_20 : decode cX9_greatestIn 20 = .ok (.iload 4, 2) := by decide +kernel
theorem dX9_greatestIn_22 : decode cX9_greatestIn 22 = .ok (.iload_n 2, 1) := by decide +kernel
theorem dX9_greatestIn_23 : decode cX9_greatestIn 23 = .ok (.if_icmp .ge 25, 3) := by decide +kernel
theorem dX9_greatestIn_26 : decode cX9_greatestIn 26 = .ok (.aload_n 0, 1) := by decide +kernel
theorem dX9_greatestIn_27 : decode cX9_greatestIn 27 = .ok (.invokevirtual 158, 3) := by decide +kernel
theorem dX9_greatestIn_30 : decode cX9_greatestIn 30 = .ok (.iload_n 3, 1) := by decide +kernel
theorem dX9_greatestIn_31 : decode cX9_greatestIn 31 = .ok (.aload_n 0, 1) := by decide +kernel
theorem dX9_greatestIn_32 : decode cX9_greatestIn 32 = .ok (.iload_n 1, 1) := by decide +kernel
theorem dX9_greatestIn_33 : decode cX9_greatestIn 33 = .ok (.bipush 23, 2) := by decide +kernel
theorem dX9_greatestIn_35 : decode cX9_greatestIn 35 = .ok (.invokevirtual 81, 3) := by decide +kernel
theorem dX9_greatestIn_38 : decode cX9_greatestIn 38 = .ok (.invokestatic 123, 3) := by decide +kernel
theorem dX9_greatestIn_41 : decode cX9_greatestIn 41 = .ok (.istore_n 3, 1) := by decide +kernel
theorem dX9_greatestIn_42 : decode cX9_greatestIn 42 = .ok (.iinc 4 1, 3) := by decide +kernel
theorem dX9_greatestIn_45 : decode cX9_greatestIn 45 = .ok (.goto (-25), 3) := by decide +kernel
theorem dX9_greatestIn_48 : decode cX9_greatestIn 48 = .ok (.aload_n 0, 1) := by decide +kernel
theorem dX9_greatestIn_49 : decode cX9_greatestIn 49 = .ok (.invokevirtual 358, 3) := by decide +kernel
theorem dX9_greatestIn_52 : decode cX9_greatestIn 52 = .ok (.iload_n 3, 1) := by decide +kernel
theorem dX9_greatestIn_53 : decode cX9_greatestIn 53 = .ok (.ireturn, 1) := by decide +kernel
theorem dX9_growsIn_0 : decode cX9_growsIn 0 = .ok (.aload_n 0, 1) := by decide +kernel
theorem dX9_growsIn_1 : decode cX9_growsIn 1 = .ok (.iload_n 1, 1) := by decide +kernel
theorem dX9_growsIn_2 : decode cX9_growsIn 2 = .ok (.iload_n 2, 1) := by decide +kernel
theorem dX9_growsIn_3 : decode cX9_growsIn 3 = .ok (.invokevirtual 333, 3) := by decide +kernel
theorem dX9_growsIn_6 : decode cX9_growsIn 6 = .ok (.lstore 4, 2) := by decide +kernel
theorem dX9_growsIn_8 : decode cX9_growsIn 8 = .ok (.aload_n 0, 1) := by decide +kernel
theorem dX9_growsIn_9 : decode cX9_growsIn 9 = .ok (.aload_n 0, 1) := by decide +kernel
theorem dX9_growsIn_10 : decode cX9_growsIn 10 = .ok (.iload_n 3, 1) := by decide +kernel
theorem dX9_growsIn_11 : decode cX9_growsIn 11 = .ok (.invokevirtual 340, 3) := by decide +kernel
theorem dX9_growsIn_14 : decode cX9_growsIn 14 = .ok (.putfield 355, 3) := by decide +kernel
theorem dX9_growsIn_17 : decode cX9_growsIn 17 = .ok (.aload_n 0, 1) := by decide +kernel
theorem dX9_growsIn_18 : decode cX9_growsIn 18 = .ok (.iload_n 1, 1) := by decide +kernel
theorem dX9_growsIn_19 : decode cX9_growsIn 19 = .ok (.iload_n 2, 1) := by decide +kernel
theorem dX9_growsIn_20 : decode cX9_growsIn 20 = .ok (.invokevirtual 333, 3) := by decide +kernel
theorem dX9_growsIn_23 : decode cX9_growsIn 23 = .ok (.lload 4, 2) := by decide +kernel
theorem dX9_growsIn_25 : decode cX9_growsIn 25 = .ok (.lsub, 1) := by decide +kernel
theorem dX9_growsIn_26 : decode cX9_growsIn 26 = .ok (.lstore 6, 2) := by decide +kernel
theorem dX9_growsIn_28 : decode cX9_growsIn 28 = .ok (.aload_n 0, 1) := by decide +kernel
theorem dX9_growsIn_29 : decode cX9_growsIn 29 = .ok (.invokevirtual 358, 3) := by decide +kernel
theorem dX9_growsIn_32 : decode cX9_growsIn 32 = .ok (.lload 6, 2) := by decide +kernel
theorem dX9_growsIn_34 : decode cX9_growsIn 34 = .ok (.lreturn, 1) := by decide +kernel
theorem dX9_missedIn_0 : decode cX9_missedIn 0 = .ok (.aload_n 0, 1) := by decide +kernel
theorem dX9_missedIn_1 : decode cX9_missedIn 1 = .ok (.iload_n 1, 1) := by decide +kernel
theorem dX9_missedIn_2 : decode cX9_missedIn 2 = .ok (.iload_n 2, 1) := by decide +kernel
theorem dX9_missedIn_3 : decode cX9_missedIn 3 = .ok (.invokevirtual 349, 3) := by decide +kernel
theorem dX9_missedIn_6 : decode cX9_missedIn 6 = .ok (.ifCond .eq 5, 3) := by decide +kernel
theorem dX9_missedIn_9 : decode cX9_missedIn 9 = .ok (.lconst 0, 1) := by decide +kernel
theorem dX9_missedIn_10 : decode cX9_missedIn 10 = .ok (.lreturn, 1) := by decide +kernel
theorem dX9_missedIn_11 : decode cX9_missedIn 11 = .ok (.aload_n 0, 1) := by decide +kernel
theorem dX9_missedIn_12 : decode cX9_missedIn 12 = .ok (.invokevirtual 352, 3) := by decide +kernel
theorem dX9_missedIn_15 : decode cX9_missedIn 15 = .ok (.aload_n 0, 1) := by decide +kernel
theorem dX9_missedIn_16 : decode cX9_missedIn 16 = .ok (.iload_n 1, 1) := by decide +kernel
theorem dX9_missedIn_17 : decode cX9_missedIn 17 = .ok (.iconst 1, 1) := by decide +kernel
theorem dX9_missedIn_18 : decode cX9_missedIn 18 = .ok (.iload_n 2, 1) := by decide +kernel
theorem dX9_missedIn_19 : decode cX9_missedIn 19 = .ok (.invokevirtual 361, 3) := by decide +kernel
theorem dX9_missedIn_22 : decode cX9_missedIn 22 = .ok (.lreturn, 1) := by decide +kernel
theorem dX9_costIn_0 : decode cX9_costIn 0 = .ok (.aload_n 0, 1) := by decide +kernel
theorem dX9_costIn_1 : decode cX9_costIn 1 = .ok (.iload_n 1, 1) := by decide +kernel
theorem dX9_costIn_2 : decode cX9_costIn 2 = .ok (.iload_n 2, 1) := by decide +kernel
theorem dX9_costIn_3 : decode cX9_costIn 3 = .ok (.invokevirtual 349, 3) := by decide +kernel
theorem dX9_costIn_6 : decode cX9_costIn 6 = .ok (.ifCond .eq 5, 3) := by decide +kernel
theorem dX9_costIn_9 : decode cX9_costIn 9 = .ok (.lconst 0, 1) := by decide +kernel
theorem dX9_costIn_10 : decode cX9_costIn 10 = .ok (.lreturn, 1) := by decide +kernel
theorem dX9_costIn_11 : decode cX9_costIn 11 = .ok (.aload_n 0, 1) := by decide +kernel
theorem dX9_costIn_12 : decode cX9_costIn 12 = .ok (.invokevirtual 352, 3) := by decide +kernel
theorem dX9_costIn_15 : decode cX9_costIn 15 = .ok (.aload_n 0, 1) := by decide +kernel
theorem dX9_costIn_16 : decode cX9_costIn 16 = .ok (.iload_n 1, 1) := by decide +kernel
theorem dX9_costIn_17 : decode cX9_costIn 17 = .ok (.iconst 2, 1) := by decide +kernel
theorem dX9_costIn_18 : decode cX9_costIn 18 = .ok (.iload_n 2, 1) := by decide +kernel
theorem dX9_costIn_19 : decode cX9_costIn 19 = .ok (.invokevirtual 361, 3) := by decide +kernel
theorem dX9_costIn_22 : decode cX9_costIn 22 = .ok (.lreturn, 1) := by decide +kernel
theorem dX9_missesIn_0 : decode cX9_missesIn 0 = .ok (.aload_n 0, 1) := by decide +kernel
theorem dX9_missesIn_1 : decode cX9_missesIn 1 = .ok (.iload_n 1, 1) := by decide +kernel
theorem dX9_missesIn_2 : decode cX9_missesIn 2 = .ok (.iload_n 2, 1) := by decide +kernel
theorem dX9_missesIn_3 : decode cX9_missesIn 3 = .ok (.invokevirtual 349, 3) := by decide +kernel
theorem dX9_missesIn_6 : decode cX9_missesIn 6 = .ok (.ifCond .eq 5, 3) := by decide +kernel
theorem dX9_missesIn_9 : decode cX9_missesIn 9 = .ok (.iconst 0, 1) := by decide +kernel
theorem dX9_missesIn_10 : decode cX9_missesIn 10 = .ok (.ireturn, 1) := by decide +kernel
theorem dX9_missesIn_11 : decode cX9_missesIn 11 = .ok (.aload_n 0, 1) := by decide +kernel
theorem dX9_missesIn_12 : decode cX9_missesIn 12 = .ok (.invokevirtual 352, 3) := by decide +kernel
theorem dX9_missesIn_15 : decode cX9_missesIn 15 = .ok (.aload_n 0, 1) := by decide +kernel
theorem dX9_missesIn_16 : decode cX9_missesIn 16 = .ok (.iload_n 1, 1) := by decide +kernel
theorem dX9_missesIn_17 : decode cX9_missesIn 17 = .ok (.iconst 1, 1) := by decide +kernel
theorem dX9_missesIn_18 : decode cX9_missesIn 18 = .ok (.invokevirtual 333, 3) := by decide +kernel
theorem dX9_missesIn_21 : decode cX9_missesIn 21 = .ok (.lstore_n 3, 1) := by decide +kernel
theorem dX9_missesIn_22 : decode cX9_missesIn 22 = .ok (.iconst 0, 1) := by decide +kernel
theorem dX9_missesIn_23 : decode cX9_missesIn 23 = .ok (.istore 5, 2) := by decide +kernel
theorem dX9_missesIn_25 : decode cX9_missesIn 25 = .ok (.iload 5, 2) := by decide +kernel
theorem dX9_missesIn_27 : decode cX9_missesIn 27 = .ok (.iload_n 2, 1) := by decide +kernel
theorem dX9_missesIn_28 : decode cX9_missesIn 28 = .ok (.if_icmp .ge 24, 3) := by decide +kernel
theorem dX9_missesIn_31 : decode cX9_missesIn 31 = .ok (.aload_n 0, 1) := by decide +kernel
theorem dX9_missesIn_32 : decode cX9_missesIn 32 = .ok (.iload_n 1, 1) := by decide +kernel
theorem dX9_missesIn_33 : decode cX9_missesIn 33 = .ok (.iconst 1, 1) := by decide +kernel
theorem dX9_missesIn_34 : decode cX9_missesIn 34 = .ok (.invokevirtual 333, 3) := by decide +kernel
theorem dX9_missesIn_37 : decode cX9_missesIn 37 = .ok (.lload_n 3, 1) := by decide +kernel
theorem dX9_missesIn_38 : decode cX9_missesIn 38 = .ok (.lcmp, 1) := by decide +kernel
theorem dX9_missesIn_39 : decode cX9_missesIn 39 = .ok (.ifCond .ne 13, 3) := by decide +kernel
theorem dX9_missesIn_42 : decode cX9_missesIn 42 = .ok (.aload_n 0, 1) := by decide +kernel
theorem dX9_missesIn_43 : decode cX9_missesIn 43 = .ok (.invokevirtual 158, 3) := by decide +kernel
theorem dX9_missesIn_46 : decode cX9_missesIn 46 = .ok (.iinc 5 1, 3) := by decide +kernel
theorem dX9_missesIn_49 : decode cX9_missesIn 49 = .ok (.goto (-24), 3) := by decide +kernel
theorem dX9_missesIn_52 : decode cX9_missesIn 52 = .ok (.aload_n 0, 1) := by decide +kernel
theorem dX9_missesIn_53 : decode cX9_missesIn 53 = .ok (.iload_n 1, 1) := by decide +kernel
theorem dX9_missesIn_54 : decode cX9_missesIn 54 = .ok (.iconst 1, 1) := by decide +kernel
theorem dX9_missesIn_55 : decode cX9_missesIn 55 = .ok (.invokevirtual 333, 3) := by decide +kernel
theorem dX9_missesIn_58 : decode cX9_missesIn 58 = .ok (.lload_n 3, 1) := by decide +kernel
theorem dX9_missesIn_59 : decode cX9_missesIn 59 = .ok (.lcmp, 1) := by decide +kernel
theorem dX9_missesIn_60 : decode cX9_missesIn 60 = .ok (.ifCond .le 7, 3) := by decide +kernel
theorem dX9_missesIn_63 : decode cX9_missesIn 63 = .ok (.iconst 1, 1) := by decide +kernel
theorem dX9_missesIn_64 : decode cX9_missesIn 64 = .ok (.goto 4, 3) := by decide +kernel
theorem dX9_missesIn_67 : decode cX9_missesIn 67 = .ok (.iconst 0, 1) := by decide +kernel
theorem dX9_missesIn_68 : decode cX9_missesIn 68 = .ok (.istore 6, 2) := by decide +kernel
theorem dX9_missesIn_70 : decode cX9_missesIn 70 = .ok (.aload_n 0, 1) := by decide +kernel
theorem dX9_missesIn_71 : decode cX9_missesIn 71 = .ok (.invokevirtual 358, 3) := by decide +kernel
theorem dX9_missesIn_74 : decode cX9_missesIn 74 = .ok (.iload 6, 2) := by decide +kernel
theorem dX9_missesIn_76 : decode cX9_missesIn 76 = .ok (.ifCond .eq 8, 3) := by decide +kernel
theorem dX9_missesIn_79 : decode cX9_missesIn 79 = .ok (.iload 5, 2) := by decide +kernel
theorem dX9_missesIn_81 : decode cX9_missesIn 81 = .ok (.goto 4, 3) := by decide +kernel
theorem dX9_missesIn_84 : decode cX9_missesIn 84 = .ok (.iconst (-1), 1) := by decide +kernel
theorem dX9_missesIn_85 : decode cX9_missesIn 85 = .ok (.ireturn, 1) := by decide +kernel
theorem dX9_settlesIn_0 : decode cX9_settlesIn 0 = .ok (.aload_n 0, 1) := by decide +kernel
theorem dX9_settlesIn_1 : decode cX9_settlesIn 1 = .ok (.iload_n 1, 1) := by decide +kernel
theorem dX9_settlesIn_2 : decode cX9_settlesIn 2 = .ok (.iload_n 2, 1) := by decide +kernel
theorem dX9_settlesIn_3 : decode cX9_settlesIn 3 = .ok (.invokevirtual 349, 3) := by decide +kernel
theorem dX9_settlesIn_6 : decode cX9_settlesIn 6 = .ok (.ifCond .eq 5, 3) := by decide +kernel
theorem dX9_settlesIn_9 : decode cX9_settlesIn 9 = .ok (.iconst 0, 1) := by decide +kernel
theorem dX9_settlesIn_10 : decode cX9_settlesIn 10 = .ok (.ireturn, 1) := by decide +kernel
theorem dX9_settlesIn_11 : decode cX9_settlesIn 11 = .ok (.aload_n 0, 1) := by decide +kernel
theorem dX9_settlesIn_12 : decode cX9_settlesIn 12 = .ok (.invokevirtual 352, 3) := by decide +kernel
theorem dX9_settlesIn_15 : decode cX9_settlesIn 15 = .ok (.iconst 0, 1) := by decide +kernel
theorem dX9_settlesIn_16 : decode cX9_settlesIn 16 = .ok (.istore_n 3, 1) := by decide +kernel
theorem dX9_settlesIn_17 : decode cX9_settlesIn 17 = .ok (.iconst 0, 1) := by decide +kernel
theorem dX9_settlesIn_18 : decode cX9_settlesIn 18 = .ok (.istore 4, 2) := by decide +kernel
theorem dX9_settlesIn_20 : decode cX9_settlesIn 20 = .ok (.iload 4, 2) := by decide +kernel
theorem dX9_settlesIn_22 : decode cX9_settlesIn 22 = .ok (.iload_n 2, 1) := by decide +kernel
theorem dX9_settlesIn_23 : decode cX9_settlesIn 23 = .ok (.if_icmp .ge 34, 3) := by decide +kernel
theorem dX9_settlesIn_26 : decode cX9_settlesIn 26 = .ok (.iload_n 3, 1) := by decide +kernel
theorem dX9_settlesIn_27 : decode cX9_settlesIn 27 = .ok (.ifCond .ne 30, 3) := by decide +kernel
theorem dX9_settlesIn_30 : decode cX9_settlesIn 30 = .ok (.aload_n 0, 1) := by decide +kernel
theorem dX9_settlesIn_31 : decode cX9_settlesIn 31 = .ok (.invokevirtual 158, 3) := by decide +kernel
theorem dX9_settlesIn_34 : decode cX9_settlesIn 34 = .ok (.iinc 4 1, 3) := by decide +kernel
theorem dX9_settlesIn_37 : decode cX9_settlesIn 37 = .ok (.aload_n 0, 1) := by decide +kernel
theorem dX9_settlesIn_38 : decode cX9_settlesIn 38 = .ok (.iload_n 1, 1) := by decide +kernel
theorem dX9_settlesIn_39 : decode cX9_settlesIn 39 = .ok (.bipush 17, 2) := by decide +kernel
theorem dX9_settlesIn_41 : decode cX9_settlesIn 41 = .ok (.invokevirtual 81, 3) := by decide +kernel
theorem dX9_settlesIn_44 : decode cX9_settlesIn 44 = .ok (.iconst 2, 1) := by decide +kernel
theorem dX9_settlesIn_45 : decode cX9_settlesIn 45 = .ok (.if_icmp .ne 7, 3) := by decide +kernel
theorem dX9_settlesIn_48 : decode cX9_settlesIn 48 = .ok (.iconst 1, 1) := by decide +kernel
theorem dX9_settlesIn_49 : decode cX9_settlesIn 49 = .ok (.goto 4, 3) := by decide +kernel
theorem dX9_settlesIn_52 : decode cX9_settlesIn 52 = .ok (.iconst 0, 1) := by decide +kernel
theorem dX9_settlesIn_53 : decode cX9_settlesIn 53 = .ok (.istore_n 3, 1) := by decide +kernel
theorem dX9_settlesIn_54 : decode cX9_settlesIn 54 = .ok (.goto (-34), 3) := by decide +kernel
theorem dX9_settlesIn_57 : decode cX9_settlesIn 57 = .ok (.aload_n 0, 1) := by decide +kernel
theorem dX9_settlesIn_58 : decode cX9_settlesIn 58 = .ok (.invokevirtual 358, 3) := by decide +kernel
theorem dX9_settlesIn_61 : decode cX9_settlesIn 61 = .ok (.iload_n 3, 1) := by decide +kernel
theorem dX9_settlesIn_62 : decode cX9_settlesIn 62 = .ok (.ifCond .eq 8, 3) := by decide +kernel
theorem dX9_settlesIn_65 : decode cX9_settlesIn 65 = .ok (.iload 4, 2) := by decide +kernel
theorem dX9_settlesIn_67 : decode cX9_settlesIn 67 = .ok (.goto 4, 3) := by decide +kernel
theorem dX9_settlesIn_70 : decode cX9_settlesIn 70 = .ok (.iconst (-1), 1) := by decide +kernel
theorem dX9_settlesIn_71 : decode cX9_settlesIn 71 = .ok (.ireturn, 1) := by decide +kernel
theorem dX9_changesIn_0 : decode cX9_changesIn 0 = .ok (.aload_n 0, 1) := by decide +kernel
theorem dX9_changesIn_1 : decode cX9_changesIn 1 = .ok (.iload_n 1, 1) := by decide +kernel
theorem dX9_changesIn_2 : decode cX9_changesIn 2 = .ok (.iload_n 2, 1) := by decide +kernel
theorem dX9_changesIn_3 : decode cX9_changesIn 3 = .ok (.invokevirtual 349, 3) := by decide +kernel
theorem dX9_changesIn_6 : decode cX9_changesIn 6 = .ok (.ifCond .eq 5, 3) := by decide +kernel
theorem dX9_changesIn_9 : decode cX9_changesIn 9 = .ok (.iconst 0, 1) := by decide +kernel
theorem dX9_changesIn_10 : decode cX9_changesIn 10 = .ok (.ireturn, 1) := by decide +kernel
theorem dX9_changesIn_11 : decode cX9_changesIn 11 = .ok (.aload_n 0, 1) := by decide +kernel
theorem dX9_changesIn_12 : decode cX9_changesIn 12 = .ok (.invokevirtual 352, 3) := by decide +kernel
theorem dX9_changesIn_15 : decode cX9_changesIn 15 = .ok (.iconst 0, 1) := by decide +kernel
theorem dX9_changesIn_16 : decode cX9_changesIn 16 = .ok (.istore_n 3, 1) := by decide +kernel
theorem dX9_changesIn_17 : decode cX9_changesIn 17 = .ok (.iconst 0, 1) := by decide +kernel
theorem dX9_changesIn_18 : decode cX9_changesIn 18 = .ok (.istore 4, 2) := by decide +kernel
theorem dX9_changesIn_20 : decode cX9_changesIn 20 = .ok (.iload 4, 2) := by decide +kernel
theorem dX9_changesIn_22 : decode cX9_changesIn 22 = .ok (.iload_n 2, 1) := by decide +kernel
theorem dX9_changesIn_23 : decode cX9_changesIn 23 = .ok (.if_icmp .ge 70, 3) := by decide +kernel
theorem dX9_changesIn_26 : decode cX9_changesIn 26 = .ok (.aload_n 0, 1) := by decide +kernel
theorem dX9_changesIn_27 : decode cX9_changesIn 27 = .ok (.getfield 7, 3) := by decide +kernel
theorem dX9_changesIn_30 : decode cX9_changesIn 30 = .ok (.iconst 3, 1) := by decide +kernel
theorem dX9_changesIn_31 : decode cX9_changesIn 31 = .ok (.iaload, 1) := by decide +kernel
theorem dX9_changesIn_32 : decode cX9_changesIn 32 = .ok (.istore 5, 2) := by decide +kernel
theorem dX9_changesIn_34 : decode cX9_changesIn 34 = .ok (.aload_n 0, 1) := by decide +kernel
theorem dX9_changesIn_35 : decode cX9_changesIn 35 = .ok (.invokevirtual 158, 3) := by decide +kernel
theorem dX9_changesIn_38 : decode cX9_changesIn 38 = .ok (.iload 5, 2) := by decide +kernel
theorem dX9_changesIn_40 : decode cX9_changesIn 40 = .ok (.istore 6, 2) := by decide +kernel
theorem dX9_changesIn_42 : decode cX9_changesIn 42 = .ok (.iload 6, 2) := by decide +kernel
theorem dX9_changesIn_44 : decode cX9_changesIn 44 = .ok (.aload_n 0, 1) := by decide +kernel
theorem dX9_changesIn_45 : decode cX9_changesIn 45 = .ok (.getfield 7, 3) := by decide +kernel
theorem dX9_changesIn_48 : decode cX9_changesIn 48 = .ok (.iconst 3, 1) := by decide +kernel
theorem dX9_changesIn_49 : decode cX9_changesIn 49 = .ok (.iaload, 1) := by decide +kernel
theorem dX9_changesIn_50 : decode cX9_changesIn 50 = .ok (.if_icmp .ge 37, 3) := by decide +kernel
theorem dX9_changesIn_53 : decode cX9_changesIn 53 = .ok (.iload_n 3, 1) := by decide +kernel
theorem dX9_changesIn_54 : decode cX9_changesIn 54 = .ok (.aload_n 0, 1) := by decide +kernel
theorem dX9_changesIn_55 : decode cX9_changesIn 55 = .ok (.getfield 7, 3) := by decide +kernel
theorem dX9_changesIn_58 : decode cX9_changesIn 58 = .ok (.iconst 4, 1) := by decide +kernel
theorem dX9_changesIn_59 : decode cX9_changesIn 59 = .ok (.iconst 4, 1) := by decide +kernel
theorem dX9_changesIn_60 : decode cX9_changesIn 60 = .ok (.iload 6, 2) := by decide +kernel
theorem dX9_changesIn_62 : decode cX9_changesIn 62 = .ok (.bipush 60, 2) := by decide +kernel
theorem dX9_changesIn_64 : decode cX9_changesIn 64 = .ok (.irem, 1) := by decide +kernel
theorem dX9_changesIn_65 : decode cX9_changesIn 65 = .ok (.imul, 1) := by decide +kernel
theorem dX9_changesIn_66 : decode cX9_changesIn 66 = .ok (.iadd, 1) := by decide +kernel
theorem dX9_changesIn_67 : decode cX9_changesIn 67 = .ok (.iconst 2, 1) := by decide +kernel
theorem dX9_changesIn_68 : decode cX9_changesIn 68 = .ok (.iadd, 1) := by decide +kernel
theorem dX9_changesIn_69 : decode cX9_changesIn 69 = .ok (.iaload, 1) := by decide +kernel
theorem dX9_changesIn_70 : decode cX9_changesIn 70 = .ok (.iload_n 1, 1) := by decide +kernel
theorem dX9_changesIn_71 : decode cX9_changesIn 71 = .ok (.if_icmp .ne 7, 3) := by decide +kernel
theorem dX9_changesIn_74 : decode cX9_changesIn 74 = .ok (.iconst 1, 1) := by decide +kernel
theorem dX9_changesIn_75 : decode cX9_changesIn 75 = .ok (.goto 4, 3) := by decide +kernel
theorem dX9_changesIn_78 : decode cX9_changesIn 78 = .ok (.iconst 0, 1) := by decide +kernel
theorem dX9_changesIn_79 : decode cX9_changesIn 79 = .ok (.iadd, 1) := by decide +kernel
theorem dX9_changesIn_80 : decode cX9_changesIn 80 = .ok (.istore_n 3, 1) := by decide +kernel
theorem dX9_changesIn_81 : decode cX9_changesIn 81 = .ok (.iinc 6 1, 3) := by decide +kernel
theorem dX9_changesIn_84 : decode cX9_changesIn 84 = .ok (.goto (-42), 3) := by decide +kernel
theorem dX9_changesIn_87 : decode cX9_changesIn 87 = .ok (.iinc 4 1, 3) := by decide +kernel
theorem dX9_changesIn_90 : decode cX9_changesIn 90 = .ok (.goto (-70), 3) := by decide +kernel
theorem dX9_changesIn_93 : decode cX9_changesIn 93 = .ok (.aload_n 0, 1) := by decide +kernel
theorem dX9_changesIn_94 : decode cX9_changesIn 94 = .ok (.invokevirtual 358, 3) := by decide +kernel
theorem dX9_changesIn_97 : decode cX9_changesIn 97 = .ok (.iload_n 3, 1) := by decide +kernel
theorem dX9_changesIn_98 : decode cX9_changesIn 98 = .ok (.ireturn, 1) := by decide +kernel
theorem dX9_tries_0 : decode cX9_tries 0 = .ok (.aload_n 0, 1) := by decide +kernel
theorem dX9_tries_1 : decode cX9_tries 1 = .ok (.iload_n 1, 1) := by decide +kernel
theorem dX9_tries_2 : decode cX9_tries 2 = .ok (.bipush 8, 2) := by decide +kernel
theorem dX9_tries_4 : decode cX9_tries 4 = .ok (.invokevirtual 81, 3) := by decide +kernel
theorem dX9_tries_7 : decode cX9_tries 7 = .ok (.ifCond .ne 8, 3) := by decide +kernel
theorem dX9_tries_10 : decode cX9_tries 10 = .ok (.bipush 24, 2) := by decide +kernel
theorem dX9_tries_12 : decode cX9_tries 12 = .ok (.goto 10, 3) := by decide +kernel
theorem dX9_tries_15 : decode cX9_tries 15 = .ok (.aload_n 0, 1) := by decide +kernel
theorem dX9_tries_16 : decode cX9_tries 16 = .ok (.iload_n 1, 1) := by decide +kernel
theorem dX9_tries_17 : decode cX9_tries 17 = .ok (.bipush 8, 2) := by decide +kernel
theorem dX9_tries_19 : decode cX9_tries 19 = .ok (.invokevirtual 81, 3) := by decide +kernel
theorem dX9_tries_22 : decode cX9_tries 22 = .ok (.istore_n 3, 1) := by decide +kernel
theorem dX9_tries_23 : decode cX9_tries 23 = .ok (.aload_n 0, 1) := by decide +kernel
theorem dX9_tries_24 : decode cX9_tries 24 = .ok (.iload_n 1, 1) := by decide +kernel
theorem dX9_tries_25 : decode cX9_tries 25 = .ok (.bipush 7, 2) := by decide +kernel
theorem dX9_tries_27 : decode cX9_tries 27 = .ok (.iload_n 2, 1) := by decide +kernel
theorem dX9_tries_28 : decode cX9_tries 28 = .ok (.invokevirtual 64, 3) := by decide +kernel
theorem dX9_tries_31 : decode cX9_tries 31 = .ok (.aload_n 0, 1) := by decide +kernel
theorem dX9_tries_32 : decode cX9_tries 32 = .ok (.iload_n 1, 1) := by decide +kernel
theorem dX9_tries_33 : decode cX9_tries 33 = .ok (.bipush 8, 2) := by decide +kernel
theorem dX9_tries_35 : decode cX9_tries 35 = .ok (.iload_n 2, 1) := by decide +kernel
theorem dX9_tries_36 : decode cX9_tries 36 = .ok (.iconst 2, 1) := by decide +kernel
theorem dX9_tries_37 : decode cX9_tries 37 = .ok (.if_icmp .ne 7, 3) := by decide +kernel
theorem dX9_tries_40 : decode cX9_tries 40 = .ok (.iload_n 3, 1) := by decide +kernel
theorem dX9_tries_41 : decode cX9_tries 41 = .ok (.goto 4, 3) := by decide +kernel
theorem dX9_tries_44 : decode cX9_tries 44 = .ok (.iconst 0, 1) := by decide +kernel
theorem dX9_tries_45 : decode cX9_tries 45 = .ok (.invokevirtual 64, 3) := by decide +kernel
theorem dX9_tries_48 : decode cX9_tries 48 = .ok (.return_, 1) := by decide +kernel
theorem dX9_errorsWith_0 : decode cX9_errorsWith 0 = .ok (.aload_n 0, 1) := by decide +kernel
theorem dX9_errorsWith_1 : decode cX9_errorsWith 1 = .ok (.iload_n 1, 1) := by decide +kernel
theorem dX9_errorsWith_2 : decode cX9_errorsWith 2 = .ok (.invokevirtual 309, 3) := by decide +kernel
theorem dX9_errorsWith_5 : decode cX9_errorsWith 5 = .ok (.ifCond .ne 34, 3) := by decide +kernel
theorem dX9_errorsWith_8 : decode cX9_errorsWith 8 = .ok (.aload_n 0, 1) := by decide +kernel
theorem dX9_errorsWith_9 : decode cX9_errorsWith 9 = .ok (.iload_n 2, 1) := by decide +kernel
theorem dX9_errorsWith_10 : decode cX9_errorsWith 10 = .ok (.iconst 0, 1) := by decide +kernel
theorem dX9_errorsWith_11 : decode cX9_errorsWith 11 = .ok (.iconst 2, 1) := by decide +kernel
theorem dX9_errorsWith_12 : decode cX9_errorsWith 12 = .ok (.invokestatic 167, 3) := by decide +kernel
theorem dX9_errorsWith_15 : decode cX9_errorsWith 15 = .ok (.ifCond .ne 7, 3) := by decide +kernel
theorem dX9_errorsWith_18 : decode cX9_errorsWith 18 = .ok (.iconst 1, 1) := by decide +kernel
theorem dX9_errorsWith_19 : decode cX9_errorsWith 19 = .ok (.goto 4, 3) := by decide +kernel
theorem dX9_errorsWith_22 : decode cX9_errorsWith 22 = .ok (.iconst 0, 1) := by decide +kernel
theorem dX9_errorsWith_23 : decode cX9_errorsWith 23 = .ok (.iconst 2, 1) := by decide +kernel
theorem dX9_errorsWith_24 : decode cX9_errorsWith 24 = .ok (.invokevirtual 302, 3) := by decide +kernel
theorem dX9_errorsWith_27 : decode cX9_errorsWith 27 = .ok (.ifCond .ne 12, 3) := by decide +kernel
theorem dX9_errorsWith_30 : decode cX9_errorsWith 30 = .ok (.aload_n 0, 1) := by decide +kernel
theorem dX9_errorsWith_31 : decode cX9_errorsWith 31 = .ok (.iload_n 1, 1) := by decide +kernel
theorem dX9_errorsWith_32 : decode cX9_errorsWith 32 = .ok (.iload_n 3, 1) := by decide +kernel
theorem dX9_errorsWith_33 : decode cX9_errorsWith 33 = .ok (.invokevirtual 349, 3) := by decide +kernel
theorem dX9_errorsWith_36 : decode cX9_errorsWith 36 = .ok (.ifCond .eq 5, 3) := by decide +kernel
theorem dX9_errorsWith_39 : decode cX9_errorsWith 39 = .ok (.lconst 0, 1) := by decide +kernel
theorem dX9_errorsWith_40 : decode cX9_errorsWith 40 = .ok (.lreturn, 1) := by decide +kernel
theorem dX9_errorsWith_41 : decode cX9_errorsWith 41 = .ok (.aload_n 0, 1) := by decide +kernel
theorem dX9_errorsWith_42 : decode cX9_errorsWith 42 = .ok (.invokevirtual 352, 3) := by decide +kernel
theorem dX9_errorsWith_45 : decode cX9_errorsWith 45 = .ok (.aload_n 0, 1) := by decide +kernel
theorem dX9_errorsWith_46 : decode cX9_errorsWith 46 = .ok (.iload_n 1, 1) := by decide +kernel
theorem dX9_errorsWith_47 : decode cX9_errorsWith 47 = .ok (.iload_n 2, 1) := by decide +kernel
theorem dX9_errorsWith_48 : decode cX9_errorsWith 48 = .ok (.invokevirtual 365, 3) := by decide +kernel
theorem dX9_errorsWith_51 : decode cX9_errorsWith 51 = .ok (.aload_n 0, 1) := by decide +kernel
theorem dX9_errorsWith_52 : decode cX9_errorsWith 52 = .ok (.iload_n 1, 1) := by decide +kernel
theorem dX9_errorsWith_53 : decode cX9_errorsWith 53 = .ok (.iconst 3, 1) := by decide +kernel
theorem dX9_errorsWith_54 : decode cX9_errorsWith 54 = .ok (.iload_n 3, 1) := by decide +kernel
theorem dX9_errorsWith_55 : decode cX9_errorsWith 55 = .ok (.invokevirtual 361, 3) := by decide +kernel
theorem dX9_errorsWith_58 : decode cX9_errorsWith 58 = .ok (.lreturn, 1) := by decide +kernel
theorem dX9_bestPolicy_0 : decode cX9_bestPolicy 0 = .ok (.aload_n 0, 1) := by decide +kernel
theorem dX9_bestPolicy_1 : decode cX9_bestPolicy 1 = .ok (.iload_n 1, 1) := by decide +kernel
theorem dX9_bestPolicy_2 : decode cX9_bestPolicy 2 = .ok (.iload_n 2, 1) := by decide +kernel
theorem dX9_bestPolicy_3 : decode cX9_bestPolicy 3 = .ok (.invokevirtual 349, 3) := by decide +kernel
theorem dX9_bestPolicy_6 : decode cX9_bestPolicy 6 = .ok (.ifCond .eq 5, 3) := by decide +kernel
theorem dX9_bestPolicy_9 : decode cX9_bestPolicy 9 = .ok (.iconst 0, 1) := by decide +kernel
theorem dX9_bestPolicy_10 : decode cX9_bestPolicy 10 = .ok (.ireturn, 1) := by decide +kernel
theorem dX9_bestPolicy_11 : decode cX9_bestPolicy 11 = .ok (.iconst (-1), 1) := by decide +kernel
theorem dX9_bestPolicy_12 : decode cX9_bestPolicy 12 = .ok (.istore_n 3, 1) := by decide +kernel
theorem dX9_bestPolicy_13 : decode cX9_bestPolicy 13 = .ok (.lconst 0, 1) := by decide +kernel
theorem dX9_bestPolicy_14 : decode cX9_bestPolicy 14 = .ok (.lstore 4, 2) := by decide +kernel
theorem dX9_bestPolicy_16 : decode cX9_bestPolicy 16 = .ok (.iconst 0, 1) := by decide +kernel
theorem dX9_bestPolicy_17 : decode cX9_bestPolicy 17 = .ok (.istore 6, 2) := by decide +kernel
theorem dX9_bestPolicy_19 : decode cX9_bestPolicy 19 = .ok (.iload 6, 2) := by decide +kernel
theorem dX9_bestPolicy_21 : decode cX9_bestPolicy 21 = .ok (.iconst 2, 1) := by decide +kernel
theorem dX9_bestPolicy_22 : decode cX9_bestPolicy 22 = .ok (.if_icmp .gt 52, 3) := by decide +kernel
theorem dX9_bestPolicy_25 : decode cX9_bestPolicy 25 = .ok (.aload_n 0, 1) := by decide +kernel
theorem dX9_bestPolicy_26 : decode cX9_bestPolicy 26 = .ok (.invokevirtual 352, 3) := by decide +kernel
theorem dX9_bestPolicy_29 : decode cX9_bestPolicy 29 = .ok (.aload_n 0, 1) := by decide +kernel
theorem dX9_bestPolicy_30 : decode cX9_bestPolicy 30 = .ok (.iload_n 1, 1) := by decide +kernel
theorem dX9_bestPolicy_31 : decode cX9_bestPolicy 31 = .ok (.iload 6, 2) := by decide +kernel
theorem dX9_bestPolicy_33 : decode cX9_bestPolicy 33 = .ok (.invokevirtual 365, 3) := by decide +kernel
theorem dX9_bestPolicy_36 : decode cX9_bestPolicy 36 = .ok (.aload_n 0, 1) := by decide +kernel
theorem dX9_bestPolicy_37 : decode cX9_bestPolicy 37 = .ok (.iload_n 1, 1) := by decide +kernel
theorem dX9_bestPolicy_38 : decode cX9_bestPolicy 38 = .ok (.iconst 2, 1) := by decide +kernel
theorem dX9_bestPolicy_39 : decode cX9_bestPolicy 39 = .ok (.iload_n 2, 1) := by decide +kernel
theorem dX9_bestPolicy_40 : decode cX9_bestPolicy 40 = .ok (.invokevirtual 361, 3) := by decide +kernel
theorem dX9_bestPolicy_43 : decode cX9_bestPolicy 43 = .ok (.lstore 7, 2) := by decide +kernel
theorem dX9_bestPolicy_45 : decode cX9_bestPolicy 45 = .ok (.iload_n 3, 1) := by decide +kernel
theorem dX9_bestPolicy_46 : decode cX9_bestPolicy 46 = .ok (.iconst (-1), 1) := by decide +kernel
theorem dX9_bestPolicy_47 : decode cX9_bestPolicy 47 = .ok (.if_icmp .eq 14, 3) := by decide +kernel
theorem dX9_bestPolicy_50 : decode cX9_bestPolicy 50 = .ok (.lload 7, 2) := by decide +kernel
theorem dX9_bestPolicy_52 : decode cX9_bestPolicy 52 = .ok (.lload 4, 2) := by decide +kernel
theorem dX9_bestPolicy_54 : decode cX9_bestPolicy 54 = .ok (.lcmp, 1) := by decide +kernel
theorem dX9_bestPolicy_55 : decode cX9_bestPolicy 55 = .ok (.ifCond .lt 6, 3) := by decide +kernel
theorem dX9_bestPolicy_58 : decode cX9_bestPolicy 58 = .ok (.goto 10, 3) := by decide +kernel
theorem dX9_bestPolicy_61 : decode cX9_bestPolicy 61 = .ok (.iload 6, 2) := by decide +kernel
theorem dX9_bestPolicy_63 : decode cX9_bestPolicy 63 = .ok (.istore_n 3, 1) := by decide +kernel
theorem dX9_bestPolicy_64 : decode cX9_bestPolicy 64 = .ok (.lload 7, 2) := by decide +kernel
theorem dX9_bestPolicy_66 : decode cX9_bestPolicy 66 = .ok (.lstore 4, 2) := by decide +kernel
theorem dX9_bestPolicy_68 : decode cX9_bestPolicy 68 = .ok (.iinc 6 1, 3) := by decide +kernel
theorem dX9_bestPolicy_71 : decode cX9_bestPolicy 71 = .ok (.goto (-52), 3) := by decide +kernel
theorem dX9_bestPolicy_74 : decode cX9_bestPolicy 74 = .ok (.iload_n 3, 1) := by decide +kernel
theorem dX9_bestPolicy_75 : decode cX9_bestPolicy 75 = .ok (.ireturn, 1) := by decide +kernel
theorem dX9_bestOf_0 : decode cX9_bestOf 0 = .ok (.iconst (-1), 1) := by decide +kernel
theorem dX9_bestOf_1 : decode cX9_bestOf 1 = .ok (.istore 7, 2) := by decide +kernel
theorem dX9_bestOf_3 : decode cX9_bestOf 3 = .ok (.lconst 0, 1) := by decide +kernel
theorem dX9_bestOf_4 : decode cX9_bestOf 4 = .ok (.lstore 8, 2) := by decide +kernel
theorem dX9_bestOf_6 : decode cX9_bestOf 6 = .ok (.iload_n 3, 1) := by decide +kernel
theorem dX9_bestOf_7 : decode cX9_bestOf 7 = .ok (.istore 10, 2) := by decide +kernel
theorem dX9_bestOf_9 : decode cX9_bestOf 9 = .ok (.iload 10, 2) := by decide +kernel
theorem dX9_bestOf_11 : decode cX9_bestOf 11 = .ok (.iload 4, 2) := by decide +kernel
theorem dX9_bestOf_13 : decode cX9_bestOf 13 = .ok (.if_icmp .gt 60, 3) := by decide +kernel
theorem dX9_bestOf_16 : decode cX9_bestOf 16 = .ok (.aload_n 0, 1) := by decide +kernel
theorem dX9_bestOf_17 : decode cX9_bestOf 17 = .ok (.invokevirtual 352, 3) := by decide +kernel
theorem dX9_bestOf_20 : decode cX9_bestOf 20 = .ok (.aload_n 0, 1) := by decide +kernel
theorem dX9_bestOf_21 : decode cX9_bestOf 21 = .ok (.iload_n 1, 1) := by decide +kernel
theorem dX9_bestOf_22 : decode cX9_bestOf 22 = .ok (.iload_n 2, 1) := by decide +kernel
theorem dX9_bestOf_23 : decode cX9_bestOf 23 = .ok (.iload 10, 2) := by decide +kernel
theorem dX9_bestOf_25 : decode cX9_bestOf 25 = .ok (.invokevirtual 64, 3) := by decide +kernel
theorem dX9_bestOf_28 : decode cX9_bestOf 28 = .ok (.aload_n 0, 1) := by decide +kernel
theorem dX9_bestOf_29 : decode cX9_bestOf 29 = .ok (.iload_n 1, 1) := by decide +kernel
theorem dX9_bestOf_30 : decode cX9_bestOf 30 = .ok (.iconst 2, 1) := by decide +kernel
theorem dX9_bestOf_31 : decode cX9_bestOf 31 = .ok (.iload 6, 2) := by decide +kernel
theorem dX9_bestOf_33 : decode cX9_bestOf 33 = .ok (.invokevirtual 361, 3) := by decide +kernel
theorem dX9_bestOf_36 : decode cX9_bestOf 36 = .ok (.lstore 11, 2) := by decide +kernel
theorem dX9_bestOf_38 : decode cX9_bestOf 38 = .ok (.iload 7, 2) := by decide +kernel
theorem dX9_bestOf_40 : decode cX9_bestOf 40 = .ok (.iconst (-1), 1) := by decide +kernel
theorem dX9_bestOf_41 : decode cX9_bestOf 41 = .ok (.if_icmp .eq 14, 3) := by decide +kernel
theorem dX9_bestOf_44 : decode cX9_bestOf 44 = .ok (.lload 11, 2) := by decide +kernel
theorem dX9_bestOf_46 : decode cX9_bestOf 46 = .ok (.lload 8, 2) := by decide +kernel
theorem dX9_bestOf_48 : decode cX9_bestOf 48 = .ok (.lcmp, 1) := by decide +kernel
theorem dX9_bestOf_49 : decode cX9_bestOf 49 = .ok (.ifCond .lt 6, 3) := by decide +kernel
theorem dX9_bestOf_52 : decode cX9_bestOf 52 = .ok (.goto 11, 3) := by decide +kernel
theorem dX9_bestOf_55 : decode cX9_bestOf 55 = .ok (.iload 10, 2) := by decide +kernel
theorem dX9_bestOf_57 : decode cX9_bestOf 57 = .ok (.istore 7, 2) := by decide +kernel
theorem dX9_bestOf_59 : decode cX9_bestOf 59 = .ok (.lload 11, 2) := by decide +kernel
theorem dX9_bestOf_61 : decode cX9_bestOf 61 = .ok (.lstore 8, 2) := by decide +kernel
theorem dX9_bestOf_63 : decode cX9_bestOf 63 = .ok (.iload 10, 2) := by decide +kernel
theorem dX9_bestOf_65 : decode cX9_bestOf 65 = .ok (.iload 5, 2) := by decide +kernel
theorem dX9_bestOf_67 : decode cX9_bestOf 67 = .ok (.iadd, 1) := by decide +kernel
theorem dX9_bestOf_68 : decode cX9_bestOf 68 = .ok (.istore 10, 2) := by decide +kernel
theorem dX9_bestOf_70 : decode cX9_bestOf 70 = .ok (.goto (-61), 3) := by decide +kernel
theorem dX9_bestOf_73 : decode cX9_bestOf 73 = .ok (.iload 7, 2) := by decide +kernel
theorem dX9_bestOf_75 : decode cX9_bestOf 75 = .ok (.ireturn, 1) := by decide +kernel
theorem dX9_bestTarget_0 : decode cX9_bestTarget 0 = .ok (.aload_n 0, 1) := by decide +kernel
theorem dX9_bestTarget_1 : decode cX9_bestTarget 1 = .ok (.iload_n 1, 1) := by decide +kernel
theorem dX9_bestTarget_2 : decode cX9_bestTarget 2 = .ok (.iload_n 2, 1) := by decide +kernel
theorem dX9_bestTarget_3 : decode cX9_bestTarget 3 = .ok (.invokevirtual 349, 3) := by decide +kernel
theorem dX9_bestTarget_6 : decode cX9_bestTarget 6 = .ok (.ifCond .eq 7, 3) := by decide +kernel
theorem dX9_bestTarget_9 : decode cX9_bestTarget 9 = .ok (.iconst 0, 1) := by decide +kernel
theorem dX9_bestTarget_10 : decode cX9_bestTarget 10 = .ok (.goto 16, 3) := by decide +kernel
theorem dX9_bestTarget_13 : decode cX9_bestTarget 13 = .ok (.aload_n 0, 1) := by decide +kernel
theorem dX9_bestTarget_14 : decode cX9_bestTarget 14 = .ok (.iload_n 1, 1) := by decide +kernel
theorem dX9_bestTarget_15 : decode cX9_bestTarget 15 = .ok (.iconst 3, 1) := by decide +kernel
theorem dX9_bestTarget_16 : decode cX9_bestTarget 16 = .ok (.bipush 10, 2) := by decide +kernel
theorem dX9_bestTarget_18 : decode cX9_bestTarget 18 = .ok (.bipush 100, 2) := by decide +kernel
theorem dX9_bestTarget_20 : decode cX9_bestTarget 20 = .ok (.bipush 10, 2) := by decide +kernel
theorem dX9_bestTarget_22 : decode cX9_bestTarget 22 = .ok (.iload_n 2, 1) := by decide +kernel
theorem dX9_bestTarget_23 : decode cX9_bestTarget 23 = .ok (.invokevirtual 368, 3) := by decide +kernel
theorem dX9_bestTarget_26 : decode cX9_bestTarget 26 = .ok (.ireturn, 1) := by decide +kernel
theorem dX9_bestCool_0 : decode cX9_bestCool 0 = .ok (.aload_n 0, 1) := by decide +kernel
theorem dX9_bestCool_1 : decode cX9_bestCool 1 = .ok (.iload_n 1, 1) := by decide +kernel
theorem dX9_bestCool_2 : decode cX9_bestCool 2 = .ok (.iload_n 2, 1) := by decide +kernel
theorem dX9_bestCool_3 : decode cX9_bestCool 3 = .ok (.invokevirtual 349, 3) := by decide +kernel
theorem dX9_bestCool_6 : decode cX9_bestCool 6 = .ok (.ifCond .eq 7, 3) := by decide +kernel
theorem dX9_bestCool_9 : decode cX9_bestCool 9 = .ok (.iconst 0, 1) := by decide +kernel
theorem dX9_bestCool_10 : decode cX9_bestCool 10 = .ok (.goto 15, 3) := by decide +kernel
theorem dX9_bestCool_13 : decode cX9_bestCool 13 = .ok (.aload_n 0, 1) := by decide +kernel
theorem dX9_bestCool_14 : decode cX9_bestCool 14 = .ok (.iload_n 1, 1) := by decide +kernel
theorem dX9_bestCool_15 : decode cX9_bestCool 15 = .ok (.bipush 13, 2) := by decide +kernel
theorem dX9_bestCool_17 : decode cX9_bestCool 17 = .ok (.iconst 0, 1) := by decide +kernel
theorem dX9_bestCool_18 : decode cX9_bestCool 18 = .ok (.bipush 30, 2) := by decide +kernel
theorem dX9_bestCool_20 : decode cX9_bestCool 20 = .ok (.iconst 5, 1) := by decide +kernel
theorem dX9_bestCool_21 : decode cX9_bestCool 21 = .ok (.iload_n 2, 1) := by decide +kernel
theorem dX9_bestCool_22 : decode cX9_bestCool 22 = .ok (.invokevirtual 368, 3) := by decide +kernel
theorem dX9_bestCool_25 : decode cX9_bestCool 25 = .ok (.ireturn, 1) := by decide +kernel
theorem dX9_apart_0 : decode cX9_apart 0 = .ok (.iconst 0, 1) := by decide +kernel
theorem dX9_apart_1 : decode cX9_apart 1 = .ok (.istore_n 3, 1) := by decide +kernel
theorem dX9_apart_2 : decode cX9_apart 2 = .ok (.aload_n 0, 1) := by decide +kernel
theorem dX9_apart_3 : decode cX9_apart 3 = .ok (.iload_n 1, 1) := by decide +kernel
theorem dX9_apart_4 : decode cX9_apart 4 = .ok (.invokevirtual 324, 3) := by decide +kernel
theorem dX9_apart_7 : decode cX9_apart 7 = .ok (.iload_n 2, 1) := by decide +kernel
theorem dX9_apart_8 : decode cX9_apart 8 = .ok (.isub, 1) := by decide +kernel
theorem dX9_apart_9 : decode cX9_apart 9 = .ok (.istore 4, 2) := by decide +kernel
theorem dX9_apart_11 : decode cX9_apart 11 = .ok (.iconst 0, 1) := by decide +kernel
theorem dX9_apart_12 : decode cX9_apart 12 = .ok (.istore 5, 2) := by decide +kernel
theorem dX9_apart_14 : decode cX9_apart 14 = .ok (.iload 5, 2) := by decide +kernel
theorem dX9_apart_16 : decode cX9_apart 16 = .ok (.iload 4, 2) := by decide +kernel
theorem dX9_apart_18 : decode cX9_apart 18 = .ok (.if_icmp .ge 44, 3) := by decide +kernel
theorem dX9_apart_21 : decode cX9_apart 21 = .ok (.aload_n 0, 1) := by decide +kernel
theorem dX9_apart_22 : decode cX9_apart 22 = .ok (.iload_n 1, 1) := by decide +kernel
theorem dX9_apart_23 : decode cX9_apart 23 = .ok (.iload 5, 2) := by decide +kernel
theorem dX9_apart_25 : decode cX9_apart 25 = .ok (.invokevirtual 114, 3) := by decide +kernel
theorem dX9_apart_28 : decode cX9_apart 28 = .ok (.aload_n 0, 1) := by decide +kernel
theorem dX9_apart_29 : decode cX9_apart 29 = .ok (.iload_n 1, 1) := by decide +kernel
theorem dX9_apart_30 : decode cX9_apart 30 = .ok (.iload 5, 2) := by decide +kernel
theorem dX9_apart_32 : decode cX9_apart 32 = .ok (.iload_n 2, 1) := by decide +kernel
theorem dX9_apart_33 : decode cX9_apart 33 = .ok (.iadd, 1) := by decide +kernel
theorem dX9_apart_34 : decode cX9_apart 34 = .ok (.invokevirtual 114, 3) := by decide +kernel
theorem dX9_apart_37 : decode cX9_apart 37 = .ok (.isub, 1) := by decide +kernel
theorem dX9_apart_38 : decode cX9_apart 38 = .ok (.istore 6, 2) := by decide +kernel
theorem dX9_apart_40 : decode cX9_apart 40 = .ok (.iload_n 3, 1) := by decide +kernel
theorem dX9_apart_41 : decode cX9_apart 41 = .ok (.iload 6, 2) := by decide +kernel
theorem dX9_apart_43 : decode cX9_apart 43 = .ok (.ifCond .ge 9, 3) := by decide +kernel
theorem dX9_apart_46 : decode cX9_apart 46 = .ok (.iload 6, 2) := by decide +kernel
theorem dX9_apart_48 : decode cX9_apart 48 = .ok (.ineg, 1) := by decide +kernel
theorem dX9_apart_49 : decode cX9_apart 49 = .ok (.goto 5, 3) := by decide +kernel
theorem dX9_apart_52 : decode cX9_apart 52 = .ok (.iload 6, 2) := by decide +kernel
theorem dX9_apart_54 : decode cX9_apart 54 = .ok (.iadd, 1) := by decide +kernel
theorem dX9_apart_55 : decode cX9_apart 55 = .ok (.istore_n 3, 1) := by decide +kernel
theorem dX9_apart_56 : decode cX9_apart 56 = .ok (.iinc 5 1, 3) := by decide +kernel
theorem dX9_apart_59 : decode cX9_apart 59 = .ok (.goto (-45), 3) := by decide +kernel
theorem dX9_apart_62 : decode cX9_apart 62 = .ok (.iload_n 3, 1) := by decide +kernel
theorem dX9_apart_63 : decode cX9_apart 63 = .ok (.i2d, 1) := by decide +kernel
theorem dX9_apart_64 : decode cX9_apart 64 = .ok (.iload 4, 2) := by decide +kernel
theorem dX9_apart_66 : decode cX9_apart 66 = .ok (.i2d, 1) := by decide +kernel
theorem dX9_apart_67 : decode cX9_apart 67 = .ok (.ddiv, 1) := by decide +kernel
theorem dX9_apart_68 : decode cX9_apart 68 = .ok (.dreturn, 1) := by decide +kernel
theorem dX9_bestPeriod_0 : decode cX9_bestPeriod 0 = .ok (.aload_n 0, 1) := by decide +kernel
theorem dX9_bestPeriod_1 : decode cX9_bestPeriod 1 = .ok (.iload_n 1, 1) := by decide +kernel
theorem dX9_bestPeriod_2 : decode cX9_bestPeriod 2 = .ok (.invokevirtual 309, 3) := by decide +kernel
theorem dX9_bestPeriod_5 : decode cX9_bestPeriod 5 = .ok (.ifCond .eq 5, 3) := by decide +kernel
theorem dX9_bestPeriod_8 : decode cX9_bestPeriod 8 = .ok (.iconst 0, 1) := by decide +kernel
theorem dX9_bestPeriod_9 : decode cX9_bestPeriod 9 = .ok (.ireturn, 1) := by decide +kernel
theorem dX9_bestPeriod_10 : decode cX9_bestPeriod 10 = .ok (.iconst (-1), 1) := by decide +kernel
theorem dX9_bestPeriod_11 : decode cX9_bestPeriod 11 = .ok (.istore_n 2, 1) := by decide +kernel
theorem dX9_bestPeriod_12 : decode cX9_bestPeriod 12 = .ok (.iconst 2, 1) := by decide +kernel
theorem dX9_bestPeriod_13 : decode cX9_bestPeriod 13 = .ok (.istore_n 3, 1) := by decide +kernel
theorem dX9_bestPeriod_14 : decode cX9_bestPeriod 14 = .ok (.iload_n 3, 1) := by decide +kernel
theorem dX9_bestPeriod_15 : decode cX9_bestPeriod 15 = .ok (.aload_n 0, 1) := by decide +kernel
theorem dX9_bestPeriod_16 : decode cX9_bestPeriod 16 = .ok (.iload_n 1, 1) := by decide +kernel
theorem dX9_bestPeriod_17 : decode cX9_bestPeriod 17 = .ok (.invokevirtual 324, 3) := by decide +kernel
theorem dX9_bestPeriod_20 : decode cX9_bestPeriod 20 = .ok (.if_icmp .ge 32, 3) := by decide +kernel
theorem dX9_bestPeriod_23 : decode cX9_bestPeriod 23 = .ok (.iload_n 2, 1) := by decide +kernel
theorem dX9_bestPeriod_24 : decode cX9_bestPeriod 24 = .ok (.iconst (-1), 1) := by decide +kernel
theorem dX9_bestPeriod_25 : decode cX9_bestPeriod 25 = .ok (.if_icmp .eq 19, 3) := by decide +kernel
theorem dX9_bestPeriod_28 : decode cX9_bestPeriod 28 = .ok (.aload_n 0, 1) := by decide +kernel
theorem dX9_bestPeriod_29 : decode cX9_bestPeriod 29 = .ok (.iload_n 1, 1) := by decide +kernel
theorem dX9_bestPeriod_30 : decode cX9_bestPeriod 30 = .ok (.iload_n 3, 1) := by decide +kernel
theorem dX9_bestPeriod_31 : decode cX9_bestPeriod 31 = .ok (.invokevirtual 372, 3) := by decide +kernel
theorem dX9_bestPeriod_34 : decode cX9_bestPeriod 34 = .ok (.aload_n 0, 1) := by decide +kernel
theorem dX9_bestPeriod_35 : decode cX9_bestPeriod 35 = .ok (.iload_n 1, 1) := by decide +kernel
theorem dX9_bestPeriod_36 : decode cX9_bestPeriod 36 = .ok (.iload_n 2, 1) := by decide +kernel
theorem dX9_bestPeriod_37 : decode cX9_bestPeriod 37 = .ok (.invokevirtual 372, 3) := by decide +kernel
theorem dX9_bestPeriod_40 : decode cX9_bestPeriod 40 = .ok (.dcmp .g, 1) := by decide +kernel
theorem dX9_bestPeriod_41 : decode cX9_bestPeriod 41 = .ok (.ifCond .ge 5, 3) := by decide +kernel
theorem dX9_bestPeriod_44 : decode cX9_bestPeriod 44 = .ok (.iload_n 3, 1) := by decide +kernel
theorem dX9_bestPeriod_45 : decode cX9_bestPeriod 45 = .ok (.istore_n 2, 1) := by decide +kernel
theorem dX9_bestPeriod_46 : decode cX9_bestPeriod 46 = .ok (.iinc 3 1, 3) := by decide +kernel
theorem dX9_bestPeriod_49 : decode cX9_bestPeriod 49 = .ok (.goto (-35), 3) := by decide +kernel
theorem dX9_bestPeriod_52 : decode cX9_bestPeriod 52 = .ok (.iload_n 2, 1) := by decide +kernel
theorem dX9_bestPeriod_53 : decode cX9_bestPeriod 53 = .ok (.ireturn, 1) := by decide +kernel
theorem dX9_within_0 : decode cX9_within 0 = .ok (.iconst 0, 1) := by decide +kernel
theorem dX9_within_1 : decode cX9_within 1 = .ok (.istore 4, 2) := by decide +kernel
theorem dX9_within_3 : decode cX9_within 3 = .ok (.iconst 0, 1) := by decide +kernel
theorem dX9_within_4 : decode cX9_within 4 = .ok (.istore 5, 2) := by decide +kernel
theorem dX9_within_6 : decode cX9_within 6 = .ok (.iload 5, 2) := by decide +kernel
theorem dX9_within_8 : decode cX9_within 8 = .ok (.aload_n 0, 1) := by decide +kernel
theorem dX9_within_9 : decode cX9_within 9 = .ok (.iload_n 1, 1) := by decide +kernel
theorem dX9_within_10 : decode cX9_within 10 = .ok (.invokevirtual 324, 3) := by decide +kernel
theorem dX9_within_13 : decode cX9_within 13 = .ok (.if_icmp .ge 34, 3) := by decide +kernel
theorem dX9_within_16 : decode cX9_within 16 = .ok (.iload 4, 2) := by decide +kernel
theorem dX9_within_18 : decode cX9_within 18 = .ok (.aload_n 0, 1) := by decide +kernel
theorem dX9_within_19 : decode cX9_within 19 = .ok (.iload_n 1, 1) := by decide +kernel
theorem dX9_within_20 : decode cX9_within 20 = .ok (.iload 5, 2) := by decide +kernel
theorem dX9_within_22 : decode cX9_within 22 = .ok (.invokevirtual 114, 3) := by decide +kernel
theorem dX9_within_25 : decode cX9_within 25 = .ok (.iload_n 2, 1) := by decide +kernel
theorem dX9_within_26 : decode cX9_within 26 = .ok (.iload_n 3, 1) := by decide +kernel
theorem dX9_within_27 : decode cX9_within 27 = .ok (.invokestatic 167, 3) := by decide +kernel
theorem dX9_within_30 : decode cX9_within 30 = .ok (.ifCond .eq 7, 3) := by decide +kernel
theorem dX9_within_33 : decode cX9_within 33 = .ok (.iconst 1, 1) := by decide +kernel
theorem dX9_within_34 : decode cX9_within 34 = .ok (.goto 4, 3) := by decide +kernel
theorem dX9_within_37 : decode cX9_within 37 = .ok (.iconst 0, 1) := by decide +kernel
theorem dX9_within_38 : decode cX9_within 38 = .ok (.iadd, 1) := by decide +kernel
theorem dX9_within_39 : decode cX9_within 39 = .ok (.istore 4, 2) := by decide +kernel
theorem dX9_within_41 : decode cX9_within 41 = .ok (.iinc 5 1, 3) := by decide +kernel
theorem dX9_within_44 : decode cX9_within 44 = .ok (.goto (-38), 3) := by decide +kernel
theorem dX9_within_47 : decode cX9_within 47 = .ok (.iload 4, 2) := by decide +kernel
theorem dX9_within_49 : decode cX9_within 49 = .ok (.ireturn, 1) := by decide +kernel
theorem dX9_demandsWithin_0 : decode cX9_demandsWithin 0 = .ok (.aload_n 0, 1) := by decide +kernel
theorem dX9_demandsWithin_1 : decode cX9_demandsWithin 1 = .ok (.iload_n 1, 1) := by decide +kernel
theorem dX9_demandsWithin_2 : decode cX9_demandsWithin 2 = .ok (.invokevirtual 309, 3) := by decide +kernel
theorem dX9_demandsWithin_5 : decode cX9_demandsWithin 5 = .ok (.ifCond .eq 7, 3) := by decide +kernel
theorem dX9_demandsWithin_8 : decode cX9_demandsWithin 8 = .ok (.iconst 0, 1) := by decide +kernel
theorem dX9_demandsWithin_9 : decode cX9_demandsWithin 9 = .ok (.goto 10, 3) := by decide +kernel
theorem dX9_demandsWithin_12 : decode cX9_demandsWithin 12 = .ok (.aload_n 0, 1) := by decide +kernel
theorem dX9_demandsWithin_13 : decode cX9_demandsWithin 13 = .ok (.iload_n 1, 1) := by decide +kernel
theorem dX9_demandsWithin_14 : decode cX9_demandsWithin 14 = .ok (.iload_n 2, 1) := by decide +kernel
theorem dX9_demandsWithin_15 : decode cX9_demandsWithin 15 = .ok (.iload_n 3, 1) := by decide +kernel
theorem dX9_demandsWithin_16 : decode cX9_demandsWithin 16 = .ok (.invokevirtual 376, 3) := by decide +kernel
theorem dX9_demandsWithin_19 : decode cX9_demandsWithin 19 = .ok (.ireturn, 1) := by decide +kernel
theorem dX9_median_0 : decode cX9_median 0 = .ok (.aload_n 0, 1) := by decide +kernel
theorem dX9_median_1 : decode cX9_median 1 = .ok (.iload_n 1, 1) := by decide +kernel
theorem dX9_median_2 : decode cX9_median 2 = .ok (.invokevirtual 309, 3) := by decide +kernel
theorem dX9_median_5 : decode cX9_median 5 = .ok (.ifCond .eq 5, 3) := by decide +kernel
theorem dX9_median_8 : decode cX9_median 8 = .ok (.iconst 0, 1) := by decide +kernel
theorem dX9_median_9 : decode cX9_median 9 = .ok (.ireturn, 1) := by decide +kernel
theorem dX9_median_10 : decode cX9_median 10 = .ok (.aload_n 0, 1) := by decide +kernel
theorem dX9_median_11 : decode cX9_median 11 = .ok (.iload_n 1, 1) := by decide +kernel
theorem dX9_median_12 : decode cX9_median 12 = .ok (.invokevirtual 324, 3) := by decide +kernel
theorem dX9_median_15 : decode cX9_median 15 = .ok (.istore_n 2, 1) := by decide +kernel
theorem dX9_median_16 : decode cX9_median 16 = .ok (.iload_n 2, 1) := by decide +kernel
theorem dX9_median_17 : decode cX9_median 17 = .ok (.ifCond .ne 5, 3) := by decide +kernel
theorem dX9_median_20 : decode cX9_median 20 = .ok (.iconst 0, 1) := by decide +kernel
theorem dX9_median_21 : decode cX9_median 21 = .ok (.ireturn, 1) := by decide +kernel
theorem dX9_median_22 : decode cX9_median 22 = .ok (.iconst 0, 1) := by decide +kernel
theorem dX9_median_23 : decode cX9_median 23 = .ok (.istore_n 3, 1) := by decide +kernel
theorem dX9_median_24 : decode cX9_median 24 = .ok (.aload_n 0, 1) := by decide +kernel
theorem dX9_median_25 : decode cX9_median 25 = .ok (.iload_n 1, 1) := by decide +kernel
theorem dX9_median_26 : decode cX9_median 26 = .ok (.iconst 0, 1) := by decide +kernel
theorem dX9_median_27 : decode cX9_median 27 = .ok (.iload_n 3, 1) := by decide +kernel
theorem dX9_median_28 : decode cX9_median 28 = .ok (.invokevirtual 376, 3) := by decide +kernel
theorem dX9_median_31 : decode cX9_median 31 = .ok (.iload_n 2, 1) := by decide +kernel
theorem dX9_median_32 : decode cX9_median 32 = .ok (.iconst 1, 1) := by decide +kernel
theorem dX9_median_33 : decode cX9_median 33 = .ok (.isub, 1) := by decide +kernel
theorem dX9_median_34 : decode cX9_median 34 = .ok (.iconst 2, 1) := by decide +kernel
theorem dX9_median_35 : decode cX9_median 35 = .ok (.idiv, 1) := by decide +kernel
theorem dX9_median_36 : decode cX9_median 36 = .ok (.if_icmp .gt 9, 3) := by decide +kernel
theorem dX9_median_39 : decode cX9_median 39 = .ok (.iinc 3 1, 3) := by decide +kernel
theorem dX9_median_42 : decode cX9_median 42 = .ok (.goto (-18), 3) := by decide +kernel
theorem dX9_median_45 : decode cX9_median 45 = .ok (.iload_n 3, 1) := by decide +kernel
theorem dX9_median_46 : decode cX9_median 46 = .ok (.ireturn, 1) := by decide +kernel
theorem dX9_eldest_0 : decode cX9_eldest 0 = .ok (.aload_n 0, 1) := by decide +kernel
theorem dX9_eldest_1 : decode cX9_eldest 1 = .ok (.iconst 0, 1) := by decide +kernel
theorem dX9_eldest_2 : decode cX9_eldest 2 = .ok (.putfield 61, 3) := by decide +kernel
theorem dX9_eldest_5 : decode cX9_eldest 5 = .ok (.iconst (-1), 1) := by decide +kernel
theorem dX9_eldest_6 : decode cX9_eldest 6 = .ok (.istore_n 1, 1) := by decide +kernel
theorem dX9_eldest_7 : decode cX9_eldest 7 = .ok (.iconst 0, 1) := by decide +kernel
theorem dX9_eldest_8 : decode cX9_eldest 8 = .ok (.istore_n 2, 1) := by decide +kernel
theorem dX9_eldest_9 : decode cX9_eldest 9 = .ok (.iconst 0, 1) := by decide +kernel
theorem dX9_eldest_10 : decode cX9_eldest 10 = .ok (.istore_n 3, 1) := by decide +kernel
theorem dX9_eldest_11 : decode cX9_eldest 11 = .ok (.iload_n 3, 1) := by decide +kernel
theorem dX9_eldest_12 : decode cX9_eldest 12 = .ok (.aload_n 0, 1) := by decide +kernel
theorem dX9_eldest_13 : decode cX9_eldest 13 = .ok (.getfield 7, 3) := by decide +kernel
theorem dX9_eldest_16 : decode cX9_eldest 16 = .ok (.iconst 0, 1) := by decide +kernel
theorem dX9_eldest_17 : decode cX9_eldest 17 = .ok (.iaload, 1) := by decide +kernel
theorem dX9_eldest_18 : decode cX9_eldest 18 = .ok (.if_icmp .ge 92, 3) := by decide +kernel
theorem dX9_eldest_21 : decode cX9_eldest 21 = .ok (.iconst 0, 1) := by decide +kernel
theorem dX9_eldest_22 : decode cX9_eldest 22 = .ok (.istore 4, 2) := by decide +kernel
theorem dX9_eldest_24 : decode cX9_eldest 24 = .ok (.iload 4, 2) := by decide +kernel
theorem dX9_eldest_26 : decode cX9_eldest 26 = .ok (.aload_n 0, 1) := by decide +kernel
theorem dX9_eldest_27 : decode cX9_eldest 27 = .ok (.iload_n 3, 1) := by decide +kernel
theorem dX9_eldest_28 : decode cX9_eldest 28 = .ok (.bipush 23, 2) := by decide +kernel
theorem dX9_eldest_30 : decode cX9_eldest 30 = .ok (.invokevirtual 81, 3) := by decide +kernel
theorem dX9_eldest_33 : decode cX9_eldest 33 = .ok (.if_icmp .ge 71, 3) := by decide +kernel
theorem dX9_eldest_36 : decode cX9_eldest 36 = .ok (.aload_n 0, 1) := by decide +kernel
theorem dX9_eldest_37 : decode cX9_eldest 37 = .ok (.iload_n 3, 1) := by decide +kernel
theorem dX9_eldest_38 : decode cX9_eldest 38 = .ok (.bipush 100, 2) := by decide +kernel
theorem dX9_eldest_40 : decode cX9_eldest 40 = .ok (.iconst 4, 1) := by decide +kernel
theorem dX9_eldest_41 : decode cX9_eldest 41 = .ok (.iload 4, 2) := by decide +kernel
theorem dX9_eldest_43 : decode cX9_eldest 43 = .ok (.imul, 1) := by decide +kernel
theorem dX9_eldest_44 : decode cX9_eldest 44 = .ok (.iadd, 1) := by decide +kernel
theorem dX9_eldest_45 : decode cX9_eldest 45 = .ok (.invokevirtual 81, 3) := by decide +kernel
theorem dX9_eldest_48 : decode cX9_eldest 48 = .ok (.istore 5, 2) := by decide +kernel
theorem dX9_eldest_50 : decode cX9_eldest 50 = .ok (.aload_n 0, 1) := by decide +kernel
theorem dX9_eldest_51 : decode cX9_eldest 51 = .ok (.iload_n 3, 1) := by decide +kernel
theorem dX9_eldest_52 : decode cX9_eldest 52 = .ok (.bipush 100, 2) := by decide +kernel
theorem dX9_eldest_54 : decode cX9_eldest 54 = .ok (.iconst 4, 1) := by decide +kernel
theorem dX9_eldest_55 : decode cX9_eldest 55 = .ok (.iload 4, 2) := by decide +kernel
theorem dX9_eldest_57 : decode cX9_eldest 57 = .ok (.imul, 1) := by decide +kernel
theorem dX9_eldest_58 : decode cX9_eldest 58 = .ok (.iadd, 1) := by decide +kernel
theorem dX9_eldest_59 : decode cX9_eldest 59 = .ok (.iconst 1, 1) := by decide +kernel
theorem dX9_eldest_60 : decode cX9_eldest 60 = .ok (.iadd, 1) := by decide +kernel
theorem dX9_eldest_61 : decode cX9_eldest 61 = .ok (.invokevirtual 81, 3) := by decide +kernel
theorem dX9_eldest_64 : decode cX9_eldest 64 = .ok (.istore 6, 2) := by decide +kernel
theorem dX9_eldest_66 : decode cX9_eldest 66 = .ok (.iload_n 1, 1) := by decide +kernel
theorem dX9_eldest_67 : decode cX9_eldest 67 = .ok (.iconst (-1), 1) := by decide +kernel
theorem dX9_eldest_68 : decode cX9_eldest 68 = .ok (.if_icmp .eq 24, 3) := by decide +kernel
theorem dX9_eldest_71 : decode cX9_eldest 71 = .ok (.iload 6, 2) := by decide +kernel
theorem dX9_eldest_73 : decode cX9_eldest 73 = .ok (.iload_n 2, 1) := by decide +kernel
theorem dX9_eldest_74 : decode cX9_eldest 74 = .ok (.if_icmp .gt 24, 3) := by decide +kernel
theorem dX9_eldest_77 : decode cX9_eldest 77 = .ok (.iload 6, 2) := by decide +kernel
theorem dX9_eldest_79 : decode cX9_eldest 79 = .ok (.iload_n 2, 1) := by decide +kernel
theorem dX9_eldest_80 : decode cX9_eldest 80 = .ok (.if_icmp .ne 12, 3) := by decide +kernel
theorem dX9_eldest_83 : decode cX9_eldest 83 = .ok (.iload 5, 2) := by decide +kernel
theorem dX9_eldest_85 : decode cX9_eldest 85 = .ok (.iload_n 1, 1) := by decide +kernel
theorem dX9_eldest_86 : decode cX9_eldest 86 = .ok (.if_icmp .le 6, 3) := by decide +kernel
theorem dX9_eldest_89 : decode cX9_eldest 89 = .ok (.goto 9, 3) := by decide +kernel
theorem dX9_eldest_92 : decode cX9_eldest 92 = .ok (.iload 5, 2) := by decide +kernel
theorem dX9_eldest_94 : decode cX9_eldest 94 = .ok (.istore_n 1, 1) := by decide +kernel
theorem dX9_eldest_95 : decode cX9_eldest 95 = .ok (.iload 6, 2) := by decide +kernel
theorem dX9_eldest_97 : decode cX9_eldest 97 = .ok (.istore_n 2, 1) := by decide +kernel
theorem dX9_eldest_98 : decode cX9_eldest 98 = .ok (.iinc 4 1, 3) := by decide +kernel
theorem dX9_eldest_101 : decode cX9_eldest 101 = .ok (.goto (-77), 3) := by decide +kernel
theorem dX9_eldest_104 : decode cX9_eldest 104 = .ok (.iinc 3 1, 3) := by decide +kernel
theorem dX9_eldest_107 : decode cX9_eldest 107 = .ok (.goto (-96), 3) := by decide +kernel
theorem dX9_eldest_110 : decode cX9_eldest 110 = .ok (.iload_n 1, 1) := by decide +kernel
theorem dX9_eldest_111 : decode cX9_eldest 111 = .ok (.ireturn, 1) := by decide +kernel
theorem dX9_needed_0 : decode cX9_needed 0 = .ok (.aload_n 0, 1) := by decide +kernel
theorem dX9_needed_1 : decode cX9_needed 1 = .ok (.iload_n 1, 1) := by decide +kernel
theorem dX9_needed_2 : decode cX9_needed 2 = .ok (.iload_n 2, 1) := by decide +kernel
theorem dX9_needed_3 : decode cX9_needed 3 = .ok (.invokevirtual 349, 3) := by decide +kernel
theorem dX9_needed_6 : decode cX9_needed 6 = .ok (.ifCond .eq 5, 3) := by decide +kernel
theorem dX9_needed_9 : decode cX9_needed 9 = .ok (.iconst 0, 1) := by decide +kernel
theorem dX9_needed_10 : decode cX9_needed 10 = .ok (.ireturn, 1) := by decide +kernel
theorem dX9_needed_11 : decode cX9_needed 11 = .ok (.iconst 0, 1) := by decide +kernel
theorem dX9_needed_12 : decode cX9_needed 12 = .ok (.istore_n 3, 1) := by decide +kernel
theorem dX9_needed_13 : decode cX9_needed 13 = .ok (.iconst 0, 1) := by decide +kernel
theorem dX9_needed_14 : decode cX9_needed 14 = .ok (.istore 4, 2) := by decide +kernel
theorem dX9_needed_16 : decode cX9_needed 16 = .ok (.iload 4, 2) := by decide +kernel
theorem dX9_needed_18 : decode cX9_needed 18 = .ok (.iload_n 2, 1) := by decide +kernel
theorem dX9_needed_19 : decode cX9_needed 19 = .ok (.if_icmp .ge 30, 3) := by decide +kernel
theorem dX9_needed_22 : decode cX9_needed 22 = .ok (.iload_n 3, 1) := by decide +kernel
theorem dX9_needed_23 : decode cX9_needed 23 = .ok (.aload_n 0, 1) := by decide +kernel
theorem dX9_needed_24 : decode cX9_needed 24 = .ok (.iload_n 1, 1) := by decide +kernel
theorem dX9_needed_25 : decode cX9_needed 25 = .ok (.iload 4, 2) := by decide +kernel
theorem dX9_needed_27 : decode cX9_needed 27 = .ok (.invokevirtual 327, 3) := by decide +kernel
theorem dX9_needed_30 : decode cX9_needed 30 = .ok (.aload_n 0, 1) := by decide +kernel
theorem dX9_needed_31 : decode cX9_needed 31 = .ok (.iload_n 1, 1) := by decide +kernel
theorem dX9_needed_32 : decode cX9_needed 32 = .ok (.iconst 2, 1) := by decide +kernel
theorem dX9_needed_33 : decode cX9_needed 33 = .ok (.invokevirtual 81, 3) := by decide +kernel
theorem dX9_needed_36 : decode cX9_needed 36 = .ok (.invokestatic 120, 3) := by decide +kernel
theorem dX9_needed_39 : decode cX9_needed 39 = .ok (.invokestatic 123, 3) := by decide +kernel
theorem dX9_needed_42 : decode cX9_needed 42 = .ok (.istore_n 3, 1) := by decide +kernel
theorem dX9_needed_43 : decode cX9_needed 43 = .ok (.iinc 4 1, 3) := by decide +kernel
theorem dX9_needed_46 : decode cX9_needed 46 = .ok (.goto (-30), 3) := by decide +kernel
theorem dX9_needed_49 : decode cX9_needed 49 = .ok (.iload_n 3, 1) := by decide +kernel
theorem dX9_needed_50 : decode cX9_needed 50 = .ok (.ireturn, 1) := by decide +kernel
theorem dX9_write_0 : decode cX9_write 0 = .ok (.aload_n 0, 1) := by decide +kernel
theorem dX9_write_1 : decode cX9_write 1 = .ok (.getfield 51, 3) := by decide +kernel
theorem dX9_write_4 : decode cX9_write 4 = .ok (.aload_n 0, 1) := by decide +kernel
theorem dX9_write_5 : decode cX9_write 5 = .ok (.getfield 379, 3) := by decide +kernel
theorem dX9_write_8 : decode cX9_write 8 = .ok (.iload_n 1, 1) := by decide +kernel
theorem dX9_write_9 : decode cX9_write 9 = .ok (.iastore, 1) := by decide +kernel
theorem dX9_write_10 : decode cX9_write 10 = .ok (.aload_n 0, 1) := by decide +kernel
theorem dX9_write_11 : decode cX9_write 11 = .ok (.dup, 1) := by decide +kernel
theorem dX9_write_12 : decode cX9_write 12 = .ok (.getfield 379, 3) := by decide +kernel
theorem dX9_write_15 : decode cX9_write 15 = .ok (.iconst 1, 1) := by decide +kernel
theorem dX9_write_16 : decode cX9_write 16 = .ok (.iadd, 1) := by decide +kernel
theorem dX9_write_17 : decode cX9_write 17 = .ok (.putfield 379, 3) := by decide +kernel
theorem dX9_write_20 : decode cX9_write 20 = .ok (.return_, 1) := by decide +kernel
theorem dX9_writeNumber_0 : decode cX9_writeNumber 0 = .ok (.iconst 1, 1) := by decide +kernel
theorem dX9_writeNumber_1 : decode cX9_writeNumber 1 = .ok (.istore_n 2, 1) := by decide +kernel
theorem dX9_writeNumber_2 : decode cX9_writeNumber 2 = .ok (.iload_n 1, 1) := by decide +kernel
theorem dX9_writeNumber_3 : decode cX9_writeNumber 3 = .ok (.iload_n 2, 1) := by decide +kernel
theorem dX9_writeNumber_4 : decode cX9_writeNumber 4 = .ok (.idiv, 1) := by decide +kernel
theorem dX9_writeNumber_5 : decode cX9_writeNumber 5 = .ok (.bipush 9, 2) := by decide +kernel
theorem dX9_writeNumber_7 : decode cX9_writeNumber 7 = .ok (.if_icmp .le 11, 3) := by decide +kernel
theorem dX9_writeNumber_10 : decode cX9_writeNumber 10 = .ok (.iload_n 2, 1) := by decide +kernel
theorem dX9_writeNumber_11 : decode cX9_writeNumber 11 = .ok (.bipush 10, 2) := by decide +kernel
theorem dX9_writeNumber_13 : decode cX9_writeNumber 13 = .ok (.imul, 1) := by decide +kernel
theorem dX9_writeNumber_14 : decode cX9_writeNumber 14 = .ok (.istore_n 2, 1) := by decide +kernel
theorem dX9_writeNumber_15 : decode cX9_writeNumber 15 = .ok (.goto (-13), 3) := by decide +kernel
theorem dX9_writeNumber_18 : decode cX9_writeNumber 18 = .ok (.iload_n 2, 1) := by decide +kernel
theorem dX9_writeNumber_19 : decode cX9_writeNumber 19 = .ok (.ifCond .le 24, 3) := by decide +kernel
theorem dX9_writeNumber_22 : decode cX9_writeNumber 22 = .ok (.aload_n 0, 1) := by decide +kernel
theorem dX9_writeNumber_23 : decode cX9_writeNumber 23 = .ok (.bipush 48, 2) := by decide +kernel
theorem dX9_writeNumber_25 : decode cX9_writeNumber 25 = .ok (.iload_n 1, 1) := by decide +kernel
theorem dX9_writeNumber_26 : decode cX9_writeNumber 26 = .ok (.iload_n 2, 1) := by decide +kernel
theorem dX9_writeNumber_27 : decode cX9_writeNumber 27 = .ok (.idiv, 1) := by decide +kernel
theorem dX9_writeNumber_28 : decode cX9_writeNumber 28 = .ok (.bipush 10, 2) := by decide +kernel
theorem dX9_writeNumber_30 : decode cX9_writeNumber 30 = .ok (.irem, 1) := by decide +kernel
theorem dX9_writeNumber_31 : decode cX9_writeNumber 31 = .ok (.iadd, 1) := by decide +kernel
theorem dX9_writeNumber_32 : decode cX9_writeNumber 32 = .ok (.invokevirtual 382, 3) := by decide +kernel
theorem dX9_writeNumber_35 : decode cX9_writeNumber 35 = .ok (.iload_n 2, 1) := by decide +kernel
theorem dX9_writeNumber_36 : decode cX9_writeNumber 36 = .ok (.bipush 10, 2) := by decide +kernel
theorem dX9_writeNumber_38 : decode cX9_writeNumber 38 = .ok (.idiv, 1) := by decide +kernel
theorem dX9_writeNumber_39 : decode cX9_writeNumber 39 = .ok (.istore_n 2, 1) := by decide +kernel
theorem dX9_writeNumber_40 : decode cX9_writeNumber 40 = .ok (.goto (-22), 3) := by decide +kernel
theorem dX9_writeNumber_43 : decode cX9_writeNumber 43 = .ok (.return_, 1) := by decide +kernel
theorem dX9_printPool_0 : decode cX9_printPool 0 = .ok (.aload_n 0, 1) := by decide +kernel
theorem dX9_printPool_1 : decode cX9_printPool 1 = .ok (.iload_n 1, 1) := by decide +kernel
theorem dX9_printPool_2 : decode cX9_printPool 2 = .ok (.invokevirtual 309, 3) := by decide +kernel
theorem dX9_printPool_5 : decode cX9_printPool 5 = .ok (.ifCond .eq 5, 3) := by decide +kernel
theorem dX9_printPool_8 : decode cX9_printPool 8 = .ok (.iconst 0, 1) := by decide +kernel
theorem dX9_printPool_9 : decode cX9_printPool 9 = .ok (.ireturn, 1) := by decide +kernel
theorem dX9_printPool_10 : decode cX9_printPool 10 = .ok (.aload_n 0, 1) := by decide +kernel
theorem dX9_printPool_11 : decode cX9_printPool 11 = .ok (.iconst 0, 1) := by decide +kernel
theorem dX9_printPool_12 : decode cX9_printPool 12 = .ok (.putfield 379, 3) := by decide +kernel
theorem dX9_printPool_15 : decode cX9_printPool 15 = .ok (.iconst 0, 1) := by decide +kernel
theorem dX9_printPool_16 : decode cX9_printPool 16 = .ok (.istore_n 2, 1) := by decide +kernel
theorem dX9_printPool_17 : decode cX9_printPool 17 = .ok (.iload_n 2, 1) := by decide +kernel
theorem dX9_printPool_18 : decode cX9_printPool 18 = .ok (.aload_n 0, 1) := by decide +kernel
theorem dX9_printPool_19 : decode cX9_printPool 19 = .ok (.iload_n 1, 1) := by decide +kernel
theorem dX9_printPool_20 : decode cX9_printPool 20 = .ok (.bipush 23, 2) := by decide +kernel
theorem dX9_printPool_22 : decode cX9_printPool 22 = .ok (.invokevirtual 81, 3) := by decide +kernel
theorem dX9_printPool_25 : decode cX9_printPool 25 = .ok (.if_icmp .ge 60, 3) := by decide +kernel
theorem dX9_printPool_28 : decode cX9_printPool 28 = .ok (.aload_n 0, 1) := by decide +kernel
theorem dX9_printPool_29 : decode cX9_printPool 29 = .ok (.aload_n 0, 1) := by decide +kernel
theorem dX9_printPool_30 : decode cX9_printPool 30 = .ok (.iload_n 1, 1) := by decide +kernel
theorem dX9_printPool_31 : decode cX9_printPool 31 = .ok (.bipush 100, 2) := by decide +kernel
theorem dX9_printPool_33 : decode cX9_printPool 33 = .ok (.iconst 4, 1) := by decide +kernel
theorem dX9_printPool_34 : decode cX9_printPool 34 = .ok (.iload_n 2, 1) := by decide +kernel
theorem dX9_printPool_35 : decode cX9_printPool 35 = .ok (.imul, 1) := by decide +kernel
theorem dX9_printPool_36 : decode cX9_printPool 36 = .ok (.iadd, 1) := by decide +kernel
theorem dX9_printPool_37 : decode cX9_printPool 37 = .ok (.invokevirtual 81, 3) := by decide +kernel
theorem dX9_printPool_40 : decode cX9_printPool 40 = .ok (.invokevirtual 385, 3) := by decide +kernel
theorem dX9_printPool_43 : decode cX9_printPool 43 = .ok (.aload_n 0, 1) := by decide +kernel
theorem dX9_printPool_44 : decode cX9_printPool 44 = .ok (.iload_n 1, 1) := by decide +kernel
theorem dX9_printPool_45 : decode cX9_printPool 45 = .ok (.iload_n 2, 1) := by decide +kernel
theorem dX9_printPool_46 : decode cX9_printPool 46 = .ok (.invokevirtual 95, 3) := by decide +kernel
theorem dX9_printPool_49 : decode cX9_printPool 49 = .ok (.ifCond .eq 9, 3) := by decide +kernel
theorem dX9_printPool_52 : decode cX9_printPool 52 = .ok (.aload_n 0, 1) := by decide +kernel
theorem dX9_printPool_53 : decode cX9_printPool 53 = .ok (.bipush 42, 2) := by decide +kernel
theorem dX9_printPool_55 : decode cX9_printPool 55 = .ok (.invokevirtual 382, 3) := by decide +kernel
theorem dX9_printPool_58 : decode cX9_printPool 58 = .ok (.aload_n 0, 1) := by decide +kernel
theorem dX9_printPool_59 : decode cX9_printPool 59 = .ok (.iload_n 1, 1) := by decide +kernel
theorem dX9_printPool_60 : decode cX9_printPool 60 = .ok (.iload_n 2, 1) := by decide +kernel
theorem dX9_printPool_61 : decode cX9_printPool 61 = .ok (.invokevirtual 91, 3) := by decide +kernel
theorem dX9_printPool_64 : decode cX9_printPool 64 = .ok (.ifCond .ne 9, 3) := by decide +kernel
theorem dX9_printPool_67 : decode cX9_printPool 67 = .ok (.aload_n 0, 1) := by decide +kernel
theorem dX9_printPool_68 : decode cX9_printPool 68 = .ok (.bipush 45, 2) := by decide +kernel
theorem dX9_printPool_70 : decode cX9_printPool 70 = .ok (.invokevirtual 382, 3) := by decide +kernel
theorem dX9_printPool_73 : decode cX9_printPool 73 = .ok (.aload_n 0, 1) := by decide +kernel
theorem dX9_printPool_74 : decode cX9_printPool 74 = .ok (.bipush 32, 2) := by decide +kernel
theorem dX9_printPool_76 : decode cX9_printPool 76 = .ok (.invokevirtual 382, 3) := by decide +kernel
theorem dX9_printPool_79 : decode cX9_printPool 79 = .ok (.iinc 2 1, 3) := by decide +kernel
theorem dX9_printPool_82 : decode cX9_printPool 82 = .ok (.goto (-65), 3) := by decide +kernel
theorem dX9_printPool_85 : decode cX9_printPool 85 = .ok (.aload_n 0, 1) := by decide +kernel
theorem dX9_printPool_86 : decode cX9_printPool 86 = .ok (.bipush 61, 2) := by decide +kernel
theorem dX9_printPool_88 : decode cX9_printPool 88 = .ok (.invokevirtual 382, 3) := by decide +kernel
theorem dX9_printPool_91 : decode cX9_printPool 91 = .ok (.aload_n 0, 1) := by decide +kernel
theorem dX9_printPool_92 : decode cX9_printPool 92 = .ok (.aload_n 0, 1) := by decide +kernel
theorem dX9_printPool_93 : decode cX9_printPool 93 = .ok (.iload_n 1, 1) := by decide +kernel
theorem dX9_printPool_94 : decode cX9_printPool 94 = .ok (.invokevirtual 129, 3) := by decide +kernel
theorem dX9_printPool_97 : decode cX9_printPool 97 = .ok (.invokevirtual 385, 3) := by decide +kernel
theorem dX9_printPool_100 : decode cX9_printPool 100 = .ok (.aload_n 0, 1) := by decide +kernel
theorem dX9_printPool_101 : decode cX9_printPool 101 = .ok (.getfield 379, 3) := by decide +kernel
theorem dX9_printPool_104 : decode cX9_printPool 104 = .ok (.ireturn, 1) := by decide +kernel
theorem dX9_outputByte_0 : decode cX9_outputByte 0 = .ok (.aload_n 0, 1) := by decide +kernel
theorem dX9_outputByte_1 : decode cX9_outputByte 1 = .ok (.iconst 0, 1) := by decide +kernel
theorem dX9_outputByte_2 : decode cX9_outputByte 2 = .ok (.putfield 61, 3) := by decide +kernel
theorem dX9_outputByte_5 : decode cX9_outputByte 5 = .ok (.iload_n 1, 1) := by decide +kernel
theorem dX9_outputByte_6 : decode cX9_outputByte 6 = .ok (.iconst 0, 1) := by decide +kernel
theorem dX9_outputByte_7 : decode cX9_outputByte 7 = .ok (.aload_n 0, 1) := by decide +kernel
theorem dX9_outputByte_8 : decode cX9_outputByte 8 = .ok (.getfield 379, 3) := by decide +kernel
theorem dX9_outputByte_11 : decode cX9_outputByte 11 = .ok (.iconst 1, 1) := by decide +kernel
theorem dX9_outputByte_12 : decode cX9_outputByte 12 = .ok (.isub, 1) := by decide +kernel
theorem dX9_outputByte_13 : decode cX9_outputByte 13 = .ok (.invokestatic 167, 3) := by decide +kernel
theorem dX9_outputByte_16 : decode cX9_outputByte 16 = .ok (.ifCond .eq 12, 3) := by decide +kernel
theorem dX9_outputByte_19 : decode cX9_outputByte 19 = .ok (.aload_n 0, 1) := by decide +kernel
theorem dX9_outputByte_20 : decode cX9_outputByte 20 = .ok (.getfield 51, 3) := by decide +kernel
theorem dX9_outputByte_23 : decode cX9_outputByte 23 = .ok (.iload_n 1, 1) := by decide +kernel
theorem dX9_outputByte_24 : decode cX9_outputByte 24 = .ok (.iaload, 1) := by decide +kernel
theorem dX9_outputByte_25 : decode cX9_outputByte 25 = .ok (.goto 4, 3) := by decide +kernel
theorem dX9_outputByte_28 : decode cX9_outputByte 28 = .ok (.iconst (-1), 1) := by decide +kernel
theorem dX9_outputByte_29 : decode cX9_outputByte 29 = .ok (.ireturn, 1) := by decide +kernel
theorem dX9_undo_0 : decode cX9_undo 0 = .ok (.aload_n 0, 1) := by decide +kernel
theorem dX9_undo_1 : decode cX9_undo 1 = .ok (.iconst 0, 1) := by decide +kernel
theorem dX9_undo_2 : decode cX9_undo 2 = .ok (.putfield 61, 3) := by decide +kernel
theorem dX9_undo_5 : decode cX9_undo 5 = .ok (.aload_n 0, 1) := by decide +kernel
theorem dX9_undo_6 : decode cX9_undo 6 = .ok (.getfield 71, 3) := by decide +kernel
theorem dX9_undo_9 : decode cX9_undo 9 = .ok (.ifCond .ne 5, 3) := by decide +kernel
theorem dX9_undo_12 : decode cX9_undo 12 = .ok (.iconst (-1), 1) := by decide +kernel
theorem dX9_undo_13 : decode cX9_undo 13 = .ok (.ireturn, 1) := by decide +kernel
theorem dX9_undo_14 : decode cX9_undo 14 = .ok (.aload_n 0, 1) := by decide +kernel
theorem dX9_undo_15 : decode cX9_undo 15 = .ok (.dup, 1) := by decide +kernel
theorem dX9_undo_16 : decode cX9_undo 16 = .ok (.getfield 71, 3) := by decide +kernel
theorem dX9_undo_19 : decode cX9_undo 19 = .ok (.iconst 1, 1) := by decide +kernel
theorem dX9_undo_20 : decode cX9_undo 20 = .ok (.isub, 1) := by decide +kernel
theorem dX9_undo_21 : decode cX9_undo 21 = .ok (.putfield 71, 3) := by decide +kernel
theorem dX9_undo_24 : decode cX9_undo 24 = .ok (.aload_n 0, 1) := by decide +kernel
theorem dX9_undo_25 : decode cX9_undo 25 = .ok (.getfield 22, 3) := by decide +kernel
theorem dX9_undo_28 : decode cX9_undo 28 = .ok (.sipush 964, 3) := by decide +kernel
theorem dX9_undo_31 : decode cX9_undo 31 = .ok (.aload_n 0, 1) := by decide +kernel
theorem dX9_undo_32 : decode cX9_undo 32 = .ok (.getfield 71, 3) := by decide +kernel
theorem dX9_undo_35 : decode cX9_undo 35 = .ok (.imul, 1) := by decide +kernel
theorem dX9_undo_36 : decode cX9_undo 36 = .ok (.aload_n 0, 1) := by decide +kernel
theorem dX9_undo_37 : decode cX9_undo 37 = .ok (.getfield 7, 3) := by decide +kernel
theorem dX9_undo_40 : decode cX9_undo 40 = .ok (.iconst 0, 1) := by decide +kernel
theorem dX9_undo_41 : decode cX9_undo 41 = .ok (.invokestatic 74, 3) := by decide +kernel
theorem dX9_undo_44 : decode cX9_undo 44 = .ok (.aload_n 0, 1) := by decide +kernel
theorem dX9_undo_45 : decode cX9_undo 45 = .ok (.getfield 38, 3) := by decide +kernel
theorem dX9_undo_48 : decode cX9_undo 48 = .ok (.bipush 24, 2) := by decide +kernel
theorem dX9_undo_50 : decode cX9_undo 50 = .ok (.aload_n 0, 1) := by decide +kernel
theorem dX9_undo_51 : decode cX9_undo 51 = .ok (.getfield 71, 3) := by decide +kernel
theorem dX9_undo_54 : decode cX9_undo 54 = .ok (.imul, 1) := by decide +kernel
theorem dX9_undo_55 : decode cX9_undo 55 = .ok (.aload_n 0, 1) := by decide +kernel
theorem dX9_undo_56 : decode cX9_undo 56 = .ok (.getfield 25, 3) := by decide +kernel
theorem dX9_undo_59 : decode cX9_undo 59 = .ok (.iconst 0, 1) := by decide +kernel
theorem dX9_undo_60 : decode cX9_undo 60 = .ok (.invokestatic 78, 3) := by decide +kernel
theorem dX9_undo_63 : decode cX9_undo 63 = .ok (.aload_n 0, 1) := by decide +kernel
theorem dX9_undo_64 : decode cX9_undo 64 = .ok (.getfield 71, 3) := by decide +kernel
theorem dX9_undo_67 : decode cX9_undo 67 = .ok (.ireturn, 1) := by decide +kernel
theorem dX9_saveState_0 : decode cX9_saveState 0 = .ok (.aload_n 0, 1) := by decide +kernel
theorem dX9_saveState_1 : decode cX9_saveState 1 = .ok (.iconst 0, 1) := by decide +kernel
theorem dX9_saveState_2 : decode cX9_saveState 2 = .ok (.putfield 61, 3) := by decide +kernel
theorem dX9_saveState_5 : decode cX9_saveState 5 = .ok (.aload_n 0, 1) := by decide +kernel
theorem dX9_saveState_6 : decode cX9_saveState 6 = .ok (.getfield 7, 3) := by decide +kernel
theorem dX9_saveState_9 : decode cX9_saveState 9 = .ok (.iconst 0, 1) := by decide +kernel
theorem dX9_saveState_10 : decode cX9_saveState 10 = .ok (.aload_n 0, 1) := by decide +kernel
theorem dX9_saveState_11 : decode cX9_saveState 11 = .ok (.getfield 19, 3) := by decide +kernel
theorem dX9_saveState_14 : decode cX9_saveState 14 = .ok (.iconst 0, 1) := by decide +kernel
theorem dX9_saveState_15 : decode cX9_saveState 15 = .ok (.invokestatic 74, 3) := by decide +kernel
theorem dX9_saveState_18 : decode cX9_saveState 18 = .ok (.aload_n 0, 1) := by decide +kernel
theorem dX9_saveState_19 : decode cX9_saveState 19 = .ok (.getfield 25, 3) := by decide +kernel
theorem dX9_saveState_22 : decode cX9_saveState 22 = .ok (.iconst 0, 1) := by decide +kernel
theorem dX9_saveState_23 : decode cX9_saveState 23 = .ok (.aload_n 0, 1) := by decide +kernel
theorem dX9_saveState_24 : decode cX9_saveState 24 = .ok (.getfield 35, 3) := by decide +kernel
theorem dX9_saveState_27 : decode cX9_saveState 27 = .ok (.iconst 0, 1) := by decide +kernel
theorem dX9_saveState_28 : decode cX9_saveState 28 = .ok (.invokestatic 78, 3) := by decide +kernel
theorem dX9_saveState_31 : decode cX9_saveState 31 = .ok (.aload_n 0, 1) := by decide +kernel
theorem dX9_saveState_32 : decode cX9_saveState 32 = .ok (.iconst 1, 1) := by decide +kernel
theorem dX9_saveState_33 : decode cX9_saveState 33 = .ok (.putfield 298, 3) := by decide +kernel
theorem dX9_saveState_36 : decode cX9_saveState 36 = .ok (.aload_n 0, 1) := by decide +kernel
theorem dX9_saveState_37 : decode cX9_saveState 37 = .ok (.getfield 7, 3) := by decide +kernel
theorem dX9_saveState_40 : decode cX9_saveState 40 = .ok (.iconst 1, 1) := by decide +kernel
theorem dX9_saveState_41 : decode cX9_saveState 41 = .ok (.iaload, 1) := by decide +kernel
theorem dX9_saveState_42 : decode cX9_saveState 42 = .ok (.ireturn, 1) := by decide +kernel
theorem dX9_restoreState_0 : decode cX9_restoreState 0 = .ok (.aload_n 0, 1) := by decide +kernel
theorem dX9_restoreState_1 : decode cX9_restoreState 1 = .ok (.iconst 0, 1) := by decide +kernel
theorem dX9_restoreState_2 : decode cX9_restoreState 2 = .ok (.putfield 61, 3) := by decide +kernel
theorem dX9_restoreState_5 : decode cX9_restoreState 5 = .ok (.aload_n 0, 1) := by decide +kernel
theorem dX9_restoreState_6 : decode cX9_restoreState 6 = .ok (.aload_n 0, 1) := by decide +kernel
theorem dX9_restoreState_7 : decode cX9_restoreState 7 = .ok (.getfield 298, 3) := by decide +kernel
theorem dX9_restoreState_10 : decode cX9_restoreState 10 = .ok (.ifCond .ne 7, 3) := by decide +kernel
theorem dX9_restoreState_13 : decode cX9_restoreState 13 = .ok (.iconst 1, 1) := by decide +kernel
theorem dX9_restoreState_14 : decode cX9_restoreState 14 = .ok (.goto 4, 3) := by decide +kernel
theorem dX9_restoreState_17 : decode cX9_restoreState 17 = .ok (.iconst 0, 1) := by decide +kernel
theorem dX9_restoreState_18 : decode cX9_restoreState 18 = .ok (.iconst 1, 1) := by decide +kernel
theorem dX9_restoreState_19 : decode cX9_restoreState 19 = .ok (.invokevirtual 302, 3) := by decide +kernel
theorem dX9_restoreState_22 : decode cX9_restoreState 22 = .ok (.ifCond .eq 5, 3) := by decide +kernel
theorem dX9_restoreState_25 : decode cX9_restoreState 25 = .ok (.iconst 0, 1) := by decide +kernel
theorem dX9_restoreState_26 : decode cX9_restoreState 26 = .ok (.ireturn, 1) := by decide +kernel
theorem dX9_restoreState_27 : decode cX9_restoreState 27 = .ok (.aload_n 0, 1) := by decide +kernel
theorem dX9_restoreState_28 : decode cX9_restoreState 28 = .ok (.getfield 19, 3) := by decide +kernel
theorem dX9_restoreState_31 : decode cX9_restoreState 31 = .ok (.iconst 0, 1) := by decide +kernel
theorem dX9_restoreState_32 : decode cX9_restoreState 32 = .ok (.aload_n 0, 1) := by decide +kernel
theorem dX9_restoreState_33 : decode cX9_restoreState 33 = .ok (.getfield 7, 3) := by decide +kernel
theorem dX9_restoreState_36 : decode cX9_restoreState 36 = .ok (.iconst 0, 1) := by decide +kernel
theorem dX9_restoreState_37 : decode cX9_restoreState 37 = .ok (.invokestatic 74, 3) := by decide +kernel
theorem dX9_restoreState_40 : decode cX9_restoreState 40 = .ok (.aload_n 0, 1) := by decide +kernel
theorem dX9_restoreState_41 : decode cX9_restoreState 41 = .ok (.getfield 35, 3) := by decide +kernel
theorem dX9_restoreState_44 : decode cX9_restoreState 44 = .ok (.iconst 0, 1) := by decide +kernel
theorem dX9_restoreState_45 : decode cX9_restoreState 45 = .ok (.aload_n 0, 1) := by decide +kernel
theorem dX9_restoreState_46 : decode cX9_restoreState 46 = .ok (.getfield 25, 3) := by decide +kernel
theorem dX9_restoreState_49 : decode cX9_restoreState 49 = .ok (.iconst 0, 1) := by decide +kernel
theorem dX9_restoreState_50 : decode cX9_restoreState 50 = .ok (.invokestatic 78, 3) := by decide +kernel
theorem dX9_restoreState_53 : decode cX9_restoreState 53 = .ok (.aload_n 0, 1) := by decide +kernel
theorem dX9_restoreState_54 : decode cX9_restoreState 54 = .ok (.iconst 0, 1) := by decide +kernel
theorem dX9_restoreState_55 : decode cX9_restoreState 55 = .ok (.putfield 71, 3) := by decide +kernel
theorem dX9_restoreState_58 : decode cX9_restoreState 58 = .ok (.aload_n 0, 1) := by decide +kernel
theorem dX9_restoreState_59 : decode cX9_restoreState 59 = .ok (.getfield 7, 3) := by decide +kernel
theorem dX9_restoreState_62 : decode cX9_restoreState 62 = .ok (.iconst 1, 1) := by decide +kernel
theorem dX9_restoreState_63 : decode cX9_restoreState 63 = .ok (.iaload, 1) := by decide +kernel
theorem dX9_restoreState_64 : decode cX9_restoreState 64 = .ok (.ireturn, 1) := by decide +kernel
theorem dJ0_length_8abf5_0 : decode cJ0_length_8abf5 0 = .ok (.aload_n 0, 1) := by decide +kernel
theorem dJ0_length_8abf5_1 : decode cJ0_length_8abf5 1 = .ok (.getfield 9, 3) := by decide +kernel
theorem dJ0_length_8abf5_4 : decode cJ0_length_8abf5 4 = .ok (.arraylength, 1) := by decide +kernel
theorem dJ0_length_8abf5_5 : decode cJ0_length_8abf5 5 = .ok (.aload_n 0, 1) := by decide +kernel
theorem dJ0_length_8abf5_6 : decode cJ0_length_8abf5 6 = .ok (.invokevirtual 335, 3) := by decide +kernel
theorem dJ0_length_8abf5_9 : decode cJ0_length_8abf5 9 = .ok (.ishr, 1) := by decide +kernel
theorem dJ0_length_8abf5_10 : decode cJ0_length_8abf5 10 = .ok (.ireturn, 1) := by decide +kernel
theorem dJ0_charAt_5068e_0 : decode cJ0_charAt_5068e 0 = .ok (.aload_n 0, 1) := by decide +kernel
theorem dJ0_charAt_5068e_1 : decode cJ0_charAt_5068e 1 = .ok (.invokevirtual 492, 3) := by decide +kernel
theorem dJ0_charAt_5068e_4 : decode cJ0_charAt_5068e 4 = .ok (.ifCond .eq 12, 3) := by decide +kernel
theorem dJ0_charAt_5068e_7 : decode cJ0_charAt_5068e 7 = .ok (.aload_n 0, 1) := by decide +kernel
theorem dJ0_charAt_5068e_8 : decode cJ0_charAt_5068e 8 = .ok (.getfield 9, 3) := by decide +kernel
theorem dJ0_charAt_5068e_11 : decode cJ0_charAt_5068e 11 = .ok (.iload_n 1, 1) := by decide +kernel
theorem dJ0_charAt_5068e_12 : decode cJ0_charAt_5068e 12 = .ok (.invokestatic 495, 3) := by decide +kernel
theorem dJ0_charAt_5068e_15 : decode cJ0_charAt_5068e 15 = .ok (.ireturn, 1) := by decide +kernel
theorem dJ0_charAt_5068e_16 : decode cJ0_charAt_5068e 16 = .ok (.aload_n 0, 1) := by decide +kernel
theorem dJ0_charAt_5068e_17 : decode cJ0_charAt_5068e 17 = .ok (.getfield 9, 3) := by decide +kernel
theorem dJ0_charAt_5068e_20 : decode cJ0_charAt_5068e 20 = .ok (.iload_n 1, 1) := by decide +kernel
theorem dJ0_charAt_5068e_21 : decode cJ0_charAt_5068e 21 = .ok (.invokestatic 498, 3) := by decide +kernel
theorem dJ0_charAt_5068e_24 : decode cJ0_charAt_5068e 24 = .ok (.ireturn, 1) := by decide +kernel
theorem dJ0_coder_7d493_0 : decode cJ0_coder_7d493 0 = .ok (.getstatic 38, 3) := by decide +kernel
theorem dJ0_coder_7d493_3 : decode cJ0_coder_7d493 3 = .ok (.ifCond .eq 10, 3) := by decide +kernel
theorem dJ0_coder_7d493_6 : decode cJ0_coder_7d493 6 = .ok (.aload_n 0, 1) := by decide +kernel
theorem dJ0_coder_7d493_7 : decode cJ0_coder_7d493 7 = .ok (.getfield 15, 3) := by decide +kernel
theorem dJ0_coder_7d493_10 : decode cJ0_coder_7d493 10 = .ok (.goto 4, 3) := by decide +kernel
theorem dJ0_coder_7d493_13 : decode cJ0_coder_7d493 13 = .ok (.iconst 1, 1) := by decide +kernel
theorem dJ0_coder_7d493_14 : decode cJ0_coder_7d493 14 = .ok (.ireturn, 1) := by decide +kernel
theorem dJ0_isLatin1_aae02_0 : decode cJ0_isLatin1_aae02 0 = .ok (.getstatic 38, 3) := by decide +kernel
theorem dJ0_isLatin1_aae02_3 : decode cJ0_isLatin1_aae02 3 = .ok (.ifCond .eq 14, 3) := by decide +kernel
theorem dJ0_isLatin1_aae02_6 : decode cJ0_isLatin1_aae02 6 = .ok (.aload_n 0, 1) := by decide +kernel
theorem dJ0_isLatin1_aae02_7 : decode cJ0_isLatin1_aae02 7 = .ok (.getfield 15, 3) := by decide +kernel
theorem dJ0_isLatin1_aae02_10 : decode cJ0_isLatin1_aae02 10 = .ok (.ifCond .ne 7, 3) := by decide +kernel
theorem dJ0_isLatin1_aae02_13 : decode cJ0_isLatin1_aae02 13 = .ok (.iconst 1, 1) := by decide +kernel
theorem dJ0_isLatin1_aae02_14 : decode cJ0_isLatin1_aae02 14 = .ok (.goto 4, 3) := by decide +kernel
theorem dJ0_isLatin1_aae02_17 : decode cJ0_isLatin1_aae02 17 = .ok (.iconst 0, 1) := by decide +kernel
theorem dJ0_isLatin1_aae02_18 : decode cJ0_isLatin1_aae02 18 = .ok (.ireturn, 1) := by decide +kernel
theorem dJ0_checkIndex_df160_0 : decode cJ0_checkIndex_df160 0 = .ok (.iload_n 0, 1) := by decide +kernel
theorem dJ0_checkIndex_df160_1 : decode cJ0_checkIndex_df160 1 = .ok (.iload_n 1, 1) := by decide +kernel
theorem dJ0_checkIndex_df160_2 : decode cJ0_checkIndex_df160 2 = .ok (.getstatic 1053, 3) := by decide +kernel
theorem dJ0_checkIndex_df160_5 : decode cJ0_checkIndex_df160 5 = .ok (.invokestatic 1059, 3) := by decide +kernel
theorem dJ0_checkIndex_df160_8 : decode cJ0_checkIndex_df160 8 = .ok (.pop, 1) := by decide +kernel
theorem dJ0_checkIndex_df160_9 : decode cJ0_checkIndex_df160 9 = .ok (.return_, 1) := by decide +kernel
theorem dJ1_charAt_3b067_0 : decode cJ1_charAt_3b067 0 = .ok (.iload_n 1, 1) := by decide +kernel
theorem dJ1_charAt_3b067_1 : decode cJ1_charAt_3b067 1 = .ok (.aload_n 0, 1) := by decide +kernel
theorem dJ1_charAt_3b067_2 : decode cJ1_charAt_3b067 2 = .ok (.arraylength, 1) := by decide +kernel
theorem dJ1_charAt_3b067_3 : decode cJ1_charAt_3b067 3 = .ok (.invokestatic 9, 3) := by decide +kernel
theorem dJ1_charAt_3b067_6 : decode cJ1_charAt_3b067 6 = .ok (.aload_n 0, 1) := by decide +kernel
theorem dJ1_charAt_3b067_7 : decode cJ1_charAt_3b067 7 = .ok (.iload_n 1, 1) := by decide +kernel
theorem dJ1_charAt_3b067_8 : decode cJ1_charAt_3b067 8 = .ok (.baload, 1) := by decide +kernel
theorem dJ1_charAt_3b067_9 : decode cJ1_charAt_3b067 9 = .ok (.sipush 255, 3) := by decide +kernel
theorem dJ1_charAt_3b067_12 : decode cJ1_charAt_3b067 12 = .ok (.iand, 1) := by decide +kernel
theorem dJ1_charAt_3b067_13 : decode cJ1_charAt_3b067 13 = .ok (.i2c, 1) := by decide +kernel
theorem dJ1_charAt_3b067_14 : decode cJ1_charAt_3b067 14 = .ok (.ireturn, 1) := by decide +kernel
theorem dJ2_getChar_3b067_0 : decode cJ2_getChar_3b067 0 = .ok (.getstatic 44, 3) := by decide +kernel
theorem dJ2_getChar_3b067_3 : decode cJ2_getChar_3b067 3 = .ok (.ifCond .ne 25, 3) := by decide +kernel
theorem dJ2_getChar_3b067_6 : decode cJ2_getChar_3b067 6 = .ok (.iload_n 1, 1) := by decide +kernel
theorem dJ2_getChar_3b067_7 : decode cJ2_getChar_3b067 7 = .ok (.ifCond .lt 11, 3) := by decide +kernel
theorem dJ2_getChar_3b067_10 : decode cJ2_getChar_3b067 10 = .ok (.iload_n 1, 1) := by decide +kernel
theorem dJ2_getChar_3b067_11 : decode cJ2_getChar_3b067 11 = .ok (.aload_n 0, 1) := by decide +kernel
theorem dJ2_getChar_3b067_12 : decode cJ2_getChar_3b067 12 = .ok (.invokestatic 48, 3) := by decide +kernel
theorem dJ2_getChar_3b067_15 : decode cJ2_getChar_3b067 15 = .ok (.if_icmp .lt 13, 3) := by decide +kernel
theorem dJ2_getChar_3b067_18 : decode cJ2_getChar_3b067 18 = .ok (.new 52, 3) := by decide +kernel
theorem dJ2_getChar_3b067_21 : decode cJ2_getChar_3b067 21 = .ok (.dup, 1) := by decide +kernel
theorem dJ2_getChar_3b067_22 : decode cJ2_getChar_3b067 22 = .ok (.ldc 54, 2) := by decide +kernel
theorem dJ2_getChar_3b067_24 : decode cJ2_getChar_3b067 24 = .ok (.invokespecial 56, 3) := by decide +kernel
theorem dJ2_getChar_3b067_27 : decode cJ2_getChar_3b067 27 = .ok (.athrow, 1) := by decide +kernel
theorem dJ2_getChar_3b067_28 : decode cJ2_getChar_3b067 28 = .ok (.iload_n 1, 1) := by decide +kernel
theorem dJ2_getChar_3b067_29 : decode cJ2_getChar_3b067 29 = .ok (.iconst 1, 1) := by decide +kernel
theorem dJ2_getChar_3b067_30 : decode cJ2_getChar_3b067 30 = .ok (.ishl, 1) := by decide +kernel
theorem dJ2_getChar_3b067_31 : decode cJ2_getChar_3b067 31 = .ok (.istore_n 1, 1) := by decide +kernel
theorem dJ2_getChar_3b067_32 : decode cJ2_getChar_3b067 32 = .ok (.aload_n 0, 1) := by decide +kernel
theorem dJ2_getChar_3b067_33 : decode cJ2_getChar_3b067 33 = .ok (.iload_n 1, 1) := by decide +kernel
theorem dJ2_getChar_3b067_34 : decode cJ2_getChar_3b067 34 = .ok (.iinc 1 1, 3) := by decide +kernel
theorem dJ2_getChar_3b067_37 : decode cJ2_getChar_3b067 37 = .ok (.baload, 1) := by decide +kernel
theorem dJ2_getChar_3b067_38 : decode cJ2_getChar_3b067 38 = .ok (.sipush 255, 3) := by decide +kernel
theorem dJ2_getChar_3b067_41 : decode cJ2_getChar_3b067 41 = .ok (.iand, 1) := by decide +kernel
theorem dJ2_getChar_3b067_42 : decode cJ2_getChar_3b067 42 = .ok (.getstatic 59, 3) := by decide +kernel
theorem dJ2_getChar_3b067_45 : decode cJ2_getChar_3b067 45 = .ok (.ishl, 1) := by decide +kernel
theorem dJ2_getChar_3b067_46 : decode cJ2_getChar_3b067 46 = .ok (.aload_n 0, 1) := by decide +kernel
theorem dJ2_getChar_3b067_47 : decode cJ2_getChar_3b067 47 = .ok (.iload_n 1, 1) := by decide +kernel
theorem dJ2_getChar_3b067_48 : decode cJ2_getChar_3b067 48 = .ok (.baload, 1) := by decide +kernel
theorem dJ2_getChar_3b067_49 : decode cJ2_getChar_3b067 49 = .ok (.sipush 255, 3) := by decide +kernel
theorem dJ2_getChar_3b067_52 : decode cJ2_getChar_3b067 52 = .ok (.iand, 1) := by decide +kernel
theorem dJ2_getChar_3b067_53 : decode cJ2_getChar_3b067 53 = .ok (.getstatic 63, 3) := by decide +kernel
theorem dJ2_getChar_3b067_56 : decode cJ2_getChar_3b067 56 = .ok (.ishl, 1) := by decide +kernel
theorem dJ2_getChar_3b067_57 : decode cJ2_getChar_3b067 57 = .ok (.ior, 1) := by decide +kernel
theorem dJ2_getChar_3b067_58 : decode cJ2_getChar_3b067 58 = .ok (.i2c, 1) := by decide +kernel
theorem dJ2_getChar_3b067_59 : decode cJ2_getChar_3b067 59 = .ok (.ireturn, 1) := by decide +kernel
theorem dJ2_length_9d52b_0 : decode cJ2_length_9d52b 0 = .ok (.aload_n 0, 1) := by decide +kernel
theorem dJ2_length_9d52b_1 : decode cJ2_length_9d52b 1 = .ok (.arraylength, 1) := by decide +kernel
theorem dJ2_length_9d52b_2 : decode cJ2_length_9d52b 2 = .ok (.iconst 1, 1) := by decide +kernel
theorem dJ2_length_9d52b_3 : decode cJ2_length_9d52b 3 = .ok (.ishr, 1) := by decide +kernel
theorem dJ2_length_9d52b_4 : decode cJ2_length_9d52b 4 = .ok (.ireturn, 1) := by decide +kernel
theorem dJ2_charAt_3b067_0 : decode cJ2_charAt_3b067 0 = .ok (.iload_n 1, 1) := by decide +kernel
theorem dJ2_charAt_3b067_1 : decode cJ2_charAt_3b067 1 = .ok (.aload_n 0, 1) := by decide +kernel
theorem dJ2_charAt_3b067_2 : decode cJ2_charAt_3b067 2 = .ok (.invokestatic 67, 3) := by decide +kernel
theorem dJ2_charAt_3b067_5 : decode cJ2_charAt_3b067 5 = .ok (.aload_n 0, 1) := by decide +kernel
theorem dJ2_charAt_3b067_6 : decode cJ2_charAt_3b067 6 = .ok (.iload_n 1, 1) := by decide +kernel
theorem dJ2_charAt_3b067_7 : decode cJ2_charAt_3b067 7 = .ok (.invokestatic 71, 3) := by decide +kernel
theorem dJ2_charAt_3b067_10 : decode cJ2_charAt_3b067 10 = .ok (.ireturn, 1) := by decide +kernel
theorem dJ2_checkIndex_2214a_0 : decode cJ2_checkIndex_2214a 0 = .ok (.iload_n 0, 1) := by decide +kernel
theorem dJ2_checkIndex_2214a_1 : decode cJ2_checkIndex_2214a 1 = .ok (.aload_n 1, 1) := by decide +kernel
theorem dJ2_checkIndex_2214a_2 : decode cJ2_checkIndex_2214a 2 = .ok (.invokestatic 48, 3) := by decide +kernel
theorem dJ2_checkIndex_2214a_5 : decode cJ2_checkIndex_2214a 5 = .ok (.invokestatic 414, 3) := by decide +kernel
theorem dJ2_checkIndex_2214a_8 : decode cJ2_checkIndex_2214a 8 = .ok (.return_, 1) := by decide +kernel
theorem dJ3_checkIndex_8e157_0 : decode cJ3_checkIndex_8e157 0 = .ok (.iload_n 0, 1) := by decide +kernel
theorem dJ3_checkIndex_8e157_1 : decode cJ3_checkIndex_8e157 1 = .ok (.ifCond .lt 8, 3) := by decide +kernel
theorem dJ3_checkIndex_8e157_4 : decode cJ3_checkIndex_8e157 4 = .ok (.iload_n 0, 1) := by decide +kernel
theorem dJ3_checkIndex_8e157_5 : decode cJ3_checkIndex_8e157 5 = .ok (.iload_n 1, 1) := by decide +kernel
theorem dJ3_checkIndex_8e157_6 : decode cJ3_checkIndex_8e157 6 = .ok (.if_icmp .lt 10, 3) := by decide +kernel
theorem dJ3_checkIndex_8e157_9 : decode cJ3_checkIndex_8e157 9 = .ok (.aload_n 2, 1) := by decide +kernel
theorem dJ3_checkIndex_8e157_10 : decode cJ3_checkIndex_8e157 10 = .ok (.iload_n 0, 1) := by decide +kernel
theorem dJ3_checkIndex_8e157_11 : decode cJ3_checkIndex_8e157 11 = .ok (.iload_n 1, 1) := by decide +kernel
theorem dJ3_checkIndex_8e157_12 : decode cJ3_checkIndex_8e157 12 = .ok (.invokestatic 95, 3) := by decide +kernel
theorem dJ3_checkIndex_8e157_15 : decode cJ3_checkIndex_8e157 15 = .ok (.athrow, 1) := by decide +kernel
theorem dJ3_checkIndex_8e157_16 : decode cJ3_checkIndex_8e157 16 = .ok (.iload_n 0, 1) := by decide +kernel
theorem dJ3_checkIndex_8e157_17 : decode cJ3_checkIndex_8e157 17 = .ok (.ireturn, 1) := by decide +kernel
theorem dJ7_fill_53178_0 : decode cJ7_fill_53178 0 = .ok (.iconst 0, 1) := by decide +kernel
theorem dJ7_fill_53178_1 : decode cJ7_fill_53178 1 = .ok (.istore_n 2, 1) := by decide +kernel
theorem dJ7_fill_53178_2 : decode cJ7_fill_53178 2 = .ok (.aload_n 0, 1) := by decide +kernel
theorem dJ7_fill_53178_3 : decode cJ7_fill_53178 3 = .ok (.arraylength, 1) := by decide +kernel
theorem dJ7_fill_53178_4 : decode cJ7_fill_53178 4 = .ok (.istore_n 3, 1) := by decide +kernel
theorem dJ7_fill_53178_5 : decode cJ7_fill_53178 5 = .ok (.iload_n 2, 1) := by decide +kernel
theorem dJ7_fill_53178_6 : decode cJ7_fill_53178 6 = .ok (.iload_n 3, 1) := by decide +kernel
theorem dJ7_fill_53178_7 : decode cJ7_fill_53178 7 = .ok (.if_icmp .ge 13, 3) := by decide +kernel
theorem dJ7_fill_53178_10 : decode cJ7_fill_53178 10 = .ok (.aload_n 0, 1) := by decide +kernel
theorem dJ7_fill_53178_11 : decode cJ7_fill_53178 11 = .ok (.iload_n 2, 1) := by decide +kernel
theorem dJ7_fill_53178_12 : decode cJ7_fill_53178 12 = .ok (.iload_n 1, 1) := by decide +kernel
theorem dJ7_fill_53178_13 : decode cJ7_fill_53178 13 = .ok (.iastore, 1) := by decide +kernel
theorem dJ7_fill_53178_14 : decode cJ7_fill_53178 14 = .ok (.iinc 2 1, 3) := by decide +kernel
theorem dJ7_fill_53178_17 : decode cJ7_fill_53178 17 = .ok (.goto (-12), 3) := by decide +kernel
theorem dJ7_fill_53178_20 : decode cJ7_fill_53178 20 = .ok (.return_, 1) := by decide +kernel
theorem dJ9_floorMod_7cf53_0 : decode cJ9_floorMod_7cf53 0 = .ok (.iload_n 0, 1) := by decide +kernel
theorem dJ9_floorMod_7cf53_1 : decode cJ9_floorMod_7cf53 1 = .ok (.iload_n 1, 1) := by decide +kernel
theorem dJ9_floorMod_7cf53_2 : decode cJ9_floorMod_7cf53 2 = .ok (.irem, 1) := by decide +kernel
theorem dJ9_floorMod_7cf53_3 : decode cJ9_floorMod_7cf53 3 = .ok (.istore_n 2, 1) := by decide +kernel
theorem dJ9_floorMod_7cf53_4 : decode cJ9_floorMod_7cf53 4 = .ok (.iload_n 0, 1) := by decide +kernel
theorem dJ9_floorMod_7cf53_5 : decode cJ9_floorMod_7cf53 5 = .ok (.iload_n 1, 1) := by decide +kernel
theorem dJ9_floorMod_7cf53_6 : decode cJ9_floorMod_7cf53 6 = .ok (.ixor, 1) := by decide +kernel
theorem dJ9_floorMod_7cf53_7 : decode cJ9_floorMod_7cf53 7 = .ok (.ifCond .ge 11, 3) := by decide +kernel
theorem dJ9_floorMod_7cf53_10 : decode cJ9_floorMod_7cf53 10 = .ok (.iload_n 2, 1) := by decide +kernel
theorem dJ9_floorMod_7cf53_11 : decode cJ9_floorMod_7cf53 11 = .ok (.ifCond .eq 7, 3) := by decide +kernel
theorem dJ9_floorMod_7cf53_14 : decode cJ9_floorMod_7cf53 14 = .ok (.iload_n 2, 1) := by decide +kernel
theorem dJ9_floorMod_7cf53_15 : decode cJ9_floorMod_7cf53 15 = .ok (.iload_n 1, 1) := by decide +kernel
theorem dJ9_floorMod_7cf53_16 : decode cJ9_floorMod_7cf53 16 = .ok (.iadd, 1) := by decide +kernel
theorem dJ9_floorMod_7cf53_17 : decode cJ9_floorMod_7cf53 17 = .ok (.ireturn, 1) := by decide +kernel
theorem dJ9_floorMod_7cf53_18 : decode cJ9_floorMod_7cf53 18 = .ok (.iload_n 2, 1) := by decide +kernel
theorem dJ9_floorMod_7cf53_19 : decode cJ9_floorMod_7cf53 19 = .ok (.ireturn, 1) := by decide +kernel
theorem dJ9_abs_0f7a4_0 : decode cJ9_abs_0f7a4 0 = .ok (.iload_n 0, 1) := by decide +kernel
theorem dJ9_abs_0f7a4_1 : decode cJ9_abs_0f7a4 1 = .ok (.ifCond .ge 8, 3) := by decide +kernel
theorem dJ9_abs_0f7a4_4 : decode cJ9_abs_0f7a4 4 = .ok (.iload_n 0, 1) := by decide +kernel
theorem dJ9_abs_0f7a4_5 : decode cJ9_abs_0f7a4 5 = .ok (.ineg, 1) := by decide +kernel
theorem dJ9_abs_0f7a4_6 : decode cJ9_abs_0f7a4 6 = .ok (.goto 4, 3) := by decide +kernel
theorem dJ9_abs_0f7a4_9 : decode cJ9_abs_0f7a4 9 = .ok (.iload_n 0, 1) := by decide +kernel
theorem dJ9_abs_0f7a4_10 : decode cJ9_abs_0f7a4 10 = .ok (.ireturn, 1) := by decide +kernel
theorem dJ9_max_7cf53_0 : decode cJ9_max_7cf53 0 = .ok (.iload_n 0, 1) := by decide +kernel
theorem dJ9_max_7cf53_1 : decode cJ9_max_7cf53 1 = .ok (.iload_n 1, 1) := by decide +kernel
theorem dJ9_max_7cf53_2 : decode cJ9_max_7cf53 2 = .ok (.if_icmp .lt 7, 3) := by decide +kernel
theorem dJ9_max_7cf53_5 : decode cJ9_max_7cf53 5 = .ok (.iload_n 0, 1) := by decide +kernel
theorem dJ9_max_7cf53_6 : decode cJ9_max_7cf53 6 = .ok (.goto 4, 3) := by decide +kernel
theorem dJ9_max_7cf53_9 : decode cJ9_max_7cf53 9 = .ok (.iload_n 1, 1) := by decide +kernel
theorem dJ9_max_7cf53_10 : decode cJ9_max_7cf53 10 = .ok (.ireturn, 1) := by decide +kernel
theorem dJ9_min_7cf53_0 : decode cJ9_min_7cf53 0 = .ok (.iload_n 0, 1) := by decide +kernel
theorem dJ9_min_7cf53_1 : decode cJ9_min_7cf53 1 = .ok (.iload_n 1, 1) := by decide +kernel
theorem dJ9_min_7cf53_2 : decode cJ9_min_7cf53 2 = .ok (.if_icmp .gt 7, 3) := by decide +kernel
theorem dJ9_min_7cf53_5 : decode cJ9_min_7cf53 5 = .ok (.iload_n 0, 1) := by decide +kernel
theorem dJ9_min_7cf53_6 : decode cJ9_min_7cf53 6 = .ok (.goto 4, 3) := by decide +kernel
theorem dJ9_min_7cf53_9 : decode cJ9_min_7cf53 9 = .ok (.iload_n 1, 1) := by decide +kernel
theorem dJ9_min_7cf53_10 : decode cJ9_min_7cf53 10 = .ok (.ireturn, 1) := by decide +kernel
